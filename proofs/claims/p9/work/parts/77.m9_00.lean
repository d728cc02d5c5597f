abbrev MX12_isSmall : jM := (RX12, cX12_isSmall, 1, some .boolean, false)
abbrev MX12_isDigit : jM := (RX12, cX12_isDigit, 1, some .boolean, false)
abbrev MX12_wordOf : jM := (RX12, cX12_wordOf, 8, some .int, false)
theorem fl_X12_30 : jFL RX12 30 12 6 := ⟨_, _, _, rfl, iX12, by decide, Or.inl (jt6 80 rfl rfl)⟩
theorem fl_X12_34 : jFL RX12 34 12 7 := ⟨_, _, _, rfl, iX12, by decide, Or.inl (jt6 81 rfl rfl)⟩
abbrev MX12_splits : jM := (RX12, cX12_splits, 6, none, false)
theorem fw_X12_165 : jFW RX12 165 12 14 (.int) false := ⟨_, _, _, tyX12, rfl, iX12, tyX12_ok, nmX12, by decide, rfl, rfl, (fun h => by cases h), Or.inl (jt6 88 rfl rfl)⟩
theorem fl_X12_49 : jFL RX12 49 12 13 := ⟨_, _, _, rfl, iX12, by decide, Or.inl (jt6 87 rfl rfl)⟩
theorem fl_X12_165 : jFL RX12 165 12 14 := ⟨_, _, _, rfl, iX12, by decide, Or.inl (jt6 88 rfl rfl)⟩
theorem fl_X12_43 : jFL RX12 43 12 11 := ⟨_, _, _, rfl, iX12, by decide, Or.inl (jt6 85 rfl rfl)⟩
theorem fl_X12_46 : jFL RX12 46 12 12 := ⟨_, _, _, rfl, iX12, by decide, Or.inl (jt6 86 rfl rfl)⟩
theorem cs_X12_172 : jCS RX12 172 yX12_isDigit MX12_isDigit 1 := ⟨(jt7 83 rfl rfl), (jt7 82 rfl rfl), (jt1 13 rfl rfl), ⟨by decide, by decide, by decide +kernel⟩, Or.inl (jt7 81 rfl rfl)⟩
theorem cs_X12_168 : jCS RX12 168 yX12_isSmall MX12_isSmall 1 := ⟨(jt7 80 rfl rfl), (jt7 79 rfl rfl), (jt1 13 rfl rfl), ⟨by decide, by decide, by decide +kernel⟩, Or.inl (jt7 78 rfl rfl)⟩
theorem cv_X12_175 : jCV RX12 175 12 yX12_wordOf MX12_wordOf 2 := ⟨_, _, rfl, (jt7 87 rfl rfl), (jt7 86 rfl rfl), (jtp (q := (⟨"BeanStreetModel", "wordOf", "(II)I"⟩, 56)) (List.mem_of_getElem? (i := 64) rfl)), (jt1 13 rfl rfl), ⟨by decide, by decide, by decide +kernel⟩, Or.inl (jt7 84 rfl rfl)⟩
abbrev MX12_fine : jM := (RX12, cX12_fine, 1, some .boolean, false)
theorem fl_X12_180 : jFL RX12 180 12 17 := ⟨_, _, _, rfl, iX12, by decide, Or.inl (jt6 91 rfl rfl)⟩
abbrev MX12_faults : jM := (RX12, cX12_faults, 1, none, false)
theorem cv_X12_183 : jCV RX12 183 12 yX12_fine MX12_fine 0 := ⟨_, _, rfl, (jt7 100 rfl rfl), (jt7 99 rfl rfl), (jtp (q := (⟨"BeanStreetModel", "fine", "()Z"⟩, 56)) (List.mem_of_getElem? (i := 67) rfl)), (jt1 13 rfl rfl), ⟨by decide, by decide, by decide +kernel⟩, Or.inl (jt7 97 rfl rfl)⟩
theorem fl_X12_187 : jFL RX12 187 12 15 := ⟨_, _, _, rfl, iX12, by decide, Or.inl (jt6 89 rfl rfl)⟩
theorem fw_X12_180 : jFW RX12 180 12 17 (.int) false := ⟨_, _, _, tyX12, rfl, iX12, tyX12_ok, nmX12, by decide, rfl, rfl, (fun h => by cases h), Or.inl (jt6 91 rfl rfl)⟩
abbrev MX12_takes0 : jM := (RX12, cX12_takes0, 3, some .boolean, false)
theorem fw_X12_187 : jFW RX12 187 12 15 (.int) false := ⟨_, _, _, tyX12, rfl, iX12, tyX12_ok, nmX12, by decide, rfl, rfl, (fun h => by cases h), Or.inl (jt6 89 rfl rfl)⟩
abbrev MX12_must : jM := (RX12, cX12_must, 2, none, false)
theorem cv_X12_190 : jCV RX12 190 12 yX12_takes0 MX12_takes0 1 := ⟨_, _, rfl, (jt7 96 rfl rfl), (jt7 95 rfl rfl), (jtp (q := (⟨"BeanStreetModel", "takes0", "(I)Z"⟩, 56)) (List.mem_of_getElem? (i := 66) rfl)), (jt1 13 rfl rfl), ⟨by decide, by decide, by decide +kernel⟩, Or.inl (jt7 93 rfl rfl)⟩
theorem cv_X12_193 : jCV RX12 193 12 yX12_faults MX12_faults 0 := ⟨_, _, rfl, (jt7 119 rfl rfl), (jt7 118 rfl rfl), (jtp (q := (⟨"BeanStreetModel", "faults", "()V"⟩, 56)) (List.mem_of_getElem? (i := 71) rfl)), (jt1 13 rfl rfl), ⟨by decide, by decide, by decide +kernel⟩, Or.inl (jt7 116 rfl rfl)⟩
abbrev MX12_leaf : jM := (RX12, cX12_leaf, 1, none, false)
theorem fl_X12_196 : jFL RX12 196 12 16 := ⟨_, _, _, rfl, iX12, by decide, Or.inl (jt6 90 rfl rfl)⟩
theorem fw_X12_196 : jFW RX12 196 12 16 (.int) false := ⟨_, _, _, tyX12, rfl, iX12, tyX12_ok, nmX12, by decide, rfl, rfl, (fun h => by cases h), Or.inl (jt6 90 rfl rfl)⟩
abbrev MX12_readPart : jM := (RX12, cX12_readPart, 3, none, false)
theorem cv_X12_225 : jCV RX12 225 12 yX12_leaf MX12_leaf 0 := ⟨_, _, rfl, (jt7 127 rfl rfl), (jt7 126 rfl rfl), (jtp (q := (⟨"BeanStreetModel", "leaf", "()V"⟩, 56)) (List.mem_of_getElem? (i := 73) rfl)), (jt1 13 rfl rfl), ⟨by decide, by decide, by decide +kernel⟩, Or.inl (jt7 124 rfl rfl)⟩
abbrev MX12_readTerm : jM := (RX12, cX12_readTerm, 2, none, false)
theorem cv_X12_222 : jCV RX12 222 12 yX12_readPart MX12_readPart 1 := ⟨_, _, rfl, (jt7 112 rfl rfl), (jt7 111 rfl rfl), (jtp (q := (⟨"BeanStreetModel", "readPart", "(I)V"⟩, 56)) (List.mem_of_getElem? (i := 70) rfl)), (jt1 13 rfl rfl), ⟨by decide, by decide, by decide +kernel⟩, Or.inl (jt7 109 rfl rfl)⟩
abbrev MX12_readSum : jM := (RX12, cX12_readSum, 2, none, false)
theorem cv_X12_219 : jCV RX12 219 12 yX12_readTerm MX12_readTerm 1 := ⟨_, _, rfl, (jt7 108 rfl rfl), (jt7 107 rfl rfl), (jtp (q := (⟨"BeanStreetModel", "readTerm", "(I)V"⟩, 56)) (List.mem_of_getElem? (i := 69) rfl)), (jt1 13 rfl rfl), ⟨by decide, by decide, by decide +kernel⟩, Or.inl (jt7 105 rfl rfl)⟩
theorem cv_X12_199 : jCV RX12 199 12 yX12_readSum MX12_readSum 1 := ⟨_, _, rfl, (jt7 104 rfl rfl), (jt7 103 rfl rfl), (jtp (q := (⟨"BeanStreetModel", "readSum", "(I)V"⟩, 56)) (List.mem_of_getElem? (i := 68) rfl)), (jt1 13 rfl rfl), ⟨by decide, by decide, by decide +kernel⟩, Or.inl (jt7 101 rfl rfl)⟩
theorem cv_X12_203 : jCV RX12 203 12 yX12_must MX12_must 1 := ⟨_, _, rfl, (jt7 123 rfl rfl), (jt7 122 rfl rfl), (jtp (q := (⟨"BeanStreetModel", "must", "(I)V"⟩, 56)) (List.mem_of_getElem? (i := 72) rfl)), (jt1 13 rfl rfl), ⟨by decide, by decide, by decide +kernel⟩, Or.inl (jt7 120 rfl rfl)⟩
abbrev MX12_readPlain : jM := (RX12, cX12_readPlain, 4, none, false)
abbrev MX12_readBoth : jM := (RX12, cX12_readBoth, 2, none, false)
theorem cv_X12_212 : jCV RX12 212 12 yX12_readPlain MX12_readPlain 1 := ⟨_, _, rfl, (jt7 139 rfl rfl), (jt7 138 rfl rfl), (jtp (q := (⟨"BeanStreetModel", "readPlain", "(I)V"⟩, 56)) (List.mem_of_getElem? (i := 76) rfl)), (jt1 13 rfl rfl), ⟨by decide, by decide, by decide +kernel⟩, Or.inl (jt7 136 rfl rfl)⟩
abbrev MX12_readTest : jM := (RX12, cX12_readTest, 2, none, false)
theorem cv_X12_209 : jCV RX12 209 12 yX12_readBoth MX12_readBoth 1 := ⟨_, _, rfl, (jt7 135 rfl rfl), (jt7 134 rfl rfl), (jtp (q := (⟨"BeanStreetModel", "readBoth", "(I)V"⟩, 56)) (List.mem_of_getElem? (i := 75) rfl)), (jt1 13 rfl rfl), ⟨by decide, by decide, by decide +kernel⟩, Or.inl (jt7 132 rfl rfl)⟩
theorem cv_X12_206 : jCV RX12 206 12 yX12_readTest MX12_readTest 1 := ⟨_, _, rfl, (jt7 131 rfl rfl), (jt7 130 rfl rfl), (jtp (q := (⟨"BeanStreetModel", "readTest", "(I)V"⟩, 56)) (List.mem_of_getElem? (i := 74) rfl)), (jt1 13 rfl rfl), ⟨by decide, by decide, by decide +kernel⟩, Or.inl (jt7 128 rfl rfl)⟩
abbrev MX12_readClause : jM := (RX12, cX12_readClause, 1, none, false)
abbrev MX12_reads : jM := (RX12, cX12_reads, 2, some .boolean, false)
theorem cv_X12_228 : jCV RX12 228 12 yX12_splits MX12_splits 1 := ⟨_, _, rfl, (jt7 77 rfl rfl), (jt7 76 rfl rfl), (jtp (q := (⟨"BeanStreetModel", "splits", "(I)V"⟩, 56)) (List.mem_of_getElem? (i := 63) rfl)), (jt1 13 rfl rfl), ⟨by decide, by decide, by decide +kernel⟩, Or.inl (jt7 74 rfl rfl)⟩
theorem fw_X12_156 : jFW RX12 156 12 9 (.int) false := ⟨_, _, _, tyX12, rfl, iX12, tyX12_ok, nmX12, by decide, rfl, rfl, (fun h => by cases h), Or.inl (jt6 83 rfl rfl)⟩
theorem cv_X12_231 : jCV RX12 231 12 yX12_readClause MX12_readClause 0 := ⟨_, _, rfl, (jt7 92 rfl rfl), (jt7 91 rfl rfl), (jtp (q := (⟨"BeanStreetModel", "readClause", "()V"⟩, 56)) (List.mem_of_getElem? (i := 65) rfl)), (jt1 13 rfl rfl), ⟨by decide, by decide, by decide +kernel⟩, Or.inl (jt7 89 rfl rfl)⟩
theorem fw_X12_40 : jFW RX12 40 12 10 (.int) false := ⟨_, _, _, tyX12, rfl, iX12, tyX12_ok, nmX12, by decide, rfl, rfl, (fun h => by cases h), Or.inl (jt6 84 rfl rfl)⟩
abbrev MX12_law : jM := (RX12, cX12_law, 3, some .int, false)
theorem cv_X12_234 : jCV RX12 234 12 yX12_reads MX12_reads 0 := ⟨_, _, rfl, (jt7 73 rfl rfl), (jt7 72 rfl rfl), (jtp (q := (⟨"BeanStreetModel", "reads", "()Z"⟩, 56)) (List.mem_of_getElem? (i := 62) rfl)), (jt1 13 rfl rfl), ⟨by decide, by decide, by decide +kernel⟩, Or.inl (jt7 70 rfl rfl)⟩
theorem dX12_isSmall_0 : decode cX12_isSmall 0 = .ok (.iload_n 0, 1) := by decide +kernel
theorem dX12_isSmall_1 : decode cX12_isSmall 1 = .ok (.bipush 97, 2) := by decide +kernel
theorem dX12_isSmall_3 : decode cX12_isSmall 3 = .ok (.if_icmp .lt 13, 3) := by decide +kernel
theorem dX12_isSmall_16 : decode cX12_isSmall 16 = .ok (.iconst 0, 1) := by decide +kernel
theorem dX12_isSmall_17 : decode cX12_isSmall 17 = .ok (.ireturn, 1) := by decide +kernel
theorem dX12_isSmall_6 : decode cX12_isSmall 6 = .ok (.iload_n 0, 1) := by decide +kernel
theorem dX12_isSmall_7 : decode cX12_isSmall 7 = .ok (.bipush 122, 2) := by decide +kernel
theorem dX12_isSmall_9 : decode cX12_isSmall 9 = .ok (.if_icmp .gt 7, 3) := by decide +kernel
theorem dX12_isSmall_12 : decode cX12_isSmall 12 = .ok (.iconst 1, 1) := by decide +kernel
theorem dX12_isSmall_13 : decode cX12_isSmall 13 = .ok (.goto 4, 3) := by decide +kernel
theorem dX12_isDigit_0 : decode cX12_isDigit 0 = .ok (.iload_n 0, 1) := by decide +kernel
theorem dX12_isDigit_1 : decode cX12_isDigit 1 = .ok (.bipush 48, 2) := by decide +kernel
theorem dX12_isDigit_3 : decode cX12_isDigit 3 = .ok (.if_icmp .lt 13, 3) := by decide +kernel
theorem dX12_isDigit_16 : decode cX12_isDigit 16 = .ok (.iconst 0, 1) := by decide +kernel
theorem dX12_isDigit_17 : decode cX12_isDigit 17 = .ok (.ireturn, 1) := by decide +kernel
theorem dX12_isDigit_6 : decode cX12_isDigit 6 = .ok (.iload_n 0, 1) := by decide +kernel
theorem dX12_isDigit_7 : decode cX12_isDigit 7 = .ok (.bipush 57, 2) := by decide +kernel
theorem dX12_isDigit_9 : decode cX12_isDigit 9 = .ok (.if_icmp .gt 7, 3) := by decide +kernel
theorem dX12_isDigit_12 : decode cX12_isDigit 12 = .ok (.iconst 1, 1) := by decide +kernel
theorem dX12_isDigit_13 : decode cX12_isDigit 13 = .ok (.goto 4, 3) := by decide +kernel
theorem dX12_wordOf_0 : decode cX12_wordOf 0 = .ok (.iconst 1, 1) := by decide +kernel
theorem dX12_wordOf_1 : decode cX12_wordOf 1 = .ok (.istore_n 3, 1) := by decide +kernel
theorem dX12_wordOf_2 : decode cX12_wordOf 2 = .ok (.iconst 0, 1) := by decide +kernel
theorem dX12_wordOf_3 : decode cX12_wordOf 3 = .ok (.istore 4, 2) := by decide +kernel
theorem dX12_wordOf_5 : decode cX12_wordOf 5 = .ok (.iload 4, 2) := by decide +kernel
theorem dX12_wordOf_7 : decode cX12_wordOf 7 = .ok (.aload_n 0, 1) := by decide +kernel
theorem dX12_wordOf_8 : decode cX12_wordOf 8 = .ok (.getfield 30, 3) := by decide +kernel
theorem dX12_wordOf_11 : decode cX12_wordOf 11 = .ok (.arraylength, 1) := by decide +kernel
theorem dX12_wordOf_12 : decode cX12_wordOf 12 = .ok (.if_icmp .ge 114, 3) := by decide +kernel
theorem dX12_wordOf_126 : decode cX12_wordOf 126 = .ok (.iconst 0, 1) := by decide +kernel
theorem dX12_wordOf_127 : decode cX12_wordOf 127 = .ok (.ireturn, 1) := by decide +kernel
theorem dX12_wordOf_15 : decode cX12_wordOf 15 = .ok (.iconst 0, 1) := by decide +kernel
theorem dX12_wordOf_16 : decode cX12_wordOf 16 = .ok (.istore 5, 2) := by decide +kernel
theorem dX12_wordOf_18 : decode cX12_wordOf 18 = .ok (.aload_n 0, 1) := by decide +kernel
theorem dX12_wordOf_19 : decode cX12_wordOf 19 = .ok (.getfield 30, 3) := by decide +kernel
theorem dX12_wordOf_22 : decode cX12_wordOf 22 = .ok (.iload 4, 2) := by decide +kernel
theorem dX12_wordOf_24 : decode cX12_wordOf 24 = .ok (.iload 5, 2) := by decide +kernel
theorem dX12_wordOf_26 : decode cX12_wordOf 26 = .ok (.iadd, 1) := by decide +kernel
theorem dX12_wordOf_27 : decode cX12_wordOf 27 = .ok (.baload, 1) := by decide +kernel
theorem dX12_wordOf_28 : decode cX12_wordOf 28 = .ok (.bipush 32, 2) := by decide +kernel
theorem dX12_wordOf_30 : decode cX12_wordOf 30 = .ok (.if_icmp .eq 9, 3) := by decide +kernel
theorem dX12_wordOf_39 : decode cX12_wordOf 39 = .ok (.iload 5, 2) := by decide +kernel
theorem dX12_wordOf_41 : decode cX12_wordOf 41 = .ok (.iload_n 2, 1) := by decide +kernel
theorem dX12_wordOf_42 : decode cX12_wordOf 42 = .ok (.iload_n 1, 1) := by decide +kernel
theorem dX12_wordOf_43 : decode cX12_wordOf 43 = .ok (.isub, 1) := by decide +kernel
theorem dX12_wordOf_44 : decode cX12_wordOf 44 = .ok (.if_icmp .ne 7, 3) := by decide +kernel
theorem dX12_wordOf_51 : decode cX12_wordOf 51 = .ok (.iconst 0, 1) := by decide +kernel
theorem dX12_wordOf_52 : decode cX12_wordOf 52 = .ok (.istore 6, 2) := by decide +kernel
theorem dX12_wordOf_54 : decode cX12_wordOf 54 = .ok (.iconst 0, 1) := by decide +kernel
theorem dX12_wordOf_55 : decode cX12_wordOf 55 = .ok (.istore 7, 2) := by decide +kernel
theorem dX12_wordOf_57 : decode cX12_wordOf 57 = .ok (.iload 7, 2) := by decide +kernel
theorem dX12_wordOf_59 : decode cX12_wordOf 59 = .ok (.iload 5, 2) := by decide +kernel
theorem dX12_wordOf_61 : decode cX12_wordOf 61 = .ok (.if_icmp .ge 43, 3) := by decide +kernel
theorem dX12_wordOf_104 : decode cX12_wordOf 104 = .ok (.iload 6, 2) := by decide +kernel
theorem dX12_wordOf_106 : decode cX12_wordOf 106 = .ok (.ifCond .eq 5, 3) := by decide +kernel
theorem dX12_wordOf_111 : decode cX12_wordOf 111 = .ok (.iload 4, 2) := by decide +kernel
theorem dX12_wordOf_113 : decode cX12_wordOf 113 = .ok (.iload 5, 2) := by decide +kernel
theorem dX12_wordOf_115 : decode cX12_wordOf 115 = .ok (.iconst 1, 1) := by decide +kernel
theorem dX12_wordOf_116 : decode cX12_wordOf 116 = .ok (.iadd, 1) := by decide +kernel
theorem dX12_wordOf_117 : decode cX12_wordOf 117 = .ok (.iadd, 1) := by decide +kernel
theorem dX12_wordOf_118 : decode cX12_wordOf 118 = .ok (.istore 4, 2) := by decide +kernel
theorem dX12_wordOf_120 : decode cX12_wordOf 120 = .ok (.iinc 3 1, 3) := by decide +kernel
theorem dX12_wordOf_123 : decode cX12_wordOf 123 = .ok (.goto (-118), 3) := by decide +kernel
theorem dX12_wordOf_109 : decode cX12_wordOf 109 = .ok (.iload_n 3, 1) := by decide +kernel
theorem dX12_wordOf_110 : decode cX12_wordOf 110 = .ok (.ireturn, 1) := by decide +kernel
theorem dX12_wordOf_64 : decode cX12_wordOf 64 = .ok (.iload 6, 2) := by decide +kernel
theorem dX12_wordOf_66 : decode cX12_wordOf 66 = .ok (.ifCond .eq 38, 3) := by decide +kernel
theorem dX12_wordOf_69 : decode cX12_wordOf 69 = .ok (.aload_n 0, 1) := by decide +kernel
theorem dX12_wordOf_70 : decode cX12_wordOf 70 = .ok (.getfield 30, 3) := by decide +kernel
theorem dX12_wordOf_73 : decode cX12_wordOf 73 = .ok (.iload 4, 2) := by decide +kernel
theorem dX12_wordOf_75 : decode cX12_wordOf 75 = .ok (.iload 7, 2) := by decide +kernel
theorem dX12_wordOf_77 : decode cX12_wordOf 77 = .ok (.iadd, 1) := by decide +kernel
theorem dX12_wordOf_78 : decode cX12_wordOf 78 = .ok (.baload, 1) := by decide +kernel
theorem dX12_wordOf_79 : decode cX12_wordOf 79 = .ok (.aload_n 0, 1) := by decide +kernel
theorem dX12_wordOf_80 : decode cX12_wordOf 80 = .ok (.getfield 34, 3) := by decide +kernel
theorem dX12_wordOf_83 : decode cX12_wordOf 83 = .ok (.iload_n 1, 1) := by decide +kernel
theorem dX12_wordOf_84 : decode cX12_wordOf 84 = .ok (.iload 7, 2) := by decide +kernel
theorem dX12_wordOf_86 : decode cX12_wordOf 86 = .ok (.iadd, 1) := by decide +kernel
theorem dX12_wordOf_87 : decode cX12_wordOf 87 = .ok (.baload, 1) := by decide +kernel
theorem dX12_wordOf_88 : decode cX12_wordOf 88 = .ok (.if_icmp .ne 7, 3) := by decide +kernel
theorem dX12_wordOf_95 : decode cX12_wordOf 95 = .ok (.iconst 0, 1) := by decide +kernel
theorem dX12_wordOf_96 : decode cX12_wordOf 96 = .ok (.istore 6, 2) := by decide +kernel
theorem dX12_wordOf_98 : decode cX12_wordOf 98 = .ok (.iinc 7 1, 3) := by decide +kernel
theorem dX12_wordOf_101 : decode cX12_wordOf 101 = .ok (.goto (-44), 3) := by decide +kernel
theorem dX12_wordOf_91 : decode cX12_wordOf 91 = .ok (.iconst 1, 1) := by decide +kernel
theorem dX12_wordOf_92 : decode cX12_wordOf 92 = .ok (.goto 4, 3) := by decide +kernel
theorem dX12_wordOf_47 : decode cX12_wordOf 47 = .ok (.iconst 1, 1) := by decide +kernel
theorem dX12_wordOf_48 : decode cX12_wordOf 48 = .ok (.goto 4, 3) := by decide +kernel
theorem dX12_wordOf_33 : decode cX12_wordOf 33 = .ok (.iinc 5 1, 3) := by decide +kernel
theorem dX12_wordOf_36 : decode cX12_wordOf 36 = .ok (.goto (-18), 3) := by decide +kernel
theorem dX12_splits_0 : decode cX12_splits 0 = .ok (.aload_n 0, 1) := by decide +kernel
theorem dX12_splits_1 : decode cX12_splits 1 = .ok (.iconst 0, 1) := by decide +kernel
theorem dX12_splits_2 : decode cX12_splits 2 = .ok (.putfield 165, 3) := by decide +kernel
theorem dX12_splits_5 : decode cX12_splits 5 = .ok (.iconst 0, 1) := by decide +kernel
theorem dX12_splits_6 : decode cX12_splits 6 = .ok (.istore_n 2, 1) := by decide +kernel
theorem dX12_splits_7 : decode cX12_splits 7 = .ok (.iload_n 2, 1) := by decide +kernel
theorem dX12_splits_8 : decode cX12_splits 8 = .ok (.iload_n 1, 1) := by decide +kernel
theorem dX12_splits_9 : decode cX12_splits 9 = .ok (.if_icmp .ge 254, 3) := by decide +kernel
theorem dX12_splits_263 : decode cX12_splits 263 = .ok (.aload_n 0, 1) := by decide +kernel
theorem dX12_splits_264 : decode cX12_splits 264 = .ok (.getfield 49, 3) := by decide +kernel
theorem dX12_splits_267 : decode cX12_splits 267 = .ok (.aload_n 0, 1) := by decide +kernel
theorem dX12_splits_268 : decode cX12_splits 268 = .ok (.getfield 165, 3) := by decide +kernel
theorem dX12_splits_271 : decode cX12_splits 271 = .ok (.iload_n 1, 1) := by decide +kernel
theorem dX12_splits_272 : decode cX12_splits 272 = .ok (.iastore, 1) := by decide +kernel
theorem dX12_splits_273 : decode cX12_splits 273 = .ok (.aload_n 0, 1) := by decide +kernel
theorem dX12_splits_274 : decode cX12_splits 274 = .ok (.getfield 43, 3) := by decide +kernel
theorem dX12_splits_277 : decode cX12_splits 277 = .ok (.aload_n 0, 1) := by decide +kernel
theorem dX12_splits_278 : decode cX12_splits 278 = .ok (.getfield 165, 3) := by decide +kernel
theorem dX12_splits_281 : decode cX12_splits 281 = .ok (.iconst 0, 1) := by decide +kernel
theorem dX12_splits_282 : decode cX12_splits 282 = .ok (.iastore, 1) := by decide +kernel
theorem dX12_splits_283 : decode cX12_splits 283 = .ok (.aload_n 0, 1) := by decide +kernel
theorem dX12_splits_284 : decode cX12_splits 284 = .ok (.getfield 46, 3) := by decide +kernel
theorem dX12_splits_287 : decode cX12_splits 287 = .ok (.aload_n 0, 1) := by decide +kernel
theorem dX12_splits_288 : decode cX12_splits 288 = .ok (.getfield 165, 3) := by decide +kernel
theorem dX12_splits_291 : decode cX12_splits 291 = .ok (.iconst 0, 1) := by decide +kernel
theorem dX12_splits_292 : decode cX12_splits 292 = .ok (.iastore, 1) := by decide +kernel
theorem dX12_splits_293 : decode cX12_splits 293 = .ok (.return_, 1) := by decide +kernel
theorem dX12_splits_12 : decode cX12_splits 12 = .ok (.aload_n 0, 1) := by decide +kernel
theorem dX12_splits_13 : decode cX12_splits 13 = .ok (.getfield 34, 3) := by decide +kernel
theorem dX12_splits_16 : decode cX12_splits 16 = .ok (.iload_n 2, 1) := by decide +kernel
theorem dX12_splits_17 : decode cX12_splits 17 = .ok (.baload, 1) := by decide +kernel
theorem dX12_splits_18 : decode cX12_splits 18 = .ok (.istore_n 3, 1) := by decide +kernel
theorem dX12_splits_19 : decode cX12_splits 19 = .ok (.iload_n 3, 1) := by decide +kernel
theorem dX12_splits_20 : decode cX12_splits 20 = .ok (.bipush 32, 2) := by decide +kernel
theorem dX12_splits_22 : decode cX12_splits 22 = .ok (.if_icmp .ne 9, 3) := by decide +kernel
theorem dX12_splits_31 : decode cX12_splits 31 = .ok (.iload_n 2, 1) := by decide +kernel
theorem dX12_splits_32 : decode cX12_splits 32 = .ok (.iconst 1, 1) := by decide +kernel
theorem dX12_splits_33 : decode cX12_splits 33 = .ok (.iadd, 1) := by decide +kernel
theorem dX12_splits_34 : decode cX12_splits 34 = .ok (.istore 4, 2) := by decide +kernel
theorem dX12_splits_68 : decode cX12_splits 68 = .ok (.iload_n 3, 1) := by decide +kernel
theorem dX12_splits_100 : decode cX12_splits 100 = .ok (.aload_n 0, 1) := by decide +kernel
theorem dX12_splits_101 : decode cX12_splits 101 = .ok (.getfield 49, 3) := by decide +kernel
theorem dX12_splits_104 : decode cX12_splits 104 = .ok (.aload_n 0, 1) := by decide +kernel
theorem dX12_splits_105 : decode cX12_splits 105 = .ok (.getfield 165, 3) := by decide +kernel
theorem dX12_splits_108 : decode cX12_splits 108 = .ok (.iload_n 2, 1) := by decide +kernel
theorem dX12_splits_109 : decode cX12_splits 109 = .ok (.iastore, 1) := by decide +kernel
theorem dX12_splits_110 : decode cX12_splits 110 = .ok (.aload_n 0, 1) := by decide +kernel
theorem dX12_splits_111 : decode cX12_splits 111 = .ok (.getfield 46, 3) := by decide +kernel
theorem dX12_splits_114 : decode cX12_splits 114 = .ok (.aload_n 0, 1) := by decide +kernel
theorem dX12_splits_115 : decode cX12_splits 115 = .ok (.getfield 165, 3) := by decide +kernel
theorem dX12_splits_118 : decode cX12_splits 118 = .ok (.iconst 0, 1) := by decide +kernel
theorem dX12_splits_119 : decode cX12_splits 119 = .ok (.iastore, 1) := by decide +kernel
theorem dX12_splits_120 : decode cX12_splits 120 = .ok (.aload_n 0, 1) := by decide +kernel
theorem dX12_splits_121 : decode cX12_splits 121 = .ok (.getfield 43, 3) := by decide +kernel
theorem dX12_splits_124 : decode cX12_splits 124 = .ok (.aload_n 0, 1) := by decide +kernel
theorem dX12_splits_125 : decode cX12_splits 125 = .ok (.getfield 165, 3) := by decide +kernel
theorem dX12_splits_165 : decode cX12_splits 165 = .ok (.iastore, 1) := by decide +kernel
theorem dX12_splits_166 : decode cX12_splits 166 = .ok (.iload_n 2, 1) := by decide +kernel
theorem dX12_splits_167 : decode cX12_splits 167 = .ok (.istore 5, 2) := by decide +kernel
theorem dX12_splits_169 : decode cX12_splits 169 = .ok (.iload 5, 2) := by decide +kernel
theorem dX12_splits_171 : decode cX12_splits 171 = .ok (.iload 4, 2) := by decide +kernel
theorem dX12_splits_173 : decode cX12_splits 173 = .ok (.if_icmp .ge 74, 3) := by decide +kernel
theorem dX12_splits_247 : decode cX12_splits 247 = .ok (.aload_n 0, 1) := by decide +kernel
theorem dX12_splits_248 : decode cX12_splits 248 = .ok (.dup, 1) := by decide +kernel
theorem dX12_splits_249 : decode cX12_splits 249 = .ok (.getfield 165, 3) := by decide +kernel
theorem dX12_splits_252 : decode cX12_splits 252 = .ok (.iconst 1, 1) := by decide +kernel
theorem dX12_splits_253 : decode cX12_splits 253 = .ok (.iadd, 1) := by decide +kernel
theorem dX12_splits_254 : decode cX12_splits 254 = .ok (.putfield 165, 3) := by decide +kernel
theorem dX12_splits_257 : decode cX12_splits 257 = .ok (.iload 4, 2) := by decide +kernel
theorem dX12_splits_259 : decode cX12_splits 259 = .ok (.istore_n 2, 1) := by decide +kernel
theorem dX12_splits_260 : decode cX12_splits 260 = .ok (.goto (-253), 3) := by decide +kernel
theorem dX12_splits_176 : decode cX12_splits 176 = .ok (.iload_n 3, 1) := by decide +kernel
theorem dX12_splits_177 : decode cX12_splits 177 = .ok (.invokestatic 172, 3) := by decide +kernel
theorem dX12_splits_180 : decode cX12_splits 180 = .ok (.ifCond .eq 67, 3) := by decide +kernel
theorem dX12_splits_183 : decode cX12_splits 183 = .ok (.aload_n 0, 1) := by decide +kernel
theorem dX12_splits_184 : decode cX12_splits 184 = .ok (.getfield 46, 3) := by decide +kernel
theorem dX12_splits_187 : decode cX12_splits 187 = .ok (.aload_n 0, 1) := by decide +kernel
theorem dX12_splits_188 : decode cX12_splits 188 = .ok (.getfield 165, 3) := by decide +kernel
theorem dX12_splits_240 : decode cX12_splits 240 = .ok (.iastore, 1) := by decide +kernel
theorem dX12_splits_241 : decode cX12_splits 241 = .ok (.iinc 5 1, 3) := by decide +kernel
theorem dX12_splits_244 : decode cX12_splits 244 = .ok (.goto (-75), 3) := by decide +kernel
theorem dX12_splits_191 : decode cX12_splits 191 = .ok (.aload_n 0, 1) := by decide +kernel
theorem dX12_splits_192 : decode cX12_splits 192 = .ok (.getfield 46, 3) := by decide +kernel
theorem dX12_splits_195 : decode cX12_splits 195 = .ok (.aload_n 0, 1) := by decide +kernel
theorem dX12_splits_196 : decode cX12_splits 196 = .ok (.getfield 165, 3) := by decide +kernel
theorem dX12_splits_199 : decode cX12_splits 199 = .ok (.iaload, 1) := by decide +kernel
theorem dX12_splits_200 : decode cX12_splits 200 = .ok (.ldc 179, 2) := by decide +kernel
theorem dX12_splits_202 : decode cX12_splits 202 = .ok (.if_icmp .le 15, 3) := by decide +kernel
theorem dX12_splits_217 : decode cX12_splits 217 = .ok (.bipush 10, 2) := by decide +kernel
theorem dX12_splits_219 : decode cX12_splits 219 = .ok (.aload_n 0, 1) := by decide +kernel
theorem dX12_splits_220 : decode cX12_splits 220 = .ok (.getfield 46, 3) := by decide +kernel
theorem dX12_splits_223 : decode cX12_splits 223 = .ok (.aload_n 0, 1) := by decide +kernel
theorem dX12_splits_224 : decode cX12_splits 224 = .ok (.getfield 165, 3) := by decide +kernel
theorem dX12_splits_227 : decode cX12_splits 227 = .ok (.iaload, 1) := by decide +kernel
theorem dX12_splits_228 : decode cX12_splits 228 = .ok (.imul, 1) := by decide +kernel
theorem dX12_splits_229 : decode cX12_splits 229 = .ok (.aload_n 0, 1) := by decide +kernel
theorem dX12_splits_230 : decode cX12_splits 230 = .ok (.getfield 34, 3) := by decide +kernel
theorem dX12_splits_233 : decode cX12_splits 233 = .ok (.iload 5, 2) := by decide +kernel
theorem dX12_splits_235 : decode cX12_splits 235 = .ok (.baload, 1) := by decide +kernel
theorem dX12_splits_236 : decode cX12_splits 236 = .ok (.iadd, 1) := by decide +kernel
theorem dX12_splits_237 : decode cX12_splits 237 = .ok (.bipush 48, 2) := by decide +kernel
theorem dX12_splits_239 : decode cX12_splits 239 = .ok (.isub, 1) := by decide +kernel
theorem dX12_splits_205 : decode cX12_splits 205 = .ok (.aload_n 0, 1) := by decide +kernel
theorem dX12_splits_206 : decode cX12_splits 206 = .ok (.getfield 46, 3) := by decide +kernel
theorem dX12_splits_209 : decode cX12_splits 209 = .ok (.aload_n 0, 1) := by decide +kernel
theorem dX12_splits_210 : decode cX12_splits 210 = .ok (.getfield 165, 3) := by decide +kernel
theorem dX12_splits_213 : decode cX12_splits 213 = .ok (.iaload, 1) := by decide +kernel
theorem dX12_splits_214 : decode cX12_splits 214 = .ok (.goto 26, 3) := by decide +kernel
theorem dX12_splits_128 : decode cX12_splits 128 = .ok (.iload_n 3, 1) := by decide +kernel
theorem dX12_splits_129 : decode cX12_splits 129 = .ok (.invokestatic 168, 3) := by decide +kernel
theorem dX12_splits_132 : decode cX12_splits 132 = .ok (.ifCond .eq 13, 3) := by decide +kernel
theorem dX12_splits_145 : decode cX12_splits 145 = .ok (.iload_n 3, 1) := by decide +kernel
theorem dX12_splits_146 : decode cX12_splits 146 = .ok (.invokestatic 172, 3) := by decide +kernel
theorem dX12_splits_149 : decode cX12_splits 149 = .ok (.ifCond .eq 8, 3) := by decide +kernel
theorem dX12_splits_157 : decode cX12_splits 157 = .ok (.bipush 100, 2) := by decide +kernel
theorem dX12_splits_159 : decode cX12_splits 159 = .ok (.iload_n 3, 1) := by decide +kernel
theorem dX12_splits_160 : decode cX12_splits 160 = .ok (.sipush 255, 3) := by decide +kernel
theorem dX12_splits_163 : decode cX12_splits 163 = .ok (.iand, 1) := by decide +kernel
theorem dX12_splits_164 : decode cX12_splits 164 = .ok (.iadd, 1) := by decide +kernel
theorem dX12_splits_152 : decode cX12_splits 152 = .ok (.bipush 50, 2) := by decide +kernel
theorem dX12_splits_154 : decode cX12_splits 154 = .ok (.goto 11, 3) := by decide +kernel
theorem dX12_splits_135 : decode cX12_splits 135 = .ok (.aload_n 0, 1) := by decide +kernel
theorem dX12_splits_136 : decode cX12_splits 136 = .ok (.iload_n 2, 1) := by decide +kernel
theorem dX12_splits_137 : decode cX12_splits 137 = .ok (.iload 4, 2) := by decide +kernel
theorem dX12_splits_139 : decode cX12_splits 139 = .ok (.invokevirtual 175, 3) := by decide +kernel
theorem dX12_splits_142 : decode cX12_splits 142 = .ok (.goto 23, 3) := by decide +kernel
theorem dX12_splits_69 : decode cX12_splits 69 = .ok (.invokestatic 172, 3) := by decide +kernel
theorem dX12_splits_72 : decode cX12_splits 72 = .ok (.ifCond .eq 28, 3) := by decide +kernel
theorem dX12_splits_75 : decode cX12_splits 75 = .ok (.iload 4, 2) := by decide +kernel
theorem dX12_splits_77 : decode cX12_splits 77 = .ok (.iload_n 1, 1) := by decide +kernel
theorem dX12_splits_78 : decode cX12_splits 78 = .ok (.if_icmp .ge 22, 3) := by decide +kernel
theorem dX12_splits_81 : decode cX12_splits 81 = .ok (.aload_n 0, 1) := by decide +kernel
theorem dX12_splits_82 : decode cX12_splits 82 = .ok (.getfield 34, 3) := by decide +kernel
theorem dX12_splits_85 : decode cX12_splits 85 = .ok (.iload 4, 2) := by decide +kernel
theorem dX12_splits_87 : decode cX12_splits 87 = .ok (.baload, 1) := by decide +kernel
theorem dX12_splits_88 : decode cX12_splits 88 = .ok (.invokestatic 172, 3) := by decide +kernel
theorem dX12_splits_91 : decode cX12_splits 91 = .ok (.ifCond .eq 9, 3) := by decide +kernel
theorem dX12_splits_94 : decode cX12_splits 94 = .ok (.iinc 4 1, 3) := by decide +kernel
theorem dX12_splits_97 : decode cX12_splits 97 = .ok (.goto (-22), 3) := by decide +kernel
theorem dX12_splits_36 : decode cX12_splits 36 = .ok (.iload_n 3, 1) := by decide +kernel
theorem dX12_splits_37 : decode cX12_splits 37 = .ok (.invokestatic 168, 3) := by decide +kernel
theorem dX12_splits_40 : decode cX12_splits 40 = .ok (.ifCond .eq 28, 3) := by decide +kernel
theorem dX12_splits_43 : decode cX12_splits 43 = .ok (.iload 4, 2) := by decide +kernel
theorem dX12_splits_45 : decode cX12_splits 45 = .ok (.iload_n 1, 1) := by decide +kernel
theorem dX12_splits_46 : decode cX12_splits 46 = .ok (.if_icmp .ge 22, 3) := by decide +kernel
theorem dX12_splits_49 : decode cX12_splits 49 = .ok (.aload_n 0, 1) := by decide +kernel
theorem dX12_splits_50 : decode cX12_splits 50 = .ok (.getfield 34, 3) := by decide +kernel
theorem dX12_splits_53 : decode cX12_splits 53 = .ok (.iload 4, 2) := by decide +kernel
theorem dX12_splits_55 : decode cX12_splits 55 = .ok (.baload, 1) := by decide +kernel
theorem dX12_splits_56 : decode cX12_splits 56 = .ok (.invokestatic 168, 3) := by decide +kernel
theorem dX12_splits_59 : decode cX12_splits 59 = .ok (.ifCond .eq 9, 3) := by decide +kernel
theorem dX12_splits_62 : decode cX12_splits 62 = .ok (.iinc 4 1, 3) := by decide +kernel
theorem dX12_splits_65 : decode cX12_splits 65 = .ok (.goto (-22), 3) := by decide +kernel
theorem dX12_splits_25 : decode cX12_splits 25 = .ok (.iinc 2 1, 3) := by decide +kernel
theorem dX12_splits_28 : decode cX12_splits 28 = .ok (.goto (-21), 3) := by decide +kernel
theorem dX12_fine_0 : decode cX12_fine 0 = .ok (.aload_n 0, 1) := by decide +kernel
theorem dX12_fine_1 : decode cX12_fine 1 = .ok (.getfield 180, 3) := by decide +kernel
theorem dX12_fine_4 : decode cX12_fine 4 = .ok (.iconst (-1), 1) := by decide +kernel
theorem dX12_fine_5 : decode cX12_fine 5 = .ok (.if_icmp .ne 7, 3) := by decide +kernel
theorem dX12_fine_12 : decode cX12_fine 12 = .ok (.iconst 0, 1) := by decide +kernel
theorem dX12_fine_13 : decode cX12_fine 13 = .ok (.ireturn, 1) := by decide +kernel
theorem dX12_fine_8 : decode cX12_fine 8 = .ok (.iconst 1, 1) := by decide +kernel
theorem dX12_fine_9 : decode cX12_fine 9 = .ok (.goto 4, 3) := by decide +kernel
theorem dX12_faults_0 : decode cX12_faults 0 = .ok (.aload_n 0, 1) := by decide +kernel
theorem dX12_faults_1 : decode cX12_faults 1 = .ok (.invokevirtual 183, 3) := by decide +kernel
theorem dX12_faults_4 : decode cX12_faults 4 = .ok (.ifCond .eq 16, 3) := by decide +kernel
theorem dX12_faults_7 : decode cX12_faults 7 = .ok (.aload_n 0, 1) := by decide +kernel
theorem dX12_faults_8 : decode cX12_faults 8 = .ok (.aload_n 0, 1) := by decide +kernel
theorem dX12_faults_9 : decode cX12_faults 9 = .ok (.getfield 49, 3) := by decide +kernel
theorem dX12_faults_12 : decode cX12_faults 12 = .ok (.aload_n 0, 1) := by decide +kernel
theorem dX12_faults_13 : decode cX12_faults 13 = .ok (.getfield 187, 3) := by decide +kernel
theorem dX12_faults_16 : decode cX12_faults 16 = .ok (.iaload, 1) := by decide +kernel
theorem dX12_faults_17 : decode cX12_faults 17 = .ok (.putfield 180, 3) := by decide +kernel
theorem dX12_faults_20 : decode cX12_faults 20 = .ok (.return_, 1) := by decide +kernel
theorem dX12_takes0_0 : decode cX12_takes0 0 = .ok (.aload_n 0, 1) := by decide +kernel
theorem dX12_takes0_1 : decode cX12_takes0 1 = .ok (.invokevirtual 183, 3) := by decide +kernel
theorem dX12_takes0_4 : decode cX12_takes0 4 = .ok (.ifCond .eq 20, 3) := by decide +kernel
theorem dX12_takes0_7 : decode cX12_takes0 7 = .ok (.aload_n 0, 1) := by decide +kernel
theorem dX12_takes0_8 : decode cX12_takes0 8 = .ok (.getfield 43, 3) := by decide +kernel
theorem dX12_takes0_11 : decode cX12_takes0 11 = .ok (.aload_n 0, 1) := by decide +kernel
theorem dX12_takes0_12 : decode cX12_takes0 12 = .ok (.getfield 187, 3) := by decide +kernel
theorem dX12_takes0_15 : decode cX12_takes0 15 = .ok (.iaload, 1) := by decide +kernel
theorem dX12_takes0_16 : decode cX12_takes0 16 = .ok (.iload_n 1, 1) := by decide +kernel
theorem dX12_takes0_17 : decode cX12_takes0 17 = .ok (.if_icmp .ne 7, 3) := by decide +kernel
theorem dX12_takes0_24 : decode cX12_takes0 24 = .ok (.iconst 0, 1) := by decide +kernel
theorem dX12_takes0_25 : decode cX12_takes0 25 = .ok (.istore_n 2, 1) := by decide +kernel
theorem dX12_takes0_26 : decode cX12_takes0 26 = .ok (.iload_n 2, 1) := by decide +kernel
theorem dX12_takes0_27 : decode cX12_takes0 27 = .ok (.ifCond .eq 13, 3) := by decide +kernel
theorem dX12_takes0_40 : decode cX12_takes0 40 = .ok (.iload_n 2, 1) := by decide +kernel
theorem dX12_takes0_41 : decode cX12_takes0 41 = .ok (.ireturn, 1) := by decide +kernel
theorem dX12_takes0_20 : decode cX12_takes0 20 = .ok (.iconst 1, 1) := by decide +kernel
theorem dX12_takes0_21 : decode cX12_takes0 21 = .ok (.goto 4, 3) := by decide +kernel
theorem dX12_takes0_30 : decode cX12_takes0 30 = .ok (.aload_n 0, 1) := by decide +kernel
theorem dX12_takes0_31 : decode cX12_takes0 31 = .ok (.dup, 1) := by decide +kernel
theorem dX12_takes0_32 : decode cX12_takes0 32 = .ok (.getfield 187, 3) := by decide +kernel
theorem dX12_takes0_35 : decode cX12_takes0 35 = .ok (.iconst 1, 1) := by decide +kernel
theorem dX12_takes0_36 : decode cX12_takes0 36 = .ok (.iadd, 1) := by decide +kernel
theorem dX12_takes0_37 : decode cX12_takes0 37 = .ok (.putfield 187, 3) := by decide +kernel
theorem dX12_must_0 : decode cX12_must 0 = .ok (.aload_n 0, 1) := by decide +kernel
theorem dX12_must_1 : decode cX12_must 1 = .ok (.iload_n 1, 1) := by decide +kernel
theorem dX12_must_2 : decode cX12_must 2 = .ok (.invokevirtual 190, 3) := by decide +kernel
theorem dX12_must_5 : decode cX12_must 5 = .ok (.ifCond .ne 7, 3) := by decide +kernel
theorem dX12_must_12 : decode cX12_must 12 = .ok (.return_, 1) := by decide +kernel
theorem dX12_must_8 : decode cX12_must 8 = .ok (.aload_n 0, 1) := by decide +kernel
theorem dX12_must_9 : decode cX12_must 9 = .ok (.invokevirtual 193, 3) := by decide +kernel
theorem dX12_leaf_0 : decode cX12_leaf 0 = .ok (.aload_n 0, 1) := by decide +kernel
theorem dX12_leaf_1 : decode cX12_leaf 1 = .ok (.getfield 196, 3) := by decide +kernel
theorem dX12_leaf_4 : decode cX12_leaf 4 = .ok (.bipush 50, 2) := by decide +kernel
theorem dX12_leaf_6 : decode cX12_leaf 6 = .ok (.if_icmp .ne 7, 3) := by decide +kernel
theorem dX12_leaf_13 : decode cX12_leaf 13 = .ok (.aload_n 0, 1) := by decide +kernel
theorem dX12_leaf_14 : decode cX12_leaf 14 = .ok (.dup, 1) := by decide +kernel
theorem dX12_leaf_15 : decode cX12_leaf 15 = .ok (.getfield 196, 3) := by decide +kernel
theorem dX12_leaf_18 : decode cX12_leaf 18 = .ok (.iconst 1, 1) := by decide +kernel
theorem dX12_leaf_19 : decode cX12_leaf 19 = .ok (.iadd, 1) := by decide +kernel
theorem dX12_leaf_20 : decode cX12_leaf 20 = .ok (.putfield 196, 3) := by decide +kernel
theorem dX12_leaf_23 : decode cX12_leaf 23 = .ok (.aload_n 0, 1) := by decide +kernel
theorem dX12_leaf_24 : decode cX12_leaf 24 = .ok (.invokevirtual 183, 3) := by decide +kernel
theorem dX12_leaf_27 : decode cX12_leaf 27 = .ok (.ifCond .eq 13, 3) := by decide +kernel
theorem dX12_leaf_30 : decode cX12_leaf 30 = .ok (.aload_n 0, 1) := by decide +kernel
theorem dX12_leaf_31 : decode cX12_leaf 31 = .ok (.dup, 1) := by decide +kernel
theorem dX12_leaf_32 : decode cX12_leaf 32 = .ok (.getfield 187, 3) := by decide +kernel
theorem dX12_leaf_35 : decode cX12_leaf 35 = .ok (.iconst 1, 1) := by decide +kernel
theorem dX12_leaf_36 : decode cX12_leaf 36 = .ok (.iadd, 1) := by decide +kernel
theorem dX12_leaf_37 : decode cX12_leaf 37 = .ok (.putfield 187, 3) := by decide +kernel
theorem dX12_leaf_40 : decode cX12_leaf 40 = .ok (.return_, 1) := by decide +kernel
theorem dX12_leaf_9 : decode cX12_leaf 9 = .ok (.aload_n 0, 1) := by decide +kernel
theorem dX12_leaf_10 : decode cX12_leaf 10 = .ok (.invokevirtual 193, 3) := by decide +kernel
theorem dX12_readPart_0 : decode cX12_readPart 0 = .ok (.aload_n 0, 1) := by decide +kernel
theorem dX12_readPart_1 : decode cX12_readPart 1 = .ok (.invokevirtual 183, 3) := by decide +kernel
theorem dX12_readPart_4 : decode cX12_readPart 4 = .ok (.ifCond .ne 4, 3) := by decide +kernel
theorem dX12_readPart_8 : decode cX12_readPart 8 = .ok (.aload_n 0, 1) := by decide +kernel
theorem dX12_readPart_9 : decode cX12_readPart 9 = .ok (.getfield 43, 3) := by decide +kernel
theorem dX12_readPart_12 : decode cX12_readPart 12 = .ok (.aload_n 0, 1) := by decide +kernel
theorem dX12_readPart_13 : decode cX12_readPart 13 = .ok (.getfield 187, 3) := by decide +kernel
theorem dX12_readPart_16 : decode cX12_readPart 16 = .ok (.iaload, 1) := by decide +kernel
theorem dX12_readPart_17 : decode cX12_readPart 17 = .ok (.istore_n 2, 1) := by decide +kernel
theorem dX12_readPart_18 : decode cX12_readPart 18 = .ok (.iload_n 2, 1) := by decide +kernel
theorem dX12_readPart_19 : decode cX12_readPart 19 = .ok (.bipush 91, 2) := by decide +kernel
theorem dX12_readPart_21 : decode cX12_readPart 21 = .ok (.invokestatic 215, 3) := by decide +kernel
theorem dX12_readPart_24 : decode cX12_readPart 24 = .ok (.if_icmp .ne 50, 3) := by decide +kernel
theorem dX12_readPart_74 : decode cX12_readPart 74 = .ok (.iload_n 2, 1) := by decide +kernel
theorem dX12_readPart_75 : decode cX12_readPart 75 = .ok (.bipush 50, 2) := by decide +kernel
theorem dX12_readPart_77 : decode cX12_readPart 77 = .ok (.if_icmp .ne 18, 3) := by decide +kernel
theorem dX12_readPart_95 : decode cX12_readPart 95 = .ok (.iload_n 2, 1) := by decide +kernel
theorem dX12_readPart_96 : decode cX12_readPart 96 = .ok (.bipush 8, 2) := by decide +kernel
theorem dX12_readPart_98 : decode cX12_readPart 98 = .ok (.if_icmp .lt 16, 3) := by decide +kernel
theorem dX12_readPart_114 : decode cX12_readPart 114 = .ok (.aload_n 0, 1) := by decide +kernel
theorem dX12_readPart_115 : decode cX12_readPart 115 = .ok (.invokevirtual 193, 3) := by decide +kernel
theorem dX12_readPart_118 : decode cX12_readPart 118 = .ok (.return_, 1) := by decide +kernel
theorem dX12_readPart_101 : decode cX12_readPart 101 = .ok (.iload_n 2, 1) := by decide +kernel
theorem dX12_readPart_102 : decode cX12_readPart 102 = .ok (.bipush 15, 2) := by decide +kernel
theorem dX12_readPart_104 : decode cX12_readPart 104 = .ok (.if_icmp .gt 10, 3) := by decide +kernel
theorem dX12_readPart_107 : decode cX12_readPart 107 = .ok (.aload_n 0, 1) := by decide +kernel
theorem dX12_readPart_108 : decode cX12_readPart 108 = .ok (.invokevirtual 225, 3) := by decide +kernel
theorem dX12_readPart_111 : decode cX12_readPart 111 = .ok (.goto 7, 3) := by decide +kernel
theorem dX12_readPart_80 : decode cX12_readPart 80 = .ok (.aload_n 0, 1) := by decide +kernel
theorem dX12_readPart_81 : decode cX12_readPart 81 = .ok (.getfield 46, 3) := by decide +kernel
theorem dX12_readPart_84 : decode cX12_readPart 84 = .ok (.aload_n 0, 1) := by decide +kernel
theorem dX12_readPart_85 : decode cX12_readPart 85 = .ok (.getfield 187, 3) := by decide +kernel
theorem dX12_readPart_88 : decode cX12_readPart 88 = .ok (.iaload, 1) := by decide +kernel
theorem dX12_readPart_89 : decode cX12_readPart 89 = .ok (.sipush 1000, 3) := by decide +kernel
theorem dX12_readPart_92 : decode cX12_readPart 92 = .ok (.if_icmp .le 15, 3) := by decide +kernel
theorem dX12_readPart_27 : decode cX12_readPart 27 = .ok (.iload_n 1, 1) := by decide +kernel
theorem dX12_readPart_28 : decode cX12_readPart 28 = .ok (.bipush 8, 2) := by decide +kernel
theorem dX12_readPart_30 : decode cX12_readPart 30 = .ok (.if_icmp .ne 7, 3) := by decide +kernel
theorem dX12_readPart_33 : decode cX12_readPart 33 = .ok (.aload_n 0, 1) := by decide +kernel
theorem dX12_readPart_34 : decode cX12_readPart 34 = .ok (.invokevirtual 193, 3) := by decide +kernel
theorem dX12_readPart_37 : decode cX12_readPart 37 = .ok (.aload_n 0, 1) := by decide +kernel
theorem dX12_readPart_38 : decode cX12_readPart 38 = .ok (.invokevirtual 183, 3) := by decide +kernel
theorem dX12_readPart_41 : decode cX12_readPart 41 = .ok (.ifCond .ne 4, 3) := by decide +kernel
theorem dX12_readPart_44 : decode cX12_readPart 44 = .ok (.return_, 1) := by decide +kernel
theorem dX12_readPart_7 : decode cX12_readPart 7 = .ok (.return_, 1) := by decide +kernel
theorem dX12_readTerm_0 : decode cX12_readTerm 0 = .ok (.aload_n 0, 1) := by decide +kernel
theorem dX12_readTerm_1 : decode cX12_readTerm 1 = .ok (.iload_n 1, 1) := by decide +kernel
theorem dX12_readTerm_2 : decode cX12_readTerm 2 = .ok (.invokevirtual 222, 3) := by decide +kernel
theorem dX12_readTerm_5 : decode cX12_readTerm 5 = .ok (.aload_n 0, 1) := by decide +kernel
theorem dX12_readTerm_6 : decode cX12_readTerm 6 = .ok (.bipush 42, 2) := by decide +kernel
theorem dX12_readTerm_8 : decode cX12_readTerm 8 = .ok (.invokestatic 215, 3) := by decide +kernel
theorem dX12_readTerm_11 : decode cX12_readTerm 11 = .ok (.invokevirtual 190, 3) := by decide +kernel
theorem dX12_readTerm_14 : decode cX12_readTerm 14 = .ok (.ifCond .ne 15, 3) := by decide +kernel
theorem dX12_readTerm_29 : decode cX12_readTerm 29 = .ok (.aload_n 0, 1) := by decide +kernel
theorem dX12_readTerm_30 : decode cX12_readTerm 30 = .ok (.iload_n 1, 1) := by decide +kernel
theorem dX12_readTerm_31 : decode cX12_readTerm 31 = .ok (.invokevirtual 222, 3) := by decide +kernel
theorem dX12_readTerm_34 : decode cX12_readTerm 34 = .ok (.goto (-29), 3) := by decide +kernel
theorem dX12_readTerm_17 : decode cX12_readTerm 17 = .ok (.aload_n 0, 1) := by decide +kernel
theorem dX12_readTerm_18 : decode cX12_readTerm 18 = .ok (.bipush 47, 2) := by decide +kernel
theorem dX12_readTerm_20 : decode cX12_readTerm 20 = .ok (.invokestatic 215, 3) := by decide +kernel
theorem dX12_readTerm_23 : decode cX12_readTerm 23 = .ok (.invokevirtual 190, 3) := by decide +kernel
theorem dX12_readTerm_26 : decode cX12_readTerm 26 = .ok (.ifCond .eq 11, 3) := by decide +kernel
theorem dX12_readTerm_37 : decode cX12_readTerm 37 = .ok (.return_, 1) := by decide +kernel
theorem dX12_readSum_0 : decode cX12_readSum 0 = .ok (.aload_n 0, 1) := by decide +kernel
theorem dX12_readSum_1 : decode cX12_readSum 1 = .ok (.iload_n 1, 1) := by decide +kernel
theorem dX12_readSum_2 : decode cX12_readSum 2 = .ok (.invokevirtual 219, 3) := by decide +kernel
theorem dX12_readSum_5 : decode cX12_readSum 5 = .ok (.aload_n 0, 1) := by decide +kernel
theorem dX12_readSum_6 : decode cX12_readSum 6 = .ok (.bipush 43, 2) := by decide +kernel
theorem dX12_readSum_8 : decode cX12_readSum 8 = .ok (.invokestatic 215, 3) := by decide +kernel
theorem dX12_readSum_11 : decode cX12_readSum 11 = .ok (.invokevirtual 190, 3) := by decide +kernel
theorem dX12_readSum_14 : decode cX12_readSum 14 = .ok (.ifCond .ne 15, 3) := by decide +kernel
theorem dX12_readSum_29 : decode cX12_readSum 29 = .ok (.aload_n 0, 1) := by decide +kernel
theorem dX12_readSum_30 : decode cX12_readSum 30 = .ok (.iload_n 1, 1) := by decide +kernel
theorem dX12_readSum_31 : decode cX12_readSum 31 = .ok (.invokevirtual 219, 3) := by decide +kernel
theorem dX12_readSum_34 : decode cX12_readSum 34 = .ok (.goto (-29), 3) := by decide +kernel
theorem dX12_readSum_17 : decode cX12_readSum 17 = .ok (.aload_n 0, 1) := by decide +kernel
theorem dX12_readSum_18 : decode cX12_readSum 18 = .ok (.bipush 45, 2) := by decide +kernel
theorem dX12_readSum_20 : decode cX12_readSum 20 = .ok (.invokestatic 215, 3) := by decide +kernel
theorem dX12_readSum_23 : decode cX12_readSum 23 = .ok (.invokevirtual 190, 3) := by decide +kernel
theorem dX12_readSum_26 : decode cX12_readSum 26 = .ok (.ifCond .eq 11, 3) := by decide +kernel
theorem dX12_readSum_37 : decode cX12_readSum 37 = .ok (.return_, 1) := by decide +kernel
theorem dX12_readPart_45 : decode cX12_readPart 45 = .ok (.aload_n 0, 1) := by decide +kernel
theorem dX12_readPart_46 : decode cX12_readPart 46 = .ok (.dup, 1) := by decide +kernel
theorem dX12_readPart_47 : decode cX12_readPart 47 = .ok (.getfield 187, 3) := by decide +kernel
theorem dX12_readPart_50 : decode cX12_readPart 50 = .ok (.iconst 1, 1) := by decide +kernel
theorem dX12_readPart_51 : decode cX12_readPart 51 = .ok (.iadd, 1) := by decide +kernel
theorem dX12_readPart_52 : decode cX12_readPart 52 = .ok (.putfield 187, 3) := by decide +kernel
theorem dX12_readPart_55 : decode cX12_readPart 55 = .ok (.aload_n 0, 1) := by decide +kernel
theorem dX12_readPart_56 : decode cX12_readPart 56 = .ok (.iload_n 1, 1) := by decide +kernel
theorem dX12_readPart_57 : decode cX12_readPart 57 = .ok (.iconst 1, 1) := by decide +kernel
theorem dX12_readPart_58 : decode cX12_readPart 58 = .ok (.iadd, 1) := by decide +kernel
theorem dX12_readPart_59 : decode cX12_readPart 59 = .ok (.invokevirtual 199, 3) := by decide +kernel
theorem dX12_readPart_62 : decode cX12_readPart 62 = .ok (.aload_n 0, 1) := by decide +kernel
theorem dX12_readPart_63 : decode cX12_readPart 63 = .ok (.bipush 93, 2) := by decide +kernel
theorem dX12_readPart_65 : decode cX12_readPart 65 = .ok (.invokestatic 215, 3) := by decide +kernel
theorem dX12_readPart_68 : decode cX12_readPart 68 = .ok (.invokevirtual 203, 3) := by decide +kernel
theorem dX12_readPart_71 : decode cX12_readPart 71 = .ok (.goto 47, 3) := by decide +kernel
theorem dX12_readPlain_0 : decode cX12_readPlain 0 = .ok (.iconst 1, 1) := by decide +kernel
theorem dX12_readPlain_1 : decode cX12_readPlain 1 = .ok (.istore_n 2, 1) := by decide +kernel
theorem dX12_readPlain_2 : decode cX12_readPlain 2 = .ok (.iload_n 2, 1) := by decide +kernel
theorem dX12_readPlain_3 : decode cX12_readPlain 3 = .ok (.ifCond .eq 13, 3) := by decide +kernel
theorem dX12_readPlain_16 : decode cX12_readPlain 16 = .ok (.aload_n 0, 1) := by decide +kernel
theorem dX12_readPlain_17 : decode cX12_readPlain 17 = .ok (.invokevirtual 183, 3) := by decide +kernel
theorem dX12_readPlain_20 : decode cX12_readPlain 20 = .ok (.ifCond .ne 4, 3) := by decide +kernel
theorem dX12_readPlain_24 : decode cX12_readPlain 24 = .ok (.aload_n 0, 1) := by decide +kernel
theorem dX12_readPlain_25 : decode cX12_readPlain 25 = .ok (.getfield 43, 3) := by decide +kernel
theorem dX12_readPlain_28 : decode cX12_readPlain 28 = .ok (.aload_n 0, 1) := by decide +kernel
theorem dX12_readPlain_29 : decode cX12_readPlain 29 = .ok (.getfield 187, 3) := by decide +kernel
theorem dX12_readPlain_32 : decode cX12_readPlain 32 = .ok (.iaload, 1) := by decide +kernel
theorem dX12_readPlain_33 : decode cX12_readPlain 33 = .ok (.istore_n 3, 1) := by decide +kernel
theorem dX12_readPlain_34 : decode cX12_readPlain 34 = .ok (.iload_n 3, 1) := by decide +kernel
theorem dX12_readPlain_35 : decode cX12_readPlain 35 = .ok (.bipush 40, 2) := by decide +kernel
theorem dX12_readPlain_37 : decode cX12_readPlain 37 = .ok (.invokestatic 215, 3) := by decide +kernel
theorem dX12_readPlain_40 : decode cX12_readPlain 40 = .ok (.if_icmp .ne 50, 3) := by decide +kernel
theorem dX12_readPlain_90 : decode cX12_readPlain 90 = .ok (.aload_n 0, 1) := by decide +kernel
theorem dX12_readPlain_91 : decode cX12_readPlain 91 = .ok (.iload_n 1, 1) := by decide +kernel
theorem dX12_readPlain_92 : decode cX12_readPlain 92 = .ok (.invokevirtual 199, 3) := by decide +kernel
theorem dX12_readPlain_95 : decode cX12_readPlain 95 = .ok (.aload_n 0, 1) := by decide +kernel
theorem dX12_readPlain_96 : decode cX12_readPlain 96 = .ok (.bipush 60, 2) := by decide +kernel
theorem dX12_readPlain_98 : decode cX12_readPlain 98 = .ok (.invokestatic 215, 3) := by decide +kernel
theorem dX12_readPlain_101 : decode cX12_readPlain 101 = .ok (.invokevirtual 190, 3) := by decide +kernel
theorem dX12_readPlain_104 : decode cX12_readPlain 104 = .ok (.ifCond .ne 24, 3) := by decide +kernel
theorem dX12_readPlain_128 : decode cX12_readPlain 128 = .ok (.aload_n 0, 1) := by decide +kernel
theorem dX12_readPlain_129 : decode cX12_readPlain 129 = .ok (.iload_n 1, 1) := by decide +kernel
theorem dX12_readPlain_130 : decode cX12_readPlain 130 = .ok (.invokevirtual 199, 3) := by decide +kernel
theorem dX12_readPlain_133 : decode cX12_readPlain 133 = .ok (.return_, 1) := by decide +kernel
theorem dX12_readPlain_107 : decode cX12_readPlain 107 = .ok (.aload_n 0, 1) := by decide +kernel
theorem dX12_readPlain_108 : decode cX12_readPlain 108 = .ok (.bipush 62, 2) := by decide +kernel
theorem dX12_readPlain_110 : decode cX12_readPlain 110 = .ok (.invokestatic 215, 3) := by decide +kernel
theorem dX12_readPlain_113 : decode cX12_readPlain 113 = .ok (.invokevirtual 190, 3) := by decide +kernel
theorem dX12_readPlain_116 : decode cX12_readPlain 116 = .ok (.ifCond .ne 12, 3) := by decide +kernel
theorem dX12_readPlain_119 : decode cX12_readPlain 119 = .ok (.aload_n 0, 1) := by decide +kernel
theorem dX12_readPlain_120 : decode cX12_readPlain 120 = .ok (.bipush 61, 2) := by decide +kernel
theorem dX12_readPlain_122 : decode cX12_readPlain 122 = .ok (.invokestatic 215, 3) := by decide +kernel
theorem dX12_readPlain_125 : decode cX12_readPlain 125 = .ok (.invokevirtual 203, 3) := by decide +kernel
theorem dX12_readPlain_43 : decode cX12_readPlain 43 = .ok (.iload_n 1, 1) := by decide +kernel
theorem dX12_readPlain_44 : decode cX12_readPlain 44 = .ok (.bipush 8, 2) := by decide +kernel
theorem dX12_readPlain_46 : decode cX12_readPlain 46 = .ok (.if_icmp .ne 7, 3) := by decide +kernel
theorem dX12_readPlain_49 : decode cX12_readPlain 49 = .ok (.aload_n 0, 1) := by decide +kernel
theorem dX12_readPlain_50 : decode cX12_readPlain 50 = .ok (.invokevirtual 193, 3) := by decide +kernel
theorem dX12_readPlain_53 : decode cX12_readPlain 53 = .ok (.aload_n 0, 1) := by decide +kernel
theorem dX12_readPlain_54 : decode cX12_readPlain 54 = .ok (.invokevirtual 183, 3) := by decide +kernel
theorem dX12_readPlain_57 : decode cX12_readPlain 57 = .ok (.ifCond .ne 4, 3) := by decide +kernel
theorem dX12_readPlain_60 : decode cX12_readPlain 60 = .ok (.return_, 1) := by decide +kernel
theorem dX12_readPlain_23 : decode cX12_readPlain 23 = .ok (.return_, 1) := by decide +kernel
theorem dX12_readPlain_6 : decode cX12_readPlain 6 = .ok (.aload_n 0, 1) := by decide +kernel
theorem dX12_readPlain_7 : decode cX12_readPlain 7 = .ok (.bipush 7, 2) := by decide +kernel
theorem dX12_readPlain_9 : decode cX12_readPlain 9 = .ok (.invokevirtual 190, 3) := by decide +kernel
theorem dX12_readPlain_12 : decode cX12_readPlain 12 = .ok (.istore_n 2, 1) := by decide +kernel
theorem dX12_readPlain_13 : decode cX12_readPlain 13 = .ok (.goto (-11), 3) := by decide +kernel
theorem dX12_readBoth_0 : decode cX12_readBoth 0 = .ok (.aload_n 0, 1) := by decide +kernel
theorem dX12_readBoth_1 : decode cX12_readBoth 1 = .ok (.iload_n 1, 1) := by decide +kernel
theorem dX12_readBoth_2 : decode cX12_readBoth 2 = .ok (.invokevirtual 212, 3) := by decide +kernel
theorem dX12_readBoth_5 : decode cX12_readBoth 5 = .ok (.aload_n 0, 1) := by decide +kernel
theorem dX12_readBoth_6 : decode cX12_readBoth 6 = .ok (.bipush 6, 2) := by decide +kernel
theorem dX12_readBoth_8 : decode cX12_readBoth 8 = .ok (.invokevirtual 190, 3) := by decide +kernel
theorem dX12_readBoth_11 : decode cX12_readBoth 11 = .ok (.ifCond .eq 11, 3) := by decide +kernel
theorem dX12_readBoth_14 : decode cX12_readBoth 14 = .ok (.aload_n 0, 1) := by decide +kernel
theorem dX12_readBoth_15 : decode cX12_readBoth 15 = .ok (.iload_n 1, 1) := by decide +kernel
theorem dX12_readBoth_16 : decode cX12_readBoth 16 = .ok (.invokevirtual 212, 3) := by decide +kernel
theorem dX12_readBoth_19 : decode cX12_readBoth 19 = .ok (.goto (-14), 3) := by decide +kernel
theorem dX12_readBoth_22 : decode cX12_readBoth 22 = .ok (.return_, 1) := by decide +kernel
theorem dX12_readTest_0 : decode cX12_readTest 0 = .ok (.aload_n 0, 1) := by decide +kernel
theorem dX12_readTest_1 : decode cX12_readTest 1 = .ok (.iload_n 1, 1) := by decide +kernel
theorem dX12_readTest_2 : decode cX12_readTest 2 = .ok (.invokevirtual 209, 3) := by decide +kernel
theorem dX12_readTest_5 : decode cX12_readTest 5 = .ok (.aload_n 0, 1) := by decide +kernel
theorem dX12_readTest_6 : decode cX12_readTest 6 = .ok (.iconst 5, 1) := by decide +kernel
theorem dX12_readTest_7 : decode cX12_readTest 7 = .ok (.invokevirtual 190, 3) := by decide +kernel
theorem dX12_readTest_10 : decode cX12_readTest 10 = .ok (.ifCond .eq 11, 3) := by decide +kernel
theorem dX12_readTest_13 : decode cX12_readTest 13 = .ok (.aload_n 0, 1) := by decide +kernel
theorem dX12_readTest_14 : decode cX12_readTest 14 = .ok (.iload_n 1, 1) := by decide +kernel
theorem dX12_readTest_15 : decode cX12_readTest 15 = .ok (.invokevirtual 209, 3) := by decide +kernel
theorem dX12_readTest_18 : decode cX12_readTest 18 = .ok (.goto (-13), 3) := by decide +kernel
theorem dX12_readTest_21 : decode cX12_readTest 21 = .ok (.return_, 1) := by decide +kernel
theorem dX12_readPlain_61 : decode cX12_readPlain 61 = .ok (.aload_n 0, 1) := by decide +kernel
theorem dX12_readPlain_62 : decode cX12_readPlain 62 = .ok (.dup, 1) := by decide +kernel
theorem dX12_readPlain_63 : decode cX12_readPlain 63 = .ok (.getfield 187, 3) := by decide +kernel
theorem dX12_readPlain_66 : decode cX12_readPlain 66 = .ok (.iconst 1, 1) := by decide +kernel
theorem dX12_readPlain_67 : decode cX12_readPlain 67 = .ok (.iadd, 1) := by decide +kernel
theorem dX12_readPlain_68 : decode cX12_readPlain 68 = .ok (.putfield 187, 3) := by decide +kernel
theorem dX12_readPlain_71 : decode cX12_readPlain 71 = .ok (.aload_n 0, 1) := by decide +kernel
theorem dX12_readPlain_72 : decode cX12_readPlain 72 = .ok (.iload_n 1, 1) := by decide +kernel
theorem dX12_readPlain_73 : decode cX12_readPlain 73 = .ok (.iconst 1, 1) := by decide +kernel
theorem dX12_readPlain_74 : decode cX12_readPlain 74 = .ok (.iadd, 1) := by decide +kernel
theorem dX12_readPlain_75 : decode cX12_readPlain 75 = .ok (.invokevirtual 206, 3) := by decide +kernel
theorem dX12_readPlain_78 : decode cX12_readPlain 78 = .ok (.aload_n 0, 1) := by decide +kernel
theorem dX12_readPlain_79 : decode cX12_readPlain 79 = .ok (.bipush 41, 2) := by decide +kernel
theorem dX12_readPlain_81 : decode cX12_readPlain 81 = .ok (.invokestatic 215, 3) := by decide +kernel
theorem dX12_readPlain_84 : decode cX12_readPlain 84 = .ok (.invokevirtual 203, 3) := by decide +kernel
theorem dX12_readPlain_87 : decode cX12_readPlain 87 = .ok (.goto 46, 3) := by decide +kernel
theorem dX12_readClause_0 : decode cX12_readClause 0 = .ok (.aload_n 0, 1) := by decide +kernel
theorem dX12_readClause_1 : decode cX12_readClause 1 = .ok (.iconst 1, 1) := by decide +kernel
theorem dX12_readClause_2 : decode cX12_readClause 2 = .ok (.invokevirtual 190, 3) := by decide +kernel
theorem dX12_readClause_5 : decode cX12_readClause 5 = .ok (.ifCond .eq 11, 3) := by decide +kernel
theorem dX12_readClause_8 : decode cX12_readClause 8 = .ok (.aload_n 0, 1) := by decide +kernel
theorem dX12_readClause_9 : decode cX12_readClause 9 = .ok (.iconst 0, 1) := by decide +kernel
theorem dX12_readClause_10 : decode cX12_readClause 10 = .ok (.invokevirtual 199, 3) := by decide +kernel
theorem dX12_readClause_13 : decode cX12_readClause 13 = .ok (.goto 16, 3) := by decide +kernel
theorem dX12_readClause_29 : decode cX12_readClause 29 = .ok (.aload_n 0, 1) := by decide +kernel
theorem dX12_readClause_30 : decode cX12_readClause 30 = .ok (.iconst 4, 1) := by decide +kernel
theorem dX12_readClause_31 : decode cX12_readClause 31 = .ok (.invokevirtual 190, 3) := by decide +kernel
theorem dX12_readClause_34 : decode cX12_readClause 34 = .ok (.ifCond .eq 8, 3) := by decide +kernel
theorem dX12_readClause_37 : decode cX12_readClause 37 = .ok (.aload_n 0, 1) := by decide +kernel
theorem dX12_readClause_38 : decode cX12_readClause 38 = .ok (.iconst 0, 1) := by decide +kernel
theorem dX12_readClause_39 : decode cX12_readClause 39 = .ok (.invokevirtual 206, 3) := by decide +kernel
theorem dX12_readClause_42 : decode cX12_readClause 42 = .ok (.return_, 1) := by decide +kernel
theorem dX12_readClause_16 : decode cX12_readClause 16 = .ok (.aload_n 0, 1) := by decide +kernel
theorem dX12_readClause_17 : decode cX12_readClause 17 = .ok (.iconst 2, 1) := by decide +kernel
theorem dX12_readClause_18 : decode cX12_readClause 18 = .ok (.invokevirtual 190, 3) := by decide +kernel
theorem dX12_readClause_21 : decode cX12_readClause 21 = .ok (.ifCond .ne 8, 3) := by decide +kernel
theorem dX12_readClause_24 : decode cX12_readClause 24 = .ok (.aload_n 0, 1) := by decide +kernel
theorem dX12_readClause_25 : decode cX12_readClause 25 = .ok (.iconst 3, 1) := by decide +kernel
theorem dX12_readClause_26 : decode cX12_readClause 26 = .ok (.invokevirtual 203, 3) := by decide +kernel
theorem dX12_reads_0 : decode cX12_reads 0 = .ok (.aload_n 0, 1) := by decide +kernel
theorem dX12_reads_1 : decode cX12_reads 1 = .ok (.aload_n 0, 1) := by decide +kernel
theorem dX12_reads_2 : decode cX12_reads 2 = .ok (.getfield 156, 3) := by decide +kernel
theorem dX12_reads_5 : decode cX12_reads 5 = .ok (.invokevirtual 228, 3) := by decide +kernel
theorem dX12_reads_8 : decode cX12_reads 8 = .ok (.aload_n 0, 1) := by decide +kernel
theorem dX12_reads_9 : decode cX12_reads 9 = .ok (.iconst 0, 1) := by decide +kernel
theorem dX12_reads_10 : decode cX12_reads 10 = .ok (.putfield 156, 3) := by decide +kernel
theorem dX12_reads_13 : decode cX12_reads 13 = .ok (.aload_n 0, 1) := by decide +kernel
theorem dX12_reads_14 : decode cX12_reads 14 = .ok (.iconst 0, 1) := by decide +kernel
theorem dX12_reads_15 : decode cX12_reads 15 = .ok (.putfield 187, 3) := by decide +kernel
theorem dX12_reads_18 : decode cX12_reads 18 = .ok (.aload_n 0, 1) := by decide +kernel
theorem dX12_reads_19 : decode cX12_reads 19 = .ok (.iconst 0, 1) := by decide +kernel
theorem dX12_reads_20 : decode cX12_reads 20 = .ok (.putfield 196, 3) := by decide +kernel
theorem dX12_reads_23 : decode cX12_reads 23 = .ok (.aload_n 0, 1) := by decide +kernel
theorem dX12_reads_24 : decode cX12_reads 24 = .ok (.iconst (-1), 1) := by decide +kernel
theorem dX12_reads_25 : decode cX12_reads 25 = .ok (.putfield 180, 3) := by decide +kernel
theorem dX12_reads_28 : decode cX12_reads 28 = .ok (.aload_n 0, 1) := by decide +kernel
theorem dX12_reads_29 : decode cX12_reads 29 = .ok (.invokevirtual 231, 3) := by decide +kernel
theorem dX12_reads_32 : decode cX12_reads 32 = .ok (.iconst 1, 1) := by decide +kernel
theorem dX12_reads_33 : decode cX12_reads 33 = .ok (.istore_n 1, 1) := by decide +kernel
theorem dX12_reads_34 : decode cX12_reads 34 = .ok (.aload_n 0, 1) := by decide +kernel
theorem dX12_reads_35 : decode cX12_reads 35 = .ok (.bipush 59, 2) := by decide +kernel
theorem dX12_reads_37 : decode cX12_reads 37 = .ok (.invokestatic 215, 3) := by decide +kernel
theorem dX12_reads_40 : decode cX12_reads 40 = .ok (.invokevirtual 190, 3) := by decide +kernel
theorem dX12_reads_43 : decode cX12_reads 43 = .ok (.ifCond .eq 30, 3) := by decide +kernel
theorem dX12_reads_46 : decode cX12_reads 46 = .ok (.iload_n 1, 1) := by decide +kernel
theorem dX12_reads_47 : decode cX12_reads 47 = .ok (.bipush 12, 2) := by decide +kernel
theorem dX12_reads_49 : decode cX12_reads 49 = .ok (.if_icmp .ne 7, 3) := by decide +kernel
theorem dX12_reads_56 : decode cX12_reads 56 = .ok (.aload_n 0, 1) := by decide +kernel
theorem dX12_reads_57 : decode cX12_reads 57 = .ok (.invokevirtual 183, 3) := by decide +kernel
theorem dX12_reads_60 : decode cX12_reads 60 = .ok (.ifCond .eq 7, 3) := by decide +kernel
theorem dX12_reads_63 : decode cX12_reads 63 = .ok (.aload_n 0, 1) := by decide +kernel
theorem dX12_reads_64 : decode cX12_reads 64 = .ok (.invokevirtual 231, 3) := by decide +kernel
theorem dX12_reads_67 : decode cX12_reads 67 = .ok (.iinc 1 1, 3) := by decide +kernel
theorem dX12_reads_70 : decode cX12_reads 70 = .ok (.goto (-36), 3) := by decide +kernel
theorem dX12_reads_52 : decode cX12_reads 52 = .ok (.aload_n 0, 1) := by decide +kernel
theorem dX12_reads_53 : decode cX12_reads 53 = .ok (.invokevirtual 193, 3) := by decide +kernel
theorem dX12_reads_73 : decode cX12_reads 73 = .ok (.aload_n 0, 1) := by decide +kernel
theorem dX12_reads_74 : decode cX12_reads 74 = .ok (.invokevirtual 183, 3) := by decide +kernel
theorem dX12_reads_77 : decode cX12_reads 77 = .ok (.ifCond .eq 18, 3) := by decide +kernel
theorem dX12_reads_80 : decode cX12_reads 80 = .ok (.aload_n 0, 1) := by decide +kernel
theorem dX12_reads_81 : decode cX12_reads 81 = .ok (.getfield 187, 3) := by decide +kernel
theorem dX12_reads_84 : decode cX12_reads 84 = .ok (.aload_n 0, 1) := by decide +kernel
theorem dX12_reads_85 : decode cX12_reads 85 = .ok (.getfield 165, 3) := by decide +kernel
theorem dX12_reads_88 : decode cX12_reads 88 = .ok (.if_icmp .ge 7, 3) := by decide +kernel
theorem dX12_reads_95 : decode cX12_reads 95 = .ok (.aload_n 0, 1) := by decide +kernel
theorem dX12_reads_96 : decode cX12_reads 96 = .ok (.aload_n 0, 1) := by decide +kernel
theorem dX12_reads_97 : decode cX12_reads 97 = .ok (.getfield 180, 3) := by decide +kernel
theorem dX12_reads_100 : decode cX12_reads 100 = .ok (.putfield 40, 3) := by decide +kernel
theorem dX12_reads_103 : decode cX12_reads 103 = .ok (.aload_n 0, 1) := by decide +kernel
theorem dX12_reads_104 : decode cX12_reads 104 = .ok (.invokevirtual 183, 3) := by decide +kernel
theorem dX12_reads_107 : decode cX12_reads 107 = .ok (.ireturn, 1) := by decide +kernel
theorem dX12_reads_91 : decode cX12_reads 91 = .ok (.aload_n 0, 1) := by decide +kernel
theorem dX12_reads_92 : decode cX12_reads 92 = .ok (.invokevirtual 193, 3) := by decide +kernel
theorem dX12_law_0 : decode cX12_law 0 = .ok (.aload_n 0, 1) := by decide +kernel
theorem dX12_law_1 : decode cX12_law 1 = .ok (.getfield 20, 3) := by decide +kernel
theorem dX12_law_4 : decode cX12_law 4 = .ok (.bipush 62, 2) := by decide +kernel
theorem dX12_law_6 : decode cX12_law 6 = .ok (.iaload, 1) := by decide +kernel
theorem dX12_law_7 : decode cX12_law 7 = .ok (.bipush 6, 2) := by decide +kernel
theorem dX12_law_9 : decode cX12_law 9 = .ok (.if_icmp .ne 15, 3) := by decide +kernel
theorem dX12_law_24 : decode cX12_law 24 = .ok (.aload_n 0, 1) := by decide +kernel
theorem dX12_law_25 : decode cX12_law 25 = .ok (.invokevirtual 234, 3) := by decide +kernel
theorem dX12_law_28 : decode cX12_law 28 = .ok (.ifCond .ne 10, 3) := by decide +kernel
theorem dX12_law_38 : decode cX12_law 38 = .ok (.aload_n 0, 1) := by decide +kernel
theorem dX12_law_39 : decode cX12_law 39 = .ok (.getfield 20, 3) := by decide +kernel
theorem dX12_law_42 : decode cX12_law 42 = .ok (.bipush 62, 2) := by decide +kernel
theorem dX12_law_44 : decode cX12_law 44 = .ok (.iaload, 1) := by decide +kernel
theorem dX12_law_45 : decode cX12_law 45 = .ok (.istore_n 1, 1) := by decide +kernel
theorem dX12_law_46 : decode cX12_law 46 = .ok (.aload_n 0, 1) := by decide +kernel
theorem dX12_law_47 : decode cX12_law 47 = .ok (.getfield 20, 3) := by decide +kernel
theorem dX12_law_50 : decode cX12_law 50 = .ok (.bipush 64, 2) := by decide +kernel
theorem dX12_law_52 : decode cX12_law 52 = .ok (.iload_n 1, 1) := by decide +kernel
theorem dX12_law_53 : decode cX12_law 53 = .ok (.iadd, 1) := by decide +kernel
theorem dX12_law_54 : decode cX12_law 54 = .ok (.aload_n 0, 1) := by decide +kernel
theorem dX12_law_55 : decode cX12_law 55 = .ok (.getfield 165, 3) := by decide +kernel
theorem dX12_law_58 : decode cX12_law 58 = .ok (.iastore, 1) := by decide +kernel
theorem dX12_law_59 : decode cX12_law 59 = .ok (.iconst 0, 1) := by decide +kernel
theorem dX12_law_60 : decode cX12_law 60 = .ok (.istore_n 2, 1) := by decide +kernel
theorem dX12_law_61 : decode cX12_law 61 = .ok (.iload_n 2, 1) := by decide +kernel
theorem dX12_law_62 : decode cX12_law 62 = .ok (.aload_n 0, 1) := by decide +kernel
theorem dX12_law_63 : decode cX12_law 63 = .ok (.getfield 165, 3) := by decide +kernel
theorem dX12_law_66 : decode cX12_law 66 = .ok (.if_icmp .ge 52, 3) := by decide +kernel
theorem dX12_law_118 : decode cX12_law 118 = .ok (.aload_n 0, 1) := by decide +kernel
theorem dX12_law_119 : decode cX12_law 119 = .ok (.getfield 20, 3) := by decide +kernel
theorem dX12_law_122 : decode cX12_law 122 = .ok (.bipush 62, 2) := by decide +kernel
theorem dX12_law_124 : decode cX12_law 124 = .ok (.dup2, 1) := by decide +kernel
theorem dX12_law_125 : decode cX12_law 125 = .ok (.iaload, 1) := by decide +kernel
theorem dX12_law_126 : decode cX12_law 126 = .ok (.iconst 1, 1) := by decide +kernel
theorem dX12_law_127 : decode cX12_law 127 = .ok (.iadd, 1) := by decide +kernel
theorem dX12_law_128 : decode cX12_law 128 = .ok (.iastore, 1) := by decide +kernel
theorem dX12_law_129 : decode cX12_law 129 = .ok (.aload_n 0, 1) := by decide +kernel
theorem dX12_law_130 : decode cX12_law 130 = .ok (.iload_n 1, 1) := by decide +kernel
theorem dX12_law_131 : decode cX12_law 131 = .ok (.invokevirtual 146, 3) := by decide +kernel
theorem dX12_law_134 : decode cX12_law 134 = .ok (.ireturn, 1) := by decide +kernel
theorem dX12_law_69 : decode cX12_law 69 = .ok (.aload_n 0, 1) := by decide +kernel
theorem dX12_law_70 : decode cX12_law 70 = .ok (.getfield 20, 3) := by decide +kernel
theorem dX12_law_73 : decode cX12_law 73 = .ok (.bipush 70, 2) := by decide +kernel
theorem dX12_law_75 : decode cX12_law 75 = .ok (.sipush 400, 3) := by decide +kernel
theorem dX12_law_78 : decode cX12_law 78 = .ok (.iload_n 1, 1) := by decide +kernel
theorem dX12_law_79 : decode cX12_law 79 = .ok (.imul, 1) := by decide +kernel
theorem dX12_law_80 : decode cX12_law 80 = .ok (.iadd, 1) := by decide +kernel
theorem dX12_law_81 : decode cX12_law 81 = .ok (.iload_n 2, 1) := by decide +kernel
theorem dX12_law_82 : decode cX12_law 82 = .ok (.iadd, 1) := by decide +kernel
theorem dX12_law_83 : decode cX12_law 83 = .ok (.aload_n 0, 1) := by decide +kernel
theorem dX12_law_84 : decode cX12_law 84 = .ok (.getfield 43, 3) := by decide +kernel
theorem dX12_law_87 : decode cX12_law 87 = .ok (.iload_n 2, 1) := by decide +kernel
theorem dX12_law_88 : decode cX12_law 88 = .ok (.iaload, 1) := by decide +kernel
theorem dX12_law_89 : decode cX12_law 89 = .ok (.iastore, 1) := by decide +kernel
theorem dX12_law_90 : decode cX12_law 90 = .ok (.aload_n 0, 1) := by decide +kernel
theorem dX12_law_91 : decode cX12_law 91 = .ok (.getfield 20, 3) := by decide +kernel
theorem dX12_law_94 : decode cX12_law 94 = .ok (.sipush 2470, 3) := by decide +kernel
theorem dX12_law_97 : decode cX12_law 97 = .ok (.sipush 400, 3) := by decide +kernel
theorem dX12_law_100 : decode cX12_law 100 = .ok (.iload_n 1, 1) := by decide +kernel
theorem dX12_law_101 : decode cX12_law 101 = .ok (.imul, 1) := by decide +kernel
theorem dX12_law_102 : decode cX12_law 102 = .ok (.iadd, 1) := by decide +kernel
theorem dX12_law_103 : decode cX12_law 103 = .ok (.iload_n 2, 1) := by decide +kernel
theorem dX12_law_104 : decode cX12_law 104 = .ok (.iadd, 1) := by decide +kernel
theorem dX12_law_105 : decode cX12_law 105 = .ok (.aload_n 0, 1) := by decide +kernel
theorem dX12_law_106 : decode cX12_law 106 = .ok (.getfield 46, 3) := by decide +kernel
theorem dX12_law_109 : decode cX12_law 109 = .ok (.iload_n 2, 1) := by decide +kernel
theorem dX12_law_110 : decode cX12_law 110 = .ok (.iaload, 1) := by decide +kernel
theorem dX12_law_111 : decode cX12_law 111 = .ok (.iastore, 1) := by decide +kernel
theorem dX12_law_112 : decode cX12_law 112 = .ok (.iinc 2 1, 3) := by decide +kernel
theorem dX12_law_115 : decode cX12_law 115 = .ok (.goto (-54), 3) := by decide +kernel
theorem dX12_law_31 : decode cX12_law 31 = .ok (.aload_n 0, 1) := by decide +kernel
theorem dX12_law_32 : decode cX12_law 32 = .ok (.bipush (-6), 2) := by decide +kernel
theorem dX12_law_34 : decode cX12_law 34 = .ok (.invokevirtual 142, 3) := by decide +kernel
theorem dX12_law_37 : decode cX12_law 37 = .ok (.ireturn, 1) := by decide +kernel
theorem dX12_law_12 : decode cX12_law 12 = .ok (.aload_n 0, 1) := by decide +kernel
theorem dX12_law_13 : decode cX12_law 13 = .ok (.iconst 0, 1) := by decide +kernel
theorem dX12_law_14 : decode cX12_law 14 = .ok (.putfield 156, 3) := by decide +kernel
theorem dX12_law_17 : decode cX12_law 17 = .ok (.aload_n 0, 1) := by decide +kernel
theorem dX12_law_18 : decode cX12_law 18 = .ok (.bipush (-5), 2) := by decide +kernel
theorem dX12_law_20 : decode cX12_law 20 = .ok (.invokevirtual 142, 3) := by decide +kernel
theorem dX12_law_23 : decode cX12_law 23 = .ok (.ireturn, 1) := by decide +kernel
theorem v_239afdb154 : (1 : Int) ≤ 0 + 1 := by omega
theorem v_a72e6585c5 : (0 : Int) ≤ 74 := by omega
theorem v_b6c3fc2b1b {a0 : Int} (h0 : ¬ 73 ≤ a0) : a0 + 0 ≤ 72 := by omega
theorem v_87a0c2803a {a0 a1 : Int} (h0 : a0 + a1 ≤ 72) : a0 + a1 < 73 := by omega
theorem v_9f0444dcde {a0 : Int} (h0 : -128 ≤ a0) (h1 : a0 ≤ 127) : zr a0 := by omega
theorem v_306c626fe1 {a0 a1 : Int} (h0 : 0 ≤ a0) (h1 : 0 ≤ a1) (h2 : a0 + a1 ≤ 72) : zr a1 := by omega
theorem v_59e23d775d {a0 a1 : Int} (h0 : 0 ≤ a0) (h1 : a0 < a1) (h2 : a1 ≤ 400) : zr ((-a0 + a1)) := by omega
theorem v_25e32e61f5 {a0 a1 a2 : Int} (h0 : 0 ≤ a0) (h1 : a0 + a1 ≤ 72) (h2 : 0 ≤ a2) (h3 : a2 ≤ a1) : zr a2 := by omega
theorem v_c5d7dc4228 {a0 a1 : Int} : a0 + (a1 + 1) = a0 + a1 + 1 := by omega
theorem v_5f4f1497ae {a0 a1 : Int} (h0 : 0 ≤ a0) (h1 : 0 ≤ a1) : 0 ≤ (a0 + a1 + 1) := by omega
theorem v_70af67d8ef {a0 a1 : Int} (h0 : a0 + a1 ≤ 72) : (a0 + a1 + 1) ≤ 73 := by omega
theorem v_d307c46c80 {a0 a1 a2 : Int} (h0 : a0 ≤ a1 + 1) (h1 : 0 ≤ a2) : (a0 + 1) ≤ (a1 + a2 + 1) + 1 := by omega
theorem v_3738451a2d {a0 a1 : Int} (h0 : 0 ≤ a0) : 73 - (a1 + a0 + 1) < (73 - a1) := by omega
theorem v_8c6932468a {a0 a1 : Int} (h0 : a0 ≤ a1 + 1) (h1 : ¬ 73 ≤ a1) : a0 ≤ 74 := by omega
theorem v_8d0a08ae71 {a0 a1 : Int} (h0 : 0 ≤ a0) (h1 : 0 ≤ a1) : 0 ≤ a1 + a0 := by omega
theorem v_71dbedcf00 {a0 a1 a2 : Int} (h0 : a0 + a1 ≤ 72) (h1 : ¬ a1 ≤ a2) : a2 + a0 < 73 := by omega
theorem v_927234a32d {a0 a1 a2 a3 : Int} (h0 : ¬ a0 = -a1 + a2) (h1 : a0 = a2 - a1) : a1 + a3 < 400 := by omega
theorem v_d4200dde05 {a0 a1 a2 : Int} (h0 : a0 = a1 - a2) : a0 = a1 - a2 := by omega
theorem v_a5cd88ec76 {a0 a1 a2 : Int} (h0 : a0 = -a1 + a2) : a0 = a2 - a1 := by omega
theorem v_183418542f {a0 a1 a2 a3 : Int} (h0 : a0 ≤ 400) (h1 : a1 = -a2 + a0) (h2 : ¬ a1 ≤ a3) : a2 + a3 < 400 := by omega
theorem v_43cd7fe7e1 {a0 : Int} (h0 : ¬ a0 = 32) : ¬ a0 = 32 := by omega
theorem v_fb40b5f825 {a0 a1 : Int} (h0 : a0 + a1 ≤ 72) (h1 : ¬ a0 + a1 = 72) : a0 + (a1 + 1) ≤ 72 := by omega
theorem v_9f68b0a7cb {a0 : Int} : 72 - (a0 + 1) < (72 - a0) := by omega
theorem v_d47ff0d44a {a0 a1 : Int} (h0 : 0 ≤ a0) (h1 : a0 + a1 ≤ 72) (h2 : ¬ a0 + a1 = 72) : 0 < 72 - a1 := by omega
theorem v_fe70e52a1d {a0 a1 : Int} (h0 : a0 ≤ 400) (h1 : 0 ≤ a1) (h2 : a1 ≤ a0) : zr a1 := by omega
theorem v_0a223a9f0c {a0 a1 a2 : Int} (h0 : a0 ≤ 400) (h1 : a1 ≤ a0) (h2 : a2 ≤ a1) : a2 < 401 := by omega
theorem v_43eb7f5245 {a0 : Int} (h0 : a0 ≤ 400) : a0 ≤ 400 := by omega
theorem v_10fe62569b {a0 a1 a2 : Int} (h0 : a0 ≤ 400) (h1 : a1 ≤ a2) (h2 : ¬ a0 ≤ a2) : a1 < 401 := by omega
theorem v_a765b69cab {a0 a1 : Int} (h0 : a0 ≤ 400) (h1 : ¬ a0 ≤ a1) : a1 ≤ 400 := by omega
theorem v_093a9fe13f {a0 : Int} (h0 : a0 ≤ 1000) : a0 ≤ 2147483647 := by omega
theorem v_c771ab5f01 {a0 a1 : Int} (h0 : a0 < a1) : a0 ≤ a1 := by omega
theorem v_cc962fa438 {a0 a1 a2 a3 : Int} (h0 : a0 ≤ 400) (h1 : 0 ≤ a1) (h2 : a2 ≤ a0) (h3 : a1 ≤ a3) (h4 : a3 ≤ a2) : zr a3 := by omega
theorem v_9b547f99e7 {a0 a1 a2 : Int} (h0 : a0 ≤ 400) (h1 : 0 ≤ a1) (h2 : a1 < a2) (h3 : a2 ≤ a0) : zr a2 := by omega
theorem v_b92a3efe88 {a0 a1 a2 : Int} (h0 : a0 ≤ a1) (h1 : a1 < a2) : (a0 + 1) ≤ a2 := by omega
theorem v_c3e48321de {a0 a1 a2 : Int} (h0 : a0 < a1) : a2 - a1 < (a2 - a0) := by omega
theorem v_20c92bdfcf {a0 : Int} (h0 : a0 ≤ 255) : (a0 + 100) ≤ 1000 := by omega
theorem v_4874b52341 : (50 : Int) ≤ 1000 := by omega
theorem v_60c21438e1 {a0 a1 : Int} (h0 : a0 ≤ 400) (h1 : a1 ≤ a0) : a1 ≤ 400 := by omega
theorem v_b838735079 {a0 : Int} (h0 : a0 ≤ 74) : a0 ≤ 1000 := by omega
theorem v_4c18786791 {a0 : Int} (h0 : -1 ≤ a0) (h1 : a0 ≤ 400) : zr a0 := by omega
theorem v_5bf06d1e5f {a0 a1 : Int} (h0 : a0 ≤ a1) (h1 : a1 ≤ 400) : a0 < 401 := by omega
theorem v_4150a4b237 {a0 : Int} (h0 : 1 ≤ a0) (h1 : a0 ≤ 1000) : zr a0 := by omega
theorem v_01d374d2de {a0 : Int} (h0 : 0 ≤ a0) (h1 : a0 ≤ 401) : zr a0 := by omega
theorem v_221c0ce955 {a0 : Int} (h0 : a0 = -1) (h1 : 0 ≤ a0) : False := by omega
theorem v_a2a49c9ec0 {a0 : Int} (h0 : 0 ≤ a0) (h1 : a0 = -1) : False := by omega
theorem v_0a3e555e5b {a0 : Int} (h0 : a0 ≤ 2147483647) (h1 : ¬ a0 < 8) : zr a0 := by omega
theorem v_a632db44ba : zr 15 := by omega
theorem v_a8c2b63a84 {a0 : Int} (h0 : ¬ a0 < 8) : 1 ≤ a0 := by omega
theorem v_e190598c65 {a0 a1 a2 a3 : Int} (h0 : a0 ≤ 400) (h1 : a1 ≤ a2 + 1000 * a3 + 1000) (h2 : a3 = -1) (h3 : a2 < a0) : a1 ≤ 401 := by omega
theorem v_71890b841f {a0 a1 : Int} (h0 : a0 = a1 + 1) : a1 < a0 := by omega
theorem v_e8af0b4480 {a0 a1 a2 : Int} (h0 : a0 < a1) (h1 : a2 = a0 + 1) : a2 ≤ a1 := by omega
theorem v_1fd7a756fc {a0 : Int} (h0 : ¬ a0 < 8) : 8 ≤ a0 := by omega
theorem v_df5a905ab2 {a0 : Int} (h0 : ¬ 15 < a0) : a0 ≤ 15 := by omega
theorem v_d104ce6a3a {a0 a1 a2 a3 a4 : Int} (h0 : a0 ≤ a1 + 1000 * a2 + 1000) (h1 : a2 = -1) (h2 : a3 = a1 + 1) (h3 : a4 = a0 + 1) : a4 ≤ a3 := by omega
theorem v_0f86b4f4eb {a0 a1 a2 : Int} (h0 : a0 < a1) (h1 : a2 = a0) : a2 ≤ a1 := by omega
theorem v_b2ebba5f83 {a0 a1 a2 a3 a4 : Int} (h0 : a0 ≤ 400) (h1 : a1 ≤ a2 + 1000 * a3 + 1000) (h2 : a3 = -1) (h3 : a2 < a0) (h4 : a4 = a1 + 1) : a4 ≤ 402 := by omega
theorem v_bdf8547ff0 {a0 : Int} (h0 : a0 = 50) : 1 ≤ a0 := by omega
theorem v_7553af4adb {a0 : Int} (h0 : a0 = 50) : a0 = 50 := by omega
theorem v_496602b076 {a0 : Int} (h0 : a0 = 50) : zr a0 := by omega
theorem v_b08c1fdfde {a0 : Int} (h0 : a0 = 50) : ¬ a0 < 8 := by omega
theorem v_ac03b84f58 {a0 : Int} (h0 : a0 = 50) : 15 < a0 := by omega
theorem v_bc0c2646ae {a0 : Int} (h0 : a0 = -1) : -1 ≤ a0 := by omega
theorem v_a6725f25e8 {a0 : Int} (h0 : a0 = -1) : a0 ≤ 400 := by omega
theorem v_778db8d1be {a0 a1 a2 : Int} (h0 : a0 ≤ 400) (h1 : a1 ≤ a0) (h2 : a2 ≤ a1) : a2 ≤ 402 := by omega
theorem v_cb9e70f6f7 {a0 a1 a2 : Int} (h0 : a0 = -1) (h1 : a1 ≤ a2) : a1 ≤ a2 + 1000 * a0 + 1000 := by omega
theorem v_be84312a04 {a0 : Int} (h0 : a0 = 42 + 100) : 1 ≤ a0 := by omega
theorem v_8c70c87066 {a0 : Int} (h0 : a0 = 42 + 100) : a0 ≤ 1000 := by omega
theorem v_49f85faddc {a0 a1 a2 : Int} (h0 : 0 ≤ a0) (h1 : a0 ≤ a1) (h2 : a2 = a1 + 1) : 0 ≤ a2 := by omega
theorem v_b6e00daf3f {a0 a1 a2 a3 : Int} (h0 : a0 ≤ a1 + 1000 * a2 + 1000) (h1 : a3 = a1 + 1) : a0 ≤ a3 + 1000 * a2 + 1000 := by omega
theorem v_9e8572ccbd {a0 a1 a2 a3 : Int} (h0 : a0 ≤ a1) (h1 : a2 = a1 + 1) (h2 : a2 < a3) : a0 ≤ a3 := by omega
theorem v_1500549be1 {a0 : Int} (h0 : a0 = 42 + 100) : a0 = 142 := by omega
theorem v_2e78a692fc {a0 a1 a2 : Int} (h0 : a0 = a1 + 1) (h1 : a0 < a2) : a1 < a2 := by omega
theorem v_64faee003a {a0 a1 a2 a3 : Int} (h0 : a0 = a1 + 1) (h1 : a0 < a2) : a3 - a2 < (a3 - a1) := by omega
theorem v_3cd32163cd {a0 a1 : Int} (h0 : a0 < a1) : 0 < a1 - a0 := by omega
theorem v_f9f6ac3c48 {a0 a1 a2 a3 : Int} (h0 : a0 ≤ a1) (h1 : a2 = a1 + 1) (h2 : a2 ≤ a3) : a0 ≤ a3 := by omega
theorem v_85f529c18f {a0 a1 a2 a3 a4 a5 : Int} (h0 : 0 ≤ a0) (h1 : a0 ≤ a1) (h2 : a2 = a1 + 1) (h3 : 0 ≤ a3) (h4 : a2 ≤ a4) (h5 : a5 ≤ 402) : a5 ≤ a4 + 1000 * a3 + 1000 := by omega
theorem v_46068e056c {a0 a1 a2 a3 : Int} (h0 : a0 = a1 + 1) (h1 : a0 ≤ a2) : a3 - a2 < (a3 - a1) := by omega
theorem v_14fa416972 {a0 : Int} (h0 : a0 = 47 + 100) : 1 ≤ a0 := by omega
theorem v_78d3fd05d2 {a0 : Int} (h0 : a0 = 47 + 100) : a0 ≤ 1000 := by omega
theorem v_963e78d969 {a0 : Int} (h0 : a0 = 47 + 100) : a0 = 147 := by omega
theorem v_0471d920d5 {a0 a1 a2 : Int} (h0 : a0 ≤ a1 + 1000 * a2 + 1000) (h1 : a2 = -1) : a0 ≤ a1 := by omega
theorem v_53027a106b {a0 a1 a2 a3 : Int} (h0 : 0 ≤ a0) (h1 : 0 ≤ a1) (h2 : a0 ≤ a2) (h3 : a3 ≤ 402) : a3 ≤ a2 + 1000 * a1 + 1000 := by omega
theorem v_18e862bf09 {a0 : Int} (h0 : a0 = 43 + 100) : 1 ≤ a0 := by omega
theorem v_1634217108 {a0 : Int} (h0 : a0 = 43 + 100) : a0 ≤ 1000 := by omega
theorem v_b4c0db470d {a0 : Int} (h0 : a0 = 43 + 100) : a0 = 143 := by omega
theorem v_7673703eeb {a0 : Int} (h0 : a0 = 45 + 100) : 1 ≤ a0 := by omega
theorem v_941794293e {a0 : Int} (h0 : a0 = 45 + 100) : a0 ≤ 1000 := by omega
theorem v_7912200c83 {a0 : Int} (h0 : a0 = 45 + 100) : a0 = 145 := by omega
theorem v_16d557e200 {a0 a1 : Int} (h0 : a0 = 91 + 100) (h1 : a1 = a0) : 1 ≤ a1 := by omega
theorem v_0b2d6cdcfa {a0 a1 a2 : Int} (h0 : a0 ≤ a1 + 1000 * a2 + 1000) : a0 ≤ (a1 + 1) + 1000 * a2 + 1000 := by omega
theorem v_fd33bc4904 {a0 : Int} (h0 : a0 = 93 + 100) : 1 ≤ a0 := by omega
theorem v_718c2b3a18 {a0 : Int} (h0 : a0 = 93 + 100) : a0 ≤ 1000 := by omega
theorem v_3733b53a12 {a0 a1 : Int} (h0 : 0 ≤ a0) (h1 : (a0 + 1) < a1) : 0 ≤ a1 := by omega
theorem v_58358923e5 {a0 a1 a2 : Int} (h0 : (a0 + 1) < a1) (h1 : a2 = a1 + 1) : a0 < a2 := by omega
theorem v_8439598d74 {a0 a1 : Int} (h0 : a0 = 91 + 100) (h1 : a1 = a0) : a1 = 191 := by omega
theorem v_bddb8fd193 {a0 a1 : Int} (h0 : (a0 + 1) < a1) : (a0 + 1) < a1 := by omega
theorem v_2133ac244c {a0 a1 : Int} (h0 : (a0 + 1) < a1) : a0 ≤ a1 := by omega
theorem v_9f8b22de4f {a0 a1 : Int} (h0 : 0 ≤ a0) (h1 : (a0 + 1) ≤ a1) : 0 ≤ a1 := by omega
theorem v_731e4f4f14 {a0 a1 : Int} (h0 : (a0 + 1) ≤ a1) : a0 ≤ a1 := by omega
theorem v_6ceb54a76d : ¬ (5 : Int) = 8 := by omega
theorem v_a21600c841 : ¬ (4 : Int) = 8 := by omega
theorem v_a20d3171e5 : ¬ (3 : Int) = 8 := by omega
theorem v_afb8a9ed43 : ¬ (2 : Int) = 8 := by omega
theorem v_4f6be69248 : ¬ (1 : Int) = 8 := by omega
theorem v_086d3269cd : ¬ (0 : Int) = 8 := by omega
theorem v_726563b236 {a0 a1 : Int} (h0 : a0 ≤ 400) (h1 : a1 ≤ a0) : a1 < 401 := by omega
theorem v_901ca88be1 {a0 a1 a2 a3 : Int} (h0 : a0 ≤ a1 + 1000 * a2 + 1000) (h1 : a1 ≤ a3) : a0 ≤ a3 + 1000 * a2 + 1000 := by omega
theorem v_6c3e05c0e6 {a0 : Int} (h0 : a0 = 60 + 100) : 1 ≤ a0 := by omega
theorem v_2553e652d7 {a0 : Int} (h0 : a0 = 60 + 100) : a0 ≤ 1000 := by omega
theorem v_ebb0154c8a {a0 a1 a2 : Int} (h0 : a0 ≤ 400) (h1 : a1 ≤ a2) (h2 : a2 < a0) : a1 ≤ 402 := by omega
theorem v_561df3362b {a0 a1 a2 a3 : Int} (h0 : a0 = -1) (h1 : a1 ≤ a2) (h2 : a3 = a2 + 1) : a1 ≤ a3 + 1000 * a0 + 1000 := by omega
theorem v_1bba1a0ec6 {a0 a1 a2 a3 a4 : Int} (h0 : a0 ≤ a1) (h1 : a1 < a2) (h2 : a3 = a2 + 1) (h3 : a3 < a4) : a0 < a4 := by omega
theorem v_8f20fd709a {a0 a1 : Int} (h0 : a0 = 40 + 100) (h1 : ¬ a1 = a0) : ¬ a1 = 140 := by omega
theorem v_e9b28f9f33 {a0 a1 a2 : Int} (h0 : a0 = a1 + 1) (h1 : a0 < a2) : a1 + 1 < a2 := by omega
theorem v_658b4bb6bd {a0 a1 a2 a3 : Int} (h0 : a0 < a1) (h1 : a2 = a1 + 1) (h2 : a2 < a3) : a0 < a3 := by omega
theorem v_f446d2d6b5 {a0 a1 a2 a3 a4 : Int} (h0 : a0 ≤ a1) (h1 : a1 < a2) (h2 : a3 = a2 + 1) (h3 : a3 ≤ a4) : a0 ≤ a4 := by omega
theorem v_c479e0c24f {a0 : Int} (h0 : a0 = 62 + 100) : 1 ≤ a0 := by omega
theorem v_74d5027c43 {a0 : Int} (h0 : a0 = 62 + 100) : a0 ≤ 1000 := by omega
theorem v_8ca21f59b2 {a0 : Int} (h0 : a0 = 61 + 100) : 1 ≤ a0 := by omega
theorem v_a86ddf98ca {a0 : Int} (h0 : a0 = 61 + 100) : a0 ≤ 1000 := by omega
theorem v_6e0241711f {a0 a1 a2 : Int} (h0 : a0 ≤ a1) (h1 : 0 ≤ a2) : a0 ≤ a1 + 1000 * a2 + 1000 := by omega
theorem v_aed55dcd5d {a0 a1 a2 a3 : Int} (h0 : a0 ≤ a1) (h1 : a1 < a2) (h2 : a2 ≤ a3) : a0 ≤ a3 := by omega
theorem v_ed26d2dbc1 {a0 a1 a2 a3 a4 : Int} (h0 : 0 ≤ a0) (h1 : a0 ≤ a1) (h2 : a1 ≤ a2) (h3 : a3 ≤ 402) (h4 : 0 ≤ a4) : a3 ≤ a2 + 1000 * a4 + 1000 := by omega
theorem v_772f3f2b83 {a0 a1 a2 a3 : Int} (h0 : a0 ≤ a1) (h1 : a1 ≤ a2) (h2 : a2 ≤ a3) : a0 ≤ a3 := by omega
theorem v_77b8b50378 : (1 : Int) ≤ 7 := by omega
theorem v_7dd687de96 : (7 : Int) ≤ 1000 := by omega
theorem v_7b1bbc998d {a0 a1 a2 a3 : Int} (h0 : 0 ≤ a0) (h1 : a1 = a2 + 1) : 2 * a3 - 2 * a1 + 1 < (2 * a3 - 2 * a2 + a0) := by omega
theorem v_871f2ca4be {a0 a1 a2 : Int} (h0 : 0 ≤ a0) (h1 : a1 < a2) : 0 < 2 * a2 - 2 * a1 + a0 := by omega
theorem v_37d0265ea1 {a0 a1 a2 : Int} (h0 : 0 ≤ a0) (h1 : ¬ a0 = 0) : 2 * a1 - 2 * a2 + 0 < (2 * a1 - 2 * a2 + a0) := by omega
theorem v_387e0fe497 {a0 a1 a2 : Int} (h0 : a0 ≤ a1) (h1 : 0 ≤ a2) (h2 : ¬ a2 = 0) : 0 < 2 * a1 - 2 * a0 + a2 := by omega
theorem v_a8cd7e4e20 : (1 : Int) ≤ 6 := by omega
theorem v_9e1aeb6638 : (6 : Int) ≤ 1000 := by omega
theorem v_693b600e59 : (1 : Int) ≤ 5 := by omega
theorem v_7f81318dc8 : (5 : Int) ≤ 1000 := by omega
theorem v_c4c2d7ba14 {a0 a1 : Int} (h0 : a0 = 40 + 100) (h1 : a1 = a0) : 1 ≤ a1 := by omega
theorem v_e9de9817ba {a0 a1 a2 a3 : Int} (h0 : a0 ≤ a1 + 1000 * a2 + 1000) (h1 : a1 ≤ a3) : a0 ≤ (a3 + 1) + 1000 * a2 + 1000 := by omega
theorem v_aa7b5552cf {a0 : Int} (h0 : a0 = 41 + 100) : 1 ≤ a0 := by omega
theorem v_eb0f306a8c {a0 : Int} (h0 : a0 = 41 + 100) : a0 ≤ 1000 := by omega
theorem v_97a3dbdaf9 {a0 a1 a2 a3 : Int} (h0 : a0 ≤ a1) (h1 : (a1 + 1) < a2) (h2 : a3 = a2 + 1) : a0 < a3 := by omega
theorem v_ee04823b00 {a0 a1 : Int} (h0 : a0 = 40 + 100) (h1 : a1 = a0) : a1 = 140 := by omega
theorem v_afcb625472 {a0 a1 a2 : Int} (h0 : a0 ≤ a1) (h1 : (a1 + 1) < a2) : a0 ≤ a2 := by omega
theorem v_119a83f5f3 {a0 a1 a2 : Int} (h0 : 0 ≤ a0) (h1 : a0 ≤ a1) (h2 : (a1 + 1) ≤ a2) : 0 ≤ a2 := by omega
theorem v_c0574bcc52 {a0 a1 a2 : Int} (h0 : a0 ≤ a1) (h1 : (a1 + 1) ≤ a2) : a0 ≤ a2 := by omega
theorem v_5d749c048a : (1 : Int) ≤ 1000 := by omega
theorem v_9767b8a520 : (1 : Int) ≤ 4 := by omega
theorem v_e576b96f77 : (4 : Int) ≤ 1000 := by omega
theorem v_3f5d23a99b {a0 a1 a2 a3 a4 : Int} (h0 : a0 = a1 + 1) (h1 : a0 < a2) (h2 : a3 = a2 + 1) (h3 : a3 < a4) : a1 < a4 := by omega
theorem v_5ff9bd6c5c {a0 a1 a2 a3 a4 : Int} (h0 : a0 = a1 + 1) (h1 : a0 < a2) (h2 : a3 = a2 + 1) (h3 : a3 ≤ a4) : a1 ≤ a4 := by omega
theorem v_6e25b22089 {a0 a1 a2 : Int} (h0 : 0 ≤ a0) (h1 : a1 = a0 + 1) (h2 : a1 ≤ a2) : 0 ≤ a2 := by omega
theorem v_d94313a5cc {a0 a1 a2 : Int} (h0 : a0 = a1 + 1) (h1 : a0 ≤ a2) : a1 ≤ a2 := by omega
theorem v_2aaff6d6c0 : (2 : Int) ≤ 1000 := by omega
theorem v_b3785fe0f4 {a0 a1 a2 : Int} (h0 : 0 ≤ a0) (h1 : a1 = a0 + 1) (h2 : a2 = a1 + 1) : 0 ≤ a2 := by omega
theorem v_f71e266f69 {a0 a1 a2 a3 a4 : Int} (h0 : a0 ≤ a1 + 1000 * a2 + 1000) (h1 : a3 = a1 + 1) (h2 : a4 = a3 + 1) : a0 ≤ a4 + 1000 * a2 + 1000 := by omega
theorem v_0142733c85 {a0 a1 a2 a3 : Int} (h0 : a0 = a1 + 1) (h1 : a2 = a0 + 1) (h2 : a2 < a3) : a1 < a3 := by omega
theorem v_9752b38622 {a0 a1 a2 a3 : Int} (h0 : a0 = a1 + 1) (h1 : a2 = a0 + 1) (h2 : a2 ≤ a3) : a1 ≤ a3 := by omega
theorem v_9027821e8b {a0 a1 a2 a3 : Int} (h0 : a0 ≤ a1 + 1000 * a2 + 1000) (h1 : a2 = -1) (h2 : a3 = a1 + 1) : a0 ≤ a3 := by omega
theorem v_7219ba3e6d : (1 : Int) ≤ 3 := by omega
theorem v_e49a20d242 : (3 : Int) ≤ 1000 := by omega
theorem v_6b14423cfb : (-(1 : Int)) ≤ 400 := by omega
theorem v_b5f18def18 : (0 : Int) ≤ 402 := by omega
theorem v_b8bfebc8e3 : (0 : Int) ≤ 0 + 1000 * (-1) + 1000 := by omega
theorem v_a7d7c58384 {a0 : Int} (h0 : 0 < a0) : 0 ≤ a0 := by omega
theorem v_a2227b4c55 {a0 a1 a2 a3 : Int} (h0 : a0 ≤ 400) (h1 : a1 ≤ a0) (h2 : a2 ≤ a1) (h3 : a3 ≤ a2) : a3 ≤ 402 := by omega
theorem v_bffab168c0 {a0 : Int} (h0 : 0 < a0) : 1 ≤ a0 + 1 := by omega
theorem v_8f660c35c5 {a0 : Int} (h0 : 0 < a0) : 0 < a0 := by omega
theorem v_099ec4ebaa {a0 : Int} (h0 : a0 = 59 + 100) : 1 ≤ a0 := by omega
theorem v_7fb69dfd30 {a0 : Int} (h0 : a0 = 59 + 100) : a0 ≤ 1000 := by omega
theorem v_d24a1bd909 {a0 a1 a2 a3 : Int} (h0 : a0 ≤ 400) (h1 : a1 ≤ a0) (h2 : 1 ≤ a2) (h3 : a2 ≤ a3 + 1) (h4 : a3 < a1) : zr a2 := by omega
theorem v_bd6a7733b4 {a0 a1 a2 a3 : Int} (h0 : a0 ≤ a1 + 1) (h1 : a2 = a1 + 1) (h2 : a2 < a3) : (a0 + 1) ≤ a3 + 1 := by omega
theorem v_34f0e05218 {a0 a1 a2 a3 a4 : Int} (h0 : 0 ≤ a0) (h1 : a1 = a0 + 1) (h2 : 0 ≤ a2) (h3 : a1 ≤ a3) (h4 : a4 ≤ 402) : a4 ≤ a3 + 1000 * a2 + 1000 := by omega
theorem v_7a565ca9ff {a0 a1 a2 a3 : Int} (h0 : a0 ≤ a1 + 1) (h1 : a2 = a1 + 1) (h2 : a2 ≤ a3) : (a0 + 1) ≤ a3 + 1 := by omega
theorem v_141ef4c7e8 {a0 a1 a2 a3 a4 : Int} (h0 : a0 ≤ a1 + 1000 * a2 + 1000) (h1 : a2 = -1) (h2 : a3 = a1 + 1) (h3 : 0 ≤ a4) : a0 ≤ a3 + 1000 * a4 + 1000 := by omega
theorem v_cc2b2ba440 {a0 : Int} (h0 : a0 = 12) : 1 ≤ (a0 + 1) := by omega
theorem v_2ea152428e {a0 a1 a2 : Int} (h0 : a0 ≤ a1 + 1) (h1 : a2 = a1 + 1) : (a0 + 1) ≤ a2 + 1 := by omega
theorem v_b871729e89 {a0 a1 a2 : Int} (h0 : a0 = a1 + 1) : a2 - a0 < (a2 - a1) := by omega
theorem v_ffa35c7652 {a0 a1 a2 : Int} (h0 : a0 ≤ 400) (h1 : a1 ≤ a0) (h2 : 0 ≤ a2) (h3 : a2 ≤ a1) : zr a2 := by omega
theorem v_67f37b2703 {a0 a1 a2 : Int} (h0 : 0 ≤ a0) (h1 : 0 ≤ a1) (h2 : a2 ≤ 402) : a2 ≤ a1 + 1000 * a0 + 1000 := by omega
theorem v_a0d4dadaf6 {a0 : Int} (h0 : 0 ≤ a0) : 1 ≤ a0 + 1 := by omega
theorem v_21be210e13 {a0 a1 : Int} (h0 : 0 ≤ a0) (h1 : a0 = a1) : 0 ≤ a1 + 64 := by omega
theorem v_fdbd1f8d6a {a0 a1 : Int} (h0 : a0 ≤ 6) (h1 : a0 = a1) : a1 + 64 < 4870 := by omega
theorem v_030ef2b75d {a0 : Int} (h0 : a0 ≤ 400) : a0 ≤ 2147483647 := by omega
theorem v_693793745c {a0 a1 : Int} (h0 : a0 ≤ 6) (h1 : a0 = a1) (h2 : ¬ a1 = 6) : a1 ≤ 5 := by omega
theorem v_adc19ed266 {a0 : Int} (h0 : -2147483648 ≤ a0) : -2147483648 ≤ a0 + 1 := by omega
theorem v_825362c100 {a0 a1 a2 : Int} (h0 : a0 ≤ 6) (h1 : a0 = a1) (h2 : a2 = a1) : a2 + 1 ≤ 2147483647 := by omega
theorem v_826844c169 {a0 a1 : Int} (h0 : a0 = a1) : a0 + 1 = a1 + 1 := by omega
theorem v_daf996834f {a0 : Int} : 70 + (400 * a0) = 400 * a0 + 70 := by omega
theorem v_5313436b7c {a0 a1 : Int} : 400 * a0 + 70 + a1 = a1 + 400 * a0 + 70 := by omega
theorem v_550c986e5c {a0 a1 : Int} (h0 : a0 ≤ 400) (h1 : ¬ a0 ≤ a1) : a1 < 401 := by omega
theorem v_22d0bf4fd1 {a0 a1 a2 : Int} (h0 : 0 ≤ a0) (h1 : a0 = a1) (h2 : 0 ≤ a2) : 0 ≤ a2 + 400 * a1 + 70 := by omega
theorem v_2e1aef0b75 {a0 a1 a2 a3 : Int} (h0 : a0 ≤ 6) (h1 : a0 = a1) (h2 : a2 ≤ 400) (h3 : ¬ a2 ≤ a3) : a3 + 400 * a1 + 70 < 4870 := by omega
theorem v_8891dbc1e4 {a0 : Int} : 2470 + (400 * a0) = 400 * a0 + 2470 := by omega
theorem v_44c7fe6462 {a0 a1 : Int} : 400 * a0 + 2470 + a1 = a1 + 400 * a0 + 2470 := by omega
theorem v_6c59601fd7 {a0 a1 a2 : Int} (h0 : 0 ≤ a0) (h1 : a0 = a1) (h2 : 0 ≤ a2) : 0 ≤ a2 + 400 * a1 + 2470 := by omega
theorem v_5018b15fa4 {a0 a1 a2 a3 : Int} (h0 : a0 ≤ 6) (h1 : a0 = a1) (h2 : ¬ a1 = 6) (h3 : a2 ≤ 400) (h4 : ¬ a2 ≤ a3) : a3 + 400 * a1 + 2470 < 4870 := by omega
theorem v_ede0c33dcc {a0 a1 : Int} : a0 + 400 * a1 + 70 = 70 + 400 * a1 + a0 := by omega
theorem v_dd3f4dc6ab {a0 a1 : Int} : a0 + 400 * a1 + 2470 = 2470 + 400 * a1 + a0 := by omega
theorem v_a8018d5457 : -(6 : Int) ≤ (-6) := by omega
theorem v_d89879cf36 : (-(6 : Int)) ≤ -1 := by omega
theorem v_23c38dd6f5 : -(6 : Int) ≤ (-5) := by omega
theorem v_711bb4d976 : (-(5 : Int)) ≤ -1 := by omega
set_option maxHeartbeats 4000000 in
set_option maxRecDepth 100000 in
theorem k_isSmall {l : Launch} {G : jG} {nh : Nat} {fh : Nat → Option va_E} (x : Int) (q0 : zr x) : JM l G yX12_isSmall MX12_isSmall { frames := 0, cells := 0, slots := 0, locals := 0 } [.int (zI x)] (nh, fh) (fun rr h9 => ∃ r : Int, rr = some (.int (zI r)) ∧ h9 = (nh, fh) ∧ (0 ≤ r) ∧ (r ≤ 1)) := by
  refine JM.of (by decide) rfl (fun h => by cases h) (Nat.le_of_ble_eq_true rfl) ⟨0, rfl⟩ ?_
  refine J_hc0 (J_ls (ls2 := [some (.int (zI x))]) rfl ?_)
  refine J_iload_n dX12_isSmall_0 rfl rfl ?_
  refine Z_bipush (n := 97) dX12_isSmall_1 (by decide +kernel) ?_
  refine Z_icmp_lt (tgt := 16) dX12_isSmall_3 (by decide) (v_b25fa51a85 q0) v_120e9ced03 (fun h1 => ?_) (fun h1 => ?_)
  · refine Z_iconst (n := 0) dX12_isSmall_16 ?_
    exact J_iret dX12_isSmall_17 rfl (jbn v_939070ca3f v_316afd7d0b) (Nat.le_of_ble_eq_true rfl) (Nat.le_of_ble_eq_true rfl) ⟨0, rfl, rfl, v_939070ca3f, v_316afd7d0b⟩
  · refine J_iload_n dX12_isSmall_6 rfl rfl ?_
    refine Z_bipush (n := 122) dX12_isSmall_7 (by decide +kernel) ?_
    refine Z_icmp_gt (tgt := 16) dX12_isSmall_9 (by decide) (v_29fc54b483 q0 h1) v_86c2371aa4 (fun h2 => ?_) (fun h2 => ?_)
    · refine Z_iconst (n := 0) dX12_isSmall_16 ?_
      exact J_iret dX12_isSmall_17 rfl (jbn v_939070ca3f v_316afd7d0b) (Nat.le_of_ble_eq_true rfl) (Nat.le_of_ble_eq_true rfl) ⟨0, rfl, rfl, v_939070ca3f, v_316afd7d0b⟩
    · refine Z_iconst (n := 1) dX12_isSmall_12 ?_
      refine J_goto (tgt := 17) dX12_isSmall_13 (by decide) ?_
      exact J_iret dX12_isSmall_17 rfl (jbn v_316afd7d0b v_bbcfac9b7d) (Nat.le_of_ble_eq_true rfl) (Nat.le_of_ble_eq_true rfl) ⟨1, rfl, rfl, v_316afd7d0b, v_bbcfac9b7d⟩
set_option maxHeartbeats 4000000 in
set_option maxRecDepth 100000 in
theorem k_isDigit {l : Launch} {G : jG} {nh : Nat} {fh : Nat → Option va_E} (x : Int) (q0 : zr x) : JM l G yX12_isDigit MX12_isDigit { frames := 0, cells := 0, slots := 0, locals := 0 } [.int (zI x)] (nh, fh) (fun rr h9 => ∃ r : Int, rr = some (.int (zI r)) ∧ h9 = (nh, fh) ∧ (0 ≤ r) ∧ (r ≤ 1)) := by
  refine JM.of (by decide) rfl (fun h => by cases h) (Nat.le_of_ble_eq_true rfl) ⟨0, rfl⟩ ?_
  refine J_hc0 (J_ls (ls2 := [some (.int (zI x))]) rfl ?_)
  refine J_iload_n dX12_isDigit_0 rfl rfl ?_
  refine Z_bipush (n := 48) dX12_isDigit_1 (by decide +kernel) ?_
  refine Z_icmp_lt (tgt := 16) dX12_isDigit_3 (by decide) (v_b25fa51a85 q0) v_5d2538b988 (fun h1 => ?_) (fun h1 => ?_)
  · refine Z_iconst (n := 0) dX12_isDigit_16 ?_
    exact J_iret dX12_isDigit_17 rfl (jbn v_939070ca3f v_316afd7d0b) (Nat.le_of_ble_eq_true rfl) (Nat.le_of_ble_eq_true rfl) ⟨0, rfl, rfl, v_939070ca3f, v_316afd7d0b⟩
  · refine J_iload_n dX12_isDigit_6 rfl rfl ?_
    refine Z_bipush (n := 57) dX12_isDigit_7 (by decide +kernel) ?_
    refine Z_icmp_gt (tgt := 16) dX12_isDigit_9 (by decide) (v_1f678a7e63 q0 h1) v_9633cf9c93 (fun h2 => ?_) (fun h2 => ?_)
    · refine Z_iconst (n := 0) dX12_isDigit_16 ?_
      exact J_iret dX12_isDigit_17 rfl (jbn v_939070ca3f v_316afd7d0b) (Nat.le_of_ble_eq_true rfl) (Nat.le_of_ble_eq_true rfl) ⟨0, rfl, rfl, v_939070ca3f, v_316afd7d0b⟩
    · refine Z_iconst (n := 1) dX12_isDigit_12 ?_
      refine J_goto (tgt := 17) dX12_isDigit_13 (by decide) ?_
      exact J_iret dX12_isDigit_17 rfl (jbn v_316afd7d0b v_bbcfac9b7d) (Nat.le_of_ble_eq_true rfl) (Nat.le_of_ble_eq_true rfl) ⟨1, rfl, rfl, v_316afd7d0b, v_bbcfac9b7d⟩
set_option maxHeartbeats 4000000 in
set_option maxRecDepth 100000 in
theorem k_wordOf {l : Launch} {G : jG} {nh : Nat} {fh : Nat → Option va_E} (a : Int) (b : Int) (wd : Int → Int) (ta : Int → Int) (ms : Int) (mv : Int) (mt : Int) (mfa : Int) (mtn : Int) (mtk : Int) (mlv : Int) (mbd : Int) (mgo : Int) (mge : Int) (mbk : Int) (mtt : Int) (mtl : Int) (hm : Int) (pm : Int) (hb : Int) (sb : Int) (mfu : Int) (mdm : Int) (mla : Int) (q0 : 0 ≤ a) (q1 : a < b) (q2 : b ≤ 400) (q3 : Rg wd 73 (-128) 127) (q4 : wd 72 = 32) (q5 : Rg ta 400 (-128) 127) (hk98 : fh 98 = some (.inr (12, (.int (zI ms) :: .int (zI mv) :: .ref 99 :: .ref 100 :: .ref 101 :: .ref 102 :: .ref 103 :: .ref 104 :: .ref 105 :: .int (zI mt) :: .int (zI mfa) :: .ref 106 :: .ref 107 :: .ref 108 :: .int (zI mtn) :: .int (zI mtk) :: .int (zI mlv) :: .int (zI mbd) :: .int (zI mgo) :: .int (zI mge) :: .int (zI mbk) :: .ref 109 :: .int (zI mtt) :: .int (zI mtl) :: .ref 110 :: .ref 111 :: .ref 112 :: .ref 113 :: .ref 114 :: .ref 115 :: .ref 116 :: .ref 117 :: .int (zI hm) :: .int (zI pm) :: .int (zI hb) :: .int (zI sb) :: .ref 118 :: .ref 119 :: .ref 120 :: .ref 121 :: .ref 122 :: .ref 123 :: .ref 124 :: .ref 125 :: .ref 126 :: .ref 127 :: .ref 128 :: .ref 129 :: .int (zI mfu) :: .ref 130 :: .ref 131 :: .ref 132 :: .ref 133 :: .ref 134 :: .int (zI mdm) :: .int (zI mla) :: [])))) (hk103 : fh 103 = some (.inl (3, 73, .inl (zA wd)))) (hk104 : fh 104 = some (.inl (3, 400, .inl (zA ta)))) : JM l G yX12_wordOf MX12_wordOf { frames := 0, cells := 0, slots := 0, locals := 0 } [.ref 98, .int (zI a), .int (zI b)] (nh, fh) (fun rr h9 => ∃ r : Int, rr = some (.int (zI r)) ∧ h9 = (nh, fh) ∧ (0 ≤ r) ∧ (r ≤ 74)) := by
  refine JM.of (by decide) rfl (fun h => by cases h) (Nat.le_of_ble_eq_true rfl) ⟨5, rfl⟩ ?_
  refine J_hc0 (J_ls (ls2 := [some (.ref 98), some (.int (zI a)), some (.int (zI b)), none, none, none, none, none]) rfl ?_)
  refine Z_iconst (n := 1) dX12_wordOf_0 ?_
  refine J_istore_n dX12_wordOf_1 rfl (Nat.le_of_ble_eq_true rfl) rfl ?_
  refine J_ls (ls2 := [some (.ref 98), some (.int (zI a)), some (.int (zI b)), some (.int (zI 1)), none, none, none, none]) rfl ?_
  refine Z_iconst (n := 0) dX12_wordOf_2 ?_
  refine J_istore dX12_wordOf_3 (Nat.le_of_ble_eq_true rfl) rfl ?_
  refine J_ls (ls2 := [some (.ref 98), some (.int (zI a)), some (.int (zI b)), some (.int (zI 1)), some (.int (zI 0)), none, none, none]) rfl ?_
  have lp5 : ∀ (N5 : Nat) (w_5 : Int) (k_5 : Int), (0 ≤ k_5) → (k_5 ≤ 73) → (1 ≤ w_5) → (w_5 ≤ k_5 + 1) → (73 - k_5).toNat < N5 → J l G MX12_wordOf { frames := 0, cells := 0, slots := 0, locals := 0 } jE (jMQ G { frames := 0, cells := 0, slots := 0, locals := 0 } (fun rr h9 => ∃ r : Int, rr = some (.int (zI r)) ∧ h9 = (nh, fh) ∧ (0 ≤ r) ∧ (r ≤ 74))) (nh, hc fh []) 0 0 5 [some (.ref 98), some (.int (zI a)), some (.int (zI b)), some (.int (zI w_5)), some (.int (zI k_5)), none, none, none] [] := by
    intro N5
    induction N5 with
    | zero => intro w_5 k_5 i5_0 i5_1 i5_2 i5_3 hm; exact absurd hm (Nat.not_lt_zero _)
    | succ N5 ih5 =>
      intro w_5 k_5 i5_0 i5_1 i5_2 i5_3 hm5
      refine J_iload dX12_wordOf_5 rfl ?_
      refine J_aload_n dX12_wordOf_7 rfl rfl ?_
      refine J_get (v := .ref 103) dX12_wordOf_8 fl_X12_30 hk98 rfl ?_
      refine Y_alen 73 dX12_wordOf_11 hk103 rfl rfl ?_
      refine Z_icmp_ge (tgt := 126) dX12_wordOf_12 (by decide) (v_94d443f0e8 i5_0 i5_1) v_30b0c4d114 (fun h1 => ?_) (fun h1 => ?_)
      · refine Z_iconst (n := 0) dX12_wordOf_126 ?_
        exact J_iret dX12_wordOf_127 rfl rfl (Nat.le_of_ble_eq_true rfl) (Nat.le_of_ble_eq_true rfl) ⟨0, rfl, rfl, v_939070ca3f, v_a72e6585c5⟩
      · refine Z_iconst (n := 0) dX12_wordOf_15 ?_
        refine J_istore dX12_wordOf_16 (Nat.le_of_ble_eq_true rfl) rfl ?_
        refine J_ls (ls2 := [some (.ref 98), some (.int (zI a)), some (.int (zI b)), some (.int (zI w_5)), some (.int (zI k_5)), some (.int (zI 0)), none, none]) rfl ?_
        have lp18 : ∀ (N18 : Nat) (n_18 : Int), (0 ≤ n_18) → (k_5 + n_18 ≤ 72) → (72 - n_18).toNat < N18 → J l G MX12_wordOf { frames := 0, cells := 0, slots := 0, locals := 0 } jE (jMQ G { frames := 0, cells := 0, slots := 0, locals := 0 } (fun rr h9 => ∃ r : Int, rr = some (.int (zI r)) ∧ h9 = (nh, fh) ∧ (0 ≤ r) ∧ (r ≤ 74))) (nh, hc fh []) 0 0 18 [some (.ref 98), some (.int (zI a)), some (.int (zI b)), some (.int (zI w_5)), some (.int (zI k_5)), some (.int (zI n_18)), none, none] [] := by
          intro N18
          induction N18 with
          | zero => intro n_18 i18_0 i18_1 hm; exact absurd hm (Nat.not_lt_zero _)
          | succ N18 ih18 =>
            intro n_18 i18_0 i18_1 hm18
            refine J_aload_n dX12_wordOf_18 rfl rfl ?_
            refine J_get (v := .ref 103) dX12_wordOf_19 fl_X12_30 hk98 rfl ?_
            refine J_iload dX12_wordOf_22 rfl ?_
            refine J_iload dX12_wordOf_24 rfl ?_
            refine Z_iadd (c := k_5 + n_18) dX12_wordOf_26 rfl ?_
            obtain ⟨z2, ez2⟩ : ∃ z : Int, wd (k_5 + n_18) = z := ⟨_, rfl⟩
            have h3 := Rg.at q3 (v_f9958443f0 i5_0 i18_0) (v_87a0c2803a i18_1) ez2
            refine Y_bald (z := z2) 73 dX12_wordOf_27 hk103 rfl (by decide) (v_f9958443f0 i5_0 i18_0) (v_87a0c2803a i18_1) ez2 ?_
            refine Z_bipush (n := 32) dX12_wordOf_28 (by decide +kernel) ?_
            refine Z_icmp_eq (tgt := 39) dX12_wordOf_30 (by decide) (v_9f0444dcde h3.1 h3.2) v_27308ff615 (fun h4 => ?_) (fun h4 => ?_)
            · refine J_iload dX12_wordOf_39 rfl ?_
              refine J_iload_n dX12_wordOf_41 rfl rfl ?_
              refine J_iload_n dX12_wordOf_42 rfl rfl ?_
              refine Z_isub (c := -a + b) dX12_wordOf_43 v_0b505d131c ?_
              refine Z_icmp_ne (tgt := 51) dX12_wordOf_44 (by decide) (v_306c626fe1 i5_0 i18_0 i18_1) (v_59e23d775d q0 q1 q2) (fun h5 => ?_) (fun h5 => ?_)
              · refine Z_iconst (n := 0) dX12_wordOf_51 ?_
                refine J_istore dX12_wordOf_52 (Nat.le_of_ble_eq_true rfl) rfl ?_
                refine J_ls (ls2 := [some (.ref 98), some (.int (zI a)), some (.int (zI b)), some (.int (zI w_5)), some (.int (zI k_5)), some (.int (zI n_18)), some (.int (zI 0)), none]) rfl ?_
                refine Z_iconst (n := 0) dX12_wordOf_54 ?_
                refine J_istore dX12_wordOf_55 (Nat.le_of_ble_eq_true rfl) rfl ?_
                refine J_ls (ls2 := [some (.ref 98), some (.int (zI a)), some (.int (zI b)), some (.int (zI w_5)), some (.int (zI k_5)), some (.int (zI n_18)), some (.int (zI 0)), some (.int (zI 0))]) rfl ?_
                have lp57 : ∀ (N57 : Nat) (sa_57 : Int) (i_57 : Int), (0 ≤ i_57) → (i_57 ≤ n_18) → (0 ≤ sa_57) → (sa_57 ≤ 1) → (WoK sa_57 n_18 a b) → (n_18 - i_57).toNat < N57 → J l G MX12_wordOf { frames := 0, cells := 0, slots := 0, locals := 0 } jE (jMQ G { frames := 0, cells := 0, slots := 0, locals := 0 } (fun rr h9 => ∃ r : Int, rr = some (.int (zI r)) ∧ h9 = (nh, fh) ∧ (0 ≤ r) ∧ (r ≤ 74))) (nh, hc fh []) 0 0 57 [some (.ref 98), some (.int (zI a)), some (.int (zI b)), some (.int (zI w_5)), some (.int (zI k_5)), some (.int (zI n_18)), some (.int (zI sa_57)), some (.int (zI i_57))] [] := by
                  intro N57
                  induction N57 with
                  | zero => intro sa_57 i_57 i57_0 i57_1 i57_2 i57_3 i57_4 hm; exact absurd hm (Nat.not_lt_zero _)
                  | succ N57 ih57 =>
                    intro sa_57 i_57 i57_0 i57_1 i57_2 i57_3 i57_4 hm57
                    refine J_iload dX12_wordOf_57 rfl ?_
                    refine J_iload dX12_wordOf_59 rfl ?_
                    refine Z_icmp_ge (tgt := 104) dX12_wordOf_61 (by decide) (v_25e32e61f5 i5_0 i18_1 i57_0 i57_1) (v_306c626fe1 i5_0 i18_0 i18_1) (fun h6 => ?_) (fun h6 => ?_)
                    · refine J_iload dX12_wordOf_104 rfl ?_
                      refine Z_if_eq (tgt := 111) dX12_wordOf_106 (by decide) (v_5f10a759cd i57_2 i57_3) (fun h7 => ?_) (fun h7 => ?_)
                      · refine J_iload dX12_wordOf_111 rfl ?_
                        refine J_iload dX12_wordOf_113 rfl ?_
                        refine Z_iconst (n := 1) dX12_wordOf_115 ?_
                        refine Z_iadd (c := n_18 + 1) dX12_wordOf_116 rfl ?_
                        refine Z_iadd (c := k_5 + n_18 + 1) dX12_wordOf_117 v_c5d7dc4228 ?_
                        refine J_istore dX12_wordOf_118 (Nat.le_of_ble_eq_true rfl) rfl ?_
                        refine J_ls (ls2 := [some (.ref 98), some (.int (zI a)), some (.int (zI b)), some (.int (zI w_5)), some (.int (zI (k_5 + n_18 + 1))), some (.int (zI n_18)), some (.int (zI sa_57)), some (.int (zI i_57))]) rfl ?_
                        refine Z_iinc (c := w_5 + 1) (ls2 := [some (.ref 98), some (.int (zI a)), some (.int (zI b)), some (.int (zI (w_5 + 1))), some (.int (zI (k_5 + n_18 + 1))), some (.int (zI n_18)), some (.int (zI sa_57)), some (.int (zI i_57))]) dX12_wordOf_120 rfl (Nat.le_of_ble_eq_true rfl) rfl rfl rfl ?_
                        refine J_goto (tgt := 5) dX12_wordOf_123 (by decide) ?_
                        refine J_drop (ls2 := [some (.ref 98), some (.int (zI a)), some (.int (zI b)), some (.int (zI (w_5 + 1))), some (.int (zI (k_5 + n_18 + 1))), none, none, none]) [true, true, true, true, true, false, false, false] rfl ?_
                        exact ih5 (w_5 + 1) (k_5 + n_18 + 1) (v_5f4f1497ae i5_0 i18_0) (v_70af67d8ef i18_1) (v_f86fa765f0 i5_2) (v_d307c46c80 i5_3 i18_0) (meas_lt (v_3738451a2d i18_0) (v_55b44453db h1) hm5)
                      · refine J_iload_n dX12_wordOf_109 rfl rfl ?_
                        exact J_iret dX12_wordOf_110 rfl rfl (Nat.le_of_ble_eq_true rfl) (Nat.le_of_ble_eq_true rfl) ⟨w_5, rfl, rfl, (v_632d2dbe78 i5_2), (v_8c6932468a i5_3 h1)⟩
                    · refine J_iload dX12_wordOf_64 rfl ?_
                      refine Z_if_eq (tgt := 104) dX12_wordOf_66 (by decide) (v_5f10a759cd i57_2 i57_3) (fun h8 => ?_) (fun h8 => ?_)
                      · refine J_iload dX12_wordOf_104 rfl ?_
                        refine Z_if_eq (tgt := 111) dX12_wordOf_106 (by decide) (v_1bb2bfd6ba i57_2 h8) (fun h9 => ?_) (fun h9 => absurd h9 (fun q => q (v_bd6c74a791 i57_2 h8)))
                        refine J_iload dX12_wordOf_111 rfl ?_
                        refine J_iload dX12_wordOf_113 rfl ?_
                        refine Z_iconst (n := 1) dX12_wordOf_115 ?_
                        refine Z_iadd (c := n_18 + 1) dX12_wordOf_116 rfl ?_
                        refine Z_iadd (c := k_5 + n_18 + 1) dX12_wordOf_117 v_c5d7dc4228 ?_
                        refine J_istore dX12_wordOf_118 (Nat.le_of_ble_eq_true rfl) rfl ?_
                        refine J_ls (ls2 := [some (.ref 98), some (.int (zI a)), some (.int (zI b)), some (.int (zI w_5)), some (.int (zI (k_5 + n_18 + 1))), some (.int (zI n_18)), some (.int (zI sa_57)), some (.int (zI i_57))]) rfl ?_
                        refine Z_iinc (c := w_5 + 1) (ls2 := [some (.ref 98), some (.int (zI a)), some (.int (zI b)), some (.int (zI (w_5 + 1))), some (.int (zI (k_5 + n_18 + 1))), some (.int (zI n_18)), some (.int (zI sa_57)), some (.int (zI i_57))]) dX12_wordOf_120 rfl (Nat.le_of_ble_eq_true rfl) rfl rfl rfl ?_
                        refine J_goto (tgt := 5) dX12_wordOf_123 (by decide) ?_
                        refine J_drop (ls2 := [some (.ref 98), some (.int (zI a)), some (.int (zI b)), some (.int (zI (w_5 + 1))), some (.int (zI (k_5 + n_18 + 1))), none, none, none]) [true, true, true, true, true, false, false, false] rfl ?_
                        exact ih5 (w_5 + 1) (k_5 + n_18 + 1) (v_5f4f1497ae i5_0 i18_0) (v_70af67d8ef i18_1) (v_f86fa765f0 i5_2) (v_d307c46c80 i5_3 i18_0) (meas_lt (v_3738451a2d i18_0) (v_55b44453db h1) hm5)
                      · have g10 : n_18 = b - a := i57_4 (v_8b15499c4b i57_2 i57_3 h8)
                        refine J_aload_n dX12_wordOf_69 rfl rfl ?_
                        refine J_get (v := .ref 103) dX12_wordOf_70 fl_X12_30 hk98 rfl ?_
                        refine J_iload dX12_wordOf_73 rfl ?_
                        refine J_iload dX12_wordOf_75 rfl ?_
                        refine Z_iadd (c := i_57 + k_5) dX12_wordOf_77 v_cb13ccdbf3 ?_
                        obtain ⟨z11, ez11⟩ : ∃ z : Int, wd (i_57 + k_5) = z := ⟨_, rfl⟩
                        have h12 := Rg.at q3 (v_8d0a08ae71 i5_0 i57_0) (v_71dbedcf00 i18_1 h6) ez11
                        refine Y_bald (z := z11) 73 dX12_wordOf_78 hk103 rfl (by decide) (v_8d0a08ae71 i5_0 i57_0) (v_71dbedcf00 i18_1 h6) ez11 ?_
                        refine J_aload_n dX12_wordOf_79 rfl rfl ?_
                        refine J_get (v := .ref 104) dX12_wordOf_80 fl_X12_34 hk98 rfl ?_
                        refine J_iload_n dX12_wordOf_83 rfl rfl ?_
                        refine J_iload dX12_wordOf_84 rfl ?_
                        refine Z_iadd (c := a + i_57) dX12_wordOf_86 rfl ?_
                        obtain ⟨z13, ez13⟩ : ∃ z : Int, ta (a + i_57) = z := ⟨_, rfl⟩
                        have h14 := Rg.at q5 (v_f9958443f0 q0 i57_0) (v_927234a32d h5 g10) ez13
                        refine Y_bald (z := z13) 400 dX12_wordOf_87 hk104 rfl (by decide) (v_f9958443f0 q0 i57_0) (v_927234a32d h5 g10) ez13 ?_
                        refine Z_icmp_ne (tgt := 95) dX12_wordOf_88 (by decide) (v_9f0444dcde h12.1 h12.2) (v_9f0444dcde h14.1 h14.2) (fun h15 => ?_) (fun h15 => ?_)
                        · refine Z_iconst (n := 0) dX12_wordOf_95 ?_
                          refine J_istore dX12_wordOf_96 (Nat.le_of_ble_eq_true rfl) rfl ?_
                          refine J_ls (ls2 := [some (.ref 98), some (.int (zI a)), some (.int (zI b)), some (.int (zI w_5)), some (.int (zI k_5)), some (.int (zI n_18)), some (.int (zI 0)), some (.int (zI i_57))]) rfl ?_
                          refine Z_iinc (c := i_57 + 1) (ls2 := [some (.ref 98), some (.int (zI a)), some (.int (zI b)), some (.int (zI w_5)), some (.int (zI k_5)), some (.int (zI n_18)), some (.int (zI 0)), some (.int (zI (i_57 + 1)))]) dX12_wordOf_98 rfl (Nat.le_of_ble_eq_true rfl) rfl rfl rfl ?_
                          refine J_goto (tgt := 57) dX12_wordOf_101 (by decide) ?_
                          exact ih57 0 (i_57 + 1) (v_da458fa48a i57_0) (v_e390a36114 h6) v_939070ca3f v_316afd7d0b (fun w => absurd w (by have u := v_2ca2bbca1f; omega)) (meas_lt v_90eacd6fd4 (v_8b7dd7d486 h6) hm57)
                        · refine Z_iconst (n := 1) dX12_wordOf_91 ?_
                          refine J_goto (tgt := 96) dX12_wordOf_92 (by decide) ?_
                          refine J_istore dX12_wordOf_96 (Nat.le_of_ble_eq_true rfl) rfl ?_
                          refine J_ls (ls2 := [some (.ref 98), some (.int (zI a)), some (.int (zI b)), some (.int (zI w_5)), some (.int (zI k_5)), some (.int (zI n_18)), some (.int (zI 1)), some (.int (zI i_57))]) rfl ?_
                          refine Z_iinc (c := i_57 + 1) (ls2 := [some (.ref 98), some (.int (zI a)), some (.int (zI b)), some (.int (zI w_5)), some (.int (zI k_5)), some (.int (zI n_18)), some (.int (zI 1)), some (.int (zI (i_57 + 1)))]) dX12_wordOf_98 rfl (Nat.le_of_ble_eq_true rfl) rfl rfl rfl ?_
                          refine J_goto (tgt := 57) dX12_wordOf_101 (by decide) ?_
                          exact ih57 1 (i_57 + 1) (v_da458fa48a i57_0) (v_e390a36114 h6) v_316afd7d0b v_bbcfac9b7d (fun _ => (v_d4200dde05 g10)) (meas_lt v_90eacd6fd4 (v_8b7dd7d486 h6) hm57)
                exact lp57 _ 0 0 v_939070ca3f i18_0 v_939070ca3f v_316afd7d0b (fun w => absurd w (by have u := v_2ca2bbca1f; omega)) (Nat.lt_succ_self _)
              · refine Z_iconst (n := 1) dX12_wordOf_47 ?_
                refine J_goto (tgt := 52) dX12_wordOf_48 (by decide) ?_
                refine J_istore dX12_wordOf_52 (Nat.le_of_ble_eq_true rfl) rfl ?_
                refine J_ls (ls2 := [some (.ref 98), some (.int (zI a)), some (.int (zI b)), some (.int (zI w_5)), some (.int (zI k_5)), some (.int (zI n_18)), some (.int (zI 1)), none]) rfl ?_
                refine Z_iconst (n := 0) dX12_wordOf_54 ?_
                refine J_istore dX12_wordOf_55 (Nat.le_of_ble_eq_true rfl) rfl ?_
                refine J_ls (ls2 := [some (.ref 98), some (.int (zI a)), some (.int (zI b)), some (.int (zI w_5)), some (.int (zI k_5)), some (.int (zI n_18)), some (.int (zI 1)), some (.int (zI 0))]) rfl ?_
                have lp57 : ∀ (N57 : Nat) (sa_57 : Int) (i_57 : Int), (0 ≤ i_57) → (i_57 ≤ n_18) → (0 ≤ sa_57) → (sa_57 ≤ 1) → (WoK sa_57 n_18 a b) → (n_18 - i_57).toNat < N57 → J l G MX12_wordOf { frames := 0, cells := 0, slots := 0, locals := 0 } jE (jMQ G { frames := 0, cells := 0, slots := 0, locals := 0 } (fun rr h9 => ∃ r : Int, rr = some (.int (zI r)) ∧ h9 = (nh, fh) ∧ (0 ≤ r) ∧ (r ≤ 74))) (nh, hc fh []) 0 0 57 [some (.ref 98), some (.int (zI a)), some (.int (zI b)), some (.int (zI w_5)), some (.int (zI k_5)), some (.int (zI n_18)), some (.int (zI sa_57)), some (.int (zI i_57))] [] := by
                  intro N57
                  induction N57 with
                  | zero => intro sa_57 i_57 i57_0 i57_1 i57_2 i57_3 i57_4 hm; exact absurd hm (Nat.not_lt_zero _)
                  | succ N57 ih57 =>
                    intro sa_57 i_57 i57_0 i57_1 i57_2 i57_3 i57_4 hm57
                    refine J_iload dX12_wordOf_57 rfl ?_
                    refine J_iload dX12_wordOf_59 rfl ?_
                    refine Z_icmp_ge (tgt := 104) dX12_wordOf_61 (by decide) (v_25e32e61f5 i5_0 i18_1 i57_0 i57_1) (v_306c626fe1 i5_0 i18_0 i18_1) (fun h16 => ?_) (fun h16 => ?_)
                    · refine J_iload dX12_wordOf_104 rfl ?_
                      refine Z_if_eq (tgt := 111) dX12_wordOf_106 (by decide) (v_5f10a759cd i57_2 i57_3) (fun h17 => ?_) (fun h17 => ?_)
                      · refine J_iload dX12_wordOf_111 rfl ?_
                        refine J_iload dX12_wordOf_113 rfl ?_
                        refine Z_iconst (n := 1) dX12_wordOf_115 ?_
                        refine Z_iadd (c := n_18 + 1) dX12_wordOf_116 rfl ?_
                        refine Z_iadd (c := k_5 + n_18 + 1) dX12_wordOf_117 v_c5d7dc4228 ?_
                        refine J_istore dX12_wordOf_118 (Nat.le_of_ble_eq_true rfl) rfl ?_
                        refine J_ls (ls2 := [some (.ref 98), some (.int (zI a)), some (.int (zI b)), some (.int (zI w_5)), some (.int (zI (k_5 + n_18 + 1))), some (.int (zI n_18)), some (.int (zI sa_57)), some (.int (zI i_57))]) rfl ?_
                        refine Z_iinc (c := w_5 + 1) (ls2 := [some (.ref 98), some (.int (zI a)), some (.int (zI b)), some (.int (zI (w_5 + 1))), some (.int (zI (k_5 + n_18 + 1))), some (.int (zI n_18)), some (.int (zI sa_57)), some (.int (zI i_57))]) dX12_wordOf_120 rfl (Nat.le_of_ble_eq_true rfl) rfl rfl rfl ?_
                        refine J_goto (tgt := 5) dX12_wordOf_123 (by decide) ?_
                        refine J_drop (ls2 := [some (.ref 98), some (.int (zI a)), some (.int (zI b)), some (.int (zI (w_5 + 1))), some (.int (zI (k_5 + n_18 + 1))), none, none, none]) [true, true, true, true, true, false, false, false] rfl ?_
                        exact ih5 (w_5 + 1) (k_5 + n_18 + 1) (v_5f4f1497ae i5_0 i18_0) (v_70af67d8ef i18_1) (v_f86fa765f0 i5_2) (v_d307c46c80 i5_3 i18_0) (meas_lt (v_3738451a2d i18_0) (v_55b44453db h1) hm5)
                      · refine J_iload_n dX12_wordOf_109 rfl rfl ?_
                        exact J_iret dX12_wordOf_110 rfl rfl (Nat.le_of_ble_eq_true rfl) (Nat.le_of_ble_eq_true rfl) ⟨w_5, rfl, rfl, (v_632d2dbe78 i5_2), (v_8c6932468a i5_3 h1)⟩
                    · refine J_iload dX12_wordOf_64 rfl ?_
                      refine Z_if_eq (tgt := 104) dX12_wordOf_66 (by decide) (v_5f10a759cd i57_2 i57_3) (fun h18 => ?_) (fun h18 => ?_)
                      · refine J_iload dX12_wordOf_104 rfl ?_
                        refine Z_if_eq (tgt := 111) dX12_wordOf_106 (by decide) (v_1bb2bfd6ba i57_2 h18) (fun h19 => ?_) (fun h19 => absurd h19 (fun q => q (v_bd6c74a791 i57_2 h18)))
                        refine J_iload dX12_wordOf_111 rfl ?_
                        refine J_iload dX12_wordOf_113 rfl ?_
                        refine Z_iconst (n := 1) dX12_wordOf_115 ?_
                        refine Z_iadd (c := n_18 + 1) dX12_wordOf_116 rfl ?_
                        refine Z_iadd (c := k_5 + n_18 + 1) dX12_wordOf_117 v_c5d7dc4228 ?_
                        refine J_istore dX12_wordOf_118 (Nat.le_of_ble_eq_true rfl) rfl ?_
                        refine J_ls (ls2 := [some (.ref 98), some (.int (zI a)), some (.int (zI b)), some (.int (zI w_5)), some (.int (zI (k_5 + n_18 + 1))), some (.int (zI n_18)), some (.int (zI sa_57)), some (.int (zI i_57))]) rfl ?_
                        refine Z_iinc (c := w_5 + 1) (ls2 := [some (.ref 98), some (.int (zI a)), some (.int (zI b)), some (.int (zI (w_5 + 1))), some (.int (zI (k_5 + n_18 + 1))), some (.int (zI n_18)), some (.int (zI sa_57)), some (.int (zI i_57))]) dX12_wordOf_120 rfl (Nat.le_of_ble_eq_true rfl) rfl rfl rfl ?_
                        refine J_goto (tgt := 5) dX12_wordOf_123 (by decide) ?_
                        refine J_drop (ls2 := [some (.ref 98), some (.int (zI a)), some (.int (zI b)), some (.int (zI (w_5 + 1))), some (.int (zI (k_5 + n_18 + 1))), none, none, none]) [true, true, true, true, true, false, false, false] rfl ?_
                        exact ih5 (w_5 + 1) (k_5 + n_18 + 1) (v_5f4f1497ae i5_0 i18_0) (v_70af67d8ef i18_1) (v_f86fa765f0 i5_2) (v_d307c46c80 i5_3 i18_0) (meas_lt (v_3738451a2d i18_0) (v_55b44453db h1) hm5)
                      · have g20 : n_18 = b - a := i57_4 (v_8b15499c4b i57_2 i57_3 h18)
                        refine J_aload_n dX12_wordOf_69 rfl rfl ?_
                        refine J_get (v := .ref 103) dX12_wordOf_70 fl_X12_30 hk98 rfl ?_
                        refine J_iload dX12_wordOf_73 rfl ?_
                        refine J_iload dX12_wordOf_75 rfl ?_
                        refine Z_iadd (c := i_57 + k_5) dX12_wordOf_77 v_cb13ccdbf3 ?_
                        obtain ⟨z21, ez21⟩ : ∃ z : Int, wd (i_57 + k_5) = z := ⟨_, rfl⟩
                        have h22 := Rg.at q3 (v_8d0a08ae71 i5_0 i57_0) (v_71dbedcf00 i18_1 h16) ez21
                        refine Y_bald (z := z21) 73 dX12_wordOf_78 hk103 rfl (by decide) (v_8d0a08ae71 i5_0 i57_0) (v_71dbedcf00 i18_1 h16) ez21 ?_
                        refine J_aload_n dX12_wordOf_79 rfl rfl ?_
                        refine J_get (v := .ref 104) dX12_wordOf_80 fl_X12_34 hk98 rfl ?_
                        refine J_iload_n dX12_wordOf_83 rfl rfl ?_
                        refine J_iload dX12_wordOf_84 rfl ?_
                        refine Z_iadd (c := a + i_57) dX12_wordOf_86 rfl ?_
                        obtain ⟨z23, ez23⟩ : ∃ z : Int, ta (a + i_57) = z := ⟨_, rfl⟩
                        have h24 := Rg.at q5 (v_f9958443f0 q0 i57_0) (v_183418542f q2 h5 h16) ez23
                        refine Y_bald (z := z23) 400 dX12_wordOf_87 hk104 rfl (by decide) (v_f9958443f0 q0 i57_0) (v_183418542f q2 h5 h16) ez23 ?_
                        refine Z_icmp_ne (tgt := 95) dX12_wordOf_88 (by decide) (v_9f0444dcde h22.1 h22.2) (v_9f0444dcde h24.1 h24.2) (fun h25 => ?_) (fun h25 => ?_)
                        · refine Z_iconst (n := 0) dX12_wordOf_95 ?_
                          refine J_istore dX12_wordOf_96 (Nat.le_of_ble_eq_true rfl) rfl ?_
                          refine J_ls (ls2 := [some (.ref 98), some (.int (zI a)), some (.int (zI b)), some (.int (zI w_5)), some (.int (zI k_5)), some (.int (zI n_18)), some (.int (zI 0)), some (.int (zI i_57))]) rfl ?_
                          refine Z_iinc (c := i_57 + 1) (ls2 := [some (.ref 98), some (.int (zI a)), some (.int (zI b)), some (.int (zI w_5)), some (.int (zI k_5)), some (.int (zI n_18)), some (.int (zI 0)), some (.int (zI (i_57 + 1)))]) dX12_wordOf_98 rfl (Nat.le_of_ble_eq_true rfl) rfl rfl rfl ?_
                          refine J_goto (tgt := 57) dX12_wordOf_101 (by decide) ?_
                          exact ih57 0 (i_57 + 1) (v_da458fa48a i57_0) (v_e390a36114 h16) v_939070ca3f v_316afd7d0b (fun w => absurd w (by have u := v_2ca2bbca1f; omega)) (meas_lt v_90eacd6fd4 (v_8b7dd7d486 h16) hm57)
                        · refine Z_iconst (n := 1) dX12_wordOf_91 ?_
                          refine J_goto (tgt := 96) dX12_wordOf_92 (by decide) ?_
                          refine J_istore dX12_wordOf_96 (Nat.le_of_ble_eq_true rfl) rfl ?_
                          refine J_ls (ls2 := [some (.ref 98), some (.int (zI a)), some (.int (zI b)), some (.int (zI w_5)), some (.int (zI k_5)), some (.int (zI n_18)), some (.int (zI 1)), some (.int (zI i_57))]) rfl ?_
                          refine Z_iinc (c := i_57 + 1) (ls2 := [some (.ref 98), some (.int (zI a)), some (.int (zI b)), some (.int (zI w_5)), some (.int (zI k_5)), some (.int (zI n_18)), some (.int (zI 1)), some (.int (zI (i_57 + 1)))]) dX12_wordOf_98 rfl (Nat.le_of_ble_eq_true rfl) rfl rfl rfl ?_
                          refine J_goto (tgt := 57) dX12_wordOf_101 (by decide) ?_
                          exact ih57 1 (i_57 + 1) (v_da458fa48a i57_0) (v_e390a36114 h16) v_316afd7d0b v_bbcfac9b7d (fun _ => (v_a5cd88ec76 h5)) (meas_lt v_90eacd6fd4 (v_8b7dd7d486 h16) hm57)
                exact lp57 _ 1 0 v_939070ca3f i18_0 v_316afd7d0b v_bbcfac9b7d (fun _ => (v_a5cd88ec76 h5)) (Nat.lt_succ_self _)
            · have g26 : ¬ k_5 + n_18 = 72 := fun w => (v_43cd7fe7e1 h4) (by rw [← ez2, show (k_5 + n_18 : Int) = 72 from w]; exact q4)
              refine Z_iinc (c := n_18 + 1) (ls2 := [some (.ref 98), some (.int (zI a)), some (.int (zI b)), some (.int (zI w_5)), some (.int (zI k_5)), some (.int (zI (n_18 + 1))), none, none]) dX12_wordOf_33 rfl (Nat.le_of_ble_eq_true rfl) rfl rfl rfl ?_
              refine J_goto (tgt := 18) dX12_wordOf_36 (by decide) ?_
              exact ih18 (n_18 + 1) (v_da458fa48a i18_0) (v_fb40b5f825 i18_1 g26) (meas_lt v_9f68b0a7cb (v_d47ff0d44a i5_0 i18_1 g26) hm18)
        exact lp18 _ 0 v_939070ca3f (v_b6c3fc2b1b h1) (Nat.lt_succ_self _)
  exact lp5 _ 1 0 v_939070ca3f v_63fe78b188 v_bbcfac9b7d v_239afdb154 (Nat.lt_succ_self _)
set_option maxHeartbeats 4000000 in
set_option maxRecDepth 100000 in
theorem k_splits {l : Launch} {G : jG} {nh : Nat} {fh : Nat → Option va_E} (x : Int) (ms : Int) (mv : Int) (mt : Int) (mfa : Int) (mtn : Int) (mtk : Int) (mlv : Int) (mbd : Int) (mgo : Int) (mge : Int) (mbk : Int) (mtt : Int) (mtl : Int) (hm : Int) (pm : Int) (hb : Int) (sb : Int) (mfu : Int) (mdm : Int) (mla : Int) (cc : Int → Int) (va : Int → Int) (pl : Int → Int) (wd : Int → Int) (ta : Int → Int) (q0 : 0 ≤ x) (q1 : x ≤ 400) (q2 : Rg cc 401 (-2147483648) 2147483647) (q3 : Rg va 401 (-2147483648) 2147483647) (q4 : Rg pl 401 0 400) (q5 : Rg wd 73 (-128) 127) (q6 : wd 72 = 32) (q7 : Rg ta 400 (-128) 127) (hk98 : fh 98 = some (.inr (12, (.int (zI ms) :: .int (zI mv) :: .ref 99 :: .ref 100 :: .ref 101 :: .ref 102 :: .ref 103 :: .ref 104 :: .ref 105 :: .int (zI mt) :: .int (zI mfa) :: .ref 106 :: .ref 107 :: .ref 108 :: .int (zI mtn) :: .int (zI mtk) :: .int (zI mlv) :: .int (zI mbd) :: .int (zI mgo) :: .int (zI mge) :: .int (zI mbk) :: .ref 109 :: .int (zI mtt) :: .int (zI mtl) :: .ref 110 :: .ref 111 :: .ref 112 :: .ref 113 :: .ref 114 :: .ref 115 :: .ref 116 :: .ref 117 :: .int (zI hm) :: .int (zI pm) :: .int (zI hb) :: .int (zI sb) :: .ref 118 :: .ref 119 :: .ref 120 :: .ref 121 :: .ref 122 :: .ref 123 :: .ref 124 :: .ref 125 :: .ref 126 :: .ref 127 :: .ref 128 :: .ref 129 :: .int (zI mfu) :: .ref 130 :: .ref 131 :: .ref 132 :: .ref 133 :: .ref 134 :: .int (zI mdm) :: .int (zI mla) :: [])))) (hk106 : fh 106 = some (.inl (0, 401, .inl (zA cc)))) (hk107 : fh 107 = some (.inl (0, 401, .inl (zA va)))) (hk108 : fh 108 = some (.inl (0, 401, .inl (zA pl)))) (hk103 : fh 103 = some (.inl (3, 73, .inl (zA wd)))) (hk104 : fh 104 = some (.inl (3, 400, .inl (zA ta)))) : JM l G yX12_splits MX12_splits { frames := 1, cells := 0, slots := 0, locals := 27 } [.ref 98, .int (zI x)] (nh, fh) (fun rr h9 => ∃ tn2 : Int, ∃ cc2 : Int → Int, ∃ va2 : Int → Int, ∃ pl2 : Int → Int, rr = none ∧ h9 = (nh, hc fh [(98, .inr (12, (.int (zI ms) :: .int (zI mv) :: .ref 99 :: .ref 100 :: .ref 101 :: .ref 102 :: .ref 103 :: .ref 104 :: .ref 105 :: .int (zI mt) :: .int (zI mfa) :: .ref 106 :: .ref 107 :: .ref 108 :: .int (zI tn2) :: .int (zI mtk) :: .int (zI mlv) :: .int (zI mbd) :: .int (zI mgo) :: .int (zI mge) :: .int (zI mbk) :: .ref 109 :: .int (zI mtt) :: .int (zI mtl) :: .ref 110 :: .ref 111 :: .ref 112 :: .ref 113 :: .ref 114 :: .ref 115 :: .ref 116 :: .ref 117 :: .int (zI hm) :: .int (zI pm) :: .int (zI hb) :: .int (zI sb) :: .ref 118 :: .ref 119 :: .ref 120 :: .ref 121 :: .ref 122 :: .ref 123 :: .ref 124 :: .ref 125 :: .ref 126 :: .ref 127 :: .ref 128 :: .ref 129 :: .int (zI mfu) :: .ref 130 :: .ref 131 :: .ref 132 :: .ref 133 :: .ref 134 :: .int (zI mdm) :: .int (zI mla) :: []))), (106, .inl (0, 401, .inl (zA cc2))), (107, .inl (0, 401, .inl (zA va2))), (108, .inl (0, 401, .inl (zA pl2)))]) ∧ (0 ≤ tn2) ∧ (tn2 ≤ x) ∧ (cc2 tn2 = 0) ∧ (Rg cc2 401 (-2147483648) 2147483647) ∧ (Rg va2 401 (-2147483648) 2147483647) ∧ (Rg pl2 401 0 400)) := by
  refine JM.of (by decide) rfl (fun h => by cases h) (Nat.le_of_ble_eq_true rfl) ⟨4, rfl⟩ ?_
  refine J_hc0 (J_ls (ls2 := [some (.ref 98), some (.int (zI x)), none, none, none, none]) rfl ?_)
  refine J_aload_n dX12_splits_0 rfl rfl ?_
  refine Z_iconst (n := 0) dX12_splits_1 ?_
  refine K_put (fs2 := (.int (zI ms) :: .int (zI mv) :: .ref 99 :: .ref 100 :: .ref 101 :: .ref 102 :: .ref 103 :: .ref 104 :: .ref 105 :: .int (zI mt) :: .int (zI mfa) :: .ref 106 :: .ref 107 :: .ref 108 :: .int (zI 0) :: .int (zI mtk) :: .int (zI mlv) :: .int (zI mbd) :: .int (zI mgo) :: .int (zI mge) :: .int (zI mbk) :: .ref 109 :: .int (zI mtt) :: .int (zI mtl) :: .ref 110 :: .ref 111 :: .ref 112 :: .ref 113 :: .ref 114 :: .ref 115 :: .ref 116 :: .ref 117 :: .int (zI hm) :: .int (zI pm) :: .int (zI hb) :: .int (zI sb) :: .ref 118 :: .ref 119 :: .ref 120 :: .ref 121 :: .ref 122 :: .ref 123 :: .ref 124 :: .ref 125 :: .ref 126 :: .ref 127 :: .ref 128 :: .ref 129 :: .int (zI mfu) :: .ref 130 :: .ref 131 :: .ref 132 :: .ref 133 :: .ref 134 :: .int (zI mdm) :: .int (zI mla) :: [])) dX12_splits_2 fw_X12_165 hk98 (Nat.le_of_ble_eq_true rfl) (fun _ => ⟨rfl, rfl⟩) rfl ?_
  refine Z_iconst (n := 0) dX12_splits_5 ?_
  refine J_istore_n dX12_splits_6 rfl (Nat.le_of_ble_eq_true rfl) rfl ?_
  refine J_ls (ls2 := [some (.ref 98), some (.int (zI x)), some (.int (zI 0)), none, none, none]) rfl ?_
  refine J_touch (k := 106) (e := .inl (0, 401, .inl (zA cc))) hk106 ?_
  refine J_touch (k := 107) (e := .inl (0, 401, .inl (zA va))) hk107 ?_
  refine J_touch (k := 108) (e := .inl (0, 401, .inl (zA pl))) hk108 ?_
  have lp7 : ∀ (N7 : Nat) (k_7 : Int) (tn_7 : Int) (cx_7 : Int → Int) (vx_7 : Int → Int) (px_7 : Int → Int), (0 ≤ k_7) → (k_7 ≤ x) → (0 ≤ tn_7) → (tn_7 ≤ k_7) → (Rg cx_7 401 (-2147483648) 2147483647) → (Rg vx_7 401 (-2147483648) 2147483647) → (Rg px_7 401 0 400) → (x - k_7).toNat < N7 → J l G MX12_splits { frames := 1, cells := 0, slots := 0, locals := 27 } jE (jMQ G { frames := 1, cells := 0, slots := 0, locals := 27 } (fun rr h9 => ∃ tn2 : Int, ∃ cc2 : Int → Int, ∃ va2 : Int → Int, ∃ pl2 : Int → Int, rr = none ∧ h9 = (nh, hc fh [(98, .inr (12, (.int (zI ms) :: .int (zI mv) :: .ref 99 :: .ref 100 :: .ref 101 :: .ref 102 :: .ref 103 :: .ref 104 :: .ref 105 :: .int (zI mt) :: .int (zI mfa) :: .ref 106 :: .ref 107 :: .ref 108 :: .int (zI tn2) :: .int (zI mtk) :: .int (zI mlv) :: .int (zI mbd) :: .int (zI mgo) :: .int (zI mge) :: .int (zI mbk) :: .ref 109 :: .int (zI mtt) :: .int (zI mtl) :: .ref 110 :: .ref 111 :: .ref 112 :: .ref 113 :: .ref 114 :: .ref 115 :: .ref 116 :: .ref 117 :: .int (zI hm) :: .int (zI pm) :: .int (zI hb) :: .int (zI sb) :: .ref 118 :: .ref 119 :: .ref 120 :: .ref 121 :: .ref 122 :: .ref 123 :: .ref 124 :: .ref 125 :: .ref 126 :: .ref 127 :: .ref 128 :: .ref 129 :: .int (zI mfu) :: .ref 130 :: .ref 131 :: .ref 132 :: .ref 133 :: .ref 134 :: .int (zI mdm) :: .int (zI mla) :: []))), (106, .inl (0, 401, .inl (zA cc2))), (107, .inl (0, 401, .inl (zA va2))), (108, .inl (0, 401, .inl (zA pl2)))]) ∧ (0 ≤ tn2) ∧ (tn2 ≤ x) ∧ (cc2 tn2 = 0) ∧ (Rg cc2 401 (-2147483648) 2147483647) ∧ (Rg va2 401 (-2147483648) 2147483647) ∧ (Rg pl2 401 0 400))) (nh, hc fh [(108, .inl (0, 401, .inl (zA px_7))), (107, .inl (0, 401, .inl (zA vx_7))), (106, .inl (0, 401, .inl (zA cx_7))), (98, .inr (12, (.int (zI ms) :: .int (zI mv) :: .ref 99 :: .ref 100 :: .ref 101 :: .ref 102 :: .ref 103 :: .ref 104 :: .ref 105 :: .int (zI mt) :: .int (zI mfa) :: .ref 106 :: .ref 107 :: .ref 108 :: .int (zI tn_7) :: .int (zI mtk) :: .int (zI mlv) :: .int (zI mbd) :: .int (zI mgo) :: .int (zI mge) :: .int (zI mbk) :: .ref 109 :: .int (zI mtt) :: .int (zI mtl) :: .ref 110 :: .ref 111 :: .ref 112 :: .ref 113 :: .ref 114 :: .ref 115 :: .ref 116 :: .ref 117 :: .int (zI hm) :: .int (zI pm) :: .int (zI hb) :: .int (zI sb) :: .ref 118 :: .ref 119 :: .ref 120 :: .ref 121 :: .ref 122 :: .ref 123 :: .ref 124 :: .ref 125 :: .ref 126 :: .ref 127 :: .ref 128 :: .ref 129 :: .int (zI mfu) :: .ref 130 :: .ref 131 :: .ref 132 :: .ref 133 :: .ref 134 :: .int (zI mdm) :: .int (zI mla) :: [])))]) 0 0 7 [some (.ref 98), some (.int (zI x)), some (.int (zI k_7)), none, none, none] [] := by
    intro N7
    induction N7 with
    | zero => intro k_7 tn_7 cx_7 vx_7 px_7 i7_0 i7_1 i7_2 i7_3 i7_4 i7_5 i7_6 hm; exact absurd hm (Nat.not_lt_zero _)
    | succ N7 ih7 =>
      intro k_7 tn_7 cx_7 vx_7 px_7 i7_0 i7_1 i7_2 i7_3 i7_4 i7_5 i7_6 hm7
      refine J_iload_n dX12_splits_7 rfl rfl ?_
      refine J_iload_n dX12_splits_8 rfl rfl ?_
      refine Z_icmp_ge (tgt := 263) dX12_splits_9 (by decide) (v_fe70e52a1d q1 i7_0 i7_1) (v_d7389cde0f q0 q1) (fun h1 => ?_) (fun h1 => ?_)
      · refine J_aload_n dX12_splits_263 rfl rfl ?_
        refine J_get (v := .ref 108) dX12_splits_264 fl_X12_49 rfl rfl ?_
        refine J_aload_n dX12_splits_267 rfl rfl ?_
        refine J_get (v := .int (zI tn_7)) dX12_splits_268 fl_X12_165 rfl rfl ?_
        refine J_iload_n dX12_splits_271 rfl rfl ?_
        refine Y_iast (v := x) 401 dX12_splits_272 rfl rfl (by decide) (v_2b02420001 i7_2) (v_0a223a9f0c q1 i7_1 i7_3) (fun f2 ef2 => ?_)
        have h3 : Rg f2 401 0 400 := Rg.ups i7_6 ef2 (v_2b02420001 q0) (v_43eb7f5245 q1)
        refine J_aload_n dX12_splits_273 rfl rfl ?_
        refine J_get (v := .ref 106) dX12_splits_274 fl_X12_43 rfl rfl ?_
        refine J_aload_n dX12_splits_277 rfl rfl ?_
        refine J_get (v := .int (zI tn_7)) dX12_splits_278 fl_X12_165 rfl rfl ?_
        refine Z_iconst (n := 0) dX12_splits_281 ?_
        refine Y_iast (v := 0) 401 dX12_splits_282 rfl rfl (by decide) (v_2b02420001 i7_2) (v_0a223a9f0c q1 i7_1 i7_3) (fun f4 ef4 => ?_)
        have h5 : Rg f4 401 (-2147483648) 2147483647 := Rg.ups i7_4 ef4 v_9c5011c36f v_cd342b47c7
        refine J_aload_n dX12_splits_283 rfl rfl ?_
        refine J_get (v := .ref 107) dX12_splits_284 fl_X12_46 rfl rfl ?_
        refine J_aload_n dX12_splits_287 rfl rfl ?_
        refine J_get (v := .int (zI tn_7)) dX12_splits_288 fl_X12_165 rfl rfl ?_
        refine Z_iconst (n := 0) dX12_splits_291 ?_
        refine Y_iast (v := 0) 401 dX12_splits_292 rfl rfl (by decide) (v_2b02420001 i7_2) (v_0a223a9f0c q1 i7_1 i7_3) (fun f6 ef6 => ?_)
        have h7 : Rg f6 401 (-2147483648) 2147483647 := Rg.ups i7_5 ef6 v_9c5011c36f v_cd342b47c7
        refine J_mask (L2 := [(107, .inl (0, 401, .inl (zA f6))), (106, .inl (0, 401, .inl (zA f4))), (108, .inl (0, 401, .inl (zA f2))), (98, .inr (12, (.int (zI ms) :: .int (zI mv) :: .ref 99 :: .ref 100 :: .ref 101 :: .ref 102 :: .ref 103 :: .ref 104 :: .ref 105 :: .int (zI mt) :: .int (zI mfa) :: .ref 106 :: .ref 107 :: .ref 108 :: .int (zI tn_7) :: .int (zI mtk) :: .int (zI mlv) :: .int (zI mbd) :: .int (zI mgo) :: .int (zI mge) :: .int (zI mbk) :: .ref 109 :: .int (zI mtt) :: .int (zI mtl) :: .ref 110 :: .ref 111 :: .ref 112 :: .ref 113 :: .ref 114 :: .ref 115 :: .ref 116 :: .ref 117 :: .int (zI hm) :: .int (zI pm) :: .int (zI hb) :: .int (zI sb) :: .ref 118 :: .ref 119 :: .ref 120 :: .ref 121 :: .ref 122 :: .ref 123 :: .ref 124 :: .ref 125 :: .ref 126 :: .ref 127 :: .ref 128 :: .ref 129 :: .int (zI mfu) :: .ref 130 :: .ref 131 :: .ref 132 :: .ref 133 :: .ref 134 :: .int (zI mdm) :: .int (zI mla) :: [])))]) (ks := [107, 106, 108, 108, 107, 106, 98]) [true, true, true, false, false, false, true] rfl (by decide +kernel) rfl ?_
        refine J_touch (k := 108) (e := .inl (0, 401, .inl (zA f2))) rfl ?_
        refine J_touch (k := 107) (e := .inl (0, 401, .inl (zA f6))) rfl ?_
        refine J_touch (k := 106) (e := .inl (0, 401, .inl (zA f4))) rfl ?_
        refine J_touch (k := 98) (e := .inr (12, (.int (zI ms) :: .int (zI mv) :: .ref 99 :: .ref 100 :: .ref 101 :: .ref 102 :: .ref 103 :: .ref 104 :: .ref 105 :: .int (zI mt) :: .int (zI mfa) :: .ref 106 :: .ref 107 :: .ref 108 :: .int (zI tn_7) :: .int (zI mtk) :: .int (zI mlv) :: .int (zI mbd) :: .int (zI mgo) :: .int (zI mge) :: .int (zI mbk) :: .ref 109 :: .int (zI mtt) :: .int (zI mtl) :: .ref 110 :: .ref 111 :: .ref 112 :: .ref 113 :: .ref 114 :: .ref 115 :: .ref 116 :: .ref 117 :: .int (zI hm) :: .int (zI pm) :: .int (zI hb) :: .int (zI sb) :: .ref 118 :: .ref 119 :: .ref 120 :: .ref 121 :: .ref 122 :: .ref 123 :: .ref 124 :: .ref 125 :: .ref 126 :: .ref 127 :: .ref 128 :: .ref 129 :: .int (zI mfu) :: .ref 130 :: .ref 131 :: .ref 132 :: .ref 133 :: .ref 134 :: .int (zI mdm) :: .int (zI mla) :: []))) rfl ?_
        refine J_mask (L2 := [(98, .inr (12, (.int (zI ms) :: .int (zI mv) :: .ref 99 :: .ref 100 :: .ref 101 :: .ref 102 :: .ref 103 :: .ref 104 :: .ref 105 :: .int (zI mt) :: .int (zI mfa) :: .ref 106 :: .ref 107 :: .ref 108 :: .int (zI tn_7) :: .int (zI mtk) :: .int (zI mlv) :: .int (zI mbd) :: .int (zI mgo) :: .int (zI mge) :: .int (zI mbk) :: .ref 109 :: .int (zI mtt) :: .int (zI mtl) :: .ref 110 :: .ref 111 :: .ref 112 :: .ref 113 :: .ref 114 :: .ref 115 :: .ref 116 :: .ref 117 :: .int (zI hm) :: .int (zI pm) :: .int (zI hb) :: .int (zI sb) :: .ref 118 :: .ref 119 :: .ref 120 :: .ref 121 :: .ref 122 :: .ref 123 :: .ref 124 :: .ref 125 :: .ref 126 :: .ref 127 :: .ref 128 :: .ref 129 :: .int (zI mfu) :: .ref 130 :: .ref 131 :: .ref 132 :: .ref 133 :: .ref 134 :: .int (zI mdm) :: .int (zI mla) :: []))), (106, .inl (0, 401, .inl (zA f4))), (107, .inl (0, 401, .inl (zA f6))), (108, .inl (0, 401, .inl (zA f2)))]) (ks := [98, 106, 107, 108, 107, 106, 108, 98]) [true, true, true, true, false, false, false, false] rfl (by decide +kernel) rfl ?_
        exact J_vret dX12_splits_293 rfl (Nat.le_of_ble_eq_true rfl) (Nat.le_of_ble_eq_true rfl) ⟨tn_7, f4, f6, f2, rfl, rfl, i7_2, (v_f57be7c965 i7_1 i7_3), (by rw [ef4, up_same]), h5, h7, h3⟩
      · refine J_aload_n dX12_splits_12 rfl rfl ?_
        refine J_get (v := .ref 104) dX12_splits_13 fl_X12_34 rfl rfl ?_
        refine J_iload_n dX12_splits_16 rfl rfl ?_
        obtain ⟨z8, ez8⟩ : ∃ z : Int, ta k_7 = z := ⟨_, rfl⟩
        have h9 := Rg.at q7 (v_2b02420001 i7_0) (v_5d8e28db30 q1 h1) ez8
        refine Y_bald (z := z8) 400 dX12_splits_17 hk104 rfl (by decide) (v_2b02420001 i7_0) (v_5d8e28db30 q1 h1) ez8 ?_
        refine J_istore_n dX12_splits_18 rfl (Nat.le_of_ble_eq_true rfl) rfl ?_
        refine J_ls (ls2 := [some (.ref 98), some (.int (zI x)), some (.int (zI k_7)), some (.int (zI z8)), none, none]) rfl ?_
        refine J_iload_n dX12_splits_19 rfl rfl ?_
        refine Z_bipush (n := 32) dX12_splits_20 (by decide +kernel) ?_
        refine Z_icmp_ne (tgt := 31) dX12_splits_22 (by decide) (v_9f0444dcde h9.1 h9.2) v_27308ff615 (fun h10 => ?_) (fun h10 => ?_)
        · refine J_iload_n dX12_splits_31 rfl rfl ?_
          refine Z_iconst (n := 1) dX12_splits_32 ?_
          refine Z_iadd (c := k_7 + 1) dX12_splits_33 rfl ?_
          refine J_istore dX12_splits_34 (Nat.le_of_ble_eq_true rfl) rfl ?_
          refine J_ls (ls2 := [some (.ref 98), some (.int (zI x)), some (.int (zI k_7)), some (.int (zI z8)), some (.int (zI (k_7 + 1))), none]) rfl ?_
          have jn68 : ∀ (l4_68j : Int), (k_7 < l4_68j) → (l4_68j ≤ x) → J l G MX12_splits { frames := 1, cells := 0, slots := 0, locals := 27 } jE (jMQ G { frames := 1, cells := 0, slots := 0, locals := 27 } (fun rr h9 => ∃ tn2 : Int, ∃ cc2 : Int → Int, ∃ va2 : Int → Int, ∃ pl2 : Int → Int, rr = none ∧ h9 = (nh, hc fh [(98, .inr (12, (.int (zI ms) :: .int (zI mv) :: .ref 99 :: .ref 100 :: .ref 101 :: .ref 102 :: .ref 103 :: .ref 104 :: .ref 105 :: .int (zI mt) :: .int (zI mfa) :: .ref 106 :: .ref 107 :: .ref 108 :: .int (zI tn2) :: .int (zI mtk) :: .int (zI mlv) :: .int (zI mbd) :: .int (zI mgo) :: .int (zI mge) :: .int (zI mbk) :: .ref 109 :: .int (zI mtt) :: .int (zI mtl) :: .ref 110 :: .ref 111 :: .ref 112 :: .ref 113 :: .ref 114 :: .ref 115 :: .ref 116 :: .ref 117 :: .int (zI hm) :: .int (zI pm) :: .int (zI hb) :: .int (zI sb) :: .ref 118 :: .ref 119 :: .ref 120 :: .ref 121 :: .ref 122 :: .ref 123 :: .ref 124 :: .ref 125 :: .ref 126 :: .ref 127 :: .ref 128 :: .ref 129 :: .int (zI mfu) :: .ref 130 :: .ref 131 :: .ref 132 :: .ref 133 :: .ref 134 :: .int (zI mdm) :: .int (zI mla) :: []))), (106, .inl (0, 401, .inl (zA cc2))), (107, .inl (0, 401, .inl (zA va2))), (108, .inl (0, 401, .inl (zA pl2)))]) ∧ (0 ≤ tn2) ∧ (tn2 ≤ x) ∧ (cc2 tn2 = 0) ∧ (Rg cc2 401 (-2147483648) 2147483647) ∧ (Rg va2 401 (-2147483648) 2147483647) ∧ (Rg pl2 401 0 400))) (nh, hc fh [(108, .inl (0, 401, .inl (zA px_7))), (107, .inl (0, 401, .inl (zA vx_7))), (106, .inl (0, 401, .inl (zA cx_7))), (98, .inr (12, (.int (zI ms) :: .int (zI mv) :: .ref 99 :: .ref 100 :: .ref 101 :: .ref 102 :: .ref 103 :: .ref 104 :: .ref 105 :: .int (zI mt) :: .int (zI mfa) :: .ref 106 :: .ref 107 :: .ref 108 :: .int (zI tn_7) :: .int (zI mtk) :: .int (zI mlv) :: .int (zI mbd) :: .int (zI mgo) :: .int (zI mge) :: .int (zI mbk) :: .ref 109 :: .int (zI mtt) :: .int (zI mtl) :: .ref 110 :: .ref 111 :: .ref 112 :: .ref 113 :: .ref 114 :: .ref 115 :: .ref 116 :: .ref 117 :: .int (zI hm) :: .int (zI pm) :: .int (zI hb) :: .int (zI sb) :: .ref 118 :: .ref 119 :: .ref 120 :: .ref 121 :: .ref 122 :: .ref 123 :: .ref 124 :: .ref 125 :: .ref 126 :: .ref 127 :: .ref 128 :: .ref 129 :: .int (zI mfu) :: .ref 130 :: .ref 131 :: .ref 132 :: .ref 133 :: .ref 134 :: .int (zI mdm) :: .int (zI mla) :: [])))]) 0 0 68 [some (.ref 98), some (.int (zI x)), some (.int (zI k_7)), some (.int (zI z8)), some (.int (zI l4_68j)), none] [] := by
            intro l4_68j j68_0 j68_1
            refine J_iload_n dX12_splits_68 rfl rfl ?_
            have jn100 : ∀ (l4_100j : Int), (k_7 < l4_100j) → (l4_100j ≤ x) → J l G MX12_splits { frames := 1, cells := 0, slots := 0, locals := 27 } jE (jMQ G { frames := 1, cells := 0, slots := 0, locals := 27 } (fun rr h9 => ∃ tn2 : Int, ∃ cc2 : Int → Int, ∃ va2 : Int → Int, ∃ pl2 : Int → Int, rr = none ∧ h9 = (nh, hc fh [(98, .inr (12, (.int (zI ms) :: .int (zI mv) :: .ref 99 :: .ref 100 :: .ref 101 :: .ref 102 :: .ref 103 :: .ref 104 :: .ref 105 :: .int (zI mt) :: .int (zI mfa) :: .ref 106 :: .ref 107 :: .ref 108 :: .int (zI tn2) :: .int (zI mtk) :: .int (zI mlv) :: .int (zI mbd) :: .int (zI mgo) :: .int (zI mge) :: .int (zI mbk) :: .ref 109 :: .int (zI mtt) :: .int (zI mtl) :: .ref 110 :: .ref 111 :: .ref 112 :: .ref 113 :: .ref 114 :: .ref 115 :: .ref 116 :: .ref 117 :: .int (zI hm) :: .int (zI pm) :: .int (zI hb) :: .int (zI sb) :: .ref 118 :: .ref 119 :: .ref 120 :: .ref 121 :: .ref 122 :: .ref 123 :: .ref 124 :: .ref 125 :: .ref 126 :: .ref 127 :: .ref 128 :: .ref 129 :: .int (zI mfu) :: .ref 130 :: .ref 131 :: .ref 132 :: .ref 133 :: .ref 134 :: .int (zI mdm) :: .int (zI mla) :: []))), (106, .inl (0, 401, .inl (zA cc2))), (107, .inl (0, 401, .inl (zA va2))), (108, .inl (0, 401, .inl (zA pl2)))]) ∧ (0 ≤ tn2) ∧ (tn2 ≤ x) ∧ (cc2 tn2 = 0) ∧ (Rg cc2 401 (-2147483648) 2147483647) ∧ (Rg va2 401 (-2147483648) 2147483647) ∧ (Rg pl2 401 0 400))) (nh, hc fh [(108, .inl (0, 401, .inl (zA px_7))), (107, .inl (0, 401, .inl (zA vx_7))), (106, .inl (0, 401, .inl (zA cx_7))), (98, .inr (12, (.int (zI ms) :: .int (zI mv) :: .ref 99 :: .ref 100 :: .ref 101 :: .ref 102 :: .ref 103 :: .ref 104 :: .ref 105 :: .int (zI mt) :: .int (zI mfa) :: .ref 106 :: .ref 107 :: .ref 108 :: .int (zI tn_7) :: .int (zI mtk) :: .int (zI mlv) :: .int (zI mbd) :: .int (zI mgo) :: .int (zI mge) :: .int (zI mbk) :: .ref 109 :: .int (zI mtt) :: .int (zI mtl) :: .ref 110 :: .ref 111 :: .ref 112 :: .ref 113 :: .ref 114 :: .ref 115 :: .ref 116 :: .ref 117 :: .int (zI hm) :: .int (zI pm) :: .int (zI hb) :: .int (zI sb) :: .ref 118 :: .ref 119 :: .ref 120 :: .ref 121 :: .ref 122 :: .ref 123 :: .ref 124 :: .ref 125 :: .ref 126 :: .ref 127 :: .ref 128 :: .ref 129 :: .int (zI mfu) :: .ref 130 :: .ref 131 :: .ref 132 :: .ref 133 :: .ref 134 :: .int (zI mdm) :: .int (zI mla) :: [])))]) 0 0 100 [some (.ref 98), some (.int (zI x)), some (.int (zI k_7)), some (.int (zI z8)), some (.int (zI l4_100j)), none] [] := by
              intro l4_100j j100_0 j100_1
              refine J_aload_n dX12_splits_100 rfl rfl ?_
              refine J_get (v := .ref 108) dX12_splits_101 fl_X12_49 rfl rfl ?_
              refine J_aload_n dX12_splits_104 rfl rfl ?_
              refine J_get (v := .int (zI tn_7)) dX12_splits_105 fl_X12_165 rfl rfl ?_
              refine J_iload_n dX12_splits_108 rfl rfl ?_
              refine Y_iast (v := k_7) 401 dX12_splits_109 rfl rfl (by decide) (v_2b02420001 i7_2) (v_10fe62569b q1 i7_3 h1) (fun f11 ef11 => ?_)
              have h12 : Rg f11 401 0 400 := Rg.ups i7_6 ef11 (v_2b02420001 i7_0) (v_a765b69cab q1 h1)
              refine J_aload_n dX12_splits_110 rfl rfl ?_
              refine J_get (v := .ref 107) dX12_splits_111 fl_X12_46 rfl rfl ?_
              refine J_aload_n dX12_splits_114 rfl rfl ?_
              refine J_get (v := .int (zI tn_7)) dX12_splits_115 fl_X12_165 rfl rfl ?_
              refine Z_iconst (n := 0) dX12_splits_118 ?_
              refine Y_iast (v := 0) 401 dX12_splits_119 rfl rfl (by decide) (v_2b02420001 i7_2) (v_10fe62569b q1 i7_3 h1) (fun f13 ef13 => ?_)
              have h14 : Rg f13 401 (-2147483648) 2147483647 := Rg.ups i7_5 ef13 v_9c5011c36f v_cd342b47c7
              refine J_aload_n dX12_splits_120 rfl rfl ?_
              refine J_get (v := .ref 106) dX12_splits_121 fl_X12_43 rfl rfl ?_
              refine J_aload_n dX12_splits_124 rfl rfl ?_
              refine J_get (v := .int (zI tn_7)) dX12_splits_125 fl_X12_165 rfl rfl ?_
              refine J_mask (L2 := [(107, .inl (0, 401, .inl (zA f13))), (108, .inl (0, 401, .inl (zA f11))), (106, .inl (0, 401, .inl (zA cx_7))), (98, .inr (12, (.int (zI ms) :: .int (zI mv) :: .ref 99 :: .ref 100 :: .ref 101 :: .ref 102 :: .ref 103 :: .ref 104 :: .ref 105 :: .int (zI mt) :: .int (zI mfa) :: .ref 106 :: .ref 107 :: .ref 108 :: .int (zI tn_7) :: .int (zI mtk) :: .int (zI mlv) :: .int (zI mbd) :: .int (zI mgo) :: .int (zI mge) :: .int (zI mbk) :: .ref 109 :: .int (zI mtt) :: .int (zI mtl) :: .ref 110 :: .ref 111 :: .ref 112 :: .ref 113 :: .ref 114 :: .ref 115 :: .ref 116 :: .ref 117 :: .int (zI hm) :: .int (zI pm) :: .int (zI hb) :: .int (zI sb) :: .ref 118 :: .ref 119 :: .ref 120 :: .ref 121 :: .ref 122 :: .ref 123 :: .ref 124 :: .ref 125 :: .ref 126 :: .ref 127 :: .ref 128 :: .ref 129 :: .int (zI mfu) :: .ref 130 :: .ref 131 :: .ref 132 :: .ref 133 :: .ref 134 :: .int (zI mdm) :: .int (zI mla) :: [])))]) (ks := [107, 108, 108, 107, 106, 98]) [true, true, false, false, true, true] rfl (by decide +kernel) rfl ?_
              have jn165 : ∀ (t0_165j : Int), (0 ≤ t0_165j) → (t0_165j ≤ 1000) → J l G MX12_splits { frames := 1, cells := 0, slots := 0, locals := 27 } jE (jMQ G { frames := 1, cells := 0, slots := 0, locals := 27 } (fun rr h9 => ∃ tn2 : Int, ∃ cc2 : Int → Int, ∃ va2 : Int → Int, ∃ pl2 : Int → Int, rr = none ∧ h9 = (nh, hc fh [(98, .inr (12, (.int (zI ms) :: .int (zI mv) :: .ref 99 :: .ref 100 :: .ref 101 :: .ref 102 :: .ref 103 :: .ref 104 :: .ref 105 :: .int (zI mt) :: .int (zI mfa) :: .ref 106 :: .ref 107 :: .ref 108 :: .int (zI tn2) :: .int (zI mtk) :: .int (zI mlv) :: .int (zI mbd) :: .int (zI mgo) :: .int (zI mge) :: .int (zI mbk) :: .ref 109 :: .int (zI mtt) :: .int (zI mtl) :: .ref 110 :: .ref 111 :: .ref 112 :: .ref 113 :: .ref 114 :: .ref 115 :: .ref 116 :: .ref 117 :: .int (zI hm) :: .int (zI pm) :: .int (zI hb) :: .int (zI sb) :: .ref 118 :: .ref 119 :: .ref 120 :: .ref 121 :: .ref 122 :: .ref 123 :: .ref 124 :: .ref 125 :: .ref 126 :: .ref 127 :: .ref 128 :: .ref 129 :: .int (zI mfu) :: .ref 130 :: .ref 131 :: .ref 132 :: .ref 133 :: .ref 134 :: .int (zI mdm) :: .int (zI mla) :: []))), (106, .inl (0, 401, .inl (zA cc2))), (107, .inl (0, 401, .inl (zA va2))), (108, .inl (0, 401, .inl (zA pl2)))]) ∧ (0 ≤ tn2) ∧ (tn2 ≤ x) ∧ (cc2 tn2 = 0) ∧ (Rg cc2 401 (-2147483648) 2147483647) ∧ (Rg va2 401 (-2147483648) 2147483647) ∧ (Rg pl2 401 0 400))) (nh, hc fh [(107, .inl (0, 401, .inl (zA f13))), (108, .inl (0, 401, .inl (zA f11))), (106, .inl (0, 401, .inl (zA cx_7))), (98, .inr (12, (.int (zI ms) :: .int (zI mv) :: .ref 99 :: .ref 100 :: .ref 101 :: .ref 102 :: .ref 103 :: .ref 104 :: .ref 105 :: .int (zI mt) :: .int (zI mfa) :: .ref 106 :: .ref 107 :: .ref 108 :: .int (zI tn_7) :: .int (zI mtk) :: .int (zI mlv) :: .int (zI mbd) :: .int (zI mgo) :: .int (zI mge) :: .int (zI mbk) :: .ref 109 :: .int (zI mtt) :: .int (zI mtl) :: .ref 110 :: .ref 111 :: .ref 112 :: .ref 113 :: .ref 114 :: .ref 115 :: .ref 116 :: .ref 117 :: .int (zI hm) :: .int (zI pm) :: .int (zI hb) :: .int (zI sb) :: .ref 118 :: .ref 119 :: .ref 120 :: .ref 121 :: .ref 122 :: .ref 123 :: .ref 124 :: .ref 125 :: .ref 126 :: .ref 127 :: .ref 128 :: .ref 129 :: .int (zI mfu) :: .ref 130 :: .ref 131 :: .ref 132 :: .ref 133 :: .ref 134 :: .int (zI mdm) :: .int (zI mla) :: [])))]) 0 0 165 [some (.ref 98), some (.int (zI x)), some (.int (zI k_7)), some (.int (zI z8)), some (.int (zI l4_100j)), none] [.int (zI t0_165j), .int (zI tn_7), .ref 106] := by
                intro t0_165j j165_0 j165_1
                refine Y_iast (v := t0_165j) 401 dX12_splits_165 rfl rfl (by decide) (v_2b02420001 i7_2) (v_10fe62569b q1 i7_3 h1) (fun f15 ef15 => ?_)
                have h16 : Rg f15 401 (-2147483648) 2147483647 := Rg.ups i7_4 ef15 (v_c11e42827f j165_0) (v_093a9fe13f j165_1)
                refine J_iload_n dX12_splits_166 rfl rfl ?_
                refine J_istore dX12_splits_167 (Nat.le_of_ble_eq_true rfl) rfl ?_
                refine J_ls (ls2 := [some (.ref 98), some (.int (zI x)), some (.int (zI k_7)), some (.int (zI z8)), some (.int (zI l4_100j)), some (.int (zI k_7))]) rfl ?_
                refine J_mask (L2 := [(106, .inl (0, 401, .inl (zA f15))), (107, .inl (0, 401, .inl (zA f13))), (108, .inl (0, 401, .inl (zA f11))), (98, .inr (12, (.int (zI ms) :: .int (zI mv) :: .ref 99 :: .ref 100 :: .ref 101 :: .ref 102 :: .ref 103 :: .ref 104 :: .ref 105 :: .int (zI mt) :: .int (zI mfa) :: .ref 106 :: .ref 107 :: .ref 108 :: .int (zI tn_7) :: .int (zI mtk) :: .int (zI mlv) :: .int (zI mbd) :: .int (zI mgo) :: .int (zI mge) :: .int (zI mbk) :: .ref 109 :: .int (zI mtt) :: .int (zI mtl) :: .ref 110 :: .ref 111 :: .ref 112 :: .ref 113 :: .ref 114 :: .ref 115 :: .ref 116 :: .ref 117 :: .int (zI hm) :: .int (zI pm) :: .int (zI hb) :: .int (zI sb) :: .ref 118 :: .ref 119 :: .ref 120 :: .ref 121 :: .ref 122 :: .ref 123 :: .ref 124 :: .ref 125 :: .ref 126 :: .ref 127 :: .ref 128 :: .ref 129 :: .int (zI mfu) :: .ref 130 :: .ref 131 :: .ref 132 :: .ref 133 :: .ref 134 :: .int (zI mdm) :: .int (zI mla) :: [])))]) (ks := [106, 107, 108, 106, 98]) [true, true, true, false, true] rfl (by decide +kernel) rfl ?_
                have lp169 : ∀ (N169 : Nat) (i_169 : Int) (vx_169 : Int → Int), (k_7 ≤ i_169) → (i_169 ≤ l4_100j) → (Rg vx_169 401 (-2147483648) 2147483647) → (l4_100j - i_169).toNat < N169 → J l G MX12_splits { frames := 1, cells := 0, slots := 0, locals := 27 } jE (jMQ G { frames := 1, cells := 0, slots := 0, locals := 27 } (fun rr h9 => ∃ tn2 : Int, ∃ cc2 : Int → Int, ∃ va2 : Int → Int, ∃ pl2 : Int → Int, rr = none ∧ h9 = (nh, hc fh [(98, .inr (12, (.int (zI ms) :: .int (zI mv) :: .ref 99 :: .ref 100 :: .ref 101 :: .ref 102 :: .ref 103 :: .ref 104 :: .ref 105 :: .int (zI mt) :: .int (zI mfa) :: .ref 106 :: .ref 107 :: .ref 108 :: .int (zI tn2) :: .int (zI mtk) :: .int (zI mlv) :: .int (zI mbd) :: .int (zI mgo) :: .int (zI mge) :: .int (zI mbk) :: .ref 109 :: .int (zI mtt) :: .int (zI mtl) :: .ref 110 :: .ref 111 :: .ref 112 :: .ref 113 :: .ref 114 :: .ref 115 :: .ref 116 :: .ref 117 :: .int (zI hm) :: .int (zI pm) :: .int (zI hb) :: .int (zI sb) :: .ref 118 :: .ref 119 :: .ref 120 :: .ref 121 :: .ref 122 :: .ref 123 :: .ref 124 :: .ref 125 :: .ref 126 :: .ref 127 :: .ref 128 :: .ref 129 :: .int (zI mfu) :: .ref 130 :: .ref 131 :: .ref 132 :: .ref 133 :: .ref 134 :: .int (zI mdm) :: .int (zI mla) :: []))), (106, .inl (0, 401, .inl (zA cc2))), (107, .inl (0, 401, .inl (zA va2))), (108, .inl (0, 401, .inl (zA pl2)))]) ∧ (0 ≤ tn2) ∧ (tn2 ≤ x) ∧ (cc2 tn2 = 0) ∧ (Rg cc2 401 (-2147483648) 2147483647) ∧ (Rg va2 401 (-2147483648) 2147483647) ∧ (Rg pl2 401 0 400))) (nh, hc fh [(106, .inl (0, 401, .inl (zA f15))), (107, .inl (0, 401, .inl (zA vx_169))), (108, .inl (0, 401, .inl (zA f11))), (98, .inr (12, (.int (zI ms) :: .int (zI mv) :: .ref 99 :: .ref 100 :: .ref 101 :: .ref 102 :: .ref 103 :: .ref 104 :: .ref 105 :: .int (zI mt) :: .int (zI mfa) :: .ref 106 :: .ref 107 :: .ref 108 :: .int (zI tn_7) :: .int (zI mtk) :: .int (zI mlv) :: .int (zI mbd) :: .int (zI mgo) :: .int (zI mge) :: .int (zI mbk) :: .ref 109 :: .int (zI mtt) :: .int (zI mtl) :: .ref 110 :: .ref 111 :: .ref 112 :: .ref 113 :: .ref 114 :: .ref 115 :: .ref 116 :: .ref 117 :: .int (zI hm) :: .int (zI pm) :: .int (zI hb) :: .int (zI sb) :: .ref 118 :: .ref 119 :: .ref 120 :: .ref 121 :: .ref 122 :: .ref 123 :: .ref 124 :: .ref 125 :: .ref 126 :: .ref 127 :: .ref 128 :: .ref 129 :: .int (zI mfu) :: .ref 130 :: .ref 131 :: .ref 132 :: .ref 133 :: .ref 134 :: .int (zI mdm) :: .int (zI mla) :: [])))]) 0 0 169 [some (.ref 98), some (.int (zI x)), some (.int (zI k_7)), some (.int (zI z8)), some (.int (zI l4_100j)), some (.int (zI i_169))] [] := by
                  intro N169
                  induction N169 with
                  | zero => intro i_169 vx_169 i169_0 i169_1 i169_2 hm; exact absurd hm (Nat.not_lt_zero _)
                  | succ N169 ih169 =>
                    intro i_169 vx_169 i169_0 i169_1 i169_2 hm169
                    refine J_iload dX12_splits_169 rfl ?_
                    refine J_iload dX12_splits_171 rfl ?_
                    refine Z_icmp_ge (tgt := 247) dX12_splits_173 (by decide) (v_cc962fa438 q1 i7_0 j100_1 i169_0 i169_1) (v_9b547f99e7 q1 i7_0 j100_0 j100_1) (fun h17 => ?_) (fun h17 => ?_)
                    · refine J_aload_n dX12_splits_247 rfl rfl ?_
                      refine J_dup dX12_splits_248 rfl ?_
                      refine J_get (v := .int (zI tn_7)) dX12_splits_249 fl_X12_165 rfl rfl ?_
                      refine Z_iconst (n := 1) dX12_splits_252 ?_
                      refine Z_iadd (c := tn_7 + 1) dX12_splits_253 rfl ?_
                      refine K_put (fs2 := (.int (zI ms) :: .int (zI mv) :: .ref 99 :: .ref 100 :: .ref 101 :: .ref 102 :: .ref 103 :: .ref 104 :: .ref 105 :: .int (zI mt) :: .int (zI mfa) :: .ref 106 :: .ref 107 :: .ref 108 :: .int (zI (tn_7 + 1)) :: .int (zI mtk) :: .int (zI mlv) :: .int (zI mbd) :: .int (zI mgo) :: .int (zI mge) :: .int (zI mbk) :: .ref 109 :: .int (zI mtt) :: .int (zI mtl) :: .ref 110 :: .ref 111 :: .ref 112 :: .ref 113 :: .ref 114 :: .ref 115 :: .ref 116 :: .ref 117 :: .int (zI hm) :: .int (zI pm) :: .int (zI hb) :: .int (zI sb) :: .ref 118 :: .ref 119 :: .ref 120 :: .ref 121 :: .ref 122 :: .ref 123 :: .ref 124 :: .ref 125 :: .ref 126 :: .ref 127 :: .ref 128 :: .ref 129 :: .int (zI mfu) :: .ref 130 :: .ref 131 :: .ref 132 :: .ref 133 :: .ref 134 :: .int (zI mdm) :: .int (zI mla) :: [])) dX12_splits_254 fw_X12_165 rfl (Nat.le_of_ble_eq_true rfl) (fun _ => ⟨rfl, rfl⟩) rfl ?_
                      refine J_iload dX12_splits_257 rfl ?_
                      refine J_istore_n dX12_splits_259 rfl (Nat.le_of_ble_eq_true rfl) rfl ?_
                      refine J_ls (ls2 := [some (.ref 98), some (.int (zI x)), some (.int (zI l4_100j)), some (.int (zI z8)), some (.int (zI l4_100j)), some (.int (zI i_169))]) rfl ?_
                      refine J_goto (tgt := 7) dX12_splits_260 (by decide) ?_
                      refine J_mask (L2 := [(98, .inr (12, (.int (zI ms) :: .int (zI mv) :: .ref 99 :: .ref 100 :: .ref 101 :: .ref 102 :: .ref 103 :: .ref 104 :: .ref 105 :: .int (zI mt) :: .int (zI mfa) :: .ref 106 :: .ref 107 :: .ref 108 :: .int (zI (tn_7 + 1)) :: .int (zI mtk) :: .int (zI mlv) :: .int (zI mbd) :: .int (zI mgo) :: .int (zI mge) :: .int (zI mbk) :: .ref 109 :: .int (zI mtt) :: .int (zI mtl) :: .ref 110 :: .ref 111 :: .ref 112 :: .ref 113 :: .ref 114 :: .ref 115 :: .ref 116 :: .ref 117 :: .int (zI hm) :: .int (zI pm) :: .int (zI hb) :: .int (zI sb) :: .ref 118 :: .ref 119 :: .ref 120 :: .ref 121 :: .ref 122 :: .ref 123 :: .ref 124 :: .ref 125 :: .ref 126 :: .ref 127 :: .ref 128 :: .ref 129 :: .int (zI mfu) :: .ref 130 :: .ref 131 :: .ref 132 :: .ref 133 :: .ref 134 :: .int (zI mdm) :: .int (zI mla) :: []))), (106, .inl (0, 401, .inl (zA f15))), (107, .inl (0, 401, .inl (zA vx_169))), (108, .inl (0, 401, .inl (zA f11)))]) (ks := [98, 106, 107, 108, 98]) [true, true, true, true, false] rfl (by decide +kernel) rfl ?_
                      refine J_touch (k := 98) (e := .inr (12, (.int (zI ms) :: .int (zI mv) :: .ref 99 :: .ref 100 :: .ref 101 :: .ref 102 :: .ref 103 :: .ref 104 :: .ref 105 :: .int (zI mt) :: .int (zI mfa) :: .ref 106 :: .ref 107 :: .ref 108 :: .int (zI (tn_7 + 1)) :: .int (zI mtk) :: .int (zI mlv) :: .int (zI mbd) :: .int (zI mgo) :: .int (zI mge) :: .int (zI mbk) :: .ref 109 :: .int (zI mtt) :: .int (zI mtl) :: .ref 110 :: .ref 111 :: .ref 112 :: .ref 113 :: .ref 114 :: .ref 115 :: .ref 116 :: .ref 117 :: .int (zI hm) :: .int (zI pm) :: .int (zI hb) :: .int (zI sb) :: .ref 118 :: .ref 119 :: .ref 120 :: .ref 121 :: .ref 122 :: .ref 123 :: .ref 124 :: .ref 125 :: .ref 126 :: .ref 127 :: .ref 128 :: .ref 129 :: .int (zI mfu) :: .ref 130 :: .ref 131 :: .ref 132 :: .ref 133 :: .ref 134 :: .int (zI mdm) :: .int (zI mla) :: []))) rfl ?_
                      refine J_touch (k := 106) (e := .inl (0, 401, .inl (zA f15))) rfl ?_
                      refine J_touch (k := 107) (e := .inl (0, 401, .inl (zA vx_169))) rfl ?_
                      refine J_touch (k := 108) (e := .inl (0, 401, .inl (zA f11))) rfl ?_
                      refine J_mask (L2 := [(108, .inl (0, 401, .inl (zA f11))), (107, .inl (0, 401, .inl (zA vx_169))), (106, .inl (0, 401, .inl (zA f15))), (98, .inr (12, (.int (zI ms) :: .int (zI mv) :: .ref 99 :: .ref 100 :: .ref 101 :: .ref 102 :: .ref 103 :: .ref 104 :: .ref 105 :: .int (zI mt) :: .int (zI mfa) :: .ref 106 :: .ref 107 :: .ref 108 :: .int (zI (tn_7 + 1)) :: .int (zI mtk) :: .int (zI mlv) :: .int (zI mbd) :: .int (zI mgo) :: .int (zI mge) :: .int (zI mbk) :: .ref 109 :: .int (zI mtt) :: .int (zI mtl) :: .ref 110 :: .ref 111 :: .ref 112 :: .ref 113 :: .ref 114 :: .ref 115 :: .ref 116 :: .ref 117 :: .int (zI hm) :: .int (zI pm) :: .int (zI hb) :: .int (zI sb) :: .ref 118 :: .ref 119 :: .ref 120 :: .ref 121 :: .ref 122 :: .ref 123 :: .ref 124 :: .ref 125 :: .ref 126 :: .ref 127 :: .ref 128 :: .ref 129 :: .int (zI mfu) :: .ref 130 :: .ref 131 :: .ref 132 :: .ref 133 :: .ref 134 :: .int (zI mdm) :: .int (zI mla) :: [])))]) (ks := [108, 107, 106, 98, 98, 106, 107, 108]) [true, true, true, true, false, false, false, false] rfl (by decide +kernel) rfl ?_
                      refine J_drop (ls2 := [some (.ref 98), some (.int (zI x)), some (.int (zI l4_100j)), none, none, none]) [true, true, true, false, false, false] rfl ?_
                      exact ih7 l4_100j (tn_7 + 1) f15 vx_169 f11 (v_156421639c i7_0 j100_0) j100_1 (v_da458fa48a i7_2) (v_b92a3efe88 i7_3 j100_0) h16 i169_2 h12 (meas_lt (v_c3e48321de j100_0) (v_8b7dd7d486 h1) hm7)
                    · refine J_iload_n dX12_splits_176 rfl rfl ?_
                      refine J_callS (st := []) dX12_splits_177 cs_X12_172 (k_isDigit z8 (v_9f0444dcde h9.1 h9.2)) rfl rfl (Nat.le_of_ble_eq_true rfl) ⟨(Nat.le_of_ble_eq_true rfl), (Nat.le_of_ble_eq_true rfl)⟩ ⟨(Nat.le_of_ble_eq_true rfl), (Nat.le_of_ble_eq_true rfl)⟩ (fun r h9 hp => ?_)
                      obtain ⟨z18, rfl, rfl, h19, h20⟩ := hp
                      refine J_nf (nh2 := nh) (ck2 := 0) (sk2 := 0) (st2 := [.int (zI z18)]) rfl rfl rfl rfl ?_
                      refine Z_if_eq (tgt := 247) dX12_splits_180 (by decide) (v_5f10a759cd h19 h20) (fun h21 => ?_) (fun h21 => ?_)
                      · refine J_aload_n dX12_splits_247 rfl rfl ?_
                        refine J_dup dX12_splits_248 rfl ?_
                        refine J_get (v := .int (zI tn_7)) dX12_splits_249 fl_X12_165 rfl rfl ?_
                        refine Z_iconst (n := 1) dX12_splits_252 ?_
                        refine Z_iadd (c := tn_7 + 1) dX12_splits_253 rfl ?_
                        refine K_put (fs2 := (.int (zI ms) :: .int (zI mv) :: .ref 99 :: .ref 100 :: .ref 101 :: .ref 102 :: .ref 103 :: .ref 104 :: .ref 105 :: .int (zI mt) :: .int (zI mfa) :: .ref 106 :: .ref 107 :: .ref 108 :: .int (zI (tn_7 + 1)) :: .int (zI mtk) :: .int (zI mlv) :: .int (zI mbd) :: .int (zI mgo) :: .int (zI mge) :: .int (zI mbk) :: .ref 109 :: .int (zI mtt) :: .int (zI mtl) :: .ref 110 :: .ref 111 :: .ref 112 :: .ref 113 :: .ref 114 :: .ref 115 :: .ref 116 :: .ref 117 :: .int (zI hm) :: .int (zI pm) :: .int (zI hb) :: .int (zI sb) :: .ref 118 :: .ref 119 :: .ref 120 :: .ref 121 :: .ref 122 :: .ref 123 :: .ref 124 :: .ref 125 :: .ref 126 :: .ref 127 :: .ref 128 :: .ref 129 :: .int (zI mfu) :: .ref 130 :: .ref 131 :: .ref 132 :: .ref 133 :: .ref 134 :: .int (zI mdm) :: .int (zI mla) :: [])) dX12_splits_254 fw_X12_165 rfl (Nat.le_of_ble_eq_true rfl) (fun _ => ⟨rfl, rfl⟩) rfl ?_
                        refine J_iload dX12_splits_257 rfl ?_
                        refine J_istore_n dX12_splits_259 rfl (Nat.le_of_ble_eq_true rfl) rfl ?_
                        refine J_ls (ls2 := [some (.ref 98), some (.int (zI x)), some (.int (zI l4_100j)), some (.int (zI z8)), some (.int (zI l4_100j)), some (.int (zI i_169))]) rfl ?_
                        refine J_goto (tgt := 7) dX12_splits_260 (by decide) ?_
                        refine J_mask (L2 := [(98, .inr (12, (.int (zI ms) :: .int (zI mv) :: .ref 99 :: .ref 100 :: .ref 101 :: .ref 102 :: .ref 103 :: .ref 104 :: .ref 105 :: .int (zI mt) :: .int (zI mfa) :: .ref 106 :: .ref 107 :: .ref 108 :: .int (zI (tn_7 + 1)) :: .int (zI mtk) :: .int (zI mlv) :: .int (zI mbd) :: .int (zI mgo) :: .int (zI mge) :: .int (zI mbk) :: .ref 109 :: .int (zI mtt) :: .int (zI mtl) :: .ref 110 :: .ref 111 :: .ref 112 :: .ref 113 :: .ref 114 :: .ref 115 :: .ref 116 :: .ref 117 :: .int (zI hm) :: .int (zI pm) :: .int (zI hb) :: .int (zI sb) :: .ref 118 :: .ref 119 :: .ref 120 :: .ref 121 :: .ref 122 :: .ref 123 :: .ref 124 :: .ref 125 :: .ref 126 :: .ref 127 :: .ref 128 :: .ref 129 :: .int (zI mfu) :: .ref 130 :: .ref 131 :: .ref 132 :: .ref 133 :: .ref 134 :: .int (zI mdm) :: .int (zI mla) :: []))), (106, .inl (0, 401, .inl (zA f15))), (107, .inl (0, 401, .inl (zA vx_169))), (108, .inl (0, 401, .inl (zA f11)))]) (ks := [98, 106, 107, 108, 98]) [true, true, true, true, false] rfl (by decide +kernel) rfl ?_
                        refine J_touch (k := 98) (e := .inr (12, (.int (zI ms) :: .int (zI mv) :: .ref 99 :: .ref 100 :: .ref 101 :: .ref 102 :: .ref 103 :: .ref 104 :: .ref 105 :: .int (zI mt) :: .int (zI mfa) :: .ref 106 :: .ref 107 :: .ref 108 :: .int (zI (tn_7 + 1)) :: .int (zI mtk) :: .int (zI mlv) :: .int (zI mbd) :: .int (zI mgo) :: .int (zI mge) :: .int (zI mbk) :: .ref 109 :: .int (zI mtt) :: .int (zI mtl) :: .ref 110 :: .ref 111 :: .ref 112 :: .ref 113 :: .ref 114 :: .ref 115 :: .ref 116 :: .ref 117 :: .int (zI hm) :: .int (zI pm) :: .int (zI hb) :: .int (zI sb) :: .ref 118 :: .ref 119 :: .ref 120 :: .ref 121 :: .ref 122 :: .ref 123 :: .ref 124 :: .ref 125 :: .ref 126 :: .ref 127 :: .ref 128 :: .ref 129 :: .int (zI mfu) :: .ref 130 :: .ref 131 :: .ref 132 :: .ref 133 :: .ref 134 :: .int (zI mdm) :: .int (zI mla) :: []))) rfl ?_
                        refine J_touch (k := 106) (e := .inl (0, 401, .inl (zA f15))) rfl ?_
                        refine J_touch (k := 107) (e := .inl (0, 401, .inl (zA vx_169))) rfl ?_
                        refine J_touch (k := 108) (e := .inl (0, 401, .inl (zA f11))) rfl ?_
                        refine J_mask (L2 := [(108, .inl (0, 401, .inl (zA f11))), (107, .inl (0, 401, .inl (zA vx_169))), (106, .inl (0, 401, .inl (zA f15))), (98, .inr (12, (.int (zI ms) :: .int (zI mv) :: .ref 99 :: .ref 100 :: .ref 101 :: .ref 102 :: .ref 103 :: .ref 104 :: .ref 105 :: .int (zI mt) :: .int (zI mfa) :: .ref 106 :: .ref 107 :: .ref 108 :: .int (zI (tn_7 + 1)) :: .int (zI mtk) :: .int (zI mlv) :: .int (zI mbd) :: .int (zI mgo) :: .int (zI mge) :: .int (zI mbk) :: .ref 109 :: .int (zI mtt) :: .int (zI mtl) :: .ref 110 :: .ref 111 :: .ref 112 :: .ref 113 :: .ref 114 :: .ref 115 :: .ref 116 :: .ref 117 :: .int (zI hm) :: .int (zI pm) :: .int (zI hb) :: .int (zI sb) :: .ref 118 :: .ref 119 :: .ref 120 :: .ref 121 :: .ref 122 :: .ref 123 :: .ref 124 :: .ref 125 :: .ref 126 :: .ref 127 :: .ref 128 :: .ref 129 :: .int (zI mfu) :: .ref 130 :: .ref 131 :: .ref 132 :: .ref 133 :: .ref 134 :: .int (zI mdm) :: .int (zI mla) :: [])))]) (ks := [108, 107, 106, 98, 98, 106, 107, 108]) [true, true, true, true, false, false, false, false] rfl (by decide +kernel) rfl ?_
                        refine J_drop (ls2 := [some (.ref 98), some (.int (zI x)), some (.int (zI l4_100j)), none, none, none]) [true, true, true, false, false, false] rfl ?_
                        exact ih7 l4_100j (tn_7 + 1) f15 vx_169 f11 (v_156421639c i7_0 j100_0) j100_1 (v_da458fa48a i7_2) (v_b92a3efe88 i7_3 j100_0) h16 i169_2 h12 (meas_lt (v_c3e48321de j100_0) (v_8b7dd7d486 h1) hm7)
                      · refine J_aload_n dX12_splits_183 rfl rfl ?_
                        refine J_get (v := .ref 107) dX12_splits_184 fl_X12_46 rfl rfl ?_
                        refine J_aload_n dX12_splits_187 rfl rfl ?_
                        refine J_get (v := .int (zI tn_7)) dX12_splits_188 fl_X12_165 rfl rfl ?_
                        have jn240 : ∀ (t0_240j : Int), (-2147483648 ≤ t0_240j) → (t0_240j ≤ 2147483647) → J l G MX12_splits { frames := 1, cells := 0, slots := 0, locals := 27 } jE (jMQ G { frames := 1, cells := 0, slots := 0, locals := 27 } (fun rr h9 => ∃ tn2 : Int, ∃ cc2 : Int → Int, ∃ va2 : Int → Int, ∃ pl2 : Int → Int, rr = none ∧ h9 = (nh, hc fh [(98, .inr (12, (.int (zI ms) :: .int (zI mv) :: .ref 99 :: .ref 100 :: .ref 101 :: .ref 102 :: .ref 103 :: .ref 104 :: .ref 105 :: .int (zI mt) :: .int (zI mfa) :: .ref 106 :: .ref 107 :: .ref 108 :: .int (zI tn2) :: .int (zI mtk) :: .int (zI mlv) :: .int (zI mbd) :: .int (zI mgo) :: .int (zI mge) :: .int (zI mbk) :: .ref 109 :: .int (zI mtt) :: .int (zI mtl) :: .ref 110 :: .ref 111 :: .ref 112 :: .ref 113 :: .ref 114 :: .ref 115 :: .ref 116 :: .ref 117 :: .int (zI hm) :: .int (zI pm) :: .int (zI hb) :: .int (zI sb) :: .ref 118 :: .ref 119 :: .ref 120 :: .ref 121 :: .ref 122 :: .ref 123 :: .ref 124 :: .ref 125 :: .ref 126 :: .ref 127 :: .ref 128 :: .ref 129 :: .int (zI mfu) :: .ref 130 :: .ref 131 :: .ref 132 :: .ref 133 :: .ref 134 :: .int (zI mdm) :: .int (zI mla) :: []))), (106, .inl (0, 401, .inl (zA cc2))), (107, .inl (0, 401, .inl (zA va2))), (108, .inl (0, 401, .inl (zA pl2)))]) ∧ (0 ≤ tn2) ∧ (tn2 ≤ x) ∧ (cc2 tn2 = 0) ∧ (Rg cc2 401 (-2147483648) 2147483647) ∧ (Rg va2 401 (-2147483648) 2147483647) ∧ (Rg pl2 401 0 400))) (nh, hc fh [(106, .inl (0, 401, .inl (zA f15))), (107, .inl (0, 401, .inl (zA vx_169))), (108, .inl (0, 401, .inl (zA f11))), (98, .inr (12, (.int (zI ms) :: .int (zI mv) :: .ref 99 :: .ref 100 :: .ref 101 :: .ref 102 :: .ref 103 :: .ref 104 :: .ref 105 :: .int (zI mt) :: .int (zI mfa) :: .ref 106 :: .ref 107 :: .ref 108 :: .int (zI tn_7) :: .int (zI mtk) :: .int (zI mlv) :: .int (zI mbd) :: .int (zI mgo) :: .int (zI mge) :: .int (zI mbk) :: .ref 109 :: .int (zI mtt) :: .int (zI mtl) :: .ref 110 :: .ref 111 :: .ref 112 :: .ref 113 :: .ref 114 :: .ref 115 :: .ref 116 :: .ref 117 :: .int (zI hm) :: .int (zI pm) :: .int (zI hb) :: .int (zI sb) :: .ref 118 :: .ref 119 :: .ref 120 :: .ref 121 :: .ref 122 :: .ref 123 :: .ref 124 :: .ref 125 :: .ref 126 :: .ref 127 :: .ref 128 :: .ref 129 :: .int (zI mfu) :: .ref 130 :: .ref 131 :: .ref 132 :: .ref 133 :: .ref 134 :: .int (zI mdm) :: .int (zI mla) :: [])))]) 0 0 240 [some (.ref 98), some (.int (zI x)), some (.int (zI k_7)), some (.int (zI z8)), some (.int (zI l4_100j)), some (.int (zI i_169))] [.int (zI t0_240j), .int (zI tn_7), .ref 107] := by
                          intro t0_240j j240_0 j240_1
                          refine Y_iast (v := t0_240j) 401 dX12_splits_240 rfl rfl (by decide) (v_2b02420001 i7_2) (v_10fe62569b q1 i7_3 h1) (fun f22 ef22 => ?_)
                          have h23 : Rg f22 401 (-2147483648) 2147483647 := Rg.ups i169_2 ef22 (v_d88ddc6924 j240_0) (v_1b64565166 j240_1)
                          refine Z_iinc (c := i_169 + 1) (ls2 := [some (.ref 98), some (.int (zI x)), some (.int (zI k_7)), some (.int (zI z8)), some (.int (zI l4_100j)), some (.int (zI (i_169 + 1)))]) dX12_splits_241 rfl (Nat.le_of_ble_eq_true rfl) rfl rfl rfl ?_
                          refine J_goto (tgt := 169) dX12_splits_244 (by decide) ?_
                          refine J_mask (L2 := [(107, .inl (0, 401, .inl (zA f22))), (106, .inl (0, 401, .inl (zA f15))), (108, .inl (0, 401, .inl (zA f11))), (98, .inr (12, (.int (zI ms) :: .int (zI mv) :: .ref 99 :: .ref 100 :: .ref 101 :: .ref 102 :: .ref 103 :: .ref 104 :: .ref 105 :: .int (zI mt) :: .int (zI mfa) :: .ref 106 :: .ref 107 :: .ref 108 :: .int (zI tn_7) :: .int (zI mtk) :: .int (zI mlv) :: .int (zI mbd) :: .int (zI mgo) :: .int (zI mge) :: .int (zI mbk) :: .ref 109 :: .int (zI mtt) :: .int (zI mtl) :: .ref 110 :: .ref 111 :: .ref 112 :: .ref 113 :: .ref 114 :: .ref 115 :: .ref 116 :: .ref 117 :: .int (zI hm) :: .int (zI pm) :: .int (zI hb) :: .int (zI sb) :: .ref 118 :: .ref 119 :: .ref 120 :: .ref 121 :: .ref 122 :: .ref 123 :: .ref 124 :: .ref 125 :: .ref 126 :: .ref 127 :: .ref 128 :: .ref 129 :: .int (zI mfu) :: .ref 130 :: .ref 131 :: .ref 132 :: .ref 133 :: .ref 134 :: .int (zI mdm) :: .int (zI mla) :: [])))]) (ks := [107, 106, 107, 108, 98]) [true, true, false, true, true] rfl (by decide +kernel) rfl ?_
                          refine J_touch (k := 98) (e := .inr (12, (.int (zI ms) :: .int (zI mv) :: .ref 99 :: .ref 100 :: .ref 101 :: .ref 102 :: .ref 103 :: .ref 104 :: .ref 105 :: .int (zI mt) :: .int (zI mfa) :: .ref 106 :: .ref 107 :: .ref 108 :: .int (zI tn_7) :: .int (zI mtk) :: .int (zI mlv) :: .int (zI mbd) :: .int (zI mgo) :: .int (zI mge) :: .int (zI mbk) :: .ref 109 :: .int (zI mtt) :: .int (zI mtl) :: .ref 110 :: .ref 111 :: .ref 112 :: .ref 113 :: .ref 114 :: .ref 115 :: .ref 116 :: .ref 117 :: .int (zI hm) :: .int (zI pm) :: .int (zI hb) :: .int (zI sb) :: .ref 118 :: .ref 119 :: .ref 120 :: .ref 121 :: .ref 122 :: .ref 123 :: .ref 124 :: .ref 125 :: .ref 126 :: .ref 127 :: .ref 128 :: .ref 129 :: .int (zI mfu) :: .ref 130 :: .ref 131 :: .ref 132 :: .ref 133 :: .ref 134 :: .int (zI mdm) :: .int (zI mla) :: []))) rfl ?_
                          refine J_touch (k := 108) (e := .inl (0, 401, .inl (zA f11))) rfl ?_
                          refine J_touch (k := 107) (e := .inl (0, 401, .inl (zA f22))) rfl ?_
                          refine J_touch (k := 106) (e := .inl (0, 401, .inl (zA f15))) rfl ?_
                          refine J_mask (L2 := [(106, .inl (0, 401, .inl (zA f15))), (107, .inl (0, 401, .inl (zA f22))), (108, .inl (0, 401, .inl (zA f11))), (98, .inr (12, (.int (zI ms) :: .int (zI mv) :: .ref 99 :: .ref 100 :: .ref 101 :: .ref 102 :: .ref 103 :: .ref 104 :: .ref 105 :: .int (zI mt) :: .int (zI mfa) :: .ref 106 :: .ref 107 :: .ref 108 :: .int (zI tn_7) :: .int (zI mtk) :: .int (zI mlv) :: .int (zI mbd) :: .int (zI mgo) :: .int (zI mge) :: .int (zI mbk) :: .ref 109 :: .int (zI mtt) :: .int (zI mtl) :: .ref 110 :: .ref 111 :: .ref 112 :: .ref 113 :: .ref 114 :: .ref 115 :: .ref 116 :: .ref 117 :: .int (zI hm) :: .int (zI pm) :: .int (zI hb) :: .int (zI sb) :: .ref 118 :: .ref 119 :: .ref 120 :: .ref 121 :: .ref 122 :: .ref 123 :: .ref 124 :: .ref 125 :: .ref 126 :: .ref 127 :: .ref 128 :: .ref 129 :: .int (zI mfu) :: .ref 130 :: .ref 131 :: .ref 132 :: .ref 133 :: .ref 134 :: .int (zI mdm) :: .int (zI mla) :: [])))]) (ks := [106, 107, 108, 98, 107, 106, 108, 98]) [true, true, true, true, false, false, false, false] rfl (by decide +kernel) rfl ?_
                          exact ih169 (i_169 + 1) f22 (v_d50281bace i169_0) (v_e390a36114 h17) h23 (meas_lt v_90eacd6fd4 (v_8b7dd7d486 h17) hm169)
                        refine J_aload_n dX12_splits_191 rfl rfl ?_
                        refine J_get (v := .ref 107) dX12_splits_192 fl_X12_46 rfl rfl ?_
                        refine J_aload_n dX12_splits_195 rfl rfl ?_
                        refine J_get (v := .int (zI tn_7)) dX12_splits_196 fl_X12_165 rfl rfl ?_
                        obtain ⟨z24, ez24⟩ : ∃ z : Int, vx_169 tn_7 = z := ⟨_, rfl⟩
                        have h25 := Rg.at i169_2 (v_2b02420001 i7_2) (v_10fe62569b q1 i7_3 h1) ez24
                        refine Y_iald (z := z24) 401 dX12_splits_199 rfl rfl (by decide) (v_2b02420001 i7_2) (v_10fe62569b q1 i7_3 h1) ez24 ?_
                        refine J_ldc (v := zI 1000000) dX12_splits_200 (jt7 88 rfl rfl) ?_
                        refine Z_icmp_le (tgt := 217) dX12_splits_202 (by decide) (v_f306e1cdb8 h25.1 h25.2) v_6158abf92a (fun h26 => ?_) (fun h26 => ?_)
                        · refine Z_bipush (n := 10) dX12_splits_217 (by decide +kernel) ?_
                          refine J_aload_n dX12_splits_219 rfl rfl ?_
                          refine J_get (v := .ref 107) dX12_splits_220 fl_X12_46 rfl rfl ?_
                          refine J_aload_n dX12_splits_223 rfl rfl ?_
                          refine J_get (v := .int (zI tn_7)) dX12_splits_224 fl_X12_165 rfl rfl ?_
                          refine Y_iald (z := z24) 401 dX12_splits_227 rfl rfl (by decide) (v_2b02420001 i7_2) (v_10fe62569b q1 i7_3 h1) ez24 ?_
                          refine Z_imul (c := 10 * z24) dX12_splits_228 rfl ?_
                          refine J_aload_n dX12_splits_229 rfl rfl ?_
                          refine J_get (v := .ref 104) dX12_splits_230 fl_X12_34 rfl rfl ?_
                          refine J_iload dX12_splits_233 rfl ?_
                          obtain ⟨z27, ez27⟩ : ∃ z : Int, ta i_169 = z := ⟨_, rfl⟩
                          have h28 := Rg.at q7 (v_21976c7318 i7_0 i169_0) (v_cba26b68a5 q1 j100_1 h17) ez27
                          refine Y_bald (z := z27) 400 dX12_splits_235 hk104 rfl (by decide) (v_21976c7318 i7_0 i169_0) (v_cba26b68a5 q1 j100_1 h17) ez27 ?_
                          refine Z_iadd (c := 10 * z24 + z27) dX12_splits_236 rfl ?_
                          refine Z_bipush (n := 48) dX12_splits_237 (by decide +kernel) ?_
                          refine Z_isub (c := 10 * z24 + z27 - 48) dX12_splits_239 rfl ?_
                          refine Z_any (fun w29 w29r => ?_)
                          exact jn240 w29 (v_9c631c66d9 w29r) (v_602fda786b w29r)
                        · refine J_aload_n dX12_splits_205 rfl rfl ?_
                          refine J_get (v := .ref 107) dX12_splits_206 fl_X12_46 rfl rfl ?_
                          refine J_aload_n dX12_splits_209 rfl rfl ?_
                          refine J_get (v := .int (zI tn_7)) dX12_splits_210 fl_X12_165 rfl rfl ?_
                          refine Y_iald (z := z24) 401 dX12_splits_213 rfl rfl (by decide) (v_2b02420001 i7_2) (v_10fe62569b q1 i7_3 h1) ez24 ?_
                          refine J_goto (tgt := 240) dX12_splits_214 (by decide) ?_
                          exact jn240 z24 h25.1 h25.2
                exact lp169 _ k_7 f13 v_0065452639 (v_c771ab5f01 j100_0) h14 (Nat.lt_succ_self _)
              refine J_iload_n dX12_splits_128 rfl rfl ?_
              refine J_callS (st := [.int (zI tn_7), .ref 106]) dX12_splits_129 cs_X12_168 (k_isSmall z8 (v_9f0444dcde h9.1 h9.2)) rfl rfl (Nat.le_of_ble_eq_true rfl) ⟨(Nat.le_of_ble_eq_true rfl), (Nat.le_of_ble_eq_true rfl)⟩ ⟨(Nat.le_of_ble_eq_true rfl), (Nat.le_of_ble_eq_true rfl)⟩ (fun r h9 hp => ?_)
              obtain ⟨z30, rfl, rfl, h31, h32⟩ := hp
              refine J_nf (nh2 := nh) (ck2 := 0) (sk2 := 0) (st2 := [.int (zI z30), .int (zI tn_7), .ref 106]) rfl rfl rfl rfl ?_
              refine Z_if_eq (tgt := 145) dX12_splits_132 (by decide) (v_5f10a759cd h31 h32) (fun h33 => ?_) (fun h33 => ?_)
              · refine J_iload_n dX12_splits_145 rfl rfl ?_
                refine J_callS (st := [.int (zI tn_7), .ref 106]) dX12_splits_146 cs_X12_172 (k_isDigit z8 (v_9f0444dcde h9.1 h9.2)) rfl rfl (Nat.le_of_ble_eq_true rfl) ⟨(Nat.le_of_ble_eq_true rfl), (Nat.le_of_ble_eq_true rfl)⟩ ⟨(Nat.le_of_ble_eq_true rfl), (Nat.le_of_ble_eq_true rfl)⟩ (fun r h9 hp => ?_)
                obtain ⟨z34, rfl, rfl, h35, h36⟩ := hp
                refine J_nf (nh2 := nh) (ck2 := 0) (sk2 := 0) (st2 := [.int (zI z34), .int (zI tn_7), .ref 106]) rfl rfl rfl rfl ?_
                refine Z_if_eq (tgt := 157) dX12_splits_149 (by decide) (v_5f10a759cd h35 h36) (fun h37 => ?_) (fun h37 => ?_)
                · refine Z_bipush (n := 100) dX12_splits_157 (by decide +kernel) ?_
                  refine J_iload_n dX12_splits_159 rfl rfl ?_
                  refine Z_sipush (n := 255) dX12_splits_160 (by decide +kernel) ?_
                  obtain ⟨z38, ez38⟩ : ∃ z : Int, zand z8 255 = z := ⟨_, rfl⟩
                  refine Y_iand (z := z38) dX12_splits_163 ez38 ?_
                  have h39 : zr z38 := by rw [← ez38]; exact zr_toInt _
                  have h40 : 0 ≤ z38 ∧ z38 ≤ 255 := zand_mask 8 (by decide) (by decide +kernel) (by decide) ez38
                  refine Z_iadd (c := z38 + 100) dX12_splits_164 v_2706a00d49 ?_
                  exact jn165 (z38 + 100) (v_168f970488 h40.1) (v_20c92bdfcf h40.2)
                · refine Z_bipush (n := 50) dX12_splits_152 (by decide +kernel) ?_
                  refine J_goto (tgt := 165) dX12_splits_154 (by decide) ?_
                  exact jn165 50 v_724316b824 v_4874b52341
              · refine J_aload_n dX12_splits_135 rfl rfl ?_
                refine J_iload_n dX12_splits_136 rfl rfl ?_
                refine J_iload dX12_splits_137 rfl ?_
                refine J_callV (st := [.int (zI tn_7), .ref 106]) dX12_splits_139 cv_X12_175 (k_wordOf k_7 l4_100j wd ta ms mv mt mfa tn_7 mtk mlv mbd mgo mge mbk mtt mtl hm pm hb sb mfu mdm mla i7_0 j100_0 (v_60c21438e1 q1 j100_1) q5 q6 q7 rfl hk103 hk104) rfl rfl rfl (Nat.le_of_ble_eq_true rfl) ⟨(Nat.le_of_ble_eq_true rfl), (Nat.le_of_ble_eq_true rfl)⟩ ⟨(Nat.le_of_ble_eq_true rfl), (Nat.le_of_ble_eq_true rfl)⟩ (fun r h9 hp => ?_)
                obtain ⟨z41, rfl, rfl, h42, h43⟩ := hp
                refine J_nf (nh2 := nh) (ck2 := 0) (sk2 := 0) (st2 := [.int (zI z41), .int (zI tn_7), .ref 106]) rfl rfl rfl rfl ?_
                refine J_goto (tgt := 165) dX12_splits_142 (by decide) ?_
                exact jn165 z41 h42 (v_b838735079 h43)
            refine J_callS (st := []) dX12_splits_69 cs_X12_172 (k_isDigit z8 (v_9f0444dcde h9.1 h9.2)) rfl rfl (Nat.le_of_ble_eq_true rfl) ⟨(Nat.le_of_ble_eq_true rfl), (Nat.le_of_ble_eq_true rfl)⟩ ⟨(Nat.le_of_ble_eq_true rfl), (Nat.le_of_ble_eq_true rfl)⟩ (fun r h9 hp => ?_)
            obtain ⟨z44, rfl, rfl, h45, h46⟩ := hp
            refine J_nf (nh2 := nh) (ck2 := 0) (sk2 := 0) (st2 := [.int (zI z44)]) rfl rfl rfl rfl ?_
            refine Z_if_eq (tgt := 100) dX12_splits_72 (by decide) (v_5f10a759cd h45 h46) (fun h47 => ?_) (fun h47 => ?_)
            · exact jn100 l4_68j j68_0 j68_1
            · have lp75 : ∀ (N75 : Nat) (to_75 : Int), (k_7 < to_75) → (to_75 ≤ x) → (x - to_75).toNat < N75 → J l G MX12_splits { frames := 1, cells := 0, slots := 0, locals := 27 } jE (jMQ G { frames := 1, cells := 0, slots := 0, locals := 27 } (fun rr h9 => ∃ tn2 : Int, ∃ cc2 : Int → Int, ∃ va2 : Int → Int, ∃ pl2 : Int → Int, rr = none ∧ h9 = (nh, hc fh [(98, .inr (12, (.int (zI ms) :: .int (zI mv) :: .ref 99 :: .ref 100 :: .ref 101 :: .ref 102 :: .ref 103 :: .ref 104 :: .ref 105 :: .int (zI mt) :: .int (zI mfa) :: .ref 106 :: .ref 107 :: .ref 108 :: .int (zI tn2) :: .int (zI mtk) :: .int (zI mlv) :: .int (zI mbd) :: .int (zI mgo) :: .int (zI mge) :: .int (zI mbk) :: .ref 109 :: .int (zI mtt) :: .int (zI mtl) :: .ref 110 :: .ref 111 :: .ref 112 :: .ref 113 :: .ref 114 :: .ref 115 :: .ref 116 :: .ref 117 :: .int (zI hm) :: .int (zI pm) :: .int (zI hb) :: .int (zI sb) :: .ref 118 :: .ref 119 :: .ref 120 :: .ref 121 :: .ref 122 :: .ref 123 :: .ref 124 :: .ref 125 :: .ref 126 :: .ref 127 :: .ref 128 :: .ref 129 :: .int (zI mfu) :: .ref 130 :: .ref 131 :: .ref 132 :: .ref 133 :: .ref 134 :: .int (zI mdm) :: .int (zI mla) :: []))), (106, .inl (0, 401, .inl (zA cc2))), (107, .inl (0, 401, .inl (zA va2))), (108, .inl (0, 401, .inl (zA pl2)))]) ∧ (0 ≤ tn2) ∧ (tn2 ≤ x) ∧ (cc2 tn2 = 0) ∧ (Rg cc2 401 (-2147483648) 2147483647) ∧ (Rg va2 401 (-2147483648) 2147483647) ∧ (Rg pl2 401 0 400))) (nh, hc fh [(108, .inl (0, 401, .inl (zA px_7))), (107, .inl (0, 401, .inl (zA vx_7))), (106, .inl (0, 401, .inl (zA cx_7))), (98, .inr (12, (.int (zI ms) :: .int (zI mv) :: .ref 99 :: .ref 100 :: .ref 101 :: .ref 102 :: .ref 103 :: .ref 104 :: .ref 105 :: .int (zI mt) :: .int (zI mfa) :: .ref 106 :: .ref 107 :: .ref 108 :: .int (zI tn_7) :: .int (zI mtk) :: .int (zI mlv) :: .int (zI mbd) :: .int (zI mgo) :: .int (zI mge) :: .int (zI mbk) :: .ref 109 :: .int (zI mtt) :: .int (zI mtl) :: .ref 110 :: .ref 111 :: .ref 112 :: .ref 113 :: .ref 114 :: .ref 115 :: .ref 116 :: .ref 117 :: .int (zI hm) :: .int (zI pm) :: .int (zI hb) :: .int (zI sb) :: .ref 118 :: .ref 119 :: .ref 120 :: .ref 121 :: .ref 122 :: .ref 123 :: .ref 124 :: .ref 125 :: .ref 126 :: .ref 127 :: .ref 128 :: .ref 129 :: .int (zI mfu) :: .ref 130 :: .ref 131 :: .ref 132 :: .ref 133 :: .ref 134 :: .int (zI mdm) :: .int (zI mla) :: [])))]) 0 0 75 [some (.ref 98), some (.int (zI x)), some (.int (zI k_7)), some (.int (zI z8)), some (.int (zI to_75)), none] [] := by
                intro N75
                induction N75 with
                | zero => intro to_75 i75_0 i75_1 hm; exact absurd hm (Nat.not_lt_zero _)
                | succ N75 ih75 =>
                  intro to_75 i75_0 i75_1 hm75
                  refine J_iload dX12_splits_75 rfl ?_
                  refine J_iload_n dX12_splits_77 rfl rfl ?_
                  refine Z_icmp_ge (tgt := 100) dX12_splits_78 (by decide) (v_9b547f99e7 q1 i7_0 i75_0 i75_1) (v_d7389cde0f q0 q1) (fun h48 => ?_) (fun h48 => ?_)
                  · exact jn100 to_75 i75_0 i75_1
                  · refine J_aload_n dX12_splits_81 rfl rfl ?_
                    refine J_get (v := .ref 104) dX12_splits_82 fl_X12_34 rfl rfl ?_
                    refine J_iload dX12_splits_85 rfl ?_
                    obtain ⟨z49, ez49⟩ : ∃ z : Int, ta to_75 = z := ⟨_, rfl⟩
                    have h50 := Rg.at q7 (v_156421639c i7_0 i75_0) (v_5d8e28db30 q1 h48) ez49
                    refine Y_bald (z := z49) 400 dX12_splits_87 hk104 rfl (by decide) (v_156421639c i7_0 i75_0) (v_5d8e28db30 q1 h48) ez49 ?_
                    refine J_callS (st := []) dX12_splits_88 cs_X12_172 (k_isDigit z49 (v_9f0444dcde h50.1 h50.2)) rfl rfl (Nat.le_of_ble_eq_true rfl) ⟨(Nat.le_of_ble_eq_true rfl), (Nat.le_of_ble_eq_true rfl)⟩ ⟨(Nat.le_of_ble_eq_true rfl), (Nat.le_of_ble_eq_true rfl)⟩ (fun r h9 hp => ?_)
                    obtain ⟨z51, rfl, rfl, h52, h53⟩ := hp
                    refine J_nf (nh2 := nh) (ck2 := 0) (sk2 := 0) (st2 := [.int (zI z51)]) rfl rfl rfl rfl ?_
                    refine Z_if_eq (tgt := 100) dX12_splits_91 (by decide) (v_5f10a759cd h52 h53) (fun h54 => ?_) (fun h54 => ?_)
                    · exact jn100 to_75 i75_0 i75_1
                    · refine Z_iinc (c := to_75 + 1) (ls2 := [some (.ref 98), some (.int (zI x)), some (.int (zI k_7)), some (.int (zI z8)), some (.int (zI (to_75 + 1))), none]) dX12_splits_94 rfl (Nat.le_of_ble_eq_true rfl) rfl rfl rfl ?_
                      refine J_goto (tgt := 75) dX12_splits_97 (by decide) ?_
                      exact ih75 (to_75 + 1) (v_d6f53c5707 i75_0) (v_e390a36114 h48) (meas_lt v_90eacd6fd4 (v_8b7dd7d486 h48) hm75)
              exact lp75 _ l4_68j j68_0 j68_1 (Nat.lt_succ_self _)
          refine J_iload_n dX12_splits_36 rfl rfl ?_
          refine J_callS (st := []) dX12_splits_37 cs_X12_168 (k_isSmall z8 (v_9f0444dcde h9.1 h9.2)) rfl rfl (Nat.le_of_ble_eq_true rfl) ⟨(Nat.le_of_ble_eq_true rfl), (Nat.le_of_ble_eq_true rfl)⟩ ⟨(Nat.le_of_ble_eq_true rfl), (Nat.le_of_ble_eq_true rfl)⟩ (fun r h9 hp => ?_)
          obtain ⟨z55, rfl, rfl, h56, h57⟩ := hp
          refine J_nf (nh2 := nh) (ck2 := 0) (sk2 := 0) (st2 := [.int (zI z55)]) rfl rfl rfl rfl ?_
          refine Z_if_eq (tgt := 68) dX12_splits_40 (by decide) (v_5f10a759cd h56 h57) (fun h58 => ?_) (fun h58 => ?_)
          · exact jn68 (k_7 + 1) v_97c7d6ad5b (v_e390a36114 h1)
          · have lp43 : ∀ (N43 : Nat) (to_43 : Int), (k_7 < to_43) → (to_43 ≤ x) → (x - to_43).toNat < N43 → J l G MX12_splits { frames := 1, cells := 0, slots := 0, locals := 27 } jE (jMQ G { frames := 1, cells := 0, slots := 0, locals := 27 } (fun rr h9 => ∃ tn2 : Int, ∃ cc2 : Int → Int, ∃ va2 : Int → Int, ∃ pl2 : Int → Int, rr = none ∧ h9 = (nh, hc fh [(98, .inr (12, (.int (zI ms) :: .int (zI mv) :: .ref 99 :: .ref 100 :: .ref 101 :: .ref 102 :: .ref 103 :: .ref 104 :: .ref 105 :: .int (zI mt) :: .int (zI mfa) :: .ref 106 :: .ref 107 :: .ref 108 :: .int (zI tn2) :: .int (zI mtk) :: .int (zI mlv) :: .int (zI mbd) :: .int (zI mgo) :: .int (zI mge) :: .int (zI mbk) :: .ref 109 :: .int (zI mtt) :: .int (zI mtl) :: .ref 110 :: .ref 111 :: .ref 112 :: .ref 113 :: .ref 114 :: .ref 115 :: .ref 116 :: .ref 117 :: .int (zI hm) :: .int (zI pm) :: .int (zI hb) :: .int (zI sb) :: .ref 118 :: .ref 119 :: .ref 120 :: .ref 121 :: .ref 122 :: .ref 123 :: .ref 124 :: .ref 125 :: .ref 126 :: .ref 127 :: .ref 128 :: .ref 129 :: .int (zI mfu) :: .ref 130 :: .ref 131 :: .ref 132 :: .ref 133 :: .ref 134 :: .int (zI mdm) :: .int (zI mla) :: []))), (106, .inl (0, 401, .inl (zA cc2))), (107, .inl (0, 401, .inl (zA va2))), (108, .inl (0, 401, .inl (zA pl2)))]) ∧ (0 ≤ tn2) ∧ (tn2 ≤ x) ∧ (cc2 tn2 = 0) ∧ (Rg cc2 401 (-2147483648) 2147483647) ∧ (Rg va2 401 (-2147483648) 2147483647) ∧ (Rg pl2 401 0 400))) (nh, hc fh [(108, .inl (0, 401, .inl (zA px_7))), (107, .inl (0, 401, .inl (zA vx_7))), (106, .inl (0, 401, .inl (zA cx_7))), (98, .inr (12, (.int (zI ms) :: .int (zI mv) :: .ref 99 :: .ref 100 :: .ref 101 :: .ref 102 :: .ref 103 :: .ref 104 :: .ref 105 :: .int (zI mt) :: .int (zI mfa) :: .ref 106 :: .ref 107 :: .ref 108 :: .int (zI tn_7) :: .int (zI mtk) :: .int (zI mlv) :: .int (zI mbd) :: .int (zI mgo) :: .int (zI mge) :: .int (zI mbk) :: .ref 109 :: .int (zI mtt) :: .int (zI mtl) :: .ref 110 :: .ref 111 :: .ref 112 :: .ref 113 :: .ref 114 :: .ref 115 :: .ref 116 :: .ref 117 :: .int (zI hm) :: .int (zI pm) :: .int (zI hb) :: .int (zI sb) :: .ref 118 :: .ref 119 :: .ref 120 :: .ref 121 :: .ref 122 :: .ref 123 :: .ref 124 :: .ref 125 :: .ref 126 :: .ref 127 :: .ref 128 :: .ref 129 :: .int (zI mfu) :: .ref 130 :: .ref 131 :: .ref 132 :: .ref 133 :: .ref 134 :: .int (zI mdm) :: .int (zI mla) :: [])))]) 0 0 43 [some (.ref 98), some (.int (zI x)), some (.int (zI k_7)), some (.int (zI z8)), some (.int (zI to_43)), none] [] := by
              intro N43
              induction N43 with
              | zero => intro to_43 i43_0 i43_1 hm; exact absurd hm (Nat.not_lt_zero _)
              | succ N43 ih43 =>
                intro to_43 i43_0 i43_1 hm43
                refine J_iload dX12_splits_43 rfl ?_
                refine J_iload_n dX12_splits_45 rfl rfl ?_
                refine Z_icmp_ge (tgt := 68) dX12_splits_46 (by decide) (v_9b547f99e7 q1 i7_0 i43_0 i43_1) (v_d7389cde0f q0 q1) (fun h59 => ?_) (fun h59 => ?_)
                · exact jn68 to_43 i43_0 i43_1
                · refine J_aload_n dX12_splits_49 rfl rfl ?_
                  refine J_get (v := .ref 104) dX12_splits_50 fl_X12_34 rfl rfl ?_
                  refine J_iload dX12_splits_53 rfl ?_
                  obtain ⟨z60, ez60⟩ : ∃ z : Int, ta to_43 = z := ⟨_, rfl⟩
                  have h61 := Rg.at q7 (v_156421639c i7_0 i43_0) (v_5d8e28db30 q1 h59) ez60
                  refine Y_bald (z := z60) 400 dX12_splits_55 hk104 rfl (by decide) (v_156421639c i7_0 i43_0) (v_5d8e28db30 q1 h59) ez60 ?_
                  refine J_callS (st := []) dX12_splits_56 cs_X12_168 (k_isSmall z60 (v_9f0444dcde h61.1 h61.2)) rfl rfl (Nat.le_of_ble_eq_true rfl) ⟨(Nat.le_of_ble_eq_true rfl), (Nat.le_of_ble_eq_true rfl)⟩ ⟨(Nat.le_of_ble_eq_true rfl), (Nat.le_of_ble_eq_true rfl)⟩ (fun r h9 hp => ?_)
                  obtain ⟨z62, rfl, rfl, h63, h64⟩ := hp
                  refine J_nf (nh2 := nh) (ck2 := 0) (sk2 := 0) (st2 := [.int (zI z62)]) rfl rfl rfl rfl ?_
                  refine Z_if_eq (tgt := 68) dX12_splits_59 (by decide) (v_5f10a759cd h63 h64) (fun h65 => ?_) (fun h65 => ?_)
                  · exact jn68 to_43 i43_0 i43_1
                  · refine Z_iinc (c := to_43 + 1) (ls2 := [some (.ref 98), some (.int (zI x)), some (.int (zI k_7)), some (.int (zI z8)), some (.int (zI (to_43 + 1))), none]) dX12_splits_62 rfl (Nat.le_of_ble_eq_true rfl) rfl rfl rfl ?_
                    refine J_goto (tgt := 43) dX12_splits_65 (by decide) ?_
                    exact ih43 (to_43 + 1) (v_d6f53c5707 i43_0) (v_e390a36114 h59) (meas_lt v_90eacd6fd4 (v_8b7dd7d486 h59) hm43)
            exact lp43 _ (k_7 + 1) v_97c7d6ad5b (v_e390a36114 h1) (Nat.lt_succ_self _)
        · refine Z_iinc (c := k_7 + 1) (ls2 := [some (.ref 98), some (.int (zI x)), some (.int (zI (k_7 + 1))), some (.int (zI z8)), none, none]) dX12_splits_25 rfl (Nat.le_of_ble_eq_true rfl) rfl rfl rfl ?_
          refine J_goto (tgt := 7) dX12_splits_28 (by decide) ?_
          refine J_drop (ls2 := [some (.ref 98), some (.int (zI x)), some (.int (zI (k_7 + 1))), none, none, none]) [true, true, true, false, false, false] rfl ?_
          exact ih7 (k_7 + 1) tn_7 cx_7 vx_7 px_7 (v_da458fa48a i7_0) (v_e390a36114 h1) i7_2 (v_d50281bace i7_3) i7_4 i7_5 i7_6 (meas_lt v_90eacd6fd4 (v_8b7dd7d486 h1) hm7)
  exact lp7 _ 0 0 cc va pl v_939070ca3f q0 v_939070ca3f v_939070ca3f q2 q3 q4 (Nat.lt_succ_self _)
set_option maxHeartbeats 4000000 in
set_option maxRecDepth 100000 in
theorem k_fine {l : Launch} {G : jG} {nh : Nat} {fh : Nat → Option va_E} (ms : Int) (mv : Int) (mt : Int) (mfa : Int) (mtn : Int) (mtk : Int) (mlv : Int) (mbd : Int) (mgo : Int) (mge : Int) (mbk : Int) (mtt : Int) (mtl : Int) (hm : Int) (pm : Int) (hb : Int) (sb : Int) (mfu : Int) (mdm : Int) (mla : Int) (q0 : -1 ≤ mbd) (q1 : mbd ≤ 400) (hk98 : fh 98 = some (.inr (12, (.int (zI ms) :: .int (zI mv) :: .ref 99 :: .ref 100 :: .ref 101 :: .ref 102 :: .ref 103 :: .ref 104 :: .ref 105 :: .int (zI mt) :: .int (zI mfa) :: .ref 106 :: .ref 107 :: .ref 108 :: .int (zI mtn) :: .int (zI mtk) :: .int (zI mlv) :: .int (zI mbd) :: .int (zI mgo) :: .int (zI mge) :: .int (zI mbk) :: .ref 109 :: .int (zI mtt) :: .int (zI mtl) :: .ref 110 :: .ref 111 :: .ref 112 :: .ref 113 :: .ref 114 :: .ref 115 :: .ref 116 :: .ref 117 :: .int (zI hm) :: .int (zI pm) :: .int (zI hb) :: .int (zI sb) :: .ref 118 :: .ref 119 :: .ref 120 :: .ref 121 :: .ref 122 :: .ref 123 :: .ref 124 :: .ref 125 :: .ref 126 :: .ref 127 :: .ref 128 :: .ref 129 :: .int (zI mfu) :: .ref 130 :: .ref 131 :: .ref 132 :: .ref 133 :: .ref 134 :: .int (zI mdm) :: .int (zI mla) :: [])))) : JM l G yX12_fine MX12_fine { frames := 0, cells := 0, slots := 0, locals := 0 } [.ref 98] (nh, fh) (fun rr h9 => (rr = some (.int (zI 1)) ∧ h9 = (nh, fh) ∧ (mbd = -1)) ∨ (rr = some (.int (zI 0)) ∧ h9 = (nh, fh) ∧ (0 ≤ mbd))) := by
  refine JM.of (by decide) rfl (fun h => by cases h) (Nat.le_of_ble_eq_true rfl) ⟨0, rfl⟩ ?_
  refine J_hc0 (J_ls (ls2 := [some (.ref 98)]) rfl ?_)
  refine J_aload_n dX12_fine_0 rfl rfl ?_
  refine J_get (v := .int (zI mbd)) dX12_fine_1 fl_X12_180 hk98 rfl ?_
  refine Z_iconst (n := -1) dX12_fine_4 ?_
  refine Z_icmp_ne (tgt := 12) dX12_fine_5 (by decide) (v_4c18786791 q0 q1) v_d64efa60f9 (fun h1 => ?_) (fun h1 => ?_)
  · refine Z_iconst (n := 0) dX12_fine_12 ?_
    exact J_iret dX12_fine_13 rfl (jbn v_939070ca3f v_316afd7d0b) (Nat.le_of_ble_eq_true rfl) (Nat.le_of_ble_eq_true rfl) (Or.inr ⟨rfl, rfl, (v_a708073960 q0 h1)⟩)
  · refine Z_iconst (n := 1) dX12_fine_8 ?_
    refine J_goto (tgt := 13) dX12_fine_9 (by decide) ?_
    exact J_iret dX12_fine_13 rfl (jbn v_316afd7d0b v_bbcfac9b7d) (Nat.le_of_ble_eq_true rfl) (Nat.le_of_ble_eq_true rfl) (Or.inl ⟨rfl, rfl, h1⟩)
set_option maxHeartbeats 4000000 in
set_option maxRecDepth 100000 in
theorem k_faults {l : Launch} {G : jG} {nh : Nat} {fh : Nat → Option va_E} (ms : Int) (mv : Int) (mt : Int) (mfa : Int) (mtn : Int) (mtk : Int) (mlv : Int) (mbd : Int) (mgo : Int) (mge : Int) (mbk : Int) (mtt : Int) (mtl : Int) (hm : Int) (pm : Int) (hb : Int) (sb : Int) (mfu : Int) (mdm : Int) (mla : Int) (cc : Int → Int) (va : Int → Int) (pl : Int → Int) (q0 : 0 ≤ mtk) (q1 : mtk ≤ mtn) (q2 : mtn ≤ 400) (q3 : -1 ≤ mbd) (q4 : mbd ≤ 400) (q5 : Rg cc 401 (-2147483648) 2147483647) (q6 : cc mtn = 0) (q7 : Rg pl 401 0 400) (q8 : Rg va 401 (-2147483648) 2147483647) (hk98 : fh 98 = some (.inr (12, (.int (zI ms) :: .int (zI mv) :: .ref 99 :: .ref 100 :: .ref 101 :: .ref 102 :: .ref 103 :: .ref 104 :: .ref 105 :: .int (zI mt) :: .int (zI mfa) :: .ref 106 :: .ref 107 :: .ref 108 :: .int (zI mtn) :: .int (zI mtk) :: .int (zI mlv) :: .int (zI mbd) :: .int (zI mgo) :: .int (zI mge) :: .int (zI mbk) :: .ref 109 :: .int (zI mtt) :: .int (zI mtl) :: .ref 110 :: .ref 111 :: .ref 112 :: .ref 113 :: .ref 114 :: .ref 115 :: .ref 116 :: .ref 117 :: .int (zI hm) :: .int (zI pm) :: .int (zI hb) :: .int (zI sb) :: .ref 118 :: .ref 119 :: .ref 120 :: .ref 121 :: .ref 122 :: .ref 123 :: .ref 124 :: .ref 125 :: .ref 126 :: .ref 127 :: .ref 128 :: .ref 129 :: .int (zI mfu) :: .ref 130 :: .ref 131 :: .ref 132 :: .ref 133 :: .ref 134 :: .int (zI mdm) :: .int (zI mla) :: [])))) (hk106 : fh 106 = some (.inl (0, 401, .inl (zA cc)))) (hk107 : fh 107 = some (.inl (0, 401, .inl (zA va)))) (hk108 : fh 108 = some (.inl (0, 401, .inl (zA pl)))) : JM l G yX12_faults MX12_faults { frames := 1, cells := 0, slots := 0, locals := 20 } [.ref 98] (nh, fh) (fun rr h9 => ∃ bd2 : Int, rr = none ∧ h9 = (nh, hc fh [(98, .inr (12, (.int (zI ms) :: .int (zI mv) :: .ref 99 :: .ref 100 :: .ref 101 :: .ref 102 :: .ref 103 :: .ref 104 :: .ref 105 :: .int (zI mt) :: .int (zI mfa) :: .ref 106 :: .ref 107 :: .ref 108 :: .int (zI mtn) :: .int (zI mtk) :: .int (zI mlv) :: .int (zI bd2) :: .int (zI mgo) :: .int (zI mge) :: .int (zI mbk) :: .ref 109 :: .int (zI mtt) :: .int (zI mtl) :: .ref 110 :: .ref 111 :: .ref 112 :: .ref 113 :: .ref 114 :: .ref 115 :: .ref 116 :: .ref 117 :: .int (zI hm) :: .int (zI pm) :: .int (zI hb) :: .int (zI sb) :: .ref 118 :: .ref 119 :: .ref 120 :: .ref 121 :: .ref 122 :: .ref 123 :: .ref 124 :: .ref 125 :: .ref 126 :: .ref 127 :: .ref 128 :: .ref 129 :: .int (zI mfu) :: .ref 130 :: .ref 131 :: .ref 132 :: .ref 133 :: .ref 134 :: .int (zI mdm) :: .int (zI mla) :: [])))]) ∧ (0 ≤ bd2) ∧ (bd2 ≤ 400)) := by
  refine JM.of (by decide) rfl (fun h => by cases h) (Nat.le_of_ble_eq_true rfl) ⟨0, rfl⟩ ?_
  refine J_hc0 (J_ls (ls2 := [some (.ref 98)]) rfl ?_)
  refine J_aload_n dX12_faults_0 rfl rfl ?_
  refine J_callV (st := []) dX12_faults_1 cv_X12_183 (k_fine ms mv mt mfa mtn mtk mlv mbd mgo mge mbk mtt mtl hm pm hb sb mfu mdm mla q3 q4 hk98) hk98 rfl rfl (Nat.le_of_ble_eq_true rfl) ⟨(Nat.le_of_ble_eq_true rfl), (Nat.le_of_ble_eq_true rfl)⟩ ⟨(Nat.le_of_ble_eq_true rfl), (Nat.le_of_ble_eq_true rfl)⟩ (fun r h9 hp => ?_)
  rcases hp with ⟨rfl, rfl, h1⟩ | ⟨rfl, rfl, h2⟩
  · refine J_nf (nh2 := nh) (ck2 := 0) (sk2 := 0) (st2 := [.int (zI 1)]) rfl rfl rfl rfl ?_
    refine Z_if_eq (tgt := 20) dX12_faults_4 (by decide) v_4dcc24baa7 (fun h3 => absurd h3 v_3a47bfd896) (fun h3 => ?_)
    refine J_aload_n dX12_faults_7 rfl rfl ?_
    refine J_aload_n dX12_faults_8 rfl rfl ?_
    refine J_get (v := .ref 108) dX12_faults_9 fl_X12_49 hk98 rfl ?_
    refine J_aload_n dX12_faults_12 rfl rfl ?_
    refine J_get (v := .int (zI mtk)) dX12_faults_13 fl_X12_187 hk98 rfl ?_
    obtain ⟨z4, ez4⟩ : ∃ z : Int, pl mtk = z := ⟨_, rfl⟩
    have h5 := Rg.at q7 (v_2b02420001 q0) (v_5bf06d1e5f q1 q2) ez4
    refine Y_iald (z := z4) 401 dX12_faults_16 hk108 rfl (by decide) (v_2b02420001 q0) (v_5bf06d1e5f q1 q2) ez4 ?_
    refine K_put (fs2 := (.int (zI ms) :: .int (zI mv) :: .ref 99 :: .ref 100 :: .ref 101 :: .ref 102 :: .ref 103 :: .ref 104 :: .ref 105 :: .int (zI mt) :: .int (zI mfa) :: .ref 106 :: .ref 107 :: .ref 108 :: .int (zI mtn) :: .int (zI mtk) :: .int (zI mlv) :: .int (zI z4) :: .int (zI mgo) :: .int (zI mge) :: .int (zI mbk) :: .ref 109 :: .int (zI mtt) :: .int (zI mtl) :: .ref 110 :: .ref 111 :: .ref 112 :: .ref 113 :: .ref 114 :: .ref 115 :: .ref 116 :: .ref 117 :: .int (zI hm) :: .int (zI pm) :: .int (zI hb) :: .int (zI sb) :: .ref 118 :: .ref 119 :: .ref 120 :: .ref 121 :: .ref 122 :: .ref 123 :: .ref 124 :: .ref 125 :: .ref 126 :: .ref 127 :: .ref 128 :: .ref 129 :: .int (zI mfu) :: .ref 130 :: .ref 131 :: .ref 132 :: .ref 133 :: .ref 134 :: .int (zI mdm) :: .int (zI mla) :: [])) dX12_faults_17 fw_X12_180 hk98 (Nat.le_of_ble_eq_true rfl) (fun _ => ⟨rfl, rfl⟩) rfl ?_
    exact J_vret dX12_faults_20 rfl (Nat.le_of_ble_eq_true rfl) (Nat.le_of_ble_eq_true rfl) ⟨z4, rfl, rfl, h5.1, h5.2⟩
  · refine J_nf (nh2 := nh) (ck2 := 0) (sk2 := 0) (st2 := [.int (zI 0)]) rfl rfl rfl rfl ?_
    refine Z_if_eq (tgt := 20) dX12_faults_4 (by decide) v_b17331891f (fun h6 => ?_) (fun h6 => absurd h6 (fun q => q v_2ca2bbca1f))
    refine J_touch (k := 98) (e := .inr (12, (.int (zI ms) :: .int (zI mv) :: .ref 99 :: .ref 100 :: .ref 101 :: .ref 102 :: .ref 103 :: .ref 104 :: .ref 105 :: .int (zI mt) :: .int (zI mfa) :: .ref 106 :: .ref 107 :: .ref 108 :: .int (zI mtn) :: .int (zI mtk) :: .int (zI mlv) :: .int (zI mbd) :: .int (zI mgo) :: .int (zI mge) :: .int (zI mbk) :: .ref 109 :: .int (zI mtt) :: .int (zI mtl) :: .ref 110 :: .ref 111 :: .ref 112 :: .ref 113 :: .ref 114 :: .ref 115 :: .ref 116 :: .ref 117 :: .int (zI hm) :: .int (zI pm) :: .int (zI hb) :: .int (zI sb) :: .ref 118 :: .ref 119 :: .ref 120 :: .ref 121 :: .ref 122 :: .ref 123 :: .ref 124 :: .ref 125 :: .ref 126 :: .ref 127 :: .ref 128 :: .ref 129 :: .int (zI mfu) :: .ref 130 :: .ref 131 :: .ref 132 :: .ref 133 :: .ref 134 :: .int (zI mdm) :: .int (zI mla) :: []))) hk98 ?_
    exact J_vret dX12_faults_20 rfl (Nat.le_of_ble_eq_true rfl) (Nat.le_of_ble_eq_true rfl) ⟨mbd, rfl, rfl, h2, q4⟩
set_option maxHeartbeats 4000000 in
set_option maxRecDepth 100000 in
theorem k_takes0 {l : Launch} {G : jG} {nh : Nat} {fh : Nat → Option va_E} (c : Int) (ms : Int) (mv : Int) (mt : Int) (mfa : Int) (mtn : Int) (mtk : Int) (mlv : Int) (mbd : Int) (mgo : Int) (mge : Int) (mbk : Int) (mtt : Int) (mtl : Int) (hm : Int) (pm : Int) (hb : Int) (sb : Int) (mfu : Int) (mdm : Int) (mla : Int) (cc : Int → Int) (va : Int → Int) (pl : Int → Int) (q0 : 1 ≤ c) (q1 : c ≤ 1000) (q2 : 0 ≤ mtk) (q3 : mtk ≤ mtn) (q4 : mtn ≤ 400) (q5 : -1 ≤ mbd) (q6 : mbd ≤ 400) (q7 : Rg cc 401 (-2147483648) 2147483647) (q8 : cc mtn = 0) (q9 : Rg pl 401 0 400) (q10 : Rg va 401 (-2147483648) 2147483647) (hk98 : fh 98 = some (.inr (12, (.int (zI ms) :: .int (zI mv) :: .ref 99 :: .ref 100 :: .ref 101 :: .ref 102 :: .ref 103 :: .ref 104 :: .ref 105 :: .int (zI mt) :: .int (zI mfa) :: .ref 106 :: .ref 107 :: .ref 108 :: .int (zI mtn) :: .int (zI mtk) :: .int (zI mlv) :: .int (zI mbd) :: .int (zI mgo) :: .int (zI mge) :: .int (zI mbk) :: .ref 109 :: .int (zI mtt) :: .int (zI mtl) :: .ref 110 :: .ref 111 :: .ref 112 :: .ref 113 :: .ref 114 :: .ref 115 :: .ref 116 :: .ref 117 :: .int (zI hm) :: .int (zI pm) :: .int (zI hb) :: .int (zI sb) :: .ref 118 :: .ref 119 :: .ref 120 :: .ref 121 :: .ref 122 :: .ref 123 :: .ref 124 :: .ref 125 :: .ref 126 :: .ref 127 :: .ref 128 :: .ref 129 :: .int (zI mfu) :: .ref 130 :: .ref 131 :: .ref 132 :: .ref 133 :: .ref 134 :: .int (zI mdm) :: .int (zI mla) :: [])))) (hk106 : fh 106 = some (.inl (0, 401, .inl (zA cc)))) (hk107 : fh 107 = some (.inl (0, 401, .inl (zA va)))) (hk108 : fh 108 = some (.inl (0, 401, .inl (zA pl)))) : JM l G yX12_takes0 MX12_takes0 { frames := 1, cells := 0, slots := 0, locals := 20 } [.ref 98, .int (zI c)] (nh, fh) (fun rr h9 => (∃ tk2 : Int, rr = some (.int (zI 1)) ∧ h9 = (nh, hc fh [(98, .inr (12, (.int (zI ms) :: .int (zI mv) :: .ref 99 :: .ref 100 :: .ref 101 :: .ref 102 :: .ref 103 :: .ref 104 :: .ref 105 :: .int (zI mt) :: .int (zI mfa) :: .ref 106 :: .ref 107 :: .ref 108 :: .int (zI mtn) :: .int (zI tk2) :: .int (zI mlv) :: .int (zI mbd) :: .int (zI mgo) :: .int (zI mge) :: .int (zI mbk) :: .ref 109 :: .int (zI mtt) :: .int (zI mtl) :: .ref 110 :: .ref 111 :: .ref 112 :: .ref 113 :: .ref 114 :: .ref 115 :: .ref 116 :: .ref 117 :: .int (zI hm) :: .int (zI pm) :: .int (zI hb) :: .int (zI sb) :: .ref 118 :: .ref 119 :: .ref 120 :: .ref 121 :: .ref 122 :: .ref 123 :: .ref 124 :: .ref 125 :: .ref 126 :: .ref 127 :: .ref 128 :: .ref 129 :: .int (zI mfu) :: .ref 130 :: .ref 131 :: .ref 132 :: .ref 133 :: .ref 134 :: .int (zI mdm) :: .int (zI mla) :: [])))]) ∧ (mbd = -1) ∧ (tk2 = mtk + 1) ∧ (mtk < mtn) ∧ (Cc cc mtn mtk = c)) ∨ (rr = some (.int (zI 0)) ∧ h9 = (nh, fh) ∧ (mbd = -1) ∧ (¬ Cc cc mtn mtk = c)) ∨ (rr = some (.int (zI 0)) ∧ h9 = (nh, fh) ∧ (0 ≤ mbd))) := by
  refine JM.of (by decide) rfl (fun h => by cases h) (Nat.le_of_ble_eq_true rfl) ⟨1, rfl⟩ ?_
  refine J_hc0 (J_ls (ls2 := [some (.ref 98), some (.int (zI c)), none]) rfl ?_)
  refine J_aload_n dX12_takes0_0 rfl rfl ?_
  refine J_callV (st := []) dX12_takes0_1 cv_X12_183 (k_fine ms mv mt mfa mtn mtk mlv mbd mgo mge mbk mtt mtl hm pm hb sb mfu mdm mla q5 q6 hk98) hk98 rfl rfl (Nat.le_of_ble_eq_true rfl) ⟨(Nat.le_of_ble_eq_true rfl), (Nat.le_of_ble_eq_true rfl)⟩ ⟨(Nat.le_of_ble_eq_true rfl), (Nat.le_of_ble_eq_true rfl)⟩ (fun r h9 hp => ?_)
  rcases hp with ⟨rfl, rfl, h1⟩ | ⟨rfl, rfl, h2⟩
  · refine J_nf (nh2 := nh) (ck2 := 0) (sk2 := 0) (st2 := [.int (zI 1)]) rfl rfl rfl rfl ?_
    refine Z_if_eq (tgt := 24) dX12_takes0_4 (by decide) v_4dcc24baa7 (fun h3 => absurd h3 v_3a47bfd896) (fun h3 => ?_)
    refine J_aload_n dX12_takes0_7 rfl rfl ?_
    refine J_get (v := .ref 106) dX12_takes0_8 fl_X12_43 hk98 rfl ?_
    refine J_aload_n dX12_takes0_11 rfl rfl ?_
    refine J_get (v := .int (zI mtk)) dX12_takes0_12 fl_X12_187 hk98 rfl ?_
    obtain ⟨z4, ez4⟩ : ∃ z : Int, cc mtk = z := ⟨_, rfl⟩
    have h5 := Rg.at q7 (v_2b02420001 q2) (v_5bf06d1e5f q3 q4) ez4
    refine Y_iald (z := z4) 401 dX12_takes0_15 hk106 rfl (by decide) (v_2b02420001 q2) (v_5bf06d1e5f q3 q4) ez4 ?_
    have g6 : Cc cc mtn mtk = z4 := Cc_at (v_2b02420001 q2) (v_d464d4c634 q3) q8 ez4
    refine J_iload_n dX12_takes0_16 rfl rfl ?_
    refine Z_icmp_ne (tgt := 24) dX12_takes0_17 (by decide) (v_f306e1cdb8 h5.1 h5.2) (v_4150a4b237 q0 q1) (fun h7 => ?_) (fun h7 => ?_)
    · refine Z_iconst (n := 0) dX12_takes0_24 ?_
      refine J_istore_n dX12_takes0_25 rfl (Nat.le_of_ble_eq_true rfl) rfl ?_
      refine J_ls (ls2 := [some (.ref 98), some (.int (zI c)), some (.int (zI 0))]) rfl ?_
      refine J_iload_n dX12_takes0_26 rfl rfl ?_
      refine Z_if_eq (tgt := 40) dX12_takes0_27 (by decide) v_b17331891f (fun h8 => ?_) (fun h8 => absurd h8 (fun q => q v_2ca2bbca1f))
      refine J_iload_n dX12_takes0_40 rfl rfl ?_
      exact J_iret dX12_takes0_41 rfl (jbn v_939070ca3f v_316afd7d0b) (Nat.le_of_ble_eq_true rfl) (Nat.le_of_ble_eq_true rfl) (Or.inr (Or.inl ⟨rfl, rfl, h1, (by rw [g6]; exact (v_da5cc3277e h7))⟩))
    · refine Z_iconst (n := 1) dX12_takes0_20 ?_
      refine J_goto (tgt := 25) dX12_takes0_21 (by decide) ?_
      refine J_istore_n dX12_takes0_25 rfl (Nat.le_of_ble_eq_true rfl) rfl ?_
      refine J_ls (ls2 := [some (.ref 98), some (.int (zI c)), some (.int (zI 1))]) rfl ?_
      have g9 : mtk < mtn := Cc_lt g6 (v_5f64b26fc7 q0 h7)
      refine J_iload_n dX12_takes0_26 rfl rfl ?_
      refine Z_if_eq (tgt := 40) dX12_takes0_27 (by decide) v_4dcc24baa7 (fun h10 => absurd h10 v_3a47bfd896) (fun h10 => ?_)
      refine J_aload_n dX12_takes0_30 rfl rfl ?_
      refine J_dup dX12_takes0_31 rfl ?_
      refine J_get (v := .int (zI mtk)) dX12_takes0_32 fl_X12_187 hk98 rfl ?_
      refine Z_iconst (n := 1) dX12_takes0_35 ?_
      refine Z_iadd (c := mtk + 1) dX12_takes0_36 rfl ?_
      refine K_put (fs2 := (.int (zI ms) :: .int (zI mv) :: .ref 99 :: .ref 100 :: .ref 101 :: .ref 102 :: .ref 103 :: .ref 104 :: .ref 105 :: .int (zI mt) :: .int (zI mfa) :: .ref 106 :: .ref 107 :: .ref 108 :: .int (zI mtn) :: .int (zI (mtk + 1)) :: .int (zI mlv) :: .int (zI mbd) :: .int (zI mgo) :: .int (zI mge) :: .int (zI mbk) :: .ref 109 :: .int (zI mtt) :: .int (zI mtl) :: .ref 110 :: .ref 111 :: .ref 112 :: .ref 113 :: .ref 114 :: .ref 115 :: .ref 116 :: .ref 117 :: .int (zI hm) :: .int (zI pm) :: .int (zI hb) :: .int (zI sb) :: .ref 118 :: .ref 119 :: .ref 120 :: .ref 121 :: .ref 122 :: .ref 123 :: .ref 124 :: .ref 125 :: .ref 126 :: .ref 127 :: .ref 128 :: .ref 129 :: .int (zI mfu) :: .ref 130 :: .ref 131 :: .ref 132 :: .ref 133 :: .ref 134 :: .int (zI mdm) :: .int (zI mla) :: [])) dX12_takes0_37 fw_X12_187 hk98 (Nat.le_of_ble_eq_true rfl) (fun _ => ⟨rfl, rfl⟩) rfl ?_
      refine J_iload_n dX12_takes0_40 rfl rfl ?_
      exact J_iret dX12_takes0_41 rfl (jbn v_316afd7d0b v_bbcfac9b7d) (Nat.le_of_ble_eq_true rfl) (Nat.le_of_ble_eq_true rfl) (Or.inl ⟨(mtk + 1), rfl, rfl, h1, v_e828b09c4d, g9, (by rw [g6]; exact (v_cd91a95e4e h7))⟩)
  · refine J_nf (nh2 := nh) (ck2 := 0) (sk2 := 0) (st2 := [.int (zI 0)]) rfl rfl rfl rfl ?_
    refine Z_if_eq (tgt := 24) dX12_takes0_4 (by decide) v_b17331891f (fun h11 => ?_) (fun h11 => absurd h11 (fun q => q v_2ca2bbca1f))
    refine Z_iconst (n := 0) dX12_takes0_24 ?_
    refine J_istore_n dX12_takes0_25 rfl (Nat.le_of_ble_eq_true rfl) rfl ?_
    refine J_ls (ls2 := [some (.ref 98), some (.int (zI c)), some (.int (zI 0))]) rfl ?_
    refine J_iload_n dX12_takes0_26 rfl rfl ?_
    refine Z_if_eq (tgt := 40) dX12_takes0_27 (by decide) v_b17331891f (fun h12 => ?_) (fun h12 => absurd h12 (fun q => q v_2ca2bbca1f))
    refine J_iload_n dX12_takes0_40 rfl rfl ?_
    exact J_iret dX12_takes0_41 rfl (jbn v_939070ca3f v_316afd7d0b) (Nat.le_of_ble_eq_true rfl) (Nat.le_of_ble_eq_true rfl) (Or.inr (Or.inr ⟨rfl, rfl, h2⟩))
set_option maxHeartbeats 4000000 in
set_option maxRecDepth 100000 in
theorem k_must {l : Launch} {G : jG} {nh : Nat} {fh : Nat → Option va_E} (c : Int) (ms : Int) (mv : Int) (mt : Int) (mfa : Int) (mtn : Int) (mtk : Int) (mlv : Int) (mbd : Int) (mgo : Int) (mge : Int) (mbk : Int) (mtt : Int) (mtl : Int) (hm : Int) (pm : Int) (hb : Int) (sb : Int) (mfu : Int) (mdm : Int) (mla : Int) (cc : Int → Int) (va : Int → Int) (pl : Int → Int) (q0 : 1 ≤ c) (q1 : c ≤ 1000) (q2 : 0 ≤ mtk) (q3 : mtk ≤ mtn) (q4 : mtn ≤ 400) (q5 : -1 ≤ mbd) (q6 : mbd ≤ 400) (q7 : Rg cc 401 (-2147483648) 2147483647) (q8 : cc mtn = 0) (q9 : Rg pl 401 0 400) (q10 : Rg va 401 (-2147483648) 2147483647) (hk98 : fh 98 = some (.inr (12, (.int (zI ms) :: .int (zI mv) :: .ref 99 :: .ref 100 :: .ref 101 :: .ref 102 :: .ref 103 :: .ref 104 :: .ref 105 :: .int (zI mt) :: .int (zI mfa) :: .ref 106 :: .ref 107 :: .ref 108 :: .int (zI mtn) :: .int (zI mtk) :: .int (zI mlv) :: .int (zI mbd) :: .int (zI mgo) :: .int (zI mge) :: .int (zI mbk) :: .ref 109 :: .int (zI mtt) :: .int (zI mtl) :: .ref 110 :: .ref 111 :: .ref 112 :: .ref 113 :: .ref 114 :: .ref 115 :: .ref 116 :: .ref 117 :: .int (zI hm) :: .int (zI pm) :: .int (zI hb) :: .int (zI sb) :: .ref 118 :: .ref 119 :: .ref 120 :: .ref 121 :: .ref 122 :: .ref 123 :: .ref 124 :: .ref 125 :: .ref 126 :: .ref 127 :: .ref 128 :: .ref 129 :: .int (zI mfu) :: .ref 130 :: .ref 131 :: .ref 132 :: .ref 133 :: .ref 134 :: .int (zI mdm) :: .int (zI mla) :: [])))) (hk106 : fh 106 = some (.inl (0, 401, .inl (zA cc)))) (hk107 : fh 107 = some (.inl (0, 401, .inl (zA va)))) (hk108 : fh 108 = some (.inl (0, 401, .inl (zA pl)))) : JM l G yX12_must MX12_must { frames := 2, cells := 0, slots := 0, locals := 42 } [.ref 98, .int (zI c)] (nh, fh) (fun rr h9 => (∃ tk2 : Int, rr = none ∧ h9 = (nh, hc fh [(98, .inr (12, (.int (zI ms) :: .int (zI mv) :: .ref 99 :: .ref 100 :: .ref 101 :: .ref 102 :: .ref 103 :: .ref 104 :: .ref 105 :: .int (zI mt) :: .int (zI mfa) :: .ref 106 :: .ref 107 :: .ref 108 :: .int (zI mtn) :: .int (zI tk2) :: .int (zI mlv) :: .int (zI mbd) :: .int (zI mgo) :: .int (zI mge) :: .int (zI mbk) :: .ref 109 :: .int (zI mtt) :: .int (zI mtl) :: .ref 110 :: .ref 111 :: .ref 112 :: .ref 113 :: .ref 114 :: .ref 115 :: .ref 116 :: .ref 117 :: .int (zI hm) :: .int (zI pm) :: .int (zI hb) :: .int (zI sb) :: .ref 118 :: .ref 119 :: .ref 120 :: .ref 121 :: .ref 122 :: .ref 123 :: .ref 124 :: .ref 125 :: .ref 126 :: .ref 127 :: .ref 128 :: .ref 129 :: .int (zI mfu) :: .ref 130 :: .ref 131 :: .ref 132 :: .ref 133 :: .ref 134 :: .int (zI mdm) :: .int (zI mla) :: [])))]) ∧ (mbd = -1) ∧ (tk2 = mtk + 1) ∧ (mtk < mtn) ∧ (Cc cc mtn mtk = c)) ∨ (∃ bd2 : Int, rr = none ∧ h9 = (nh, hc fh [(98, .inr (12, (.int (zI ms) :: .int (zI mv) :: .ref 99 :: .ref 100 :: .ref 101 :: .ref 102 :: .ref 103 :: .ref 104 :: .ref 105 :: .int (zI mt) :: .int (zI mfa) :: .ref 106 :: .ref 107 :: .ref 108 :: .int (zI mtn) :: .int (zI mtk) :: .int (zI mlv) :: .int (zI bd2) :: .int (zI mgo) :: .int (zI mge) :: .int (zI mbk) :: .ref 109 :: .int (zI mtt) :: .int (zI mtl) :: .ref 110 :: .ref 111 :: .ref 112 :: .ref 113 :: .ref 114 :: .ref 115 :: .ref 116 :: .ref 117 :: .int (zI hm) :: .int (zI pm) :: .int (zI hb) :: .int (zI sb) :: .ref 118 :: .ref 119 :: .ref 120 :: .ref 121 :: .ref 122 :: .ref 123 :: .ref 124 :: .ref 125 :: .ref 126 :: .ref 127 :: .ref 128 :: .ref 129 :: .int (zI mfu) :: .ref 130 :: .ref 131 :: .ref 132 :: .ref 133 :: .ref 134 :: .int (zI mdm) :: .int (zI mla) :: [])))]) ∧ (0 ≤ bd2) ∧ (bd2 ≤ 400))) := by
  refine JM.of (by decide) rfl (fun h => by cases h) (Nat.le_of_ble_eq_true rfl) ⟨0, rfl⟩ ?_
  refine J_hc0 (J_ls (ls2 := [some (.ref 98), some (.int (zI c))]) rfl ?_)
  refine J_aload_n dX12_must_0 rfl rfl ?_
  refine J_iload_n dX12_must_1 rfl rfl ?_
  refine J_callV (st := []) dX12_must_2 cv_X12_190 (k_takes0 c ms mv mt mfa mtn mtk mlv mbd mgo mge mbk mtt mtl hm pm hb sb mfu mdm mla cc va pl q0 q1 q2 q3 q4 q5 q6 q7 q8 q9 q10 hk98 hk106 hk107 hk108) hk98 rfl rfl (Nat.le_of_ble_eq_true rfl) ⟨(Nat.le_of_ble_eq_true rfl), (Nat.le_of_ble_eq_true rfl)⟩ ⟨(Nat.le_of_ble_eq_true rfl), (Nat.le_of_ble_eq_true rfl)⟩ (fun r h9 hp => ?_)
  rcases hp with ⟨z1, rfl, rfl, h2, h3, h4, h5⟩ | ⟨rfl, rfl, h6, h7⟩ | ⟨rfl, rfl, h8⟩
  · refine J_nf (nh2 := nh) (ck2 := 0) (sk2 := 0) (st2 := [.int (zI 1)]) rfl rfl rfl rfl ?_
    refine J_app (L3 := [(98, .inr (12, (.int (zI ms) :: .int (zI mv) :: .ref 99 :: .ref 100 :: .ref 101 :: .ref 102 :: .ref 103 :: .ref 104 :: .ref 105 :: .int (zI mt) :: .int (zI mfa) :: .ref 106 :: .ref 107 :: .ref 108 :: .int (zI mtn) :: .int (zI z1) :: .int (zI mlv) :: .int (zI mbd) :: .int (zI mgo) :: .int (zI mge) :: .int (zI mbk) :: .ref 109 :: .int (zI mtt) :: .int (zI mtl) :: .ref 110 :: .ref 111 :: .ref 112 :: .ref 113 :: .ref 114 :: .ref 115 :: .ref 116 :: .ref 117 :: .int (zI hm) :: .int (zI pm) :: .int (zI hb) :: .int (zI sb) :: .ref 118 :: .ref 119 :: .ref 120 :: .ref 121 :: .ref 122 :: .ref 123 :: .ref 124 :: .ref 125 :: .ref 126 :: .ref 127 :: .ref 128 :: .ref 129 :: .int (zI mfu) :: .ref 130 :: .ref 131 :: .ref 132 :: .ref 133 :: .ref 134 :: .int (zI mdm) :: .int (zI mla) :: [])))]) rfl ?_
    refine Z_if_ne (tgt := 12) dX12_must_5 (by decide) v_4dcc24baa7 (fun h9 => ?_) (fun h9 => absurd h9 v_3a47bfd896)
    exact J_vret dX12_must_12 rfl (Nat.le_of_ble_eq_true rfl) (Nat.le_of_ble_eq_true rfl) (Or.inl ⟨z1, rfl, rfl, h2, h3, h4, h5⟩)
  · refine J_nf (nh2 := nh) (ck2 := 0) (sk2 := 0) (st2 := [.int (zI 0)]) rfl rfl rfl rfl ?_
    refine Z_if_ne (tgt := 12) dX12_must_5 (by decide) v_b17331891f (fun h10 => absurd h10 (fun q => q v_2ca2bbca1f)) (fun h10 => ?_)
    refine J_aload_n dX12_must_8 rfl rfl ?_
    refine J_callV (st := []) dX12_must_9 cv_X12_193 (k_faults ms mv mt mfa mtn mtk mlv mbd mgo mge mbk mtt mtl hm pm hb sb mfu mdm mla cc va pl q2 q3 q4 q5 q6 q7 q8 q9 q10 hk98 hk106 hk107 hk108) hk98 rfl rfl (Nat.le_of_ble_eq_true rfl) ⟨(Nat.le_of_ble_eq_true rfl), (Nat.le_of_ble_eq_true rfl)⟩ ⟨(Nat.le_of_ble_eq_true rfl), (Nat.le_of_ble_eq_true rfl)⟩ (fun r h9 hp => ?_)
    obtain ⟨z11, rfl, rfl, h12, h13⟩ := hp
    refine J_nf (nh2 := nh) (ck2 := 0) (sk2 := 0) (st2 := []) rfl rfl rfl rfl ?_
    refine J_app (L3 := [(98, .inr (12, (.int (zI ms) :: .int (zI mv) :: .ref 99 :: .ref 100 :: .ref 101 :: .ref 102 :: .ref 103 :: .ref 104 :: .ref 105 :: .int (zI mt) :: .int (zI mfa) :: .ref 106 :: .ref 107 :: .ref 108 :: .int (zI mtn) :: .int (zI mtk) :: .int (zI mlv) :: .int (zI z11) :: .int (zI mgo) :: .int (zI mge) :: .int (zI mbk) :: .ref 109 :: .int (zI mtt) :: .int (zI mtl) :: .ref 110 :: .ref 111 :: .ref 112 :: .ref 113 :: .ref 114 :: .ref 115 :: .ref 116 :: .ref 117 :: .int (zI hm) :: .int (zI pm) :: .int (zI hb) :: .int (zI sb) :: .ref 118 :: .ref 119 :: .ref 120 :: .ref 121 :: .ref 122 :: .ref 123 :: .ref 124 :: .ref 125 :: .ref 126 :: .ref 127 :: .ref 128 :: .ref 129 :: .int (zI mfu) :: .ref 130 :: .ref 131 :: .ref 132 :: .ref 133 :: .ref 134 :: .int (zI mdm) :: .int (zI mla) :: [])))]) rfl ?_
    exact J_vret dX12_must_12 rfl (Nat.le_of_ble_eq_true rfl) (Nat.le_of_ble_eq_true rfl) (Or.inr ⟨z11, rfl, rfl, h12, h13⟩)
  · refine J_nf (nh2 := nh) (ck2 := 0) (sk2 := 0) (st2 := [.int (zI 0)]) rfl rfl rfl rfl ?_
    refine Z_if_ne (tgt := 12) dX12_must_5 (by decide) v_b17331891f (fun h14 => absurd h14 (fun q => q v_2ca2bbca1f)) (fun h14 => ?_)
    refine J_aload_n dX12_must_8 rfl rfl ?_
    refine J_callV (st := []) dX12_must_9 cv_X12_193 (k_faults ms mv mt mfa mtn mtk mlv mbd mgo mge mbk mtt mtl hm pm hb sb mfu mdm mla cc va pl q2 q3 q4 q5 q6 q7 q8 q9 q10 hk98 hk106 hk107 hk108) hk98 rfl rfl (Nat.le_of_ble_eq_true rfl) ⟨(Nat.le_of_ble_eq_true rfl), (Nat.le_of_ble_eq_true rfl)⟩ ⟨(Nat.le_of_ble_eq_true rfl), (Nat.le_of_ble_eq_true rfl)⟩ (fun r h9 hp => ?_)
    obtain ⟨z15, rfl, rfl, h16, h17⟩ := hp
    refine J_nf (nh2 := nh) (ck2 := 0) (sk2 := 0) (st2 := []) rfl rfl rfl rfl ?_
    refine J_app (L3 := [(98, .inr (12, (.int (zI ms) :: .int (zI mv) :: .ref 99 :: .ref 100 :: .ref 101 :: .ref 102 :: .ref 103 :: .ref 104 :: .ref 105 :: .int (zI mt) :: .int (zI mfa) :: .ref 106 :: .ref 107 :: .ref 108 :: .int (zI mtn) :: .int (zI mtk) :: .int (zI mlv) :: .int (zI z15) :: .int (zI mgo) :: .int (zI mge) :: .int (zI mbk) :: .ref 109 :: .int (zI mtt) :: .int (zI mtl) :: .ref 110 :: .ref 111 :: .ref 112 :: .ref 113 :: .ref 114 :: .ref 115 :: .ref 116 :: .ref 117 :: .int (zI hm) :: .int (zI pm) :: .int (zI hb) :: .int (zI sb) :: .ref 118 :: .ref 119 :: .ref 120 :: .ref 121 :: .ref 122 :: .ref 123 :: .ref 124 :: .ref 125 :: .ref 126 :: .ref 127 :: .ref 128 :: .ref 129 :: .int (zI mfu) :: .ref 130 :: .ref 131 :: .ref 132 :: .ref 133 :: .ref 134 :: .int (zI mdm) :: .int (zI mla) :: [])))]) rfl ?_
    exact J_vret dX12_must_12 rfl (Nat.le_of_ble_eq_true rfl) (Nat.le_of_ble_eq_true rfl) (Or.inr ⟨z15, rfl, rfl, h16, h17⟩)
set_option maxHeartbeats 4000000 in
set_option maxRecDepth 100000 in
theorem k_leaf {l : Launch} {G : jG} {nh : Nat} {fh : Nat → Option va_E} (ms : Int) (mv : Int) (mt : Int) (mfa : Int) (mtn : Int) (mtk : Int) (mlv : Int) (mbd : Int) (mgo : Int) (mge : Int) (mbk : Int) (mtt : Int) (mtl : Int) (hm : Int) (pm : Int) (hb : Int) (sb : Int) (mfu : Int) (mdm : Int) (mla : Int) (cc : Int → Int) (va : Int → Int) (pl : Int → Int) (q0 : 0 ≤ mtk) (q1 : mtk ≤ mtn) (q2 : mtn ≤ 400) (q3 : -1 ≤ mbd) (q4 : mbd ≤ 400) (q5 : Rg cc 401 (-2147483648) 2147483647) (q6 : cc mtn = 0) (q7 : Rg pl 401 0 400) (q8 : Rg va 401 (-2147483648) 2147483647) (q9 : mbd = -1) (q10 : mtk < mtn) (q11 : 0 ≤ mlv) (q12 : mlv ≤ 401) (hk98 : fh 98 = some (.inr (12, (.int (zI ms) :: .int (zI mv) :: .ref 99 :: .ref 100 :: .ref 101 :: .ref 102 :: .ref 103 :: .ref 104 :: .ref 105 :: .int (zI mt) :: .int (zI mfa) :: .ref 106 :: .ref 107 :: .ref 108 :: .int (zI mtn) :: .int (zI mtk) :: .int (zI mlv) :: .int (zI mbd) :: .int (zI mgo) :: .int (zI mge) :: .int (zI mbk) :: .ref 109 :: .int (zI mtt) :: .int (zI mtl) :: .ref 110 :: .ref 111 :: .ref 112 :: .ref 113 :: .ref 114 :: .ref 115 :: .ref 116 :: .ref 117 :: .int (zI hm) :: .int (zI pm) :: .int (zI hb) :: .int (zI sb) :: .ref 118 :: .ref 119 :: .ref 120 :: .ref 121 :: .ref 122 :: .ref 123 :: .ref 124 :: .ref 125 :: .ref 126 :: .ref 127 :: .ref 128 :: .ref 129 :: .int (zI mfu) :: .ref 130 :: .ref 131 :: .ref 132 :: .ref 133 :: .ref 134 :: .int (zI mdm) :: .int (zI mla) :: [])))) (hk106 : fh 106 = some (.inl (0, 401, .inl (zA cc)))) (hk107 : fh 107 = some (.inl (0, 401, .inl (zA va)))) (hk108 : fh 108 = some (.inl (0, 401, .inl (zA pl)))) : JM l G yX12_leaf MX12_leaf { frames := 2, cells := 0, slots := 0, locals := 40 } [.ref 98] (nh, fh) (fun rr h9 => (∃ tk2 : Int, ∃ lv2 : Int, ∃ bd2 : Int, rr = none ∧ h9 = (nh, hc fh [(98, .inr (12, (.int (zI ms) :: .int (zI mv) :: .ref 99 :: .ref 100 :: .ref 101 :: .ref 102 :: .ref 103 :: .ref 104 :: .ref 105 :: .int (zI mt) :: .int (zI mfa) :: .ref 106 :: .ref 107 :: .ref 108 :: .int (zI mtn) :: .int (zI tk2) :: .int (zI lv2) :: .int (zI bd2) :: .int (zI mgo) :: .int (zI mge) :: .int (zI mbk) :: .ref 109 :: .int (zI mtt) :: .int (zI mtl) :: .ref 110 :: .ref 111 :: .ref 112 :: .ref 113 :: .ref 114 :: .ref 115 :: .ref 116 :: .ref 117 :: .int (zI hm) :: .int (zI pm) :: .int (zI hb) :: .int (zI sb) :: .ref 118 :: .ref 119 :: .ref 120 :: .ref 121 :: .ref 122 :: .ref 123 :: .ref 124 :: .ref 125 :: .ref 126 :: .ref 127 :: .ref 128 :: .ref 129 :: .int (zI mfu) :: .ref 130 :: .ref 131 :: .ref 132 :: .ref 133 :: .ref 134 :: .int (zI mdm) :: .int (zI mla) :: [])))]) ∧ (bd2 = -1) ∧ (tk2 = mtk + 1) ∧ (lv2 = mlv + 1)) ∨ (∃ tk2 : Int, ∃ lv2 : Int, ∃ bd2 : Int, rr = none ∧ h9 = (nh, hc fh [(98, .inr (12, (.int (zI ms) :: .int (zI mv) :: .ref 99 :: .ref 100 :: .ref 101 :: .ref 102 :: .ref 103 :: .ref 104 :: .ref 105 :: .int (zI mt) :: .int (zI mfa) :: .ref 106 :: .ref 107 :: .ref 108 :: .int (zI mtn) :: .int (zI tk2) :: .int (zI lv2) :: .int (zI bd2) :: .int (zI mgo) :: .int (zI mge) :: .int (zI mbk) :: .ref 109 :: .int (zI mtt) :: .int (zI mtl) :: .ref 110 :: .ref 111 :: .ref 112 :: .ref 113 :: .ref 114 :: .ref 115 :: .ref 116 :: .ref 117 :: .int (zI hm) :: .int (zI pm) :: .int (zI hb) :: .int (zI sb) :: .ref 118 :: .ref 119 :: .ref 120 :: .ref 121 :: .ref 122 :: .ref 123 :: .ref 124 :: .ref 125 :: .ref 126 :: .ref 127 :: .ref 128 :: .ref 129 :: .int (zI mfu) :: .ref 130 :: .ref 131 :: .ref 132 :: .ref 133 :: .ref 134 :: .int (zI mdm) :: .int (zI mla) :: [])))]) ∧ (0 ≤ bd2) ∧ (bd2 ≤ 400) ∧ (tk2 = mtk) ∧ (lv2 = mlv + 1))) := by
  refine JM.of (by decide) rfl (fun h => by cases h) (Nat.le_of_ble_eq_true rfl) ⟨0, rfl⟩ ?_
  refine J_hc0 (J_ls (ls2 := [some (.ref 98)]) rfl ?_)
  refine J_aload_n dX12_leaf_0 rfl rfl ?_
  refine J_get (v := .int (zI mlv)) dX12_leaf_1 fl_X12_196 hk98 rfl ?_
  refine Z_bipush (n := 50) dX12_leaf_4 (by decide +kernel) ?_
  refine Z_icmp_ne (tgt := 13) dX12_leaf_6 (by decide) (v_01d374d2de q11 q12) v_e1e0ea2c24 (fun h1 => ?_) (fun h1 => ?_)
  · refine J_aload_n dX12_leaf_13 rfl rfl ?_
    refine J_dup dX12_leaf_14 rfl ?_
    refine J_get (v := .int (zI mlv)) dX12_leaf_15 fl_X12_196 hk98 rfl ?_
    refine Z_iconst (n := 1) dX12_leaf_18 ?_
    refine Z_iadd (c := mlv + 1) dX12_leaf_19 rfl ?_
    refine K_put (fs2 := (.int (zI ms) :: .int (zI mv) :: .ref 99 :: .ref 100 :: .ref 101 :: .ref 102 :: .ref 103 :: .ref 104 :: .ref 105 :: .int (zI mt) :: .int (zI mfa) :: .ref 106 :: .ref 107 :: .ref 108 :: .int (zI mtn) :: .int (zI mtk) :: .int (zI (mlv + 1)) :: .int (zI mbd) :: .int (zI mgo) :: .int (zI mge) :: .int (zI mbk) :: .ref 109 :: .int (zI mtt) :: .int (zI mtl) :: .ref 110 :: .ref 111 :: .ref 112 :: .ref 113 :: .ref 114 :: .ref 115 :: .ref 116 :: .ref 117 :: .int (zI hm) :: .int (zI pm) :: .int (zI hb) :: .int (zI sb) :: .ref 118 :: .ref 119 :: .ref 120 :: .ref 121 :: .ref 122 :: .ref 123 :: .ref 124 :: .ref 125 :: .ref 126 :: .ref 127 :: .ref 128 :: .ref 129 :: .int (zI mfu) :: .ref 130 :: .ref 131 :: .ref 132 :: .ref 133 :: .ref 134 :: .int (zI mdm) :: .int (zI mla) :: [])) dX12_leaf_20 fw_X12_196 hk98 (Nat.le_of_ble_eq_true rfl) (fun _ => ⟨rfl, rfl⟩) rfl ?_
    refine J_aload_n dX12_leaf_23 rfl rfl ?_
    refine J_callV (st := []) dX12_leaf_24 cv_X12_183 (k_fine ms mv mt mfa mtn mtk (mlv + 1) mbd mgo mge mbk mtt mtl hm pm hb sb mfu mdm mla q3 q4 rfl) rfl rfl rfl (Nat.le_of_ble_eq_true rfl) ⟨(Nat.le_of_ble_eq_true rfl), (Nat.le_of_ble_eq_true rfl)⟩ ⟨(Nat.le_of_ble_eq_true rfl), (Nat.le_of_ble_eq_true rfl)⟩ (fun r h9 hp => ?_)
    rcases hp with ⟨rfl, rfl, h2⟩ | ⟨rfl, rfl, h3⟩
    · refine J_nf (nh2 := nh) (ck2 := 0) (sk2 := 0) (st2 := [.int (zI 1)]) rfl rfl rfl rfl ?_
      refine Z_if_eq (tgt := 40) dX12_leaf_27 (by decide) v_4dcc24baa7 (fun h4 => absurd h4 v_3a47bfd896) (fun h4 => ?_)
      refine J_aload_n dX12_leaf_30 rfl rfl ?_
      refine J_dup dX12_leaf_31 rfl ?_
      refine J_get (v := .int (zI mtk)) dX12_leaf_32 fl_X12_187 rfl rfl ?_
      refine Z_iconst (n := 1) dX12_leaf_35 ?_
      refine Z_iadd (c := mtk + 1) dX12_leaf_36 rfl ?_
      refine K_put (fs2 := (.int (zI ms) :: .int (zI mv) :: .ref 99 :: .ref 100 :: .ref 101 :: .ref 102 :: .ref 103 :: .ref 104 :: .ref 105 :: .int (zI mt) :: .int (zI mfa) :: .ref 106 :: .ref 107 :: .ref 108 :: .int (zI mtn) :: .int (zI (mtk + 1)) :: .int (zI (mlv + 1)) :: .int (zI mbd) :: .int (zI mgo) :: .int (zI mge) :: .int (zI mbk) :: .ref 109 :: .int (zI mtt) :: .int (zI mtl) :: .ref 110 :: .ref 111 :: .ref 112 :: .ref 113 :: .ref 114 :: .ref 115 :: .ref 116 :: .ref 117 :: .int (zI hm) :: .int (zI pm) :: .int (zI hb) :: .int (zI sb) :: .ref 118 :: .ref 119 :: .ref 120 :: .ref 121 :: .ref 122 :: .ref 123 :: .ref 124 :: .ref 125 :: .ref 126 :: .ref 127 :: .ref 128 :: .ref 129 :: .int (zI mfu) :: .ref 130 :: .ref 131 :: .ref 132 :: .ref 133 :: .ref 134 :: .int (zI mdm) :: .int (zI mla) :: [])) dX12_leaf_37 fw_X12_187 rfl (Nat.le_of_ble_eq_true rfl) (fun _ => ⟨rfl, rfl⟩) rfl ?_
      refine J_mask (L2 := [(98, .inr (12, (.int (zI ms) :: .int (zI mv) :: .ref 99 :: .ref 100 :: .ref 101 :: .ref 102 :: .ref 103 :: .ref 104 :: .ref 105 :: .int (zI mt) :: .int (zI mfa) :: .ref 106 :: .ref 107 :: .ref 108 :: .int (zI mtn) :: .int (zI (mtk + 1)) :: .int (zI (mlv + 1)) :: .int (zI mbd) :: .int (zI mgo) :: .int (zI mge) :: .int (zI mbk) :: .ref 109 :: .int (zI mtt) :: .int (zI mtl) :: .ref 110 :: .ref 111 :: .ref 112 :: .ref 113 :: .ref 114 :: .ref 115 :: .ref 116 :: .ref 117 :: .int (zI hm) :: .int (zI pm) :: .int (zI hb) :: .int (zI sb) :: .ref 118 :: .ref 119 :: .ref 120 :: .ref 121 :: .ref 122 :: .ref 123 :: .ref 124 :: .ref 125 :: .ref 126 :: .ref 127 :: .ref 128 :: .ref 129 :: .int (zI mfu) :: .ref 130 :: .ref 131 :: .ref 132 :: .ref 133 :: .ref 134 :: .int (zI mdm) :: .int (zI mla) :: [])))]) (ks := [98, 98]) [true, false] rfl (by decide +kernel) rfl ?_
      exact J_vret dX12_leaf_40 rfl (Nat.le_of_ble_eq_true rfl) (Nat.le_of_ble_eq_true rfl) (Or.inl ⟨(mtk + 1), (mlv + 1), mbd, rfl, rfl, h2, v_e828b09c4d, v_e828b09c4d⟩)
    · exact False.elim (v_221c0ce955 q9 h3)
  · refine J_aload_n dX12_leaf_9 rfl rfl ?_
    refine J_callV (st := []) dX12_leaf_10 cv_X12_193 (k_faults ms mv mt mfa mtn mtk mlv mbd mgo mge mbk mtt mtl hm pm hb sb mfu mdm mla cc va pl q0 q1 q2 q3 q4 q5 q6 q7 q8 hk98 hk106 hk107 hk108) hk98 rfl rfl (Nat.le_of_ble_eq_true rfl) ⟨(Nat.le_of_ble_eq_true rfl), (Nat.le_of_ble_eq_true rfl)⟩ ⟨(Nat.le_of_ble_eq_true rfl), (Nat.le_of_ble_eq_true rfl)⟩ (fun r h9 hp => ?_)
    obtain ⟨z5, rfl, rfl, h6, h7⟩ := hp
    refine J_nf (nh2 := nh) (ck2 := 0) (sk2 := 0) (st2 := []) rfl rfl rfl rfl ?_
    refine J_app (L3 := [(98, .inr (12, (.int (zI ms) :: .int (zI mv) :: .ref 99 :: .ref 100 :: .ref 101 :: .ref 102 :: .ref 103 :: .ref 104 :: .ref 105 :: .int (zI mt) :: .int (zI mfa) :: .ref 106 :: .ref 107 :: .ref 108 :: .int (zI mtn) :: .int (zI mtk) :: .int (zI mlv) :: .int (zI z5) :: .int (zI mgo) :: .int (zI mge) :: .int (zI mbk) :: .ref 109 :: .int (zI mtt) :: .int (zI mtl) :: .ref 110 :: .ref 111 :: .ref 112 :: .ref 113 :: .ref 114 :: .ref 115 :: .ref 116 :: .ref 117 :: .int (zI hm) :: .int (zI pm) :: .int (zI hb) :: .int (zI sb) :: .ref 118 :: .ref 119 :: .ref 120 :: .ref 121 :: .ref 122 :: .ref 123 :: .ref 124 :: .ref 125 :: .ref 126 :: .ref 127 :: .ref 128 :: .ref 129 :: .int (zI mfu) :: .ref 130 :: .ref 131 :: .ref 132 :: .ref 133 :: .ref 134 :: .int (zI mdm) :: .int (zI mla) :: [])))]) rfl ?_
    refine J_aload_n dX12_leaf_13 rfl rfl ?_
    refine J_dup dX12_leaf_14 rfl ?_
    refine J_get (v := .int (zI mlv)) dX12_leaf_15 fl_X12_196 rfl rfl ?_
    refine Z_iconst (n := 1) dX12_leaf_18 ?_
    refine Z_iadd (c := mlv + 1) dX12_leaf_19 rfl ?_
    refine K_put (fs2 := (.int (zI ms) :: .int (zI mv) :: .ref 99 :: .ref 100 :: .ref 101 :: .ref 102 :: .ref 103 :: .ref 104 :: .ref 105 :: .int (zI mt) :: .int (zI mfa) :: .ref 106 :: .ref 107 :: .ref 108 :: .int (zI mtn) :: .int (zI mtk) :: .int (zI (mlv + 1)) :: .int (zI z5) :: .int (zI mgo) :: .int (zI mge) :: .int (zI mbk) :: .ref 109 :: .int (zI mtt) :: .int (zI mtl) :: .ref 110 :: .ref 111 :: .ref 112 :: .ref 113 :: .ref 114 :: .ref 115 :: .ref 116 :: .ref 117 :: .int (zI hm) :: .int (zI pm) :: .int (zI hb) :: .int (zI sb) :: .ref 118 :: .ref 119 :: .ref 120 :: .ref 121 :: .ref 122 :: .ref 123 :: .ref 124 :: .ref 125 :: .ref 126 :: .ref 127 :: .ref 128 :: .ref 129 :: .int (zI mfu) :: .ref 130 :: .ref 131 :: .ref 132 :: .ref 133 :: .ref 134 :: .int (zI mdm) :: .int (zI mla) :: [])) dX12_leaf_20 fw_X12_196 rfl (Nat.le_of_ble_eq_true rfl) (fun _ => ⟨rfl, rfl⟩) rfl ?_
    refine J_aload_n dX12_leaf_23 rfl rfl ?_
    refine J_callV (st := []) dX12_leaf_24 cv_X12_183 (k_fine ms mv mt mfa mtn mtk (mlv + 1) z5 mgo mge mbk mtt mtl hm pm hb sb mfu mdm mla (v_576129c2e8 h6) h7 rfl) rfl rfl rfl (Nat.le_of_ble_eq_true rfl) ⟨(Nat.le_of_ble_eq_true rfl), (Nat.le_of_ble_eq_true rfl)⟩ ⟨(Nat.le_of_ble_eq_true rfl), (Nat.le_of_ble_eq_true rfl)⟩ (fun r h9 hp => ?_)
    rcases hp with ⟨rfl, rfl, h8⟩ | ⟨rfl, rfl, h9⟩
    · exact False.elim (v_a2a49c9ec0 h6 h8)
    · refine J_nf (nh2 := nh) (ck2 := 0) (sk2 := 0) (st2 := [.int (zI 0)]) rfl rfl rfl rfl ?_
      refine Z_if_eq (tgt := 40) dX12_leaf_27 (by decide) v_b17331891f (fun h10 => ?_) (fun h10 => absurd h10 (fun q => q v_2ca2bbca1f))
      refine J_mask (L2 := [(98, .inr (12, (.int (zI ms) :: .int (zI mv) :: .ref 99 :: .ref 100 :: .ref 101 :: .ref 102 :: .ref 103 :: .ref 104 :: .ref 105 :: .int (zI mt) :: .int (zI mfa) :: .ref 106 :: .ref 107 :: .ref 108 :: .int (zI mtn) :: .int (zI mtk) :: .int (zI (mlv + 1)) :: .int (zI z5) :: .int (zI mgo) :: .int (zI mge) :: .int (zI mbk) :: .ref 109 :: .int (zI mtt) :: .int (zI mtl) :: .ref 110 :: .ref 111 :: .ref 112 :: .ref 113 :: .ref 114 :: .ref 115 :: .ref 116 :: .ref 117 :: .int (zI hm) :: .int (zI pm) :: .int (zI hb) :: .int (zI sb) :: .ref 118 :: .ref 119 :: .ref 120 :: .ref 121 :: .ref 122 :: .ref 123 :: .ref 124 :: .ref 125 :: .ref 126 :: .ref 127 :: .ref 128 :: .ref 129 :: .int (zI mfu) :: .ref 130 :: .ref 131 :: .ref 132 :: .ref 133 :: .ref 134 :: .int (zI mdm) :: .int (zI mla) :: [])))]) (ks := [98, 98]) [true, false] rfl (by decide +kernel) rfl ?_
      exact J_vret dX12_leaf_40 rfl (Nat.le_of_ble_eq_true rfl) (Nat.le_of_ble_eq_true rfl) (Or.inr ⟨mtk, (mlv + 1), z5, rfl, rfl, h9, h7, v_a0572702c4, v_e828b09c4d⟩)
set_option maxHeartbeats 4000000 in
set_option maxRecDepth 100000 in
theorem k_readPart_0 {l : Launch} {G : jG} {nh : Nat} {fh : Nat → Option va_E} (ms : Int) (mv : Int) (mt : Int) (mfa : Int) (mtn : Int) (mtk : Int) (mlv : Int) (mbd : Int) (mgo : Int) (mge : Int) (mbk : Int) (mtt : Int) (mtl : Int) (hm : Int) (pm : Int) (hb : Int) (sb : Int) (mfu : Int) (mdm : Int) (mla : Int) (cc : Int → Int) (va : Int → Int) (pl : Int → Int) (q0 : 0 ≤ mtk) (q1 : mtk ≤ mtn) (q2 : mtn ≤ 400) (q3 : -1 ≤ mbd) (q4 : mbd ≤ 400) (q5 : Rg cc 401 (-2147483648) 2147483647) (q6 : cc mtn = 0) (q7 : Rg pl 401 0 400) (q8 : Rg va 401 (-2147483648) 2147483647) (q9 : 0 ≤ mlv) (q10 : mlv ≤ 402) (q11 : mlv ≤ mtk + 1000 * mbd + 1000) (hk98 : fh 98 = some (.inr (12, (.int (zI ms) :: .int (zI mv) :: .ref 99 :: .ref 100 :: .ref 101 :: .ref 102 :: .ref 103 :: .ref 104 :: .ref 105 :: .int (zI mt) :: .int (zI mfa) :: .ref 106 :: .ref 107 :: .ref 108 :: .int (zI mtn) :: .int (zI mtk) :: .int (zI mlv) :: .int (zI mbd) :: .int (zI mgo) :: .int (zI mge) :: .int (zI mbk) :: .ref 109 :: .int (zI mtt) :: .int (zI mtl) :: .ref 110 :: .ref 111 :: .ref 112 :: .ref 113 :: .ref 114 :: .ref 115 :: .ref 116 :: .ref 117 :: .int (zI hm) :: .int (zI pm) :: .int (zI hb) :: .int (zI sb) :: .ref 118 :: .ref 119 :: .ref 120 :: .ref 121 :: .ref 122 :: .ref 123 :: .ref 124 :: .ref 125 :: .ref 126 :: .ref 127 :: .ref 128 :: .ref 129 :: .int (zI mfu) :: .ref 130 :: .ref 131 :: .ref 132 :: .ref 133 :: .ref 134 :: .int (zI mdm) :: .int (zI mla) :: [])))) (hk106 : fh 106 = some (.inl (0, 401, .inl (zA cc)))) (hk107 : fh 107 = some (.inl (0, 401, .inl (zA va)))) (hk108 : fh 108 = some (.inl (0, 401, .inl (zA pl)))) : JM l G yX12_readPart MX12_readPart { frames := 3, cells := 0, slots := 0, locals := 60 } [.ref 98, .int (zI 8)] (nh, fh) (fun rr h9 => (∃ tk2 : Int, ∃ lv2 : Int, ∃ bd2 : Int, rr = none ∧ h9 = (nh, hc fh [(98, .inr (12, (.int (zI ms) :: .int (zI mv) :: .ref 99 :: .ref 100 :: .ref 101 :: .ref 102 :: .ref 103 :: .ref 104 :: .ref 105 :: .int (zI mt) :: .int (zI mfa) :: .ref 106 :: .ref 107 :: .ref 108 :: .int (zI mtn) :: .int (zI tk2) :: .int (zI lv2) :: .int (zI bd2) :: .int (zI mgo) :: .int (zI mge) :: .int (zI mbk) :: .ref 109 :: .int (zI mtt) :: .int (zI mtl) :: .ref 110 :: .ref 111 :: .ref 112 :: .ref 113 :: .ref 114 :: .ref 115 :: .ref 116 :: .ref 117 :: .int (zI hm) :: .int (zI pm) :: .int (zI hb) :: .int (zI sb) :: .ref 118 :: .ref 119 :: .ref 120 :: .ref 121 :: .ref 122 :: .ref 123 :: .ref 124 :: .ref 125 :: .ref 126 :: .ref 127 :: .ref 128 :: .ref 129 :: .int (zI mfu) :: .ref 130 :: .ref 131 :: .ref 132 :: .ref 133 :: .ref 134 :: .int (zI mdm) :: .int (zI mla) :: [])))]) ∧ (bd2 = -1) ∧ (mbd = -1) ∧ (mtk < tk2) ∧ (tk2 ≤ mtn) ∧ (PartG (Cc cc mtn) 0 mtk tk2) ∧ (0 ≤ lv2) ∧ (lv2 ≤ tk2)) ∨ (∃ tk2 : Int, ∃ lv2 : Int, ∃ bd2 : Int, rr = none ∧ h9 = (nh, hc fh [(98, .inr (12, (.int (zI ms) :: .int (zI mv) :: .ref 99 :: .ref 100 :: .ref 101 :: .ref 102 :: .ref 103 :: .ref 104 :: .ref 105 :: .int (zI mt) :: .int (zI mfa) :: .ref 106 :: .ref 107 :: .ref 108 :: .int (zI mtn) :: .int (zI tk2) :: .int (zI lv2) :: .int (zI bd2) :: .int (zI mgo) :: .int (zI mge) :: .int (zI mbk) :: .ref 109 :: .int (zI mtt) :: .int (zI mtl) :: .ref 110 :: .ref 111 :: .ref 112 :: .ref 113 :: .ref 114 :: .ref 115 :: .ref 116 :: .ref 117 :: .int (zI hm) :: .int (zI pm) :: .int (zI hb) :: .int (zI sb) :: .ref 118 :: .ref 119 :: .ref 120 :: .ref 121 :: .ref 122 :: .ref 123 :: .ref 124 :: .ref 125 :: .ref 126 :: .ref 127 :: .ref 128 :: .ref 129 :: .int (zI mfu) :: .ref 130 :: .ref 131 :: .ref 132 :: .ref 133 :: .ref 134 :: .int (zI mdm) :: .int (zI mla) :: [])))]) ∧ (0 ≤ bd2) ∧ (bd2 ≤ 400) ∧ (mtk ≤ tk2) ∧ (tk2 ≤ mtn) ∧ (0 ≤ lv2) ∧ (lv2 ≤ 402))) := by
  refine JM.of (by decide) rfl (fun h => by cases h) (Nat.le_of_ble_eq_true rfl) ⟨1, rfl⟩ ?_
  refine J_hc0 (J_ls (ls2 := [some (.ref 98), some (.int (zI 8)), none]) rfl ?_)
  refine J_aload_n dX12_readPart_0 rfl rfl ?_
  refine J_callV (st := []) dX12_readPart_1 cv_X12_183 (k_fine ms mv mt mfa mtn mtk mlv mbd mgo mge mbk mtt mtl hm pm hb sb mfu mdm mla q3 q4 hk98) hk98 rfl rfl (Nat.le_of_ble_eq_true rfl) ⟨(Nat.le_of_ble_eq_true rfl), (Nat.le_of_ble_eq_true rfl)⟩ ⟨(Nat.le_of_ble_eq_true rfl), (Nat.le_of_ble_eq_true rfl)⟩ (fun r h9 hp => ?_)
  rcases hp with ⟨rfl, rfl, h1⟩ | ⟨rfl, rfl, h2⟩
  · refine J_nf (nh2 := nh) (ck2 := 0) (sk2 := 0) (st2 := [.int (zI 1)]) rfl rfl rfl rfl ?_
    refine Z_if_ne (tgt := 8) dX12_readPart_4 (by decide) v_4dcc24baa7 (fun h3 => ?_) (fun h3 => absurd h3 v_3a47bfd896)
    refine J_aload_n dX12_readPart_8 rfl rfl ?_
    refine J_get (v := .ref 106) dX12_readPart_9 fl_X12_43 hk98 rfl ?_
    refine J_aload_n dX12_readPart_12 rfl rfl ?_
    refine J_get (v := .int (zI mtk)) dX12_readPart_13 fl_X12_187 hk98 rfl ?_
    obtain ⟨z4, ez4⟩ : ∃ z : Int, cc mtk = z := ⟨_, rfl⟩
    have h5 := Rg.at q5 (v_2b02420001 q0) (v_5bf06d1e5f q1 q2) ez4
    refine Y_iald (z := z4) 401 dX12_readPart_16 hk106 rfl (by decide) (v_2b02420001 q0) (v_5bf06d1e5f q1 q2) ez4 ?_
    have g6 : Cc cc mtn mtk = z4 := Cc_at (v_2b02420001 q0) (v_d464d4c634 q1) q6 ez4
    refine J_istore_n dX12_readPart_17 rfl (Nat.le_of_ble_eq_true rfl) rfl ?_
    refine J_ls (ls2 := [some (.ref 98), some (.int (zI 8)), some (.int (zI z4))]) rfl ?_
    refine J_iload_n dX12_readPart_18 rfl rfl ?_
    refine Z_bipush (n := 91) dX12_readPart_19 (by decide +kernel) ?_
    refine J_callS (st := [.int (zI z4)]) dX12_readPart_21 cs_X12_215 (k_sign 91 v_df2cb83190 v_d563f19a9d) rfl rfl (Nat.le_of_ble_eq_true rfl) ⟨(Nat.le_of_ble_eq_true rfl), (Nat.le_of_ble_eq_true rfl)⟩ ⟨(Nat.le_of_ble_eq_true rfl), (Nat.le_of_ble_eq_true rfl)⟩ (fun r h9 hp => ?_)
    obtain ⟨z7, rfl, rfl, h8⟩ := hp
    refine J_nf (nh2 := nh) (ck2 := 0) (sk2 := 0) (st2 := [.int (zI z7), .int (zI z4)]) rfl rfl rfl rfl ?_
    refine Z_icmp_ne (tgt := 74) dX12_readPart_24 (by decide) (v_f306e1cdb8 h5.1 h5.2) (v_7465453b16 h8) (fun h9 => ?_) (fun h9 => ?_)
    · refine J_iload_n dX12_readPart_74 rfl rfl ?_
      refine Z_bipush (n := 50) dX12_readPart_75 (by decide +kernel) ?_
      refine Z_icmp_ne (tgt := 95) dX12_readPart_77 (by decide) (v_f306e1cdb8 h5.1 h5.2) v_e1e0ea2c24 (fun h10 => ?_) (fun h10 => ?_)
      · refine J_iload_n dX12_readPart_95 rfl rfl ?_
        refine Z_bipush (n := 8) dX12_readPart_96 (by decide +kernel) ?_
        refine Z_icmp_lt (tgt := 114) dX12_readPart_98 (by decide) (v_f306e1cdb8 h5.1 h5.2) v_665891e294 (fun h11 => ?_) (fun h11 => ?_)
        · refine J_aload_n dX12_readPart_114 rfl rfl ?_
          refine J_callV (st := []) dX12_readPart_115 cv_X12_193 (k_faults ms mv mt mfa mtn mtk mlv mbd mgo mge mbk mtt mtl hm pm hb sb mfu mdm mla cc va pl q0 q1 q2 q3 q4 q5 q6 q7 q8 hk98 hk106 hk107 hk108) hk98 rfl rfl (Nat.le_of_ble_eq_true rfl) ⟨(Nat.le_of_ble_eq_true rfl), (Nat.le_of_ble_eq_true rfl)⟩ ⟨(Nat.le_of_ble_eq_true rfl), (Nat.le_of_ble_eq_true rfl)⟩ (fun r h9 hp => ?_)
          obtain ⟨z12, rfl, rfl, h13, h14⟩ := hp
          refine J_nf (nh2 := nh) (ck2 := 0) (sk2 := 0) (st2 := []) rfl rfl rfl rfl ?_
          refine J_app (L3 := [(98, .inr (12, (.int (zI ms) :: .int (zI mv) :: .ref 99 :: .ref 100 :: .ref 101 :: .ref 102 :: .ref 103 :: .ref 104 :: .ref 105 :: .int (zI mt) :: .int (zI mfa) :: .ref 106 :: .ref 107 :: .ref 108 :: .int (zI mtn) :: .int (zI mtk) :: .int (zI mlv) :: .int (zI z12) :: .int (zI mgo) :: .int (zI mge) :: .int (zI mbk) :: .ref 109 :: .int (zI mtt) :: .int (zI mtl) :: .ref 110 :: .ref 111 :: .ref 112 :: .ref 113 :: .ref 114 :: .ref 115 :: .ref 116 :: .ref 117 :: .int (zI hm) :: .int (zI pm) :: .int (zI hb) :: .int (zI sb) :: .ref 118 :: .ref 119 :: .ref 120 :: .ref 121 :: .ref 122 :: .ref 123 :: .ref 124 :: .ref 125 :: .ref 126 :: .ref 127 :: .ref 128 :: .ref 129 :: .int (zI mfu) :: .ref 130 :: .ref 131 :: .ref 132 :: .ref 133 :: .ref 134 :: .int (zI mdm) :: .int (zI mla) :: [])))]) rfl ?_
          exact J_vret dX12_readPart_118 rfl (Nat.le_of_ble_eq_true rfl) (Nat.le_of_ble_eq_true rfl) (Or.inr ⟨mtk, mlv, z12, rfl, rfl, h13, h14, v_0065452639, q1, q9, q10⟩)
        · refine J_iload_n dX12_readPart_101 rfl rfl ?_
          refine Z_bipush (n := 15) dX12_readPart_102 (by decide +kernel) ?_
          refine Z_icmp_gt (tgt := 114) dX12_readPart_104 (by decide) (v_0a3e555e5b h5.2 h11) v_a632db44ba (fun h15 => ?_) (fun h15 => ?_)
          · refine J_aload_n dX12_readPart_114 rfl rfl ?_
            refine J_callV (st := []) dX12_readPart_115 cv_X12_193 (k_faults ms mv mt mfa mtn mtk mlv mbd mgo mge mbk mtt mtl hm pm hb sb mfu mdm mla cc va pl q0 q1 q2 q3 q4 q5 q6 q7 q8 hk98 hk106 hk107 hk108) hk98 rfl rfl (Nat.le_of_ble_eq_true rfl) ⟨(Nat.le_of_ble_eq_true rfl), (Nat.le_of_ble_eq_true rfl)⟩ ⟨(Nat.le_of_ble_eq_true rfl), (Nat.le_of_ble_eq_true rfl)⟩ (fun r h9 hp => ?_)
            obtain ⟨z16, rfl, rfl, h17, h18⟩ := hp
            refine J_nf (nh2 := nh) (ck2 := 0) (sk2 := 0) (st2 := []) rfl rfl rfl rfl ?_
            refine J_app (L3 := [(98, .inr (12, (.int (zI ms) :: .int (zI mv) :: .ref 99 :: .ref 100 :: .ref 101 :: .ref 102 :: .ref 103 :: .ref 104 :: .ref 105 :: .int (zI mt) :: .int (zI mfa) :: .ref 106 :: .ref 107 :: .ref 108 :: .int (zI mtn) :: .int (zI mtk) :: .int (zI mlv) :: .int (zI z16) :: .int (zI mgo) :: .int (zI mge) :: .int (zI mbk) :: .ref 109 :: .int (zI mtt) :: .int (zI mtl) :: .ref 110 :: .ref 111 :: .ref 112 :: .ref 113 :: .ref 114 :: .ref 115 :: .ref 116 :: .ref 117 :: .int (zI hm) :: .int (zI pm) :: .int (zI hb) :: .int (zI sb) :: .ref 118 :: .ref 119 :: .ref 120 :: .ref 121 :: .ref 122 :: .ref 123 :: .ref 124 :: .ref 125 :: .ref 126 :: .ref 127 :: .ref 128 :: .ref 129 :: .int (zI mfu) :: .ref 130 :: .ref 131 :: .ref 132 :: .ref 133 :: .ref 134 :: .int (zI mdm) :: .int (zI mla) :: [])))]) rfl ?_
            exact J_vret dX12_readPart_118 rfl (Nat.le_of_ble_eq_true rfl) (Nat.le_of_ble_eq_true rfl) (Or.inr ⟨mtk, mlv, z16, rfl, rfl, h17, h18, v_0065452639, q1, q9, q10⟩)
          · have g19 : mtk < mtn := Cc_lt g6 (v_a8c2b63a84 h11)
            refine J_aload_n dX12_readPart_107 rfl rfl ?_
            refine J_callV (st := []) dX12_readPart_108 cv_X12_225 (k_leaf ms mv mt mfa mtn mtk mlv mbd mgo mge mbk mtt mtl hm pm hb sb mfu mdm mla cc va pl q0 q1 q2 q3 q4 q5 q6 q7 q8 h1 g19 q9 (v_e190598c65 q2 q11 h1 g19) hk98 hk106 hk107 hk108) hk98 rfl rfl (Nat.le_of_ble_eq_true rfl) ⟨(Nat.le_of_ble_eq_true rfl), (Nat.le_of_ble_eq_true rfl)⟩ ⟨(Nat.le_of_ble_eq_true rfl), (Nat.le_of_ble_eq_true rfl)⟩ (fun r h9 hp => ?_)
            rcases hp with ⟨z20, z21, z22, rfl, rfl, h23, h24, h25⟩ | ⟨z26, z27, z28, rfl, rfl, h29, h30, h31, h32⟩
            · refine J_nf (nh2 := nh) (ck2 := 0) (sk2 := 0) (st2 := []) rfl rfl rfl rfl ?_
              refine J_app (L3 := [(98, .inr (12, (.int (zI ms) :: .int (zI mv) :: .ref 99 :: .ref 100 :: .ref 101 :: .ref 102 :: .ref 103 :: .ref 104 :: .ref 105 :: .int (zI mt) :: .int (zI mfa) :: .ref 106 :: .ref 107 :: .ref 108 :: .int (zI mtn) :: .int (zI z20) :: .int (zI z21) :: .int (zI z22) :: .int (zI mgo) :: .int (zI mge) :: .int (zI mbk) :: .ref 109 :: .int (zI mtt) :: .int (zI mtl) :: .ref 110 :: .ref 111 :: .ref 112 :: .ref 113 :: .ref 114 :: .ref 115 :: .ref 116 :: .ref 117 :: .int (zI hm) :: .int (zI pm) :: .int (zI hb) :: .int (zI sb) :: .ref 118 :: .ref 119 :: .ref 120 :: .ref 121 :: .ref 122 :: .ref 123 :: .ref 124 :: .ref 125 :: .ref 126 :: .ref 127 :: .ref 128 :: .ref 129 :: .int (zI mfu) :: .ref 130 :: .ref 131 :: .ref 132 :: .ref 133 :: .ref 134 :: .int (zI mdm) :: .int (zI mla) :: [])))]) rfl ?_
              refine J_goto (tgt := 118) dX12_readPart_111 (by decide) ?_
              exact J_vret dX12_readPart_118 rfl (Nat.le_of_ble_eq_true rfl) (Nat.le_of_ble_eq_true rfl) (Or.inl ⟨z20, z21, z22, rfl, rfl, h23, h1, (v_71890b841f h24), (v_e8af0b4480 g19 h24), (PartG.lf (LfG.mk g6 (.inr ⟨(v_1fd7a756fc h11), (v_df5a905ab2 h15)⟩) (v_d34386dce5 h24))), (v_83b3f1d41d q9 h25), (v_d104ce6a3a q11 h1 h24 h25)⟩)
            · refine J_nf (nh2 := nh) (ck2 := 0) (sk2 := 0) (st2 := []) rfl rfl rfl rfl ?_
              refine J_app (L3 := [(98, .inr (12, (.int (zI ms) :: .int (zI mv) :: .ref 99 :: .ref 100 :: .ref 101 :: .ref 102 :: .ref 103 :: .ref 104 :: .ref 105 :: .int (zI mt) :: .int (zI mfa) :: .ref 106 :: .ref 107 :: .ref 108 :: .int (zI mtn) :: .int (zI z26) :: .int (zI z27) :: .int (zI z28) :: .int (zI mgo) :: .int (zI mge) :: .int (zI mbk) :: .ref 109 :: .int (zI mtt) :: .int (zI mtl) :: .ref 110 :: .ref 111 :: .ref 112 :: .ref 113 :: .ref 114 :: .ref 115 :: .ref 116 :: .ref 117 :: .int (zI hm) :: .int (zI pm) :: .int (zI hb) :: .int (zI sb) :: .ref 118 :: .ref 119 :: .ref 120 :: .ref 121 :: .ref 122 :: .ref 123 :: .ref 124 :: .ref 125 :: .ref 126 :: .ref 127 :: .ref 128 :: .ref 129 :: .int (zI mfu) :: .ref 130 :: .ref 131 :: .ref 132 :: .ref 133 :: .ref 134 :: .int (zI mdm) :: .int (zI mla) :: [])))]) rfl ?_
              refine J_goto (tgt := 118) dX12_readPart_111 (by decide) ?_
              exact J_vret dX12_readPart_118 rfl (Nat.le_of_ble_eq_true rfl) (Nat.le_of_ble_eq_true rfl) (Or.inr ⟨z26, z27, z28, rfl, rfl, h29, h30, (v_21e3c34460 h31), (v_0f86b4f4eb g19 h31), (v_83b3f1d41d q9 h32), (v_b2ebba5f83 q2 q11 h1 g19 h32)⟩)
      · refine J_aload_n dX12_readPart_80 rfl rfl ?_
        refine J_get (v := .ref 107) dX12_readPart_81 fl_X12_46 hk98 rfl ?_
        refine J_aload_n dX12_readPart_84 rfl rfl ?_
        refine J_get (v := .int (zI mtk)) dX12_readPart_85 fl_X12_187 hk98 rfl ?_
        obtain ⟨z33, ez33⟩ : ∃ z : Int, va mtk = z := ⟨_, rfl⟩
        have h34 := Rg.at q8 (v_2b02420001 q0) (v_5bf06d1e5f q1 q2) ez33
        refine Y_iald (z := z33) 401 dX12_readPart_88 hk107 rfl (by decide) (v_2b02420001 q0) (v_5bf06d1e5f q1 q2) ez33 ?_
        refine Z_sipush (n := 1000) dX12_readPart_89 (by decide +kernel) ?_
        refine Z_icmp_le (tgt := 107) dX12_readPart_92 (by decide) (v_f306e1cdb8 h34.1 h34.2) v_822edaa202 (fun h35 => ?_) (fun h35 => ?_)
        · have g36 : mtk < mtn := Cc_lt g6 (v_bdf8547ff0 h10)
          refine J_aload_n dX12_readPart_107 rfl rfl ?_
          refine J_callV (st := []) dX12_readPart_108 cv_X12_225 (k_leaf ms mv mt mfa mtn mtk mlv mbd mgo mge mbk mtt mtl hm pm hb sb mfu mdm mla cc va pl q0 q1 q2 q3 q4 q5 q6 q7 q8 h1 g36 q9 (v_e190598c65 q2 q11 h1 g36) hk98 hk106 hk107 hk108) hk98 rfl rfl (Nat.le_of_ble_eq_true rfl) ⟨(Nat.le_of_ble_eq_true rfl), (Nat.le_of_ble_eq_true rfl)⟩ ⟨(Nat.le_of_ble_eq_true rfl), (Nat.le_of_ble_eq_true rfl)⟩ (fun r h9 hp => ?_)
          rcases hp with ⟨z37, z38, z39, rfl, rfl, h40, h41, h42⟩ | ⟨z43, z44, z45, rfl, rfl, h46, h47, h48, h49⟩
          · refine J_nf (nh2 := nh) (ck2 := 0) (sk2 := 0) (st2 := []) rfl rfl rfl rfl ?_
            refine J_app (L3 := [(98, .inr (12, (.int (zI ms) :: .int (zI mv) :: .ref 99 :: .ref 100 :: .ref 101 :: .ref 102 :: .ref 103 :: .ref 104 :: .ref 105 :: .int (zI mt) :: .int (zI mfa) :: .ref 106 :: .ref 107 :: .ref 108 :: .int (zI mtn) :: .int (zI z37) :: .int (zI z38) :: .int (zI z39) :: .int (zI mgo) :: .int (zI mge) :: .int (zI mbk) :: .ref 109 :: .int (zI mtt) :: .int (zI mtl) :: .ref 110 :: .ref 111 :: .ref 112 :: .ref 113 :: .ref 114 :: .ref 115 :: .ref 116 :: .ref 117 :: .int (zI hm) :: .int (zI pm) :: .int (zI hb) :: .int (zI sb) :: .ref 118 :: .ref 119 :: .ref 120 :: .ref 121 :: .ref 122 :: .ref 123 :: .ref 124 :: .ref 125 :: .ref 126 :: .ref 127 :: .ref 128 :: .ref 129 :: .int (zI mfu) :: .ref 130 :: .ref 131 :: .ref 132 :: .ref 133 :: .ref 134 :: .int (zI mdm) :: .int (zI mla) :: [])))]) rfl ?_
            refine J_goto (tgt := 118) dX12_readPart_111 (by decide) ?_
            exact J_vret dX12_readPart_118 rfl (Nat.le_of_ble_eq_true rfl) (Nat.le_of_ble_eq_true rfl) (Or.inl ⟨z37, z38, z39, rfl, rfl, h40, h1, (v_71890b841f h41), (v_e8af0b4480 g36 h41), (PartG.lf (LfG.mk g6 (.inl (v_7553af4adb h10)) (v_d34386dce5 h41))), (v_83b3f1d41d q9 h42), (v_d104ce6a3a q11 h1 h41 h42)⟩)
          · refine J_nf (nh2 := nh) (ck2 := 0) (sk2 := 0) (st2 := []) rfl rfl rfl rfl ?_
            refine J_app (L3 := [(98, .inr (12, (.int (zI ms) :: .int (zI mv) :: .ref 99 :: .ref 100 :: .ref 101 :: .ref 102 :: .ref 103 :: .ref 104 :: .ref 105 :: .int (zI mt) :: .int (zI mfa) :: .ref 106 :: .ref 107 :: .ref 108 :: .int (zI mtn) :: .int (zI z43) :: .int (zI z44) :: .int (zI z45) :: .int (zI mgo) :: .int (zI mge) :: .int (zI mbk) :: .ref 109 :: .int (zI mtt) :: .int (zI mtl) :: .ref 110 :: .ref 111 :: .ref 112 :: .ref 113 :: .ref 114 :: .ref 115 :: .ref 116 :: .ref 117 :: .int (zI hm) :: .int (zI pm) :: .int (zI hb) :: .int (zI sb) :: .ref 118 :: .ref 119 :: .ref 120 :: .ref 121 :: .ref 122 :: .ref 123 :: .ref 124 :: .ref 125 :: .ref 126 :: .ref 127 :: .ref 128 :: .ref 129 :: .int (zI mfu) :: .ref 130 :: .ref 131 :: .ref 132 :: .ref 133 :: .ref 134 :: .int (zI mdm) :: .int (zI mla) :: [])))]) rfl ?_
            refine J_goto (tgt := 118) dX12_readPart_111 (by decide) ?_
            exact J_vret dX12_readPart_118 rfl (Nat.le_of_ble_eq_true rfl) (Nat.le_of_ble_eq_true rfl) (Or.inr ⟨z43, z44, z45, rfl, rfl, h46, h47, (v_21e3c34460 h48), (v_0f86b4f4eb g36 h48), (v_83b3f1d41d q9 h49), (v_b2ebba5f83 q2 q11 h1 g36 h49)⟩)
        · refine J_iload_n dX12_readPart_95 rfl rfl ?_
          refine Z_bipush (n := 8) dX12_readPart_96 (by decide +kernel) ?_
          refine Z_icmp_lt (tgt := 114) dX12_readPart_98 (by decide) (v_496602b076 h10) v_665891e294 (fun h50 => absurd h50 (v_b08c1fdfde h10)) (fun h50 => ?_)
          refine J_iload_n dX12_readPart_101 rfl rfl ?_
          refine Z_bipush (n := 15) dX12_readPart_102 (by decide +kernel) ?_
          refine Z_icmp_gt (tgt := 114) dX12_readPart_104 (by decide) (v_496602b076 h10) v_a632db44ba (fun h51 => ?_) (fun h51 => absurd h51 (fun q => q (v_ac03b84f58 h10)))
          refine J_aload_n dX12_readPart_114 rfl rfl ?_
          refine J_callV (st := []) dX12_readPart_115 cv_X12_193 (k_faults ms mv mt mfa mtn mtk mlv mbd mgo mge mbk mtt mtl hm pm hb sb mfu mdm mla cc va pl q0 q1 q2 q3 q4 q5 q6 q7 q8 hk98 hk106 hk107 hk108) hk98 rfl rfl (Nat.le_of_ble_eq_true rfl) ⟨(Nat.le_of_ble_eq_true rfl), (Nat.le_of_ble_eq_true rfl)⟩ ⟨(Nat.le_of_ble_eq_true rfl), (Nat.le_of_ble_eq_true rfl)⟩ (fun r h9 hp => ?_)
          obtain ⟨z52, rfl, rfl, h53, h54⟩ := hp
          refine J_nf (nh2 := nh) (ck2 := 0) (sk2 := 0) (st2 := []) rfl rfl rfl rfl ?_
          refine J_app (L3 := [(98, .inr (12, (.int (zI ms) :: .int (zI mv) :: .ref 99 :: .ref 100 :: .ref 101 :: .ref 102 :: .ref 103 :: .ref 104 :: .ref 105 :: .int (zI mt) :: .int (zI mfa) :: .ref 106 :: .ref 107 :: .ref 108 :: .int (zI mtn) :: .int (zI mtk) :: .int (zI mlv) :: .int (zI z52) :: .int (zI mgo) :: .int (zI mge) :: .int (zI mbk) :: .ref 109 :: .int (zI mtt) :: .int (zI mtl) :: .ref 110 :: .ref 111 :: .ref 112 :: .ref 113 :: .ref 114 :: .ref 115 :: .ref 116 :: .ref 117 :: .int (zI hm) :: .int (zI pm) :: .int (zI hb) :: .int (zI sb) :: .ref 118 :: .ref 119 :: .ref 120 :: .ref 121 :: .ref 122 :: .ref 123 :: .ref 124 :: .ref 125 :: .ref 126 :: .ref 127 :: .ref 128 :: .ref 129 :: .int (zI mfu) :: .ref 130 :: .ref 131 :: .ref 132 :: .ref 133 :: .ref 134 :: .int (zI mdm) :: .int (zI mla) :: [])))]) rfl ?_
          exact J_vret dX12_readPart_118 rfl (Nat.le_of_ble_eq_true rfl) (Nat.le_of_ble_eq_true rfl) (Or.inr ⟨mtk, mlv, z52, rfl, rfl, h53, h54, v_0065452639, q1, q9, q10⟩)
    · refine J_iload_n dX12_readPart_27 rfl rfl ?_
      refine Z_bipush (n := 8) dX12_readPart_28 (by decide +kernel) ?_
      refine Z_icmp_ne (tgt := 37) dX12_readPart_30 (by decide) v_665891e294 v_665891e294 (fun h55 => absurd h55 (fun q => q v_c1b8243509)) (fun h55 => ?_)
      refine J_aload_n dX12_readPart_33 rfl rfl ?_
      refine J_callV (st := []) dX12_readPart_34 cv_X12_193 (k_faults ms mv mt mfa mtn mtk mlv mbd mgo mge mbk mtt mtl hm pm hb sb mfu mdm mla cc va pl q0 q1 q2 q3 q4 q5 q6 q7 q8 hk98 hk106 hk107 hk108) hk98 rfl rfl (Nat.le_of_ble_eq_true rfl) ⟨(Nat.le_of_ble_eq_true rfl), (Nat.le_of_ble_eq_true rfl)⟩ ⟨(Nat.le_of_ble_eq_true rfl), (Nat.le_of_ble_eq_true rfl)⟩ (fun r h9 hp => ?_)
      obtain ⟨z56, rfl, rfl, h57, h58⟩ := hp
      refine J_nf (nh2 := nh) (ck2 := 0) (sk2 := 0) (st2 := []) rfl rfl rfl rfl ?_
      refine J_app (L3 := [(98, .inr (12, (.int (zI ms) :: .int (zI mv) :: .ref 99 :: .ref 100 :: .ref 101 :: .ref 102 :: .ref 103 :: .ref 104 :: .ref 105 :: .int (zI mt) :: .int (zI mfa) :: .ref 106 :: .ref 107 :: .ref 108 :: .int (zI mtn) :: .int (zI mtk) :: .int (zI mlv) :: .int (zI z56) :: .int (zI mgo) :: .int (zI mge) :: .int (zI mbk) :: .ref 109 :: .int (zI mtt) :: .int (zI mtl) :: .ref 110 :: .ref 111 :: .ref 112 :: .ref 113 :: .ref 114 :: .ref 115 :: .ref 116 :: .ref 117 :: .int (zI hm) :: .int (zI pm) :: .int (zI hb) :: .int (zI sb) :: .ref 118 :: .ref 119 :: .ref 120 :: .ref 121 :: .ref 122 :: .ref 123 :: .ref 124 :: .ref 125 :: .ref 126 :: .ref 127 :: .ref 128 :: .ref 129 :: .int (zI mfu) :: .ref 130 :: .ref 131 :: .ref 132 :: .ref 133 :: .ref 134 :: .int (zI mdm) :: .int (zI mla) :: [])))]) rfl ?_
      refine J_aload_n dX12_readPart_37 rfl rfl ?_
      refine J_callV (st := []) dX12_readPart_38 cv_X12_183 (k_fine ms mv mt mfa mtn mtk mlv z56 mgo mge mbk mtt mtl hm pm hb sb mfu mdm mla (v_576129c2e8 h57) h58 rfl) rfl rfl rfl (Nat.le_of_ble_eq_true rfl) ⟨(Nat.le_of_ble_eq_true rfl), (Nat.le_of_ble_eq_true rfl)⟩ ⟨(Nat.le_of_ble_eq_true rfl), (Nat.le_of_ble_eq_true rfl)⟩ (fun r h9 hp => ?_)
      rcases hp with ⟨rfl, rfl, h59⟩ | ⟨rfl, rfl, h60⟩
      · exact False.elim (v_a2a49c9ec0 h57 h59)
      · refine J_nf (nh2 := nh) (ck2 := 0) (sk2 := 0) (st2 := [.int (zI 0)]) rfl rfl rfl rfl ?_
        refine Z_if_ne (tgt := 45) dX12_readPart_41 (by decide) v_b17331891f (fun h61 => absurd h61 (fun q => q v_2ca2bbca1f)) (fun h61 => ?_)
        exact J_vret dX12_readPart_44 rfl (Nat.le_of_ble_eq_true rfl) (Nat.le_of_ble_eq_true rfl) (Or.inr ⟨mtk, mlv, z56, rfl, rfl, h60, h58, v_0065452639, q1, q9, q10⟩)
  · refine J_nf (nh2 := nh) (ck2 := 0) (sk2 := 0) (st2 := [.int (zI 0)]) rfl rfl rfl rfl ?_
    refine Z_if_ne (tgt := 8) dX12_readPart_4 (by decide) v_b17331891f (fun h62 => absurd h62 (fun q => q v_2ca2bbca1f)) (fun h62 => ?_)
    refine J_touch (k := 98) (e := .inr (12, (.int (zI ms) :: .int (zI mv) :: .ref 99 :: .ref 100 :: .ref 101 :: .ref 102 :: .ref 103 :: .ref 104 :: .ref 105 :: .int (zI mt) :: .int (zI mfa) :: .ref 106 :: .ref 107 :: .ref 108 :: .int (zI mtn) :: .int (zI mtk) :: .int (zI mlv) :: .int (zI mbd) :: .int (zI mgo) :: .int (zI mge) :: .int (zI mbk) :: .ref 109 :: .int (zI mtt) :: .int (zI mtl) :: .ref 110 :: .ref 111 :: .ref 112 :: .ref 113 :: .ref 114 :: .ref 115 :: .ref 116 :: .ref 117 :: .int (zI hm) :: .int (zI pm) :: .int (zI hb) :: .int (zI sb) :: .ref 118 :: .ref 119 :: .ref 120 :: .ref 121 :: .ref 122 :: .ref 123 :: .ref 124 :: .ref 125 :: .ref 126 :: .ref 127 :: .ref 128 :: .ref 129 :: .int (zI mfu) :: .ref 130 :: .ref 131 :: .ref 132 :: .ref 133 :: .ref 134 :: .int (zI mdm) :: .int (zI mla) :: []))) hk98 ?_
    exact J_vret dX12_readPart_7 rfl (Nat.le_of_ble_eq_true rfl) (Nat.le_of_ble_eq_true rfl) (Or.inr ⟨mtk, mlv, mbd, rfl, rfl, h2, q4, v_0065452639, q1, q9, q10⟩)
set_option maxHeartbeats 4000000 in
set_option maxRecDepth 100000 in
theorem k_readTerm_0 {l : Launch} {G : jG} {nh : Nat} {fh : Nat → Option va_E} (ms : Int) (mv : Int) (mt : Int) (mfa : Int) (mtn : Int) (mtk : Int) (mlv : Int) (mbd : Int) (mgo : Int) (mge : Int) (mbk : Int) (mtt : Int) (mtl : Int) (hm : Int) (pm : Int) (hb : Int) (sb : Int) (mfu : Int) (mdm : Int) (mla : Int) (cc : Int → Int) (va : Int → Int) (pl : Int → Int) (q0 : 0 ≤ mtk) (q1 : mtk ≤ mtn) (q2 : mtn ≤ 400) (q3 : -1 ≤ mbd) (q4 : mbd ≤ 400) (q5 : Rg cc 401 (-2147483648) 2147483647) (q6 : cc mtn = 0) (q7 : Rg pl 401 0 400) (q8 : Rg va 401 (-2147483648) 2147483647) (q9 : 0 ≤ mlv) (q10 : mlv ≤ 402) (q11 : mlv ≤ mtk + 1000 * mbd + 1000) (hk98 : fh 98 = some (.inr (12, (.int (zI ms) :: .int (zI mv) :: .ref 99 :: .ref 100 :: .ref 101 :: .ref 102 :: .ref 103 :: .ref 104 :: .ref 105 :: .int (zI mt) :: .int (zI mfa) :: .ref 106 :: .ref 107 :: .ref 108 :: .int (zI mtn) :: .int (zI mtk) :: .int (zI mlv) :: .int (zI mbd) :: .int (zI mgo) :: .int (zI mge) :: .int (zI mbk) :: .ref 109 :: .int (zI mtt) :: .int (zI mtl) :: .ref 110 :: .ref 111 :: .ref 112 :: .ref 113 :: .ref 114 :: .ref 115 :: .ref 116 :: .ref 117 :: .int (zI hm) :: .int (zI pm) :: .int (zI hb) :: .int (zI sb) :: .ref 118 :: .ref 119 :: .ref 120 :: .ref 121 :: .ref 122 :: .ref 123 :: .ref 124 :: .ref 125 :: .ref 126 :: .ref 127 :: .ref 128 :: .ref 129 :: .int (zI mfu) :: .ref 130 :: .ref 131 :: .ref 132 :: .ref 133 :: .ref 134 :: .int (zI mdm) :: .int (zI mla) :: [])))) (hk106 : fh 106 = some (.inl (0, 401, .inl (zA cc)))) (hk107 : fh 107 = some (.inl (0, 401, .inl (zA va)))) (hk108 : fh 108 = some (.inl (0, 401, .inl (zA pl)))) : JM l G yX12_readTerm MX12_readTerm { frames := 4, cells := 0, slots := 0, locals := 82 } [.ref 98, .int (zI 8)] (nh, fh) (fun rr h9 => (∃ tk2 : Int, ∃ lv2 : Int, ∃ bd2 : Int, rr = none ∧ h9 = (nh, hc fh [(98, .inr (12, (.int (zI ms) :: .int (zI mv) :: .ref 99 :: .ref 100 :: .ref 101 :: .ref 102 :: .ref 103 :: .ref 104 :: .ref 105 :: .int (zI mt) :: .int (zI mfa) :: .ref 106 :: .ref 107 :: .ref 108 :: .int (zI mtn) :: .int (zI tk2) :: .int (zI lv2) :: .int (zI bd2) :: .int (zI mgo) :: .int (zI mge) :: .int (zI mbk) :: .ref 109 :: .int (zI mtt) :: .int (zI mtl) :: .ref 110 :: .ref 111 :: .ref 112 :: .ref 113 :: .ref 114 :: .ref 115 :: .ref 116 :: .ref 117 :: .int (zI hm) :: .int (zI pm) :: .int (zI hb) :: .int (zI sb) :: .ref 118 :: .ref 119 :: .ref 120 :: .ref 121 :: .ref 122 :: .ref 123 :: .ref 124 :: .ref 125 :: .ref 126 :: .ref 127 :: .ref 128 :: .ref 129 :: .int (zI mfu) :: .ref 130 :: .ref 131 :: .ref 132 :: .ref 133 :: .ref 134 :: .int (zI mdm) :: .int (zI mla) :: [])))]) ∧ (bd2 = -1) ∧ (mbd = -1) ∧ (mtk < tk2) ∧ (tk2 ≤ mtn) ∧ (TermG (Cc cc mtn) 0 mtk tk2) ∧ (0 ≤ lv2) ∧ (lv2 ≤ tk2)) ∨ (∃ tk2 : Int, ∃ lv2 : Int, ∃ bd2 : Int, rr = none ∧ h9 = (nh, hc fh [(98, .inr (12, (.int (zI ms) :: .int (zI mv) :: .ref 99 :: .ref 100 :: .ref 101 :: .ref 102 :: .ref 103 :: .ref 104 :: .ref 105 :: .int (zI mt) :: .int (zI mfa) :: .ref 106 :: .ref 107 :: .ref 108 :: .int (zI mtn) :: .int (zI tk2) :: .int (zI lv2) :: .int (zI bd2) :: .int (zI mgo) :: .int (zI mge) :: .int (zI mbk) :: .ref 109 :: .int (zI mtt) :: .int (zI mtl) :: .ref 110 :: .ref 111 :: .ref 112 :: .ref 113 :: .ref 114 :: .ref 115 :: .ref 116 :: .ref 117 :: .int (zI hm) :: .int (zI pm) :: .int (zI hb) :: .int (zI sb) :: .ref 118 :: .ref 119 :: .ref 120 :: .ref 121 :: .ref 122 :: .ref 123 :: .ref 124 :: .ref 125 :: .ref 126 :: .ref 127 :: .ref 128 :: .ref 129 :: .int (zI mfu) :: .ref 130 :: .ref 131 :: .ref 132 :: .ref 133 :: .ref 134 :: .int (zI mdm) :: .int (zI mla) :: [])))]) ∧ (0 ≤ bd2) ∧ (bd2 ≤ 400) ∧ (mtk ≤ tk2) ∧ (tk2 ≤ mtn) ∧ (0 ≤ lv2) ∧ (lv2 ≤ 402))) := by
  refine JM.of (by decide) rfl (fun h => by cases h) (Nat.le_of_ble_eq_true rfl) ⟨0, rfl⟩ ?_
  refine J_hc0 (J_ls (ls2 := [some (.ref 98), some (.int (zI 8))]) rfl ?_)
  refine J_aload_n dX12_readTerm_0 rfl rfl ?_
  refine J_iload_n dX12_readTerm_1 rfl rfl ?_
  refine J_callV (st := []) dX12_readTerm_2 cv_X12_222 (k_readPart_0 ms mv mt mfa mtn mtk mlv mbd mgo mge mbk mtt mtl hm pm hb sb mfu mdm mla cc va pl q0 q1 q2 q3 q4 q5 q6 q7 q8 q9 q10 q11 hk98 hk106 hk107 hk108) hk98 rfl rfl (Nat.le_of_ble_eq_true rfl) ⟨(Nat.le_of_ble_eq_true rfl), (Nat.le_of_ble_eq_true rfl)⟩ ⟨(Nat.le_of_ble_eq_true rfl), (Nat.le_of_ble_eq_true rfl)⟩ (fun r h9 hp => ?_)
  rcases hp with ⟨z1, z2, z3, rfl, rfl, h4, h5, h6, h7, h8, h9, h10⟩ | ⟨z11, z12, z13, rfl, rfl, h14, h15, h16, h17, h18, h19⟩
  · refine J_nf (nh2 := nh) (ck2 := 0) (sk2 := 0) (st2 := []) rfl rfl rfl rfl ?_
    refine J_app (L3 := [(98, .inr (12, (.int (zI ms) :: .int (zI mv) :: .ref 99 :: .ref 100 :: .ref 101 :: .ref 102 :: .ref 103 :: .ref 104 :: .ref 105 :: .int (zI mt) :: .int (zI mfa) :: .ref 106 :: .ref 107 :: .ref 108 :: .int (zI mtn) :: .int (zI z1) :: .int (zI z2) :: .int (zI z3) :: .int (zI mgo) :: .int (zI mge) :: .int (zI mbk) :: .ref 109 :: .int (zI mtt) :: .int (zI mtl) :: .ref 110 :: .ref 111 :: .ref 112 :: .ref 113 :: .ref 114 :: .ref 115 :: .ref 116 :: .ref 117 :: .int (zI hm) :: .int (zI pm) :: .int (zI hb) :: .int (zI sb) :: .ref 118 :: .ref 119 :: .ref 120 :: .ref 121 :: .ref 122 :: .ref 123 :: .ref 124 :: .ref 125 :: .ref 126 :: .ref 127 :: .ref 128 :: .ref 129 :: .int (zI mfu) :: .ref 130 :: .ref 131 :: .ref 132 :: .ref 133 :: .ref 134 :: .int (zI mdm) :: .int (zI mla) :: [])))]) rfl ?_
    have lp5 : ∀ (N5 : Nat) (tk_5 : Int) (lv_5 : Int) (bd_5 : Int), (-1 ≤ bd_5) → (bd_5 ≤ 400) → (mtk ≤ tk_5) → (tk_5 ≤ mtn) → (0 ≤ lv_5) → (lv_5 ≤ 402) → (lv_5 ≤ tk_5 + 1000 * bd_5 + 1000) → (bd_5 = -1 → ChP (PartG (Cc cc mtn) 0) (S2 (Cc cc mtn) 142 147) mtk tk_5 ∧ mtk < tk_5 ∧ mbd = -1) → (mtn - tk_5).toNat < N5 → J l G MX12_readTerm { frames := 4, cells := 0, slots := 0, locals := 82 } jE (jMQ G { frames := 4, cells := 0, slots := 0, locals := 82 } (fun rr h9 => (∃ tk2 : Int, ∃ lv2 : Int, ∃ bd2 : Int, rr = none ∧ h9 = (nh, hc fh [(98, .inr (12, (.int (zI ms) :: .int (zI mv) :: .ref 99 :: .ref 100 :: .ref 101 :: .ref 102 :: .ref 103 :: .ref 104 :: .ref 105 :: .int (zI mt) :: .int (zI mfa) :: .ref 106 :: .ref 107 :: .ref 108 :: .int (zI mtn) :: .int (zI tk2) :: .int (zI lv2) :: .int (zI bd2) :: .int (zI mgo) :: .int (zI mge) :: .int (zI mbk) :: .ref 109 :: .int (zI mtt) :: .int (zI mtl) :: .ref 110 :: .ref 111 :: .ref 112 :: .ref 113 :: .ref 114 :: .ref 115 :: .ref 116 :: .ref 117 :: .int (zI hm) :: .int (zI pm) :: .int (zI hb) :: .int (zI sb) :: .ref 118 :: .ref 119 :: .ref 120 :: .ref 121 :: .ref 122 :: .ref 123 :: .ref 124 :: .ref 125 :: .ref 126 :: .ref 127 :: .ref 128 :: .ref 129 :: .int (zI mfu) :: .ref 130 :: .ref 131 :: .ref 132 :: .ref 133 :: .ref 134 :: .int (zI mdm) :: .int (zI mla) :: [])))]) ∧ (bd2 = -1) ∧ (mbd = -1) ∧ (mtk < tk2) ∧ (tk2 ≤ mtn) ∧ (TermG (Cc cc mtn) 0 mtk tk2) ∧ (0 ≤ lv2) ∧ (lv2 ≤ tk2)) ∨ (∃ tk2 : Int, ∃ lv2 : Int, ∃ bd2 : Int, rr = none ∧ h9 = (nh, hc fh [(98, .inr (12, (.int (zI ms) :: .int (zI mv) :: .ref 99 :: .ref 100 :: .ref 101 :: .ref 102 :: .ref 103 :: .ref 104 :: .ref 105 :: .int (zI mt) :: .int (zI mfa) :: .ref 106 :: .ref 107 :: .ref 108 :: .int (zI mtn) :: .int (zI tk2) :: .int (zI lv2) :: .int (zI bd2) :: .int (zI mgo) :: .int (zI mge) :: .int (zI mbk) :: .ref 109 :: .int (zI mtt) :: .int (zI mtl) :: .ref 110 :: .ref 111 :: .ref 112 :: .ref 113 :: .ref 114 :: .ref 115 :: .ref 116 :: .ref 117 :: .int (zI hm) :: .int (zI pm) :: .int (zI hb) :: .int (zI sb) :: .ref 118 :: .ref 119 :: .ref 120 :: .ref 121 :: .ref 122 :: .ref 123 :: .ref 124 :: .ref 125 :: .ref 126 :: .ref 127 :: .ref 128 :: .ref 129 :: .int (zI mfu) :: .ref 130 :: .ref 131 :: .ref 132 :: .ref 133 :: .ref 134 :: .int (zI mdm) :: .int (zI mla) :: [])))]) ∧ (0 ≤ bd2) ∧ (bd2 ≤ 400) ∧ (mtk ≤ tk2) ∧ (tk2 ≤ mtn) ∧ (0 ≤ lv2) ∧ (lv2 ≤ 402)))) (nh, hc fh [(98, .inr (12, (.int (zI ms) :: .int (zI mv) :: .ref 99 :: .ref 100 :: .ref 101 :: .ref 102 :: .ref 103 :: .ref 104 :: .ref 105 :: .int (zI mt) :: .int (zI mfa) :: .ref 106 :: .ref 107 :: .ref 108 :: .int (zI mtn) :: .int (zI tk_5) :: .int (zI lv_5) :: .int (zI bd_5) :: .int (zI mgo) :: .int (zI mge) :: .int (zI mbk) :: .ref 109 :: .int (zI mtt) :: .int (zI mtl) :: .ref 110 :: .ref 111 :: .ref 112 :: .ref 113 :: .ref 114 :: .ref 115 :: .ref 116 :: .ref 117 :: .int (zI hm) :: .int (zI pm) :: .int (zI hb) :: .int (zI sb) :: .ref 118 :: .ref 119 :: .ref 120 :: .ref 121 :: .ref 122 :: .ref 123 :: .ref 124 :: .ref 125 :: .ref 126 :: .ref 127 :: .ref 128 :: .ref 129 :: .int (zI mfu) :: .ref 130 :: .ref 131 :: .ref 132 :: .ref 133 :: .ref 134 :: .int (zI mdm) :: .int (zI mla) :: [])))]) 0 0 5 [some (.ref 98), some (.int (zI 8))] [] := by
      intro N5
      induction N5 with
      | zero => intro tk_5 lv_5 bd_5 i5_0 i5_1 i5_2 i5_3 i5_4 i5_5 i5_6 i5_7 hm; exact absurd hm (Nat.not_lt_zero _)
      | succ N5 ih5 =>
        intro tk_5 lv_5 bd_5 i5_0 i5_1 i5_2 i5_3 i5_4 i5_5 i5_6 i5_7 hm5
        refine J_aload_n dX12_readTerm_5 rfl rfl ?_
        refine Z_bipush (n := 42) dX12_readTerm_6 (by decide +kernel) ?_
        refine J_callS (st := [.ref 98]) dX12_readTerm_8 cs_X12_215 (k_sign 42 v_19b0ad2cd1 v_1f79c0c2c4) rfl rfl (Nat.le_of_ble_eq_true rfl) ⟨(Nat.le_of_ble_eq_true rfl), (Nat.le_of_ble_eq_true rfl)⟩ ⟨(Nat.le_of_ble_eq_true rfl), (Nat.le_of_ble_eq_true rfl)⟩ (fun r h9 hp => ?_)
        obtain ⟨z20, rfl, rfl, h21⟩ := hp
        refine J_nf (nh2 := nh) (ck2 := 0) (sk2 := 0) (st2 := [.int (zI z20), .ref 98]) rfl rfl rfl rfl ?_
        refine J_callV (st := []) dX12_readTerm_11 cv_X12_190 (k_takes0 z20 ms mv mt mfa mtn tk_5 lv_5 bd_5 mgo mge mbk mtt mtl hm pm hb sb mfu mdm mla cc va pl (v_be84312a04 h21) (v_8c70c87066 h21) (v_21976c7318 q0 i5_2) i5_3 q2 i5_0 i5_1 q5 q6 q7 q8 rfl hk106 hk107 hk108) rfl rfl rfl (Nat.le_of_ble_eq_true rfl) ⟨(Nat.le_of_ble_eq_true rfl), (Nat.le_of_ble_eq_true rfl)⟩ ⟨(Nat.le_of_ble_eq_true rfl), (Nat.le_of_ble_eq_true rfl)⟩ (fun r h9 hp => ?_)
        rcases hp with ⟨z22, rfl, rfl, h23, h24, h25, h26⟩ | ⟨rfl, rfl, h27, h28⟩ | ⟨rfl, rfl, h29⟩
        · refine J_nf (nh2 := nh) (ck2 := 0) (sk2 := 0) (st2 := [.int (zI 1)]) rfl rfl rfl rfl ?_
          refine J_app (L3 := [(98, .inr (12, (.int (zI ms) :: .int (zI mv) :: .ref 99 :: .ref 100 :: .ref 101 :: .ref 102 :: .ref 103 :: .ref 104 :: .ref 105 :: .int (zI mt) :: .int (zI mfa) :: .ref 106 :: .ref 107 :: .ref 108 :: .int (zI mtn) :: .int (zI z22) :: .int (zI lv_5) :: .int (zI bd_5) :: .int (zI mgo) :: .int (zI mge) :: .int (zI mbk) :: .ref 109 :: .int (zI mtt) :: .int (zI mtl) :: .ref 110 :: .ref 111 :: .ref 112 :: .ref 113 :: .ref 114 :: .ref 115 :: .ref 116 :: .ref 117 :: .int (zI hm) :: .int (zI pm) :: .int (zI hb) :: .int (zI sb) :: .ref 118 :: .ref 119 :: .ref 120 :: .ref 121 :: .ref 122 :: .ref 123 :: .ref 124 :: .ref 125 :: .ref 126 :: .ref 127 :: .ref 128 :: .ref 129 :: .int (zI mfu) :: .ref 130 :: .ref 131 :: .ref 132 :: .ref 133 :: .ref 134 :: .int (zI mdm) :: .int (zI mla) :: []))), (98, .inr (12, (.int (zI ms) :: .int (zI mv) :: .ref 99 :: .ref 100 :: .ref 101 :: .ref 102 :: .ref 103 :: .ref 104 :: .ref 105 :: .int (zI mt) :: .int (zI mfa) :: .ref 106 :: .ref 107 :: .ref 108 :: .int (zI mtn) :: .int (zI tk_5) :: .int (zI lv_5) :: .int (zI bd_5) :: .int (zI mgo) :: .int (zI mge) :: .int (zI mbk) :: .ref 109 :: .int (zI mtt) :: .int (zI mtl) :: .ref 110 :: .ref 111 :: .ref 112 :: .ref 113 :: .ref 114 :: .ref 115 :: .ref 116 :: .ref 117 :: .int (zI hm) :: .int (zI pm) :: .int (zI hb) :: .int (zI sb) :: .ref 118 :: .ref 119 :: .ref 120 :: .ref 121 :: .ref 122 :: .ref 123 :: .ref 124 :: .ref 125 :: .ref 126 :: .ref 127 :: .ref 128 :: .ref 129 :: .int (zI mfu) :: .ref 130 :: .ref 131 :: .ref 132 :: .ref 133 :: .ref 134 :: .int (zI mdm) :: .int (zI mla) :: [])))]) rfl ?_
          refine J_mask (L2 := [(98, .inr (12, (.int (zI ms) :: .int (zI mv) :: .ref 99 :: .ref 100 :: .ref 101 :: .ref 102 :: .ref 103 :: .ref 104 :: .ref 105 :: .int (zI mt) :: .int (zI mfa) :: .ref 106 :: .ref 107 :: .ref 108 :: .int (zI mtn) :: .int (zI z22) :: .int (zI lv_5) :: .int (zI bd_5) :: .int (zI mgo) :: .int (zI mge) :: .int (zI mbk) :: .ref 109 :: .int (zI mtt) :: .int (zI mtl) :: .ref 110 :: .ref 111 :: .ref 112 :: .ref 113 :: .ref 114 :: .ref 115 :: .ref 116 :: .ref 117 :: .int (zI hm) :: .int (zI pm) :: .int (zI hb) :: .int (zI sb) :: .ref 118 :: .ref 119 :: .ref 120 :: .ref 121 :: .ref 122 :: .ref 123 :: .ref 124 :: .ref 125 :: .ref 126 :: .ref 127 :: .ref 128 :: .ref 129 :: .int (zI mfu) :: .ref 130 :: .ref 131 :: .ref 132 :: .ref 133 :: .ref 134 :: .int (zI mdm) :: .int (zI mla) :: [])))]) (ks := [98, 98]) [true, false] rfl (by decide +kernel) rfl ?_
          refine Z_if_ne (tgt := 29) dX12_readTerm_14 (by decide) v_4dcc24baa7 (fun h30 => ?_) (fun h30 => absurd h30 v_3a47bfd896)
          refine J_aload_n dX12_readTerm_29 rfl rfl ?_
          refine J_iload_n dX12_readTerm_30 rfl rfl ?_
          refine J_callV (st := []) dX12_readTerm_31 cv_X12_222 (k_readPart_0 ms mv mt mfa mtn z22 lv_5 bd_5 mgo mge mbk mtt mtl hm pm hb sb mfu mdm mla cc va pl (v_49f85faddc q0 i5_2 h24) (v_2b81d1254d h24 h25) q2 i5_0 i5_1 q5 q6 q7 q8 i5_4 i5_5 (v_b6e00daf3f i5_6 h24) rfl hk106 hk107 hk108) rfl rfl rfl (Nat.le_of_ble_eq_true rfl) ⟨(Nat.le_of_ble_eq_true rfl), (Nat.le_of_ble_eq_true rfl)⟩ ⟨(Nat.le_of_ble_eq_true rfl), (Nat.le_of_ble_eq_true rfl)⟩ (fun r h9 hp => ?_)
          rcases hp with ⟨z31, z32, z33, rfl, rfl, h34, h35, h36, h37, h38, h39, h40⟩ | ⟨z41, z42, z43, rfl, rfl, h44, h45, h46, h47, h48, h49⟩
          · refine J_nf (nh2 := nh) (ck2 := 0) (sk2 := 0) (st2 := []) rfl rfl rfl rfl ?_
            refine J_app (L3 := [(98, .inr (12, (.int (zI ms) :: .int (zI mv) :: .ref 99 :: .ref 100 :: .ref 101 :: .ref 102 :: .ref 103 :: .ref 104 :: .ref 105 :: .int (zI mt) :: .int (zI mfa) :: .ref 106 :: .ref 107 :: .ref 108 :: .int (zI mtn) :: .int (zI z31) :: .int (zI z32) :: .int (zI z33) :: .int (zI mgo) :: .int (zI mge) :: .int (zI mbk) :: .ref 109 :: .int (zI mtt) :: .int (zI mtl) :: .ref 110 :: .ref 111 :: .ref 112 :: .ref 113 :: .ref 114 :: .ref 115 :: .ref 116 :: .ref 117 :: .int (zI hm) :: .int (zI pm) :: .int (zI hb) :: .int (zI sb) :: .ref 118 :: .ref 119 :: .ref 120 :: .ref 121 :: .ref 122 :: .ref 123 :: .ref 124 :: .ref 125 :: .ref 126 :: .ref 127 :: .ref 128 :: .ref 129 :: .int (zI mfu) :: .ref 130 :: .ref 131 :: .ref 132 :: .ref 133 :: .ref 134 :: .int (zI mdm) :: .int (zI mla) :: []))), (98, .inr (12, (.int (zI ms) :: .int (zI mv) :: .ref 99 :: .ref 100 :: .ref 101 :: .ref 102 :: .ref 103 :: .ref 104 :: .ref 105 :: .int (zI mt) :: .int (zI mfa) :: .ref 106 :: .ref 107 :: .ref 108 :: .int (zI mtn) :: .int (zI z22) :: .int (zI lv_5) :: .int (zI bd_5) :: .int (zI mgo) :: .int (zI mge) :: .int (zI mbk) :: .ref 109 :: .int (zI mtt) :: .int (zI mtl) :: .ref 110 :: .ref 111 :: .ref 112 :: .ref 113 :: .ref 114 :: .ref 115 :: .ref 116 :: .ref 117 :: .int (zI hm) :: .int (zI pm) :: .int (zI hb) :: .int (zI sb) :: .ref 118 :: .ref 119 :: .ref 120 :: .ref 121 :: .ref 122 :: .ref 123 :: .ref 124 :: .ref 125 :: .ref 126 :: .ref 127 :: .ref 128 :: .ref 129 :: .int (zI mfu) :: .ref 130 :: .ref 131 :: .ref 132 :: .ref 133 :: .ref 134 :: .int (zI mdm) :: .int (zI mla) :: [])))]) rfl ?_
            refine J_mask (L2 := [(98, .inr (12, (.int (zI ms) :: .int (zI mv) :: .ref 99 :: .ref 100 :: .ref 101 :: .ref 102 :: .ref 103 :: .ref 104 :: .ref 105 :: .int (zI mt) :: .int (zI mfa) :: .ref 106 :: .ref 107 :: .ref 108 :: .int (zI mtn) :: .int (zI z31) :: .int (zI z32) :: .int (zI z33) :: .int (zI mgo) :: .int (zI mge) :: .int (zI mbk) :: .ref 109 :: .int (zI mtt) :: .int (zI mtl) :: .ref 110 :: .ref 111 :: .ref 112 :: .ref 113 :: .ref 114 :: .ref 115 :: .ref 116 :: .ref 117 :: .int (zI hm) :: .int (zI pm) :: .int (zI hb) :: .int (zI sb) :: .ref 118 :: .ref 119 :: .ref 120 :: .ref 121 :: .ref 122 :: .ref 123 :: .ref 124 :: .ref 125 :: .ref 126 :: .ref 127 :: .ref 128 :: .ref 129 :: .int (zI mfu) :: .ref 130 :: .ref 131 :: .ref 132 :: .ref 133 :: .ref 134 :: .int (zI mdm) :: .int (zI mla) :: [])))]) (ks := [98, 98]) [true, false] rfl (by decide +kernel) rfl ?_
            refine J_goto (tgt := 5) dX12_readTerm_34 (by decide) ?_
            exact ih5 z31 z32 z33 (v_bc0c2646ae h34) (v_a6725f25e8 h34) (v_9e8572ccbd i5_2 h24 h36) h37 h39 (v_778db8d1be q2 h37 h40) (v_cb9e70f6f7 h34 h40) (fun _ => ⟨ChP.add (i5_7 (v_1022695464 i5_0 h23)).1 (.inl (by rw [h26]; exact (v_1500549be1 h21))) h38 (v_b9aca61388 h36) (v_d34386dce5 h24), (by have u := (i5_7 (v_1022695464 i5_0 h23)).2.1; have w := (v_2e78a692fc h24 h36); omega), (i5_7 (v_1022695464 i5_0 h23)).2.2⟩) (meas_lt (v_64faee003a h24 h36) (v_3cd32163cd h25) hm5)
          · refine J_nf (nh2 := nh) (ck2 := 0) (sk2 := 0) (st2 := []) rfl rfl rfl rfl ?_
            refine J_app (L3 := [(98, .inr (12, (.int (zI ms) :: .int (zI mv) :: .ref 99 :: .ref 100 :: .ref 101 :: .ref 102 :: .ref 103 :: .ref 104 :: .ref 105 :: .int (zI mt) :: .int (zI mfa) :: .ref 106 :: .ref 107 :: .ref 108 :: .int (zI mtn) :: .int (zI z41) :: .int (zI z42) :: .int (zI z43) :: .int (zI mgo) :: .int (zI mge) :: .int (zI mbk) :: .ref 109 :: .int (zI mtt) :: .int (zI mtl) :: .ref 110 :: .ref 111 :: .ref 112 :: .ref 113 :: .ref 114 :: .ref 115 :: .ref 116 :: .ref 117 :: .int (zI hm) :: .int (zI pm) :: .int (zI hb) :: .int (zI sb) :: .ref 118 :: .ref 119 :: .ref 120 :: .ref 121 :: .ref 122 :: .ref 123 :: .ref 124 :: .ref 125 :: .ref 126 :: .ref 127 :: .ref 128 :: .ref 129 :: .int (zI mfu) :: .ref 130 :: .ref 131 :: .ref 132 :: .ref 133 :: .ref 134 :: .int (zI mdm) :: .int (zI mla) :: []))), (98, .inr (12, (.int (zI ms) :: .int (zI mv) :: .ref 99 :: .ref 100 :: .ref 101 :: .ref 102 :: .ref 103 :: .ref 104 :: .ref 105 :: .int (zI mt) :: .int (zI mfa) :: .ref 106 :: .ref 107 :: .ref 108 :: .int (zI mtn) :: .int (zI z22) :: .int (zI lv_5) :: .int (zI bd_5) :: .int (zI mgo) :: .int (zI mge) :: .int (zI mbk) :: .ref 109 :: .int (zI mtt) :: .int (zI mtl) :: .ref 110 :: .ref 111 :: .ref 112 :: .ref 113 :: .ref 114 :: .ref 115 :: .ref 116 :: .ref 117 :: .int (zI hm) :: .int (zI pm) :: .int (zI hb) :: .int (zI sb) :: .ref 118 :: .ref 119 :: .ref 120 :: .ref 121 :: .ref 122 :: .ref 123 :: .ref 124 :: .ref 125 :: .ref 126 :: .ref 127 :: .ref 128 :: .ref 129 :: .int (zI mfu) :: .ref 130 :: .ref 131 :: .ref 132 :: .ref 133 :: .ref 134 :: .int (zI mdm) :: .int (zI mla) :: [])))]) rfl ?_
            refine J_mask (L2 := [(98, .inr (12, (.int (zI ms) :: .int (zI mv) :: .ref 99 :: .ref 100 :: .ref 101 :: .ref 102 :: .ref 103 :: .ref 104 :: .ref 105 :: .int (zI mt) :: .int (zI mfa) :: .ref 106 :: .ref 107 :: .ref 108 :: .int (zI mtn) :: .int (zI z41) :: .int (zI z42) :: .int (zI z43) :: .int (zI mgo) :: .int (zI mge) :: .int (zI mbk) :: .ref 109 :: .int (zI mtt) :: .int (zI mtl) :: .ref 110 :: .ref 111 :: .ref 112 :: .ref 113 :: .ref 114 :: .ref 115 :: .ref 116 :: .ref 117 :: .int (zI hm) :: .int (zI pm) :: .int (zI hb) :: .int (zI sb) :: .ref 118 :: .ref 119 :: .ref 120 :: .ref 121 :: .ref 122 :: .ref 123 :: .ref 124 :: .ref 125 :: .ref 126 :: .ref 127 :: .ref 128 :: .ref 129 :: .int (zI mfu) :: .ref 130 :: .ref 131 :: .ref 132 :: .ref 133 :: .ref 134 :: .int (zI mdm) :: .int (zI mla) :: [])))]) (ks := [98, 98]) [true, false] rfl (by decide +kernel) rfl ?_
            refine J_goto (tgt := 5) dX12_readTerm_34 (by decide) ?_
            exact ih5 z41 z42 z43 (v_576129c2e8 h44) h45 (v_f9f6ac3c48 i5_2 h24 h46) h47 h48 h49 (v_85f529c18f q0 i5_2 h24 h44 h46 h49) (fun w => absurd w (by have u := (v_2b02420001 h44); omega)) (meas_lt (v_46068e056c h24 h46) (v_3cd32163cd h25) hm5)
        · refine J_nf (nh2 := nh) (ck2 := 0) (sk2 := 0) (st2 := [.int (zI 0)]) rfl rfl rfl rfl ?_
          refine Z_if_ne (tgt := 29) dX12_readTerm_14 (by decide) v_b17331891f (fun h50 => absurd h50 (fun q => q v_2ca2bbca1f)) (fun h50 => ?_)
          refine J_aload_n dX12_readTerm_17 rfl rfl ?_
          refine Z_bipush (n := 47) dX12_readTerm_18 (by decide +kernel) ?_
          refine J_callS (st := [.ref 98]) dX12_readTerm_20 cs_X12_215 (k_sign 47 v_a2835897db v_8710bb8462) rfl rfl (Nat.le_of_ble_eq_true rfl) ⟨(Nat.le_of_ble_eq_true rfl), (Nat.le_of_ble_eq_true rfl)⟩ ⟨(Nat.le_of_ble_eq_true rfl), (Nat.le_of_ble_eq_true rfl)⟩ (fun r h9 hp => ?_)
          obtain ⟨z51, rfl, rfl, h52⟩ := hp
          refine J_nf (nh2 := nh) (ck2 := 0) (sk2 := 0) (st2 := [.int (zI z51), .ref 98]) rfl rfl rfl rfl ?_
          refine J_callV (st := []) dX12_readTerm_23 cv_X12_190 (k_takes0 z51 ms mv mt mfa mtn tk_5 lv_5 bd_5 mgo mge mbk mtt mtl hm pm hb sb mfu mdm mla cc va pl (v_14fa416972 h52) (v_78d3fd05d2 h52) (v_21976c7318 q0 i5_2) i5_3 q2 i5_0 i5_1 q5 q6 q7 q8 rfl hk106 hk107 hk108) rfl rfl rfl (Nat.le_of_ble_eq_true rfl) ⟨(Nat.le_of_ble_eq_true rfl), (Nat.le_of_ble_eq_true rfl)⟩ ⟨(Nat.le_of_ble_eq_true rfl), (Nat.le_of_ble_eq_true rfl)⟩ (fun r h9 hp => ?_)
          rcases hp with ⟨z53, rfl, rfl, h54, h55, h56, h57⟩ | ⟨rfl, rfl, h58, h59⟩ | ⟨rfl, rfl, h60⟩
          · refine J_nf (nh2 := nh) (ck2 := 0) (sk2 := 0) (st2 := [.int (zI 1)]) rfl rfl rfl rfl ?_
            refine J_app (L3 := [(98, .inr (12, (.int (zI ms) :: .int (zI mv) :: .ref 99 :: .ref 100 :: .ref 101 :: .ref 102 :: .ref 103 :: .ref 104 :: .ref 105 :: .int (zI mt) :: .int (zI mfa) :: .ref 106 :: .ref 107 :: .ref 108 :: .int (zI mtn) :: .int (zI z53) :: .int (zI lv_5) :: .int (zI bd_5) :: .int (zI mgo) :: .int (zI mge) :: .int (zI mbk) :: .ref 109 :: .int (zI mtt) :: .int (zI mtl) :: .ref 110 :: .ref 111 :: .ref 112 :: .ref 113 :: .ref 114 :: .ref 115 :: .ref 116 :: .ref 117 :: .int (zI hm) :: .int (zI pm) :: .int (zI hb) :: .int (zI sb) :: .ref 118 :: .ref 119 :: .ref 120 :: .ref 121 :: .ref 122 :: .ref 123 :: .ref 124 :: .ref 125 :: .ref 126 :: .ref 127 :: .ref 128 :: .ref 129 :: .int (zI mfu) :: .ref 130 :: .ref 131 :: .ref 132 :: .ref 133 :: .ref 134 :: .int (zI mdm) :: .int (zI mla) :: []))), (98, .inr (12, (.int (zI ms) :: .int (zI mv) :: .ref 99 :: .ref 100 :: .ref 101 :: .ref 102 :: .ref 103 :: .ref 104 :: .ref 105 :: .int (zI mt) :: .int (zI mfa) :: .ref 106 :: .ref 107 :: .ref 108 :: .int (zI mtn) :: .int (zI tk_5) :: .int (zI lv_5) :: .int (zI bd_5) :: .int (zI mgo) :: .int (zI mge) :: .int (zI mbk) :: .ref 109 :: .int (zI mtt) :: .int (zI mtl) :: .ref 110 :: .ref 111 :: .ref 112 :: .ref 113 :: .ref 114 :: .ref 115 :: .ref 116 :: .ref 117 :: .int (zI hm) :: .int (zI pm) :: .int (zI hb) :: .int (zI sb) :: .ref 118 :: .ref 119 :: .ref 120 :: .ref 121 :: .ref 122 :: .ref 123 :: .ref 124 :: .ref 125 :: .ref 126 :: .ref 127 :: .ref 128 :: .ref 129 :: .int (zI mfu) :: .ref 130 :: .ref 131 :: .ref 132 :: .ref 133 :: .ref 134 :: .int (zI mdm) :: .int (zI mla) :: [])))]) rfl ?_
            refine J_mask (L2 := [(98, .inr (12, (.int (zI ms) :: .int (zI mv) :: .ref 99 :: .ref 100 :: .ref 101 :: .ref 102 :: .ref 103 :: .ref 104 :: .ref 105 :: .int (zI mt) :: .int (zI mfa) :: .ref 106 :: .ref 107 :: .ref 108 :: .int (zI mtn) :: .int (zI z53) :: .int (zI lv_5) :: .int (zI bd_5) :: .int (zI mgo) :: .int (zI mge) :: .int (zI mbk) :: .ref 109 :: .int (zI mtt) :: .int (zI mtl) :: .ref 110 :: .ref 111 :: .ref 112 :: .ref 113 :: .ref 114 :: .ref 115 :: .ref 116 :: .ref 117 :: .int (zI hm) :: .int (zI pm) :: .int (zI hb) :: .int (zI sb) :: .ref 118 :: .ref 119 :: .ref 120 :: .ref 121 :: .ref 122 :: .ref 123 :: .ref 124 :: .ref 125 :: .ref 126 :: .ref 127 :: .ref 128 :: .ref 129 :: .int (zI mfu) :: .ref 130 :: .ref 131 :: .ref 132 :: .ref 133 :: .ref 134 :: .int (zI mdm) :: .int (zI mla) :: [])))]) (ks := [98, 98]) [true, false] rfl (by decide +kernel) rfl ?_
            refine Z_if_eq (tgt := 37) dX12_readTerm_26 (by decide) v_4dcc24baa7 (fun h61 => absurd h61 v_3a47bfd896) (fun h61 => ?_)
            refine J_aload_n dX12_readTerm_29 rfl rfl ?_
            refine J_iload_n dX12_readTerm_30 rfl rfl ?_
            refine J_callV (st := []) dX12_readTerm_31 cv_X12_222 (k_readPart_0 ms mv mt mfa mtn z53 lv_5 bd_5 mgo mge mbk mtt mtl hm pm hb sb mfu mdm mla cc va pl (v_49f85faddc q0 i5_2 h55) (v_2b81d1254d h55 h56) q2 i5_0 i5_1 q5 q6 q7 q8 i5_4 i5_5 (v_b6e00daf3f i5_6 h55) rfl hk106 hk107 hk108) rfl rfl rfl (Nat.le_of_ble_eq_true rfl) ⟨(Nat.le_of_ble_eq_true rfl), (Nat.le_of_ble_eq_true rfl)⟩ ⟨(Nat.le_of_ble_eq_true rfl), (Nat.le_of_ble_eq_true rfl)⟩ (fun r h9 hp => ?_)
            rcases hp with ⟨z62, z63, z64, rfl, rfl, h65, h66, h67, h68, h69, h70, h71⟩ | ⟨z72, z73, z74, rfl, rfl, h75, h76, h77, h78, h79, h80⟩
            · refine J_nf (nh2 := nh) (ck2 := 0) (sk2 := 0) (st2 := []) rfl rfl rfl rfl ?_
              refine J_app (L3 := [(98, .inr (12, (.int (zI ms) :: .int (zI mv) :: .ref 99 :: .ref 100 :: .ref 101 :: .ref 102 :: .ref 103 :: .ref 104 :: .ref 105 :: .int (zI mt) :: .int (zI mfa) :: .ref 106 :: .ref 107 :: .ref 108 :: .int (zI mtn) :: .int (zI z62) :: .int (zI z63) :: .int (zI z64) :: .int (zI mgo) :: .int (zI mge) :: .int (zI mbk) :: .ref 109 :: .int (zI mtt) :: .int (zI mtl) :: .ref 110 :: .ref 111 :: .ref 112 :: .ref 113 :: .ref 114 :: .ref 115 :: .ref 116 :: .ref 117 :: .int (zI hm) :: .int (zI pm) :: .int (zI hb) :: .int (zI sb) :: .ref 118 :: .ref 119 :: .ref 120 :: .ref 121 :: .ref 122 :: .ref 123 :: .ref 124 :: .ref 125 :: .ref 126 :: .ref 127 :: .ref 128 :: .ref 129 :: .int (zI mfu) :: .ref 130 :: .ref 131 :: .ref 132 :: .ref 133 :: .ref 134 :: .int (zI mdm) :: .int (zI mla) :: []))), (98, .inr (12, (.int (zI ms) :: .int (zI mv) :: .ref 99 :: .ref 100 :: .ref 101 :: .ref 102 :: .ref 103 :: .ref 104 :: .ref 105 :: .int (zI mt) :: .int (zI mfa) :: .ref 106 :: .ref 107 :: .ref 108 :: .int (zI mtn) :: .int (zI z53) :: .int (zI lv_5) :: .int (zI bd_5) :: .int (zI mgo) :: .int (zI mge) :: .int (zI mbk) :: .ref 109 :: .int (zI mtt) :: .int (zI mtl) :: .ref 110 :: .ref 111 :: .ref 112 :: .ref 113 :: .ref 114 :: .ref 115 :: .ref 116 :: .ref 117 :: .int (zI hm) :: .int (zI pm) :: .int (zI hb) :: .int (zI sb) :: .ref 118 :: .ref 119 :: .ref 120 :: .ref 121 :: .ref 122 :: .ref 123 :: .ref 124 :: .ref 125 :: .ref 126 :: .ref 127 :: .ref 128 :: .ref 129 :: .int (zI mfu) :: .ref 130 :: .ref 131 :: .ref 132 :: .ref 133 :: .ref 134 :: .int (zI mdm) :: .int (zI mla) :: [])))]) rfl ?_
              refine J_mask (L2 := [(98, .inr (12, (.int (zI ms) :: .int (zI mv) :: .ref 99 :: .ref 100 :: .ref 101 :: .ref 102 :: .ref 103 :: .ref 104 :: .ref 105 :: .int (zI mt) :: .int (zI mfa) :: .ref 106 :: .ref 107 :: .ref 108 :: .int (zI mtn) :: .int (zI z62) :: .int (zI z63) :: .int (zI z64) :: .int (zI mgo) :: .int (zI mge) :: .int (zI mbk) :: .ref 109 :: .int (zI mtt) :: .int (zI mtl) :: .ref 110 :: .ref 111 :: .ref 112 :: .ref 113 :: .ref 114 :: .ref 115 :: .ref 116 :: .ref 117 :: .int (zI hm) :: .int (zI pm) :: .int (zI hb) :: .int (zI sb) :: .ref 118 :: .ref 119 :: .ref 120 :: .ref 121 :: .ref 122 :: .ref 123 :: .ref 124 :: .ref 125 :: .ref 126 :: .ref 127 :: .ref 128 :: .ref 129 :: .int (zI mfu) :: .ref 130 :: .ref 131 :: .ref 132 :: .ref 133 :: .ref 134 :: .int (zI mdm) :: .int (zI mla) :: [])))]) (ks := [98, 98]) [true, false] rfl (by decide +kernel) rfl ?_
              refine J_goto (tgt := 5) dX12_readTerm_34 (by decide) ?_
              exact ih5 z62 z63 z64 (v_bc0c2646ae h65) (v_a6725f25e8 h65) (v_9e8572ccbd i5_2 h55 h67) h68 h70 (v_778db8d1be q2 h68 h71) (v_cb9e70f6f7 h65 h71) (fun _ => ⟨ChP.add (i5_7 (v_1022695464 i5_0 h27)).1 (.inr (by rw [h57]; exact (v_963e78d969 h52))) h69 (v_b9aca61388 h67) (v_d34386dce5 h55), (by have u := (i5_7 (v_1022695464 i5_0 h27)).2.1; have w := (v_2e78a692fc h55 h67); omega), (i5_7 (v_1022695464 i5_0 h27)).2.2⟩) (meas_lt (v_64faee003a h55 h67) (v_3cd32163cd h56) hm5)
            · refine J_nf (nh2 := nh) (ck2 := 0) (sk2 := 0) (st2 := []) rfl rfl rfl rfl ?_
              refine J_app (L3 := [(98, .inr (12, (.int (zI ms) :: .int (zI mv) :: .ref 99 :: .ref 100 :: .ref 101 :: .ref 102 :: .ref 103 :: .ref 104 :: .ref 105 :: .int (zI mt) :: .int (zI mfa) :: .ref 106 :: .ref 107 :: .ref 108 :: .int (zI mtn) :: .int (zI z72) :: .int (zI z73) :: .int (zI z74) :: .int (zI mgo) :: .int (zI mge) :: .int (zI mbk) :: .ref 109 :: .int (zI mtt) :: .int (zI mtl) :: .ref 110 :: .ref 111 :: .ref 112 :: .ref 113 :: .ref 114 :: .ref 115 :: .ref 116 :: .ref 117 :: .int (zI hm) :: .int (zI pm) :: .int (zI hb) :: .int (zI sb) :: .ref 118 :: .ref 119 :: .ref 120 :: .ref 121 :: .ref 122 :: .ref 123 :: .ref 124 :: .ref 125 :: .ref 126 :: .ref 127 :: .ref 128 :: .ref 129 :: .int (zI mfu) :: .ref 130 :: .ref 131 :: .ref 132 :: .ref 133 :: .ref 134 :: .int (zI mdm) :: .int (zI mla) :: []))), (98, .inr (12, (.int (zI ms) :: .int (zI mv) :: .ref 99 :: .ref 100 :: .ref 101 :: .ref 102 :: .ref 103 :: .ref 104 :: .ref 105 :: .int (zI mt) :: .int (zI mfa) :: .ref 106 :: .ref 107 :: .ref 108 :: .int (zI mtn) :: .int (zI z53) :: .int (zI lv_5) :: .int (zI bd_5) :: .int (zI mgo) :: .int (zI mge) :: .int (zI mbk) :: .ref 109 :: .int (zI mtt) :: .int (zI mtl) :: .ref 110 :: .ref 111 :: .ref 112 :: .ref 113 :: .ref 114 :: .ref 115 :: .ref 116 :: .ref 117 :: .int (zI hm) :: .int (zI pm) :: .int (zI hb) :: .int (zI sb) :: .ref 118 :: .ref 119 :: .ref 120 :: .ref 121 :: .ref 122 :: .ref 123 :: .ref 124 :: .ref 125 :: .ref 126 :: .ref 127 :: .ref 128 :: .ref 129 :: .int (zI mfu) :: .ref 130 :: .ref 131 :: .ref 132 :: .ref 133 :: .ref 134 :: .int (zI mdm) :: .int (zI mla) :: [])))]) rfl ?_
              refine J_mask (L2 := [(98, .inr (12, (.int (zI ms) :: .int (zI mv) :: .ref 99 :: .ref 100 :: .ref 101 :: .ref 102 :: .ref 103 :: .ref 104 :: .ref 105 :: .int (zI mt) :: .int (zI mfa) :: .ref 106 :: .ref 107 :: .ref 108 :: .int (zI mtn) :: .int (zI z72) :: .int (zI z73) :: .int (zI z74) :: .int (zI mgo) :: .int (zI mge) :: .int (zI mbk) :: .ref 109 :: .int (zI mtt) :: .int (zI mtl) :: .ref 110 :: .ref 111 :: .ref 112 :: .ref 113 :: .ref 114 :: .ref 115 :: .ref 116 :: .ref 117 :: .int (zI hm) :: .int (zI pm) :: .int (zI hb) :: .int (zI sb) :: .ref 118 :: .ref 119 :: .ref 120 :: .ref 121 :: .ref 122 :: .ref 123 :: .ref 124 :: .ref 125 :: .ref 126 :: .ref 127 :: .ref 128 :: .ref 129 :: .int (zI mfu) :: .ref 130 :: .ref 131 :: .ref 132 :: .ref 133 :: .ref 134 :: .int (zI mdm) :: .int (zI mla) :: [])))]) (ks := [98, 98]) [true, false] rfl (by decide +kernel) rfl ?_
              refine J_goto (tgt := 5) dX12_readTerm_34 (by decide) ?_
              exact ih5 z72 z73 z74 (v_576129c2e8 h75) h76 (v_f9f6ac3c48 i5_2 h55 h77) h78 h79 h80 (v_85f529c18f q0 i5_2 h55 h75 h77 h80) (fun w => absurd w (by have u := (v_2b02420001 h75); omega)) (meas_lt (v_46068e056c h55 h77) (v_3cd32163cd h56) hm5)
          · refine J_nf (nh2 := nh) (ck2 := 0) (sk2 := 0) (st2 := [.int (zI 0)]) rfl rfl rfl rfl ?_
            refine Z_if_eq (tgt := 37) dX12_readTerm_26 (by decide) v_b17331891f (fun h81 => ?_) (fun h81 => absurd h81 (fun q => q v_2ca2bbca1f))
            have gx := i5_7 (v_1022695464 i5_0 h27)
            exact J_vret dX12_readTerm_37 rfl (Nat.le_of_ble_eq_true rfl) (Nat.le_of_ble_eq_true rfl) (Or.inl ⟨tk_5, lv_5, bd_5, rfl, rfl, h58, gx.2.2, gx.2.1, i5_3, (ChP.end gx.1 (fun w => by have u0 := h28; have u1 := h59; have u2 := h21; have u3 := h52; rcases w with w | w <;> omega)), i5_4, (v_0471d920d5 i5_6 h27)⟩)
          · exact False.elim (v_221c0ce955 h27 h60)
        · refine J_nf (nh2 := nh) (ck2 := 0) (sk2 := 0) (st2 := [.int (zI 0)]) rfl rfl rfl rfl ?_
          refine Z_if_ne (tgt := 29) dX12_readTerm_14 (by decide) v_b17331891f (fun h82 => absurd h82 (fun q => q v_2ca2bbca1f)) (fun h82 => ?_)
          refine J_aload_n dX12_readTerm_17 rfl rfl ?_
          refine Z_bipush (n := 47) dX12_readTerm_18 (by decide +kernel) ?_
          refine J_callS (st := [.ref 98]) dX12_readTerm_20 cs_X12_215 (k_sign 47 v_a2835897db v_8710bb8462) rfl rfl (Nat.le_of_ble_eq_true rfl) ⟨(Nat.le_of_ble_eq_true rfl), (Nat.le_of_ble_eq_true rfl)⟩ ⟨(Nat.le_of_ble_eq_true rfl), (Nat.le_of_ble_eq_true rfl)⟩ (fun r h9 hp => ?_)
          obtain ⟨z83, rfl, rfl, h84⟩ := hp
          refine J_nf (nh2 := nh) (ck2 := 0) (sk2 := 0) (st2 := [.int (zI z83), .ref 98]) rfl rfl rfl rfl ?_
          refine J_callV (st := []) dX12_readTerm_23 cv_X12_190 (k_takes0 z83 ms mv mt mfa mtn tk_5 lv_5 bd_5 mgo mge mbk mtt mtl hm pm hb sb mfu mdm mla cc va pl (v_14fa416972 h84) (v_78d3fd05d2 h84) (v_21976c7318 q0 i5_2) i5_3 q2 i5_0 i5_1 q5 q6 q7 q8 rfl hk106 hk107 hk108) rfl rfl rfl (Nat.le_of_ble_eq_true rfl) ⟨(Nat.le_of_ble_eq_true rfl), (Nat.le_of_ble_eq_true rfl)⟩ ⟨(Nat.le_of_ble_eq_true rfl), (Nat.le_of_ble_eq_true rfl)⟩ (fun r h9 hp => ?_)
          rcases hp with ⟨z85, rfl, rfl, h86, h87, h88, h89⟩ | ⟨rfl, rfl, h90, h91⟩ | ⟨rfl, rfl, h92⟩
          · exact False.elim (v_a2a49c9ec0 h29 h86)
          · exact False.elim (v_a2a49c9ec0 h29 h90)
          · refine J_nf (nh2 := nh) (ck2 := 0) (sk2 := 0) (st2 := [.int (zI 0)]) rfl rfl rfl rfl ?_
            refine Z_if_eq (tgt := 37) dX12_readTerm_26 (by decide) v_b17331891f (fun h93 => ?_) (fun h93 => absurd h93 (fun q => q v_2ca2bbca1f))
            exact J_vret dX12_readTerm_37 rfl (Nat.le_of_ble_eq_true rfl) (Nat.le_of_ble_eq_true rfl) (Or.inr ⟨tk_5, lv_5, bd_5, rfl, rfl, h92, i5_1, i5_2, i5_3, i5_4, i5_5⟩)
    exact lp5 _ z1 z2 z3 (v_bc0c2646ae h4) (v_a6725f25e8 h4) (v_c771ab5f01 h6) h7 h9 (v_778db8d1be q2 h7 h10) (v_cb9e70f6f7 h4 h10) (fun _ => ⟨ChP_1 h8 (v_b9aca61388 h6), (v_b9aca61388 h6), (v_1022695464 q3 h5)⟩) (Nat.lt_succ_self _)
  · refine J_nf (nh2 := nh) (ck2 := 0) (sk2 := 0) (st2 := []) rfl rfl rfl rfl ?_
    refine J_app (L3 := [(98, .inr (12, (.int (zI ms) :: .int (zI mv) :: .ref 99 :: .ref 100 :: .ref 101 :: .ref 102 :: .ref 103 :: .ref 104 :: .ref 105 :: .int (zI mt) :: .int (zI mfa) :: .ref 106 :: .ref 107 :: .ref 108 :: .int (zI mtn) :: .int (zI z11) :: .int (zI z12) :: .int (zI z13) :: .int (zI mgo) :: .int (zI mge) :: .int (zI mbk) :: .ref 109 :: .int (zI mtt) :: .int (zI mtl) :: .ref 110 :: .ref 111 :: .ref 112 :: .ref 113 :: .ref 114 :: .ref 115 :: .ref 116 :: .ref 117 :: .int (zI hm) :: .int (zI pm) :: .int (zI hb) :: .int (zI sb) :: .ref 118 :: .ref 119 :: .ref 120 :: .ref 121 :: .ref 122 :: .ref 123 :: .ref 124 :: .ref 125 :: .ref 126 :: .ref 127 :: .ref 128 :: .ref 129 :: .int (zI mfu) :: .ref 130 :: .ref 131 :: .ref 132 :: .ref 133 :: .ref 134 :: .int (zI mdm) :: .int (zI mla) :: [])))]) rfl ?_
    have lp5 : ∀ (N5 : Nat) (tk_5 : Int) (lv_5 : Int) (bd_5 : Int), (-1 ≤ bd_5) → (bd_5 ≤ 400) → (mtk ≤ tk_5) → (tk_5 ≤ mtn) → (0 ≤ lv_5) → (lv_5 ≤ 402) → (lv_5 ≤ tk_5 + 1000 * bd_5 + 1000) → (bd_5 = -1 → ChP (PartG (Cc cc mtn) 0) (S2 (Cc cc mtn) 142 147) mtk tk_5 ∧ mtk < tk_5 ∧ mbd = -1) → (mtn - tk_5).toNat < N5 → J l G MX12_readTerm { frames := 4, cells := 0, slots := 0, locals := 82 } jE (jMQ G { frames := 4, cells := 0, slots := 0, locals := 82 } (fun rr h9 => (∃ tk2 : Int, ∃ lv2 : Int, ∃ bd2 : Int, rr = none ∧ h9 = (nh, hc fh [(98, .inr (12, (.int (zI ms) :: .int (zI mv) :: .ref 99 :: .ref 100 :: .ref 101 :: .ref 102 :: .ref 103 :: .ref 104 :: .ref 105 :: .int (zI mt) :: .int (zI mfa) :: .ref 106 :: .ref 107 :: .ref 108 :: .int (zI mtn) :: .int (zI tk2) :: .int (zI lv2) :: .int (zI bd2) :: .int (zI mgo) :: .int (zI mge) :: .int (zI mbk) :: .ref 109 :: .int (zI mtt) :: .int (zI mtl) :: .ref 110 :: .ref 111 :: .ref 112 :: .ref 113 :: .ref 114 :: .ref 115 :: .ref 116 :: .ref 117 :: .int (zI hm) :: .int (zI pm) :: .int (zI hb) :: .int (zI sb) :: .ref 118 :: .ref 119 :: .ref 120 :: .ref 121 :: .ref 122 :: .ref 123 :: .ref 124 :: .ref 125 :: .ref 126 :: .ref 127 :: .ref 128 :: .ref 129 :: .int (zI mfu) :: .ref 130 :: .ref 131 :: .ref 132 :: .ref 133 :: .ref 134 :: .int (zI mdm) :: .int (zI mla) :: [])))]) ∧ (bd2 = -1) ∧ (mbd = -1) ∧ (mtk < tk2) ∧ (tk2 ≤ mtn) ∧ (TermG (Cc cc mtn) 0 mtk tk2) ∧ (0 ≤ lv2) ∧ (lv2 ≤ tk2)) ∨ (∃ tk2 : Int, ∃ lv2 : Int, ∃ bd2 : Int, rr = none ∧ h9 = (nh, hc fh [(98, .inr (12, (.int (zI ms) :: .int (zI mv) :: .ref 99 :: .ref 100 :: .ref 101 :: .ref 102 :: .ref 103 :: .ref 104 :: .ref 105 :: .int (zI mt) :: .int (zI mfa) :: .ref 106 :: .ref 107 :: .ref 108 :: .int (zI mtn) :: .int (zI tk2) :: .int (zI lv2) :: .int (zI bd2) :: .int (zI mgo) :: .int (zI mge) :: .int (zI mbk) :: .ref 109 :: .int (zI mtt) :: .int (zI mtl) :: .ref 110 :: .ref 111 :: .ref 112 :: .ref 113 :: .ref 114 :: .ref 115 :: .ref 116 :: .ref 117 :: .int (zI hm) :: .int (zI pm) :: .int (zI hb) :: .int (zI sb) :: .ref 118 :: .ref 119 :: .ref 120 :: .ref 121 :: .ref 122 :: .ref 123 :: .ref 124 :: .ref 125 :: .ref 126 :: .ref 127 :: .ref 128 :: .ref 129 :: .int (zI mfu) :: .ref 130 :: .ref 131 :: .ref 132 :: .ref 133 :: .ref 134 :: .int (zI mdm) :: .int (zI mla) :: [])))]) ∧ (0 ≤ bd2) ∧ (bd2 ≤ 400) ∧ (mtk ≤ tk2) ∧ (tk2 ≤ mtn) ∧ (0 ≤ lv2) ∧ (lv2 ≤ 402)))) (nh, hc fh [(98, .inr (12, (.int (zI ms) :: .int (zI mv) :: .ref 99 :: .ref 100 :: .ref 101 :: .ref 102 :: .ref 103 :: .ref 104 :: .ref 105 :: .int (zI mt) :: .int (zI mfa) :: .ref 106 :: .ref 107 :: .ref 108 :: .int (zI mtn) :: .int (zI tk_5) :: .int (zI lv_5) :: .int (zI bd_5) :: .int (zI mgo) :: .int (zI mge) :: .int (zI mbk) :: .ref 109 :: .int (zI mtt) :: .int (zI mtl) :: .ref 110 :: .ref 111 :: .ref 112 :: .ref 113 :: .ref 114 :: .ref 115 :: .ref 116 :: .ref 117 :: .int (zI hm) :: .int (zI pm) :: .int (zI hb) :: .int (zI sb) :: .ref 118 :: .ref 119 :: .ref 120 :: .ref 121 :: .ref 122 :: .ref 123 :: .ref 124 :: .ref 125 :: .ref 126 :: .ref 127 :: .ref 128 :: .ref 129 :: .int (zI mfu) :: .ref 130 :: .ref 131 :: .ref 132 :: .ref 133 :: .ref 134 :: .int (zI mdm) :: .int (zI mla) :: [])))]) 0 0 5 [some (.ref 98), some (.int (zI 8))] [] := by
      intro N5
      induction N5 with
      | zero => intro tk_5 lv_5 bd_5 i5_0 i5_1 i5_2 i5_3 i5_4 i5_5 i5_6 i5_7 hm; exact absurd hm (Nat.not_lt_zero _)
      | succ N5 ih5 =>
        intro tk_5 lv_5 bd_5 i5_0 i5_1 i5_2 i5_3 i5_4 i5_5 i5_6 i5_7 hm5
        refine J_aload_n dX12_readTerm_5 rfl rfl ?_
        refine Z_bipush (n := 42) dX12_readTerm_6 (by decide +kernel) ?_
        refine J_callS (st := [.ref 98]) dX12_readTerm_8 cs_X12_215 (k_sign 42 v_19b0ad2cd1 v_1f79c0c2c4) rfl rfl (Nat.le_of_ble_eq_true rfl) ⟨(Nat.le_of_ble_eq_true rfl), (Nat.le_of_ble_eq_true rfl)⟩ ⟨(Nat.le_of_ble_eq_true rfl), (Nat.le_of_ble_eq_true rfl)⟩ (fun r h9 hp => ?_)
        obtain ⟨z94, rfl, rfl, h95⟩ := hp
        refine J_nf (nh2 := nh) (ck2 := 0) (sk2 := 0) (st2 := [.int (zI z94), .ref 98]) rfl rfl rfl rfl ?_
        refine J_callV (st := []) dX12_readTerm_11 cv_X12_190 (k_takes0 z94 ms mv mt mfa mtn tk_5 lv_5 bd_5 mgo mge mbk mtt mtl hm pm hb sb mfu mdm mla cc va pl (v_be84312a04 h95) (v_8c70c87066 h95) (v_21976c7318 q0 i5_2) i5_3 q2 i5_0 i5_1 q5 q6 q7 q8 rfl hk106 hk107 hk108) rfl rfl rfl (Nat.le_of_ble_eq_true rfl) ⟨(Nat.le_of_ble_eq_true rfl), (Nat.le_of_ble_eq_true rfl)⟩ ⟨(Nat.le_of_ble_eq_true rfl), (Nat.le_of_ble_eq_true rfl)⟩ (fun r h9 hp => ?_)
        rcases hp with ⟨z96, rfl, rfl, h97, h98, h99, h100⟩ | ⟨rfl, rfl, h101, h102⟩ | ⟨rfl, rfl, h103⟩
        · refine J_nf (nh2 := nh) (ck2 := 0) (sk2 := 0) (st2 := [.int (zI 1)]) rfl rfl rfl rfl ?_
          refine J_app (L3 := [(98, .inr (12, (.int (zI ms) :: .int (zI mv) :: .ref 99 :: .ref 100 :: .ref 101 :: .ref 102 :: .ref 103 :: .ref 104 :: .ref 105 :: .int (zI mt) :: .int (zI mfa) :: .ref 106 :: .ref 107 :: .ref 108 :: .int (zI mtn) :: .int (zI z96) :: .int (zI lv_5) :: .int (zI bd_5) :: .int (zI mgo) :: .int (zI mge) :: .int (zI mbk) :: .ref 109 :: .int (zI mtt) :: .int (zI mtl) :: .ref 110 :: .ref 111 :: .ref 112 :: .ref 113 :: .ref 114 :: .ref 115 :: .ref 116 :: .ref 117 :: .int (zI hm) :: .int (zI pm) :: .int (zI hb) :: .int (zI sb) :: .ref 118 :: .ref 119 :: .ref 120 :: .ref 121 :: .ref 122 :: .ref 123 :: .ref 124 :: .ref 125 :: .ref 126 :: .ref 127 :: .ref 128 :: .ref 129 :: .int (zI mfu) :: .ref 130 :: .ref 131 :: .ref 132 :: .ref 133 :: .ref 134 :: .int (zI mdm) :: .int (zI mla) :: []))), (98, .inr (12, (.int (zI ms) :: .int (zI mv) :: .ref 99 :: .ref 100 :: .ref 101 :: .ref 102 :: .ref 103 :: .ref 104 :: .ref 105 :: .int (zI mt) :: .int (zI mfa) :: .ref 106 :: .ref 107 :: .ref 108 :: .int (zI mtn) :: .int (zI tk_5) :: .int (zI lv_5) :: .int (zI bd_5) :: .int (zI mgo) :: .int (zI mge) :: .int (zI mbk) :: .ref 109 :: .int (zI mtt) :: .int (zI mtl) :: .ref 110 :: .ref 111 :: .ref 112 :: .ref 113 :: .ref 114 :: .ref 115 :: .ref 116 :: .ref 117 :: .int (zI hm) :: .int (zI pm) :: .int (zI hb) :: .int (zI sb) :: .ref 118 :: .ref 119 :: .ref 120 :: .ref 121 :: .ref 122 :: .ref 123 :: .ref 124 :: .ref 125 :: .ref 126 :: .ref 127 :: .ref 128 :: .ref 129 :: .int (zI mfu) :: .ref 130 :: .ref 131 :: .ref 132 :: .ref 133 :: .ref 134 :: .int (zI mdm) :: .int (zI mla) :: [])))]) rfl ?_
          refine J_mask (L2 := [(98, .inr (12, (.int (zI ms) :: .int (zI mv) :: .ref 99 :: .ref 100 :: .ref 101 :: .ref 102 :: .ref 103 :: .ref 104 :: .ref 105 :: .int (zI mt) :: .int (zI mfa) :: .ref 106 :: .ref 107 :: .ref 108 :: .int (zI mtn) :: .int (zI z96) :: .int (zI lv_5) :: .int (zI bd_5) :: .int (zI mgo) :: .int (zI mge) :: .int (zI mbk) :: .ref 109 :: .int (zI mtt) :: .int (zI mtl) :: .ref 110 :: .ref 111 :: .ref 112 :: .ref 113 :: .ref 114 :: .ref 115 :: .ref 116 :: .ref 117 :: .int (zI hm) :: .int (zI pm) :: .int (zI hb) :: .int (zI sb) :: .ref 118 :: .ref 119 :: .ref 120 :: .ref 121 :: .ref 122 :: .ref 123 :: .ref 124 :: .ref 125 :: .ref 126 :: .ref 127 :: .ref 128 :: .ref 129 :: .int (zI mfu) :: .ref 130 :: .ref 131 :: .ref 132 :: .ref 133 :: .ref 134 :: .int (zI mdm) :: .int (zI mla) :: [])))]) (ks := [98, 98]) [true, false] rfl (by decide +kernel) rfl ?_
          refine Z_if_ne (tgt := 29) dX12_readTerm_14 (by decide) v_4dcc24baa7 (fun h104 => ?_) (fun h104 => absurd h104 v_3a47bfd896)
          refine J_aload_n dX12_readTerm_29 rfl rfl ?_
          refine J_iload_n dX12_readTerm_30 rfl rfl ?_
          refine J_callV (st := []) dX12_readTerm_31 cv_X12_222 (k_readPart_0 ms mv mt mfa mtn z96 lv_5 bd_5 mgo mge mbk mtt mtl hm pm hb sb mfu mdm mla cc va pl (v_49f85faddc q0 i5_2 h98) (v_2b81d1254d h98 h99) q2 i5_0 i5_1 q5 q6 q7 q8 i5_4 i5_5 (v_b6e00daf3f i5_6 h98) rfl hk106 hk107 hk108) rfl rfl rfl (Nat.le_of_ble_eq_true rfl) ⟨(Nat.le_of_ble_eq_true rfl), (Nat.le_of_ble_eq_true rfl)⟩ ⟨(Nat.le_of_ble_eq_true rfl), (Nat.le_of_ble_eq_true rfl)⟩ (fun r h9 hp => ?_)
          rcases hp with ⟨z105, z106, z107, rfl, rfl, h108, h109, h110, h111, h112, h113, h114⟩ | ⟨z115, z116, z117, rfl, rfl, h118, h119, h120, h121, h122, h123⟩
          · refine J_nf (nh2 := nh) (ck2 := 0) (sk2 := 0) (st2 := []) rfl rfl rfl rfl ?_
            refine J_app (L3 := [(98, .inr (12, (.int (zI ms) :: .int (zI mv) :: .ref 99 :: .ref 100 :: .ref 101 :: .ref 102 :: .ref 103 :: .ref 104 :: .ref 105 :: .int (zI mt) :: .int (zI mfa) :: .ref 106 :: .ref 107 :: .ref 108 :: .int (zI mtn) :: .int (zI z105) :: .int (zI z106) :: .int (zI z107) :: .int (zI mgo) :: .int (zI mge) :: .int (zI mbk) :: .ref 109 :: .int (zI mtt) :: .int (zI mtl) :: .ref 110 :: .ref 111 :: .ref 112 :: .ref 113 :: .ref 114 :: .ref 115 :: .ref 116 :: .ref 117 :: .int (zI hm) :: .int (zI pm) :: .int (zI hb) :: .int (zI sb) :: .ref 118 :: .ref 119 :: .ref 120 :: .ref 121 :: .ref 122 :: .ref 123 :: .ref 124 :: .ref 125 :: .ref 126 :: .ref 127 :: .ref 128 :: .ref 129 :: .int (zI mfu) :: .ref 130 :: .ref 131 :: .ref 132 :: .ref 133 :: .ref 134 :: .int (zI mdm) :: .int (zI mla) :: []))), (98, .inr (12, (.int (zI ms) :: .int (zI mv) :: .ref 99 :: .ref 100 :: .ref 101 :: .ref 102 :: .ref 103 :: .ref 104 :: .ref 105 :: .int (zI mt) :: .int (zI mfa) :: .ref 106 :: .ref 107 :: .ref 108 :: .int (zI mtn) :: .int (zI z96) :: .int (zI lv_5) :: .int (zI bd_5) :: .int (zI mgo) :: .int (zI mge) :: .int (zI mbk) :: .ref 109 :: .int (zI mtt) :: .int (zI mtl) :: .ref 110 :: .ref 111 :: .ref 112 :: .ref 113 :: .ref 114 :: .ref 115 :: .ref 116 :: .ref 117 :: .int (zI hm) :: .int (zI pm) :: .int (zI hb) :: .int (zI sb) :: .ref 118 :: .ref 119 :: .ref 120 :: .ref 121 :: .ref 122 :: .ref 123 :: .ref 124 :: .ref 125 :: .ref 126 :: .ref 127 :: .ref 128 :: .ref 129 :: .int (zI mfu) :: .ref 130 :: .ref 131 :: .ref 132 :: .ref 133 :: .ref 134 :: .int (zI mdm) :: .int (zI mla) :: [])))]) rfl ?_
            refine J_mask (L2 := [(98, .inr (12, (.int (zI ms) :: .int (zI mv) :: .ref 99 :: .ref 100 :: .ref 101 :: .ref 102 :: .ref 103 :: .ref 104 :: .ref 105 :: .int (zI mt) :: .int (zI mfa) :: .ref 106 :: .ref 107 :: .ref 108 :: .int (zI mtn) :: .int (zI z105) :: .int (zI z106) :: .int (zI z107) :: .int (zI mgo) :: .int (zI mge) :: .int (zI mbk) :: .ref 109 :: .int (zI mtt) :: .int (zI mtl) :: .ref 110 :: .ref 111 :: .ref 112 :: .ref 113 :: .ref 114 :: .ref 115 :: .ref 116 :: .ref 117 :: .int (zI hm) :: .int (zI pm) :: .int (zI hb) :: .int (zI sb) :: .ref 118 :: .ref 119 :: .ref 120 :: .ref 121 :: .ref 122 :: .ref 123 :: .ref 124 :: .ref 125 :: .ref 126 :: .ref 127 :: .ref 128 :: .ref 129 :: .int (zI mfu) :: .ref 130 :: .ref 131 :: .ref 132 :: .ref 133 :: .ref 134 :: .int (zI mdm) :: .int (zI mla) :: [])))]) (ks := [98, 98]) [true, false] rfl (by decide +kernel) rfl ?_
            refine J_goto (tgt := 5) dX12_readTerm_34 (by decide) ?_
            exact ih5 z105 z106 z107 (v_bc0c2646ae h108) (v_a6725f25e8 h108) (v_9e8572ccbd i5_2 h98 h110) h111 h113 (v_778db8d1be q2 h111 h114) (v_cb9e70f6f7 h108 h114) (fun _ => ⟨ChP.add (i5_7 (v_1022695464 i5_0 h97)).1 (.inl (by rw [h100]; exact (v_1500549be1 h95))) h112 (v_b9aca61388 h110) (v_d34386dce5 h98), (by have u := (i5_7 (v_1022695464 i5_0 h97)).2.1; have w := (v_2e78a692fc h98 h110); omega), (i5_7 (v_1022695464 i5_0 h97)).2.2⟩) (meas_lt (v_64faee003a h98 h110) (v_3cd32163cd h99) hm5)
          · refine J_nf (nh2 := nh) (ck2 := 0) (sk2 := 0) (st2 := []) rfl rfl rfl rfl ?_
            refine J_app (L3 := [(98, .inr (12, (.int (zI ms) :: .int (zI mv) :: .ref 99 :: .ref 100 :: .ref 101 :: .ref 102 :: .ref 103 :: .ref 104 :: .ref 105 :: .int (zI mt) :: .int (zI mfa) :: .ref 106 :: .ref 107 :: .ref 108 :: .int (zI mtn) :: .int (zI z115) :: .int (zI z116) :: .int (zI z117) :: .int (zI mgo) :: .int (zI mge) :: .int (zI mbk) :: .ref 109 :: .int (zI mtt) :: .int (zI mtl) :: .ref 110 :: .ref 111 :: .ref 112 :: .ref 113 :: .ref 114 :: .ref 115 :: .ref 116 :: .ref 117 :: .int (zI hm) :: .int (zI pm) :: .int (zI hb) :: .int (zI sb) :: .ref 118 :: .ref 119 :: .ref 120 :: .ref 121 :: .ref 122 :: .ref 123 :: .ref 124 :: .ref 125 :: .ref 126 :: .ref 127 :: .ref 128 :: .ref 129 :: .int (zI mfu) :: .ref 130 :: .ref 131 :: .ref 132 :: .ref 133 :: .ref 134 :: .int (zI mdm) :: .int (zI mla) :: []))), (98, .inr (12, (.int (zI ms) :: .int (zI mv) :: .ref 99 :: .ref 100 :: .ref 101 :: .ref 102 :: .ref 103 :: .ref 104 :: .ref 105 :: .int (zI mt) :: .int (zI mfa) :: .ref 106 :: .ref 107 :: .ref 108 :: .int (zI mtn) :: .int (zI z96) :: .int (zI lv_5) :: .int (zI bd_5) :: .int (zI mgo) :: .int (zI mge) :: .int (zI mbk) :: .ref 109 :: .int (zI mtt) :: .int (zI mtl) :: .ref 110 :: .ref 111 :: .ref 112 :: .ref 113 :: .ref 114 :: .ref 115 :: .ref 116 :: .ref 117 :: .int (zI hm) :: .int (zI pm) :: .int (zI hb) :: .int (zI sb) :: .ref 118 :: .ref 119 :: .ref 120 :: .ref 121 :: .ref 122 :: .ref 123 :: .ref 124 :: .ref 125 :: .ref 126 :: .ref 127 :: .ref 128 :: .ref 129 :: .int (zI mfu) :: .ref 130 :: .ref 131 :: .ref 132 :: .ref 133 :: .ref 134 :: .int (zI mdm) :: .int (zI mla) :: [])))]) rfl ?_
            refine J_mask (L2 := [(98, .inr (12, (.int (zI ms) :: .int (zI mv) :: .ref 99 :: .ref 100 :: .ref 101 :: .ref 102 :: .ref 103 :: .ref 104 :: .ref 105 :: .int (zI mt) :: .int (zI mfa) :: .ref 106 :: .ref 107 :: .ref 108 :: .int (zI mtn) :: .int (zI z115) :: .int (zI z116) :: .int (zI z117) :: .int (zI mgo) :: .int (zI mge) :: .int (zI mbk) :: .ref 109 :: .int (zI mtt) :: .int (zI mtl) :: .ref 110 :: .ref 111 :: .ref 112 :: .ref 113 :: .ref 114 :: .ref 115 :: .ref 116 :: .ref 117 :: .int (zI hm) :: .int (zI pm) :: .int (zI hb) :: .int (zI sb) :: .ref 118 :: .ref 119 :: .ref 120 :: .ref 121 :: .ref 122 :: .ref 123 :: .ref 124 :: .ref 125 :: .ref 126 :: .ref 127 :: .ref 128 :: .ref 129 :: .int (zI mfu) :: .ref 130 :: .ref 131 :: .ref 132 :: .ref 133 :: .ref 134 :: .int (zI mdm) :: .int (zI mla) :: [])))]) (ks := [98, 98]) [true, false] rfl (by decide +kernel) rfl ?_
            refine J_goto (tgt := 5) dX12_readTerm_34 (by decide) ?_
            exact ih5 z115 z116 z117 (v_576129c2e8 h118) h119 (v_f9f6ac3c48 i5_2 h98 h120) h121 h122 h123 (v_85f529c18f q0 i5_2 h98 h118 h120 h123) (fun w => absurd w (by have u := (v_2b02420001 h118); omega)) (meas_lt (v_46068e056c h98 h120) (v_3cd32163cd h99) hm5)
        · refine J_nf (nh2 := nh) (ck2 := 0) (sk2 := 0) (st2 := [.int (zI 0)]) rfl rfl rfl rfl ?_
          refine Z_if_ne (tgt := 29) dX12_readTerm_14 (by decide) v_b17331891f (fun h124 => absurd h124 (fun q => q v_2ca2bbca1f)) (fun h124 => ?_)
          refine J_aload_n dX12_readTerm_17 rfl rfl ?_
          refine Z_bipush (n := 47) dX12_readTerm_18 (by decide +kernel) ?_
          refine J_callS (st := [.ref 98]) dX12_readTerm_20 cs_X12_215 (k_sign 47 v_a2835897db v_8710bb8462) rfl rfl (Nat.le_of_ble_eq_true rfl) ⟨(Nat.le_of_ble_eq_true rfl), (Nat.le_of_ble_eq_true rfl)⟩ ⟨(Nat.le_of_ble_eq_true rfl), (Nat.le_of_ble_eq_true rfl)⟩ (fun r h9 hp => ?_)
          obtain ⟨z125, rfl, rfl, h126⟩ := hp
          refine J_nf (nh2 := nh) (ck2 := 0) (sk2 := 0) (st2 := [.int (zI z125), .ref 98]) rfl rfl rfl rfl ?_
          refine J_callV (st := []) dX12_readTerm_23 cv_X12_190 (k_takes0 z125 ms mv mt mfa mtn tk_5 lv_5 bd_5 mgo mge mbk mtt mtl hm pm hb sb mfu mdm mla cc va pl (v_14fa416972 h126) (v_78d3fd05d2 h126) (v_21976c7318 q0 i5_2) i5_3 q2 i5_0 i5_1 q5 q6 q7 q8 rfl hk106 hk107 hk108) rfl rfl rfl (Nat.le_of_ble_eq_true rfl) ⟨(Nat.le_of_ble_eq_true rfl), (Nat.le_of_ble_eq_true rfl)⟩ ⟨(Nat.le_of_ble_eq_true rfl), (Nat.le_of_ble_eq_true rfl)⟩ (fun r h9 hp => ?_)
          rcases hp with ⟨z127, rfl, rfl, h128, h129, h130, h131⟩ | ⟨rfl, rfl, h132, h133⟩ | ⟨rfl, rfl, h134⟩
          · refine J_nf (nh2 := nh) (ck2 := 0) (sk2 := 0) (st2 := [.int (zI 1)]) rfl rfl rfl rfl ?_
            refine J_app (L3 := [(98, .inr (12, (.int (zI ms) :: .int (zI mv) :: .ref 99 :: .ref 100 :: .ref 101 :: .ref 102 :: .ref 103 :: .ref 104 :: .ref 105 :: .int (zI mt) :: .int (zI mfa) :: .ref 106 :: .ref 107 :: .ref 108 :: .int (zI mtn) :: .int (zI z127) :: .int (zI lv_5) :: .int (zI bd_5) :: .int (zI mgo) :: .int (zI mge) :: .int (zI mbk) :: .ref 109 :: .int (zI mtt) :: .int (zI mtl) :: .ref 110 :: .ref 111 :: .ref 112 :: .ref 113 :: .ref 114 :: .ref 115 :: .ref 116 :: .ref 117 :: .int (zI hm) :: .int (zI pm) :: .int (zI hb) :: .int (zI sb) :: .ref 118 :: .ref 119 :: .ref 120 :: .ref 121 :: .ref 122 :: .ref 123 :: .ref 124 :: .ref 125 :: .ref 126 :: .ref 127 :: .ref 128 :: .ref 129 :: .int (zI mfu) :: .ref 130 :: .ref 131 :: .ref 132 :: .ref 133 :: .ref 134 :: .int (zI mdm) :: .int (zI mla) :: []))), (98, .inr (12, (.int (zI ms) :: .int (zI mv) :: .ref 99 :: .ref 100 :: .ref 101 :: .ref 102 :: .ref 103 :: .ref 104 :: .ref 105 :: .int (zI mt) :: .int (zI mfa) :: .ref 106 :: .ref 107 :: .ref 108 :: .int (zI mtn) :: .int (zI tk_5) :: .int (zI lv_5) :: .int (zI bd_5) :: .int (zI mgo) :: .int (zI mge) :: .int (zI mbk) :: .ref 109 :: .int (zI mtt) :: .int (zI mtl) :: .ref 110 :: .ref 111 :: .ref 112 :: .ref 113 :: .ref 114 :: .ref 115 :: .ref 116 :: .ref 117 :: .int (zI hm) :: .int (zI pm) :: .int (zI hb) :: .int (zI sb) :: .ref 118 :: .ref 119 :: .ref 120 :: .ref 121 :: .ref 122 :: .ref 123 :: .ref 124 :: .ref 125 :: .ref 126 :: .ref 127 :: .ref 128 :: .ref 129 :: .int (zI mfu) :: .ref 130 :: .ref 131 :: .ref 132 :: .ref 133 :: .ref 134 :: .int (zI mdm) :: .int (zI mla) :: [])))]) rfl ?_
            refine J_mask (L2 := [(98, .inr (12, (.int (zI ms) :: .int (zI mv) :: .ref 99 :: .ref 100 :: .ref 101 :: .ref 102 :: .ref 103 :: .ref 104 :: .ref 105 :: .int (zI mt) :: .int (zI mfa) :: .ref 106 :: .ref 107 :: .ref 108 :: .int (zI mtn) :: .int (zI z127) :: .int (zI lv_5) :: .int (zI bd_5) :: .int (zI mgo) :: .int (zI mge) :: .int (zI mbk) :: .ref 109 :: .int (zI mtt) :: .int (zI mtl) :: .ref 110 :: .ref 111 :: .ref 112 :: .ref 113 :: .ref 114 :: .ref 115 :: .ref 116 :: .ref 117 :: .int (zI hm) :: .int (zI pm) :: .int (zI hb) :: .int (zI sb) :: .ref 118 :: .ref 119 :: .ref 120 :: .ref 121 :: .ref 122 :: .ref 123 :: .ref 124 :: .ref 125 :: .ref 126 :: .ref 127 :: .ref 128 :: .ref 129 :: .int (zI mfu) :: .ref 130 :: .ref 131 :: .ref 132 :: .ref 133 :: .ref 134 :: .int (zI mdm) :: .int (zI mla) :: [])))]) (ks := [98, 98]) [true, false] rfl (by decide +kernel) rfl ?_
            refine Z_if_eq (tgt := 37) dX12_readTerm_26 (by decide) v_4dcc24baa7 (fun h135 => absurd h135 v_3a47bfd896) (fun h135 => ?_)
            refine J_aload_n dX12_readTerm_29 rfl rfl ?_
            refine J_iload_n dX12_readTerm_30 rfl rfl ?_
            refine J_callV (st := []) dX12_readTerm_31 cv_X12_222 (k_readPart_0 ms mv mt mfa mtn z127 lv_5 bd_5 mgo mge mbk mtt mtl hm pm hb sb mfu mdm mla cc va pl (v_49f85faddc q0 i5_2 h129) (v_2b81d1254d h129 h130) q2 i5_0 i5_1 q5 q6 q7 q8 i5_4 i5_5 (v_b6e00daf3f i5_6 h129) rfl hk106 hk107 hk108) rfl rfl rfl (Nat.le_of_ble_eq_true rfl) ⟨(Nat.le_of_ble_eq_true rfl), (Nat.le_of_ble_eq_true rfl)⟩ ⟨(Nat.le_of_ble_eq_true rfl), (Nat.le_of_ble_eq_true rfl)⟩ (fun r h9 hp => ?_)
            rcases hp with ⟨z136, z137, z138, rfl, rfl, h139, h140, h141, h142, h143, h144, h145⟩ | ⟨z146, z147, z148, rfl, rfl, h149, h150, h151, h152, h153, h154⟩
            · refine J_nf (nh2 := nh) (ck2 := 0) (sk2 := 0) (st2 := []) rfl rfl rfl rfl ?_
              refine J_app (L3 := [(98, .inr (12, (.int (zI ms) :: .int (zI mv) :: .ref 99 :: .ref 100 :: .ref 101 :: .ref 102 :: .ref 103 :: .ref 104 :: .ref 105 :: .int (zI mt) :: .int (zI mfa) :: .ref 106 :: .ref 107 :: .ref 108 :: .int (zI mtn) :: .int (zI z136) :: .int (zI z137) :: .int (zI z138) :: .int (zI mgo) :: .int (zI mge) :: .int (zI mbk) :: .ref 109 :: .int (zI mtt) :: .int (zI mtl) :: .ref 110 :: .ref 111 :: .ref 112 :: .ref 113 :: .ref 114 :: .ref 115 :: .ref 116 :: .ref 117 :: .int (zI hm) :: .int (zI pm) :: .int (zI hb) :: .int (zI sb) :: .ref 118 :: .ref 119 :: .ref 120 :: .ref 121 :: .ref 122 :: .ref 123 :: .ref 124 :: .ref 125 :: .ref 126 :: .ref 127 :: .ref 128 :: .ref 129 :: .int (zI mfu) :: .ref 130 :: .ref 131 :: .ref 132 :: .ref 133 :: .ref 134 :: .int (zI mdm) :: .int (zI mla) :: []))), (98, .inr (12, (.int (zI ms) :: .int (zI mv) :: .ref 99 :: .ref 100 :: .ref 101 :: .ref 102 :: .ref 103 :: .ref 104 :: .ref 105 :: .int (zI mt) :: .int (zI mfa) :: .ref 106 :: .ref 107 :: .ref 108 :: .int (zI mtn) :: .int (zI z127) :: .int (zI lv_5) :: .int (zI bd_5) :: .int (zI mgo) :: .int (zI mge) :: .int (zI mbk) :: .ref 109 :: .int (zI mtt) :: .int (zI mtl) :: .ref 110 :: .ref 111 :: .ref 112 :: .ref 113 :: .ref 114 :: .ref 115 :: .ref 116 :: .ref 117 :: .int (zI hm) :: .int (zI pm) :: .int (zI hb) :: .int (zI sb) :: .ref 118 :: .ref 119 :: .ref 120 :: .ref 121 :: .ref 122 :: .ref 123 :: .ref 124 :: .ref 125 :: .ref 126 :: .ref 127 :: .ref 128 :: .ref 129 :: .int (zI mfu) :: .ref 130 :: .ref 131 :: .ref 132 :: .ref 133 :: .ref 134 :: .int (zI mdm) :: .int (zI mla) :: [])))]) rfl ?_
              refine J_mask (L2 := [(98, .inr (12, (.int (zI ms) :: .int (zI mv) :: .ref 99 :: .ref 100 :: .ref 101 :: .ref 102 :: .ref 103 :: .ref 104 :: .ref 105 :: .int (zI mt) :: .int (zI mfa) :: .ref 106 :: .ref 107 :: .ref 108 :: .int (zI mtn) :: .int (zI z136) :: .int (zI z137) :: .int (zI z138) :: .int (zI mgo) :: .int (zI mge) :: .int (zI mbk) :: .ref 109 :: .int (zI mtt) :: .int (zI mtl) :: .ref 110 :: .ref 111 :: .ref 112 :: .ref 113 :: .ref 114 :: .ref 115 :: .ref 116 :: .ref 117 :: .int (zI hm) :: .int (zI pm) :: .int (zI hb) :: .int (zI sb) :: .ref 118 :: .ref 119 :: .ref 120 :: .ref 121 :: .ref 122 :: .ref 123 :: .ref 124 :: .ref 125 :: .ref 126 :: .ref 127 :: .ref 128 :: .ref 129 :: .int (zI mfu) :: .ref 130 :: .ref 131 :: .ref 132 :: .ref 133 :: .ref 134 :: .int (zI mdm) :: .int (zI mla) :: [])))]) (ks := [98, 98]) [true, false] rfl (by decide +kernel) rfl ?_
              refine J_goto (tgt := 5) dX12_readTerm_34 (by decide) ?_
              exact ih5 z136 z137 z138 (v_bc0c2646ae h139) (v_a6725f25e8 h139) (v_9e8572ccbd i5_2 h129 h141) h142 h144 (v_778db8d1be q2 h142 h145) (v_cb9e70f6f7 h139 h145) (fun _ => ⟨ChP.add (i5_7 (v_1022695464 i5_0 h101)).1 (.inr (by rw [h131]; exact (v_963e78d969 h126))) h143 (v_b9aca61388 h141) (v_d34386dce5 h129), (by have u := (i5_7 (v_1022695464 i5_0 h101)).2.1; have w := (v_2e78a692fc h129 h141); omega), (i5_7 (v_1022695464 i5_0 h101)).2.2⟩) (meas_lt (v_64faee003a h129 h141) (v_3cd32163cd h130) hm5)
            · refine J_nf (nh2 := nh) (ck2 := 0) (sk2 := 0) (st2 := []) rfl rfl rfl rfl ?_
              refine J_app (L3 := [(98, .inr (12, (.int (zI ms) :: .int (zI mv) :: .ref 99 :: .ref 100 :: .ref 101 :: .ref 102 :: .ref 103 :: .ref 104 :: .ref 105 :: .int (zI mt) :: .int (zI mfa) :: .ref 106 :: .ref 107 :: .ref 108 :: .int (zI mtn) :: .int (zI z146) :: .int (zI z147) :: .int (zI z148) :: .int (zI mgo) :: .int (zI mge) :: .int (zI mbk) :: .ref 109 :: .int (zI mtt) :: .int (zI mtl) :: .ref 110 :: .ref 111 :: .ref 112 :: .ref 113 :: .ref 114 :: .ref 115 :: .ref 116 :: .ref 117 :: .int (zI hm) :: .int (zI pm) :: .int (zI hb) :: .int (zI sb) :: .ref 118 :: .ref 119 :: .ref 120 :: .ref 121 :: .ref 122 :: .ref 123 :: .ref 124 :: .ref 125 :: .ref 126 :: .ref 127 :: .ref 128 :: .ref 129 :: .int (zI mfu) :: .ref 130 :: .ref 131 :: .ref 132 :: .ref 133 :: .ref 134 :: .int (zI mdm) :: .int (zI mla) :: []))), (98, .inr (12, (.int (zI ms) :: .int (zI mv) :: .ref 99 :: .ref 100 :: .ref 101 :: .ref 102 :: .ref 103 :: .ref 104 :: .ref 105 :: .int (zI mt) :: .int (zI mfa) :: .ref 106 :: .ref 107 :: .ref 108 :: .int (zI mtn) :: .int (zI z127) :: .int (zI lv_5) :: .int (zI bd_5) :: .int (zI mgo) :: .int (zI mge) :: .int (zI mbk) :: .ref 109 :: .int (zI mtt) :: .int (zI mtl) :: .ref 110 :: .ref 111 :: .ref 112 :: .ref 113 :: .ref 114 :: .ref 115 :: .ref 116 :: .ref 117 :: .int (zI hm) :: .int (zI pm) :: .int (zI hb) :: .int (zI sb) :: .ref 118 :: .ref 119 :: .ref 120 :: .ref 121 :: .ref 122 :: .ref 123 :: .ref 124 :: .ref 125 :: .ref 126 :: .ref 127 :: .ref 128 :: .ref 129 :: .int (zI mfu) :: .ref 130 :: .ref 131 :: .ref 132 :: .ref 133 :: .ref 134 :: .int (zI mdm) :: .int (zI mla) :: [])))]) rfl ?_
              refine J_mask (L2 := [(98, .inr (12, (.int (zI ms) :: .int (zI mv) :: .ref 99 :: .ref 100 :: .ref 101 :: .ref 102 :: .ref 103 :: .ref 104 :: .ref 105 :: .int (zI mt) :: .int (zI mfa) :: .ref 106 :: .ref 107 :: .ref 108 :: .int (zI mtn) :: .int (zI z146) :: .int (zI z147) :: .int (zI z148) :: .int (zI mgo) :: .int (zI mge) :: .int (zI mbk) :: .ref 109 :: .int (zI mtt) :: .int (zI mtl) :: .ref 110 :: .ref 111 :: .ref 112 :: .ref 113 :: .ref 114 :: .ref 115 :: .ref 116 :: .ref 117 :: .int (zI hm) :: .int (zI pm) :: .int (zI hb) :: .int (zI sb) :: .ref 118 :: .ref 119 :: .ref 120 :: .ref 121 :: .ref 122 :: .ref 123 :: .ref 124 :: .ref 125 :: .ref 126 :: .ref 127 :: .ref 128 :: .ref 129 :: .int (zI mfu) :: .ref 130 :: .ref 131 :: .ref 132 :: .ref 133 :: .ref 134 :: .int (zI mdm) :: .int (zI mla) :: [])))]) (ks := [98, 98]) [true, false] rfl (by decide +kernel) rfl ?_
              refine J_goto (tgt := 5) dX12_readTerm_34 (by decide) ?_
              exact ih5 z146 z147 z148 (v_576129c2e8 h149) h150 (v_f9f6ac3c48 i5_2 h129 h151) h152 h153 h154 (v_85f529c18f q0 i5_2 h129 h149 h151 h154) (fun w => absurd w (by have u := (v_2b02420001 h149); omega)) (meas_lt (v_46068e056c h129 h151) (v_3cd32163cd h130) hm5)
          · refine J_nf (nh2 := nh) (ck2 := 0) (sk2 := 0) (st2 := [.int (zI 0)]) rfl rfl rfl rfl ?_
            refine Z_if_eq (tgt := 37) dX12_readTerm_26 (by decide) v_b17331891f (fun h155 => ?_) (fun h155 => absurd h155 (fun q => q v_2ca2bbca1f))
            have gx := i5_7 (v_1022695464 i5_0 h101)
            exact J_vret dX12_readTerm_37 rfl (Nat.le_of_ble_eq_true rfl) (Nat.le_of_ble_eq_true rfl) (Or.inl ⟨tk_5, lv_5, bd_5, rfl, rfl, h132, gx.2.2, gx.2.1, i5_3, (ChP.end gx.1 (fun w => by have u0 := h102; have u1 := h133; have u2 := h95; have u3 := h126; rcases w with w | w <;> omega)), i5_4, (v_0471d920d5 i5_6 h101)⟩)
          · exact False.elim (v_221c0ce955 h101 h134)
        · refine J_nf (nh2 := nh) (ck2 := 0) (sk2 := 0) (st2 := [.int (zI 0)]) rfl rfl rfl rfl ?_
          refine Z_if_ne (tgt := 29) dX12_readTerm_14 (by decide) v_b17331891f (fun h156 => absurd h156 (fun q => q v_2ca2bbca1f)) (fun h156 => ?_)
          refine J_aload_n dX12_readTerm_17 rfl rfl ?_
          refine Z_bipush (n := 47) dX12_readTerm_18 (by decide +kernel) ?_
          refine J_callS (st := [.ref 98]) dX12_readTerm_20 cs_X12_215 (k_sign 47 v_a2835897db v_8710bb8462) rfl rfl (Nat.le_of_ble_eq_true rfl) ⟨(Nat.le_of_ble_eq_true rfl), (Nat.le_of_ble_eq_true rfl)⟩ ⟨(Nat.le_of_ble_eq_true rfl), (Nat.le_of_ble_eq_true rfl)⟩ (fun r h9 hp => ?_)
          obtain ⟨z157, rfl, rfl, h158⟩ := hp
          refine J_nf (nh2 := nh) (ck2 := 0) (sk2 := 0) (st2 := [.int (zI z157), .ref 98]) rfl rfl rfl rfl ?_
          refine J_callV (st := []) dX12_readTerm_23 cv_X12_190 (k_takes0 z157 ms mv mt mfa mtn tk_5 lv_5 bd_5 mgo mge mbk mtt mtl hm pm hb sb mfu mdm mla cc va pl (v_14fa416972 h158) (v_78d3fd05d2 h158) (v_21976c7318 q0 i5_2) i5_3 q2 i5_0 i5_1 q5 q6 q7 q8 rfl hk106 hk107 hk108) rfl rfl rfl (Nat.le_of_ble_eq_true rfl) ⟨(Nat.le_of_ble_eq_true rfl), (Nat.le_of_ble_eq_true rfl)⟩ ⟨(Nat.le_of_ble_eq_true rfl), (Nat.le_of_ble_eq_true rfl)⟩ (fun r h9 hp => ?_)
          rcases hp with ⟨z159, rfl, rfl, h160, h161, h162, h163⟩ | ⟨rfl, rfl, h164, h165⟩ | ⟨rfl, rfl, h166⟩
          · exact False.elim (v_a2a49c9ec0 h103 h160)
          · exact False.elim (v_a2a49c9ec0 h103 h164)
          · refine J_nf (nh2 := nh) (ck2 := 0) (sk2 := 0) (st2 := [.int (zI 0)]) rfl rfl rfl rfl ?_
            refine Z_if_eq (tgt := 37) dX12_readTerm_26 (by decide) v_b17331891f (fun h167 => ?_) (fun h167 => absurd h167 (fun q => q v_2ca2bbca1f))
            exact J_vret dX12_readTerm_37 rfl (Nat.le_of_ble_eq_true rfl) (Nat.le_of_ble_eq_true rfl) (Or.inr ⟨tk_5, lv_5, bd_5, rfl, rfl, h166, i5_1, i5_2, i5_3, i5_4, i5_5⟩)
    exact lp5 _ z11 z12 z13 (v_576129c2e8 h14) h15 h16 h17 h18 h19 (v_53027a106b q0 h14 h16 h19) (fun w => absurd w (by have u := (v_2b02420001 h14); omega)) (Nat.lt_succ_self _)
set_option maxHeartbeats 4000000 in
set_option maxRecDepth 100000 in
theorem k_readSum_0 {l : Launch} {G : jG} {nh : Nat} {fh : Nat → Option va_E} (ms : Int) (mv : Int) (mt : Int) (mfa : Int) (mtn : Int) (mtk : Int) (mlv : Int) (mbd : Int) (mgo : Int) (mge : Int) (mbk : Int) (mtt : Int) (mtl : Int) (hm : Int) (pm : Int) (hb : Int) (sb : Int) (mfu : Int) (mdm : Int) (mla : Int) (cc : Int → Int) (va : Int → Int) (pl : Int → Int) (q0 : 0 ≤ mtk) (q1 : mtk ≤ mtn) (q2 : mtn ≤ 400) (q3 : -1 ≤ mbd) (q4 : mbd ≤ 400) (q5 : Rg cc 401 (-2147483648) 2147483647) (q6 : cc mtn = 0) (q7 : Rg pl 401 0 400) (q8 : Rg va 401 (-2147483648) 2147483647) (q9 : 0 ≤ mlv) (q10 : mlv ≤ 402) (q11 : mlv ≤ mtk + 1000 * mbd + 1000) (hk98 : fh 98 = some (.inr (12, (.int (zI ms) :: .int (zI mv) :: .ref 99 :: .ref 100 :: .ref 101 :: .ref 102 :: .ref 103 :: .ref 104 :: .ref 105 :: .int (zI mt) :: .int (zI mfa) :: .ref 106 :: .ref 107 :: .ref 108 :: .int (zI mtn) :: .int (zI mtk) :: .int (zI mlv) :: .int (zI mbd) :: .int (zI mgo) :: .int (zI mge) :: .int (zI mbk) :: .ref 109 :: .int (zI mtt) :: .int (zI mtl) :: .ref 110 :: .ref 111 :: .ref 112 :: .ref 113 :: .ref 114 :: .ref 115 :: .ref 116 :: .ref 117 :: .int (zI hm) :: .int (zI pm) :: .int (zI hb) :: .int (zI sb) :: .ref 118 :: .ref 119 :: .ref 120 :: .ref 121 :: .ref 122 :: .ref 123 :: .ref 124 :: .ref 125 :: .ref 126 :: .ref 127 :: .ref 128 :: .ref 129 :: .int (zI mfu) :: .ref 130 :: .ref 131 :: .ref 132 :: .ref 133 :: .ref 134 :: .int (zI mdm) :: .int (zI mla) :: [])))) (hk106 : fh 106 = some (.inl (0, 401, .inl (zA cc)))) (hk107 : fh 107 = some (.inl (0, 401, .inl (zA va)))) (hk108 : fh 108 = some (.inl (0, 401, .inl (zA pl)))) : JM l G yX12_readSum MX12_readSum { frames := 5, cells := 0, slots := 0, locals := 103 } [.ref 98, .int (zI 8)] (nh, fh) (fun rr h9 => (∃ tk2 : Int, ∃ lv2 : Int, ∃ bd2 : Int, rr = none ∧ h9 = (nh, hc fh [(98, .inr (12, (.int (zI ms) :: .int (zI mv) :: .ref 99 :: .ref 100 :: .ref 101 :: .ref 102 :: .ref 103 :: .ref 104 :: .ref 105 :: .int (zI mt) :: .int (zI mfa) :: .ref 106 :: .ref 107 :: .ref 108 :: .int (zI mtn) :: .int (zI tk2) :: .int (zI lv2) :: .int (zI bd2) :: .int (zI mgo) :: .int (zI mge) :: .int (zI mbk) :: .ref 109 :: .int (zI mtt) :: .int (zI mtl) :: .ref 110 :: .ref 111 :: .ref 112 :: .ref 113 :: .ref 114 :: .ref 115 :: .ref 116 :: .ref 117 :: .int (zI hm) :: .int (zI pm) :: .int (zI hb) :: .int (zI sb) :: .ref 118 :: .ref 119 :: .ref 120 :: .ref 121 :: .ref 122 :: .ref 123 :: .ref 124 :: .ref 125 :: .ref 126 :: .ref 127 :: .ref 128 :: .ref 129 :: .int (zI mfu) :: .ref 130 :: .ref 131 :: .ref 132 :: .ref 133 :: .ref 134 :: .int (zI mdm) :: .int (zI mla) :: [])))]) ∧ (bd2 = -1) ∧ (mbd = -1) ∧ (mtk < tk2) ∧ (tk2 ≤ mtn) ∧ (SumG (Cc cc mtn) 0 mtk tk2) ∧ (0 ≤ lv2) ∧ (lv2 ≤ tk2)) ∨ (∃ tk2 : Int, ∃ lv2 : Int, ∃ bd2 : Int, rr = none ∧ h9 = (nh, hc fh [(98, .inr (12, (.int (zI ms) :: .int (zI mv) :: .ref 99 :: .ref 100 :: .ref 101 :: .ref 102 :: .ref 103 :: .ref 104 :: .ref 105 :: .int (zI mt) :: .int (zI mfa) :: .ref 106 :: .ref 107 :: .ref 108 :: .int (zI mtn) :: .int (zI tk2) :: .int (zI lv2) :: .int (zI bd2) :: .int (zI mgo) :: .int (zI mge) :: .int (zI mbk) :: .ref 109 :: .int (zI mtt) :: .int (zI mtl) :: .ref 110 :: .ref 111 :: .ref 112 :: .ref 113 :: .ref 114 :: .ref 115 :: .ref 116 :: .ref 117 :: .int (zI hm) :: .int (zI pm) :: .int (zI hb) :: .int (zI sb) :: .ref 118 :: .ref 119 :: .ref 120 :: .ref 121 :: .ref 122 :: .ref 123 :: .ref 124 :: .ref 125 :: .ref 126 :: .ref 127 :: .ref 128 :: .ref 129 :: .int (zI mfu) :: .ref 130 :: .ref 131 :: .ref 132 :: .ref 133 :: .ref 134 :: .int (zI mdm) :: .int (zI mla) :: [])))]) ∧ (0 ≤ bd2) ∧ (bd2 ≤ 400) ∧ (mtk ≤ tk2) ∧ (tk2 ≤ mtn) ∧ (0 ≤ lv2) ∧ (lv2 ≤ 402))) := by
  refine JM.of (by decide) rfl (fun h => by cases h) (Nat.le_of_ble_eq_true rfl) ⟨0, rfl⟩ ?_
  refine J_hc0 (J_ls (ls2 := [some (.ref 98), some (.int (zI 8))]) rfl ?_)
  refine J_aload_n dX12_readSum_0 rfl rfl ?_
  refine J_iload_n dX12_readSum_1 rfl rfl ?_
  refine J_callV (st := []) dX12_readSum_2 cv_X12_219 (k_readTerm_0 ms mv mt mfa mtn mtk mlv mbd mgo mge mbk mtt mtl hm pm hb sb mfu mdm mla cc va pl q0 q1 q2 q3 q4 q5 q6 q7 q8 q9 q10 q11 hk98 hk106 hk107 hk108) hk98 rfl rfl (Nat.le_of_ble_eq_true rfl) ⟨(Nat.le_of_ble_eq_true rfl), (Nat.le_of_ble_eq_true rfl)⟩ ⟨(Nat.le_of_ble_eq_true rfl), (Nat.le_of_ble_eq_true rfl)⟩ (fun r h9 hp => ?_)
  rcases hp with ⟨z1, z2, z3, rfl, rfl, h4, h5, h6, h7, h8, h9, h10⟩ | ⟨z11, z12, z13, rfl, rfl, h14, h15, h16, h17, h18, h19⟩
  · refine J_nf (nh2 := nh) (ck2 := 0) (sk2 := 0) (st2 := []) rfl rfl rfl rfl ?_
    refine J_app (L3 := [(98, .inr (12, (.int (zI ms) :: .int (zI mv) :: .ref 99 :: .ref 100 :: .ref 101 :: .ref 102 :: .ref 103 :: .ref 104 :: .ref 105 :: .int (zI mt) :: .int (zI mfa) :: .ref 106 :: .ref 107 :: .ref 108 :: .int (zI mtn) :: .int (zI z1) :: .int (zI z2) :: .int (zI z3) :: .int (zI mgo) :: .int (zI mge) :: .int (zI mbk) :: .ref 109 :: .int (zI mtt) :: .int (zI mtl) :: .ref 110 :: .ref 111 :: .ref 112 :: .ref 113 :: .ref 114 :: .ref 115 :: .ref 116 :: .ref 117 :: .int (zI hm) :: .int (zI pm) :: .int (zI hb) :: .int (zI sb) :: .ref 118 :: .ref 119 :: .ref 120 :: .ref 121 :: .ref 122 :: .ref 123 :: .ref 124 :: .ref 125 :: .ref 126 :: .ref 127 :: .ref 128 :: .ref 129 :: .int (zI mfu) :: .ref 130 :: .ref 131 :: .ref 132 :: .ref 133 :: .ref 134 :: .int (zI mdm) :: .int (zI mla) :: [])))]) rfl ?_
    have lp5 : ∀ (N5 : Nat) (tk_5 : Int) (lv_5 : Int) (bd_5 : Int), (-1 ≤ bd_5) → (bd_5 ≤ 400) → (mtk ≤ tk_5) → (tk_5 ≤ mtn) → (0 ≤ lv_5) → (lv_5 ≤ 402) → (lv_5 ≤ tk_5 + 1000 * bd_5 + 1000) → (bd_5 = -1 → ChP (TermG (Cc cc mtn) 0) (S2 (Cc cc mtn) 143 145) mtk tk_5 ∧ mtk < tk_5 ∧ mbd = -1) → (mtn - tk_5).toNat < N5 → J l G MX12_readSum { frames := 5, cells := 0, slots := 0, locals := 103 } jE (jMQ G { frames := 5, cells := 0, slots := 0, locals := 103 } (fun rr h9 => (∃ tk2 : Int, ∃ lv2 : Int, ∃ bd2 : Int, rr = none ∧ h9 = (nh, hc fh [(98, .inr (12, (.int (zI ms) :: .int (zI mv) :: .ref 99 :: .ref 100 :: .ref 101 :: .ref 102 :: .ref 103 :: .ref 104 :: .ref 105 :: .int (zI mt) :: .int (zI mfa) :: .ref 106 :: .ref 107 :: .ref 108 :: .int (zI mtn) :: .int (zI tk2) :: .int (zI lv2) :: .int (zI bd2) :: .int (zI mgo) :: .int (zI mge) :: .int (zI mbk) :: .ref 109 :: .int (zI mtt) :: .int (zI mtl) :: .ref 110 :: .ref 111 :: .ref 112 :: .ref 113 :: .ref 114 :: .ref 115 :: .ref 116 :: .ref 117 :: .int (zI hm) :: .int (zI pm) :: .int (zI hb) :: .int (zI sb) :: .ref 118 :: .ref 119 :: .ref 120 :: .ref 121 :: .ref 122 :: .ref 123 :: .ref 124 :: .ref 125 :: .ref 126 :: .ref 127 :: .ref 128 :: .ref 129 :: .int (zI mfu) :: .ref 130 :: .ref 131 :: .ref 132 :: .ref 133 :: .ref 134 :: .int (zI mdm) :: .int (zI mla) :: [])))]) ∧ (bd2 = -1) ∧ (mbd = -1) ∧ (mtk < tk2) ∧ (tk2 ≤ mtn) ∧ (SumG (Cc cc mtn) 0 mtk tk2) ∧ (0 ≤ lv2) ∧ (lv2 ≤ tk2)) ∨ (∃ tk2 : Int, ∃ lv2 : Int, ∃ bd2 : Int, rr = none ∧ h9 = (nh, hc fh [(98, .inr (12, (.int (zI ms) :: .int (zI mv) :: .ref 99 :: .ref 100 :: .ref 101 :: .ref 102 :: .ref 103 :: .ref 104 :: .ref 105 :: .int (zI mt) :: .int (zI mfa) :: .ref 106 :: .ref 107 :: .ref 108 :: .int (zI mtn) :: .int (zI tk2) :: .int (zI lv2) :: .int (zI bd2) :: .int (zI mgo) :: .int (zI mge) :: .int (zI mbk) :: .ref 109 :: .int (zI mtt) :: .int (zI mtl) :: .ref 110 :: .ref 111 :: .ref 112 :: .ref 113 :: .ref 114 :: .ref 115 :: .ref 116 :: .ref 117 :: .int (zI hm) :: .int (zI pm) :: .int (zI hb) :: .int (zI sb) :: .ref 118 :: .ref 119 :: .ref 120 :: .ref 121 :: .ref 122 :: .ref 123 :: .ref 124 :: .ref 125 :: .ref 126 :: .ref 127 :: .ref 128 :: .ref 129 :: .int (zI mfu) :: .ref 130 :: .ref 131 :: .ref 132 :: .ref 133 :: .ref 134 :: .int (zI mdm) :: .int (zI mla) :: [])))]) ∧ (0 ≤ bd2) ∧ (bd2 ≤ 400) ∧ (mtk ≤ tk2) ∧ (tk2 ≤ mtn) ∧ (0 ≤ lv2) ∧ (lv2 ≤ 402)))) (nh, hc fh [(98, .inr (12, (.int (zI ms) :: .int (zI mv) :: .ref 99 :: .ref 100 :: .ref 101 :: .ref 102 :: .ref 103 :: .ref 104 :: .ref 105 :: .int (zI mt) :: .int (zI mfa) :: .ref 106 :: .ref 107 :: .ref 108 :: .int (zI mtn) :: .int (zI tk_5) :: .int (zI lv_5) :: .int (zI bd_5) :: .int (zI mgo) :: .int (zI mge) :: .int (zI mbk) :: .ref 109 :: .int (zI mtt) :: .int (zI mtl) :: .ref 110 :: .ref 111 :: .ref 112 :: .ref 113 :: .ref 114 :: .ref 115 :: .ref 116 :: .ref 117 :: .int (zI hm) :: .int (zI pm) :: .int (zI hb) :: .int (zI sb) :: .ref 118 :: .ref 119 :: .ref 120 :: .ref 121 :: .ref 122 :: .ref 123 :: .ref 124 :: .ref 125 :: .ref 126 :: .ref 127 :: .ref 128 :: .ref 129 :: .int (zI mfu) :: .ref 130 :: .ref 131 :: .ref 132 :: .ref 133 :: .ref 134 :: .int (zI mdm) :: .int (zI mla) :: [])))]) 0 0 5 [some (.ref 98), some (.int (zI 8))] [] := by
      intro N5
      induction N5 with
      | zero => intro tk_5 lv_5 bd_5 i5_0 i5_1 i5_2 i5_3 i5_4 i5_5 i5_6 i5_7 hm; exact absurd hm (Nat.not_lt_zero _)
      | succ N5 ih5 =>
        intro tk_5 lv_5 bd_5 i5_0 i5_1 i5_2 i5_3 i5_4 i5_5 i5_6 i5_7 hm5
        refine J_aload_n dX12_readSum_5 rfl rfl ?_
        refine Z_bipush (n := 43) dX12_readSum_6 (by decide +kernel) ?_
        refine J_callS (st := [.ref 98]) dX12_readSum_8 cs_X12_215 (k_sign 43 v_8b70ad274a v_ff10987188) rfl rfl (Nat.le_of_ble_eq_true rfl) ⟨(Nat.le_of_ble_eq_true rfl), (Nat.le_of_ble_eq_true rfl)⟩ ⟨(Nat.le_of_ble_eq_true rfl), (Nat.le_of_ble_eq_true rfl)⟩ (fun r h9 hp => ?_)
        obtain ⟨z20, rfl, rfl, h21⟩ := hp
        refine J_nf (nh2 := nh) (ck2 := 0) (sk2 := 0) (st2 := [.int (zI z20), .ref 98]) rfl rfl rfl rfl ?_
        refine J_callV (st := []) dX12_readSum_11 cv_X12_190 (k_takes0 z20 ms mv mt mfa mtn tk_5 lv_5 bd_5 mgo mge mbk mtt mtl hm pm hb sb mfu mdm mla cc va pl (v_18e862bf09 h21) (v_1634217108 h21) (v_21976c7318 q0 i5_2) i5_3 q2 i5_0 i5_1 q5 q6 q7 q8 rfl hk106 hk107 hk108) rfl rfl rfl (Nat.le_of_ble_eq_true rfl) ⟨(Nat.le_of_ble_eq_true rfl), (Nat.le_of_ble_eq_true rfl)⟩ ⟨(Nat.le_of_ble_eq_true rfl), (Nat.le_of_ble_eq_true rfl)⟩ (fun r h9 hp => ?_)
        rcases hp with ⟨z22, rfl, rfl, h23, h24, h25, h26⟩ | ⟨rfl, rfl, h27, h28⟩ | ⟨rfl, rfl, h29⟩
        · refine J_nf (nh2 := nh) (ck2 := 0) (sk2 := 0) (st2 := [.int (zI 1)]) rfl rfl rfl rfl ?_
          refine J_app (L3 := [(98, .inr (12, (.int (zI ms) :: .int (zI mv) :: .ref 99 :: .ref 100 :: .ref 101 :: .ref 102 :: .ref 103 :: .ref 104 :: .ref 105 :: .int (zI mt) :: .int (zI mfa) :: .ref 106 :: .ref 107 :: .ref 108 :: .int (zI mtn) :: .int (zI z22) :: .int (zI lv_5) :: .int (zI bd_5) :: .int (zI mgo) :: .int (zI mge) :: .int (zI mbk) :: .ref 109 :: .int (zI mtt) :: .int (zI mtl) :: .ref 110 :: .ref 111 :: .ref 112 :: .ref 113 :: .ref 114 :: .ref 115 :: .ref 116 :: .ref 117 :: .int (zI hm) :: .int (zI pm) :: .int (zI hb) :: .int (zI sb) :: .ref 118 :: .ref 119 :: .ref 120 :: .ref 121 :: .ref 122 :: .ref 123 :: .ref 124 :: .ref 125 :: .ref 126 :: .ref 127 :: .ref 128 :: .ref 129 :: .int (zI mfu) :: .ref 130 :: .ref 131 :: .ref 132 :: .ref 133 :: .ref 134 :: .int (zI mdm) :: .int (zI mla) :: []))), (98, .inr (12, (.int (zI ms) :: .int (zI mv) :: .ref 99 :: .ref 100 :: .ref 101 :: .ref 102 :: .ref 103 :: .ref 104 :: .ref 105 :: .int (zI mt) :: .int (zI mfa) :: .ref 106 :: .ref 107 :: .ref 108 :: .int (zI mtn) :: .int (zI tk_5) :: .int (zI lv_5) :: .int (zI bd_5) :: .int (zI mgo) :: .int (zI mge) :: .int (zI mbk) :: .ref 109 :: .int (zI mtt) :: .int (zI mtl) :: .ref 110 :: .ref 111 :: .ref 112 :: .ref 113 :: .ref 114 :: .ref 115 :: .ref 116 :: .ref 117 :: .int (zI hm) :: .int (zI pm) :: .int (zI hb) :: .int (zI sb) :: .ref 118 :: .ref 119 :: .ref 120 :: .ref 121 :: .ref 122 :: .ref 123 :: .ref 124 :: .ref 125 :: .ref 126 :: .ref 127 :: .ref 128 :: .ref 129 :: .int (zI mfu) :: .ref 130 :: .ref 131 :: .ref 132 :: .ref 133 :: .ref 134 :: .int (zI mdm) :: .int (zI mla) :: [])))]) rfl ?_
          refine J_mask (L2 := [(98, .inr (12, (.int (zI ms) :: .int (zI mv) :: .ref 99 :: .ref 100 :: .ref 101 :: .ref 102 :: .ref 103 :: .ref 104 :: .ref 105 :: .int (zI mt) :: .int (zI mfa) :: .ref 106 :: .ref 107 :: .ref 108 :: .int (zI mtn) :: .int (zI z22) :: .int (zI lv_5) :: .int (zI bd_5) :: .int (zI mgo) :: .int (zI mge) :: .int (zI mbk) :: .ref 109 :: .int (zI mtt) :: .int (zI mtl) :: .ref 110 :: .ref 111 :: .ref 112 :: .ref 113 :: .ref 114 :: .ref 115 :: .ref 116 :: .ref 117 :: .int (zI hm) :: .int (zI pm) :: .int (zI hb) :: .int (zI sb) :: .ref 118 :: .ref 119 :: .ref 120 :: .ref 121 :: .ref 122 :: .ref 123 :: .ref 124 :: .ref 125 :: .ref 126 :: .ref 127 :: .ref 128 :: .ref 129 :: .int (zI mfu) :: .ref 130 :: .ref 131 :: .ref 132 :: .ref 133 :: .ref 134 :: .int (zI mdm) :: .int (zI mla) :: [])))]) (ks := [98, 98]) [true, false] rfl (by decide +kernel) rfl ?_
          refine Z_if_ne (tgt := 29) dX12_readSum_14 (by decide) v_4dcc24baa7 (fun h30 => ?_) (fun h30 => absurd h30 v_3a47bfd896)
          refine J_aload_n dX12_readSum_29 rfl rfl ?_
          refine J_iload_n dX12_readSum_30 rfl rfl ?_
          refine J_callV (st := []) dX12_readSum_31 cv_X12_219 (k_readTerm_0 ms mv mt mfa mtn z22 lv_5 bd_5 mgo mge mbk mtt mtl hm pm hb sb mfu mdm mla cc va pl (v_49f85faddc q0 i5_2 h24) (v_2b81d1254d h24 h25) q2 i5_0 i5_1 q5 q6 q7 q8 i5_4 i5_5 (v_b6e00daf3f i5_6 h24) rfl hk106 hk107 hk108) rfl rfl rfl (Nat.le_of_ble_eq_true rfl) ⟨(Nat.le_of_ble_eq_true rfl), (Nat.le_of_ble_eq_true rfl)⟩ ⟨(Nat.le_of_ble_eq_true rfl), (Nat.le_of_ble_eq_true rfl)⟩ (fun r h9 hp => ?_)
          rcases hp with ⟨z31, z32, z33, rfl, rfl, h34, h35, h36, h37, h38, h39, h40⟩ | ⟨z41, z42, z43, rfl, rfl, h44, h45, h46, h47, h48, h49⟩
          · refine J_nf (nh2 := nh) (ck2 := 0) (sk2 := 0) (st2 := []) rfl rfl rfl rfl ?_
            refine J_app (L3 := [(98, .inr (12, (.int (zI ms) :: .int (zI mv) :: .ref 99 :: .ref 100 :: .ref 101 :: .ref 102 :: .ref 103 :: .ref 104 :: .ref 105 :: .int (zI mt) :: .int (zI mfa) :: .ref 106 :: .ref 107 :: .ref 108 :: .int (zI mtn) :: .int (zI z31) :: .int (zI z32) :: .int (zI z33) :: .int (zI mgo) :: .int (zI mge) :: .int (zI mbk) :: .ref 109 :: .int (zI mtt) :: .int (zI mtl) :: .ref 110 :: .ref 111 :: .ref 112 :: .ref 113 :: .ref 114 :: .ref 115 :: .ref 116 :: .ref 117 :: .int (zI hm) :: .int (zI pm) :: .int (zI hb) :: .int (zI sb) :: .ref 118 :: .ref 119 :: .ref 120 :: .ref 121 :: .ref 122 :: .ref 123 :: .ref 124 :: .ref 125 :: .ref 126 :: .ref 127 :: .ref 128 :: .ref 129 :: .int (zI mfu) :: .ref 130 :: .ref 131 :: .ref 132 :: .ref 133 :: .ref 134 :: .int (zI mdm) :: .int (zI mla) :: []))), (98, .inr (12, (.int (zI ms) :: .int (zI mv) :: .ref 99 :: .ref 100 :: .ref 101 :: .ref 102 :: .ref 103 :: .ref 104 :: .ref 105 :: .int (zI mt) :: .int (zI mfa) :: .ref 106 :: .ref 107 :: .ref 108 :: .int (zI mtn) :: .int (zI z22) :: .int (zI lv_5) :: .int (zI bd_5) :: .int (zI mgo) :: .int (zI mge) :: .int (zI mbk) :: .ref 109 :: .int (zI mtt) :: .int (zI mtl) :: .ref 110 :: .ref 111 :: .ref 112 :: .ref 113 :: .ref 114 :: .ref 115 :: .ref 116 :: .ref 117 :: .int (zI hm) :: .int (zI pm) :: .int (zI hb) :: .int (zI sb) :: .ref 118 :: .ref 119 :: .ref 120 :: .ref 121 :: .ref 122 :: .ref 123 :: .ref 124 :: .ref 125 :: .ref 126 :: .ref 127 :: .ref 128 :: .ref 129 :: .int (zI mfu) :: .ref 130 :: .ref 131 :: .ref 132 :: .ref 133 :: .ref 134 :: .int (zI mdm) :: .int (zI mla) :: [])))]) rfl ?_
            refine J_mask (L2 := [(98, .inr (12, (.int (zI ms) :: .int (zI mv) :: .ref 99 :: .ref 100 :: .ref 101 :: .ref 102 :: .ref 103 :: .ref 104 :: .ref 105 :: .int (zI mt) :: .int (zI mfa) :: .ref 106 :: .ref 107 :: .ref 108 :: .int (zI mtn) :: .int (zI z31) :: .int (zI z32) :: .int (zI z33) :: .int (zI mgo) :: .int (zI mge) :: .int (zI mbk) :: .ref 109 :: .int (zI mtt) :: .int (zI mtl) :: .ref 110 :: .ref 111 :: .ref 112 :: .ref 113 :: .ref 114 :: .ref 115 :: .ref 116 :: .ref 117 :: .int (zI hm) :: .int (zI pm) :: .int (zI hb) :: .int (zI sb) :: .ref 118 :: .ref 119 :: .ref 120 :: .ref 121 :: .ref 122 :: .ref 123 :: .ref 124 :: .ref 125 :: .ref 126 :: .ref 127 :: .ref 128 :: .ref 129 :: .int (zI mfu) :: .ref 130 :: .ref 131 :: .ref 132 :: .ref 133 :: .ref 134 :: .int (zI mdm) :: .int (zI mla) :: [])))]) (ks := [98, 98]) [true, false] rfl (by decide +kernel) rfl ?_
            refine J_goto (tgt := 5) dX12_readSum_34 (by decide) ?_
            exact ih5 z31 z32 z33 (v_bc0c2646ae h34) (v_a6725f25e8 h34) (v_9e8572ccbd i5_2 h24 h36) h37 h39 (v_778db8d1be q2 h37 h40) (v_cb9e70f6f7 h34 h40) (fun _ => ⟨ChP.add (i5_7 (v_1022695464 i5_0 h23)).1 (.inl (by rw [h26]; exact (v_b4c0db470d h21))) h38 (v_b9aca61388 h36) (v_d34386dce5 h24), (by have u := (i5_7 (v_1022695464 i5_0 h23)).2.1; have w := (v_2e78a692fc h24 h36); omega), (i5_7 (v_1022695464 i5_0 h23)).2.2⟩) (meas_lt (v_64faee003a h24 h36) (v_3cd32163cd h25) hm5)
          · refine J_nf (nh2 := nh) (ck2 := 0) (sk2 := 0) (st2 := []) rfl rfl rfl rfl ?_
            refine J_app (L3 := [(98, .inr (12, (.int (zI ms) :: .int (zI mv) :: .ref 99 :: .ref 100 :: .ref 101 :: .ref 102 :: .ref 103 :: .ref 104 :: .ref 105 :: .int (zI mt) :: .int (zI mfa) :: .ref 106 :: .ref 107 :: .ref 108 :: .int (zI mtn) :: .int (zI z41) :: .int (zI z42) :: .int (zI z43) :: .int (zI mgo) :: .int (zI mge) :: .int (zI mbk) :: .ref 109 :: .int (zI mtt) :: .int (zI mtl) :: .ref 110 :: .ref 111 :: .ref 112 :: .ref 113 :: .ref 114 :: .ref 115 :: .ref 116 :: .ref 117 :: .int (zI hm) :: .int (zI pm) :: .int (zI hb) :: .int (zI sb) :: .ref 118 :: .ref 119 :: .ref 120 :: .ref 121 :: .ref 122 :: .ref 123 :: .ref 124 :: .ref 125 :: .ref 126 :: .ref 127 :: .ref 128 :: .ref 129 :: .int (zI mfu) :: .ref 130 :: .ref 131 :: .ref 132 :: .ref 133 :: .ref 134 :: .int (zI mdm) :: .int (zI mla) :: []))), (98, .inr (12, (.int (zI ms) :: .int (zI mv) :: .ref 99 :: .ref 100 :: .ref 101 :: .ref 102 :: .ref 103 :: .ref 104 :: .ref 105 :: .int (zI mt) :: .int (zI mfa) :: .ref 106 :: .ref 107 :: .ref 108 :: .int (zI mtn) :: .int (zI z22) :: .int (zI lv_5) :: .int (zI bd_5) :: .int (zI mgo) :: .int (zI mge) :: .int (zI mbk) :: .ref 109 :: .int (zI mtt) :: .int (zI mtl) :: .ref 110 :: .ref 111 :: .ref 112 :: .ref 113 :: .ref 114 :: .ref 115 :: .ref 116 :: .ref 117 :: .int (zI hm) :: .int (zI pm) :: .int (zI hb) :: .int (zI sb) :: .ref 118 :: .ref 119 :: .ref 120 :: .ref 121 :: .ref 122 :: .ref 123 :: .ref 124 :: .ref 125 :: .ref 126 :: .ref 127 :: .ref 128 :: .ref 129 :: .int (zI mfu) :: .ref 130 :: .ref 131 :: .ref 132 :: .ref 133 :: .ref 134 :: .int (zI mdm) :: .int (zI mla) :: [])))]) rfl ?_
            refine J_mask (L2 := [(98, .inr (12, (.int (zI ms) :: .int (zI mv) :: .ref 99 :: .ref 100 :: .ref 101 :: .ref 102 :: .ref 103 :: .ref 104 :: .ref 105 :: .int (zI mt) :: .int (zI mfa) :: .ref 106 :: .ref 107 :: .ref 108 :: .int (zI mtn) :: .int (zI z41) :: .int (zI z42) :: .int (zI z43) :: .int (zI mgo) :: .int (zI mge) :: .int (zI mbk) :: .ref 109 :: .int (zI mtt) :: .int (zI mtl) :: .ref 110 :: .ref 111 :: .ref 112 :: .ref 113 :: .ref 114 :: .ref 115 :: .ref 116 :: .ref 117 :: .int (zI hm) :: .int (zI pm) :: .int (zI hb) :: .int (zI sb) :: .ref 118 :: .ref 119 :: .ref 120 :: .ref 121 :: .ref 122 :: .ref 123 :: .ref 124 :: .ref 125 :: .ref 126 :: .ref 127 :: .ref 128 :: .ref 129 :: .int (zI mfu) :: .ref 130 :: .ref 131 :: .ref 132 :: .ref 133 :: .ref 134 :: .int (zI mdm) :: .int (zI mla) :: [])))]) (ks := [98, 98]) [true, false] rfl (by decide +kernel) rfl ?_
            refine J_goto (tgt := 5) dX12_readSum_34 (by decide) ?_
            exact ih5 z41 z42 z43 (v_576129c2e8 h44) h45 (v_f9f6ac3c48 i5_2 h24 h46) h47 h48 h49 (v_85f529c18f q0 i5_2 h24 h44 h46 h49) (fun w => absurd w (by have u := (v_2b02420001 h44); omega)) (meas_lt (v_46068e056c h24 h46) (v_3cd32163cd h25) hm5)
        · refine J_nf (nh2 := nh) (ck2 := 0) (sk2 := 0) (st2 := [.int (zI 0)]) rfl rfl rfl rfl ?_
          refine Z_if_ne (tgt := 29) dX12_readSum_14 (by decide) v_b17331891f (fun h50 => absurd h50 (fun q => q v_2ca2bbca1f)) (fun h50 => ?_)
          refine J_aload_n dX12_readSum_17 rfl rfl ?_
          refine Z_bipush (n := 45) dX12_readSum_18 (by decide +kernel) ?_
          refine J_callS (st := [.ref 98]) dX12_readSum_20 cs_X12_215 (k_sign 45 v_8bc5410605 v_46bbb1acae) rfl rfl (Nat.le_of_ble_eq_true rfl) ⟨(Nat.le_of_ble_eq_true rfl), (Nat.le_of_ble_eq_true rfl)⟩ ⟨(Nat.le_of_ble_eq_true rfl), (Nat.le_of_ble_eq_true rfl)⟩ (fun r h9 hp => ?_)
          obtain ⟨z51, rfl, rfl, h52⟩ := hp
          refine J_nf (nh2 := nh) (ck2 := 0) (sk2 := 0) (st2 := [.int (zI z51), .ref 98]) rfl rfl rfl rfl ?_
          refine J_callV (st := []) dX12_readSum_23 cv_X12_190 (k_takes0 z51 ms mv mt mfa mtn tk_5 lv_5 bd_5 mgo mge mbk mtt mtl hm pm hb sb mfu mdm mla cc va pl (v_7673703eeb h52) (v_941794293e h52) (v_21976c7318 q0 i5_2) i5_3 q2 i5_0 i5_1 q5 q6 q7 q8 rfl hk106 hk107 hk108) rfl rfl rfl (Nat.le_of_ble_eq_true rfl) ⟨(Nat.le_of_ble_eq_true rfl), (Nat.le_of_ble_eq_true rfl)⟩ ⟨(Nat.le_of_ble_eq_true rfl), (Nat.le_of_ble_eq_true rfl)⟩ (fun r h9 hp => ?_)
          rcases hp with ⟨z53, rfl, rfl, h54, h55, h56, h57⟩ | ⟨rfl, rfl, h58, h59⟩ | ⟨rfl, rfl, h60⟩
          · refine J_nf (nh2 := nh) (ck2 := 0) (sk2 := 0) (st2 := [.int (zI 1)]) rfl rfl rfl rfl ?_
            refine J_app (L3 := [(98, .inr (12, (.int (zI ms) :: .int (zI mv) :: .ref 99 :: .ref 100 :: .ref 101 :: .ref 102 :: .ref 103 :: .ref 104 :: .ref 105 :: .int (zI mt) :: .int (zI mfa) :: .ref 106 :: .ref 107 :: .ref 108 :: .int (zI mtn) :: .int (zI z53) :: .int (zI lv_5) :: .int (zI bd_5) :: .int (zI mgo) :: .int (zI mge) :: .int (zI mbk) :: .ref 109 :: .int (zI mtt) :: .int (zI mtl) :: .ref 110 :: .ref 111 :: .ref 112 :: .ref 113 :: .ref 114 :: .ref 115 :: .ref 116 :: .ref 117 :: .int (zI hm) :: .int (zI pm) :: .int (zI hb) :: .int (zI sb) :: .ref 118 :: .ref 119 :: .ref 120 :: .ref 121 :: .ref 122 :: .ref 123 :: .ref 124 :: .ref 125 :: .ref 126 :: .ref 127 :: .ref 128 :: .ref 129 :: .int (zI mfu) :: .ref 130 :: .ref 131 :: .ref 132 :: .ref 133 :: .ref 134 :: .int (zI mdm) :: .int (zI mla) :: []))), (98, .inr (12, (.int (zI ms) :: .int (zI mv) :: .ref 99 :: .ref 100 :: .ref 101 :: .ref 102 :: .ref 103 :: .ref 104 :: .ref 105 :: .int (zI mt) :: .int (zI mfa) :: .ref 106 :: .ref 107 :: .ref 108 :: .int (zI mtn) :: .int (zI tk_5) :: .int (zI lv_5) :: .int (zI bd_5) :: .int (zI mgo) :: .int (zI mge) :: .int (zI mbk) :: .ref 109 :: .int (zI mtt) :: .int (zI mtl) :: .ref 110 :: .ref 111 :: .ref 112 :: .ref 113 :: .ref 114 :: .ref 115 :: .ref 116 :: .ref 117 :: .int (zI hm) :: .int (zI pm) :: .int (zI hb) :: .int (zI sb) :: .ref 118 :: .ref 119 :: .ref 120 :: .ref 121 :: .ref 122 :: .ref 123 :: .ref 124 :: .ref 125 :: .ref 126 :: .ref 127 :: .ref 128 :: .ref 129 :: .int (zI mfu) :: .ref 130 :: .ref 131 :: .ref 132 :: .ref 133 :: .ref 134 :: .int (zI mdm) :: .int (zI mla) :: [])))]) rfl ?_
            refine J_mask (L2 := [(98, .inr (12, (.int (zI ms) :: .int (zI mv) :: .ref 99 :: .ref 100 :: .ref 101 :: .ref 102 :: .ref 103 :: .ref 104 :: .ref 105 :: .int (zI mt) :: .int (zI mfa) :: .ref 106 :: .ref 107 :: .ref 108 :: .int (zI mtn) :: .int (zI z53) :: .int (zI lv_5) :: .int (zI bd_5) :: .int (zI mgo) :: .int (zI mge) :: .int (zI mbk) :: .ref 109 :: .int (zI mtt) :: .int (zI mtl) :: .ref 110 :: .ref 111 :: .ref 112 :: .ref 113 :: .ref 114 :: .ref 115 :: .ref 116 :: .ref 117 :: .int (zI hm) :: .int (zI pm) :: .int (zI hb) :: .int (zI sb) :: .ref 118 :: .ref 119 :: .ref 120 :: .ref 121 :: .ref 122 :: .ref 123 :: .ref 124 :: .ref 125 :: .ref 126 :: .ref 127 :: .ref 128 :: .ref 129 :: .int (zI mfu) :: .ref 130 :: .ref 131 :: .ref 132 :: .ref 133 :: .ref 134 :: .int (zI mdm) :: .int (zI mla) :: [])))]) (ks := [98, 98]) [true, false] rfl (by decide +kernel) rfl ?_
            refine Z_if_eq (tgt := 37) dX12_readSum_26 (by decide) v_4dcc24baa7 (fun h61 => absurd h61 v_3a47bfd896) (fun h61 => ?_)
            refine J_aload_n dX12_readSum_29 rfl rfl ?_
            refine J_iload_n dX12_readSum_30 rfl rfl ?_
            refine J_callV (st := []) dX12_readSum_31 cv_X12_219 (k_readTerm_0 ms mv mt mfa mtn z53 lv_5 bd_5 mgo mge mbk mtt mtl hm pm hb sb mfu mdm mla cc va pl (v_49f85faddc q0 i5_2 h55) (v_2b81d1254d h55 h56) q2 i5_0 i5_1 q5 q6 q7 q8 i5_4 i5_5 (v_b6e00daf3f i5_6 h55) rfl hk106 hk107 hk108) rfl rfl rfl (Nat.le_of_ble_eq_true rfl) ⟨(Nat.le_of_ble_eq_true rfl), (Nat.le_of_ble_eq_true rfl)⟩ ⟨(Nat.le_of_ble_eq_true rfl), (Nat.le_of_ble_eq_true rfl)⟩ (fun r h9 hp => ?_)
            rcases hp with ⟨z62, z63, z64, rfl, rfl, h65, h66, h67, h68, h69, h70, h71⟩ | ⟨z72, z73, z74, rfl, rfl, h75, h76, h77, h78, h79, h80⟩
            · refine J_nf (nh2 := nh) (ck2 := 0) (sk2 := 0) (st2 := []) rfl rfl rfl rfl ?_
              refine J_app (L3 := [(98, .inr (12, (.int (zI ms) :: .int (zI mv) :: .ref 99 :: .ref 100 :: .ref 101 :: .ref 102 :: .ref 103 :: .ref 104 :: .ref 105 :: .int (zI mt) :: .int (zI mfa) :: .ref 106 :: .ref 107 :: .ref 108 :: .int (zI mtn) :: .int (zI z62) :: .int (zI z63) :: .int (zI z64) :: .int (zI mgo) :: .int (zI mge) :: .int (zI mbk) :: .ref 109 :: .int (zI mtt) :: .int (zI mtl) :: .ref 110 :: .ref 111 :: .ref 112 :: .ref 113 :: .ref 114 :: .ref 115 :: .ref 116 :: .ref 117 :: .int (zI hm) :: .int (zI pm) :: .int (zI hb) :: .int (zI sb) :: .ref 118 :: .ref 119 :: .ref 120 :: .ref 121 :: .ref 122 :: .ref 123 :: .ref 124 :: .ref 125 :: .ref 126 :: .ref 127 :: .ref 128 :: .ref 129 :: .int (zI mfu) :: .ref 130 :: .ref 131 :: .ref 132 :: .ref 133 :: .ref 134 :: .int (zI mdm) :: .int (zI mla) :: []))), (98, .inr (12, (.int (zI ms) :: .int (zI mv) :: .ref 99 :: .ref 100 :: .ref 101 :: .ref 102 :: .ref 103 :: .ref 104 :: .ref 105 :: .int (zI mt) :: .int (zI mfa) :: .ref 106 :: .ref 107 :: .ref 108 :: .int (zI mtn) :: .int (zI z53) :: .int (zI lv_5) :: .int (zI bd_5) :: .int (zI mgo) :: .int (zI mge) :: .int (zI mbk) :: .ref 109 :: .int (zI mtt) :: .int (zI mtl) :: .ref 110 :: .ref 111 :: .ref 112 :: .ref 113 :: .ref 114 :: .ref 115 :: .ref 116 :: .ref 117 :: .int (zI hm) :: .int (zI pm) :: .int (zI hb) :: .int (zI sb) :: .ref 118 :: .ref 119 :: .ref 120 :: .ref 121 :: .ref 122 :: .ref 123 :: .ref 124 :: .ref 125 :: .ref 126 :: .ref 127 :: .ref 128 :: .ref 129 :: .int (zI mfu) :: .ref 130 :: .ref 131 :: .ref 132 :: .ref 133 :: .ref 134 :: .int (zI mdm) :: .int (zI mla) :: [])))]) rfl ?_
              refine J_mask (L2 := [(98, .inr (12, (.int (zI ms) :: .int (zI mv) :: .ref 99 :: .ref 100 :: .ref 101 :: .ref 102 :: .ref 103 :: .ref 104 :: .ref 105 :: .int (zI mt) :: .int (zI mfa) :: .ref 106 :: .ref 107 :: .ref 108 :: .int (zI mtn) :: .int (zI z62) :: .int (zI z63) :: .int (zI z64) :: .int (zI mgo) :: .int (zI mge) :: .int (zI mbk) :: .ref 109 :: .int (zI mtt) :: .int (zI mtl) :: .ref 110 :: .ref 111 :: .ref 112 :: .ref 113 :: .ref 114 :: .ref 115 :: .ref 116 :: .ref 117 :: .int (zI hm) :: .int (zI pm) :: .int (zI hb) :: .int (zI sb) :: .ref 118 :: .ref 119 :: .ref 120 :: .ref 121 :: .ref 122 :: .ref 123 :: .ref 124 :: .ref 125 :: .ref 126 :: .ref 127 :: .ref 128 :: .ref 129 :: .int (zI mfu) :: .ref 130 :: .ref 131 :: .ref 132 :: .ref 133 :: .ref 134 :: .int (zI mdm) :: .int (zI mla) :: [])))]) (ks := [98, 98]) [true, false] rfl (by decide +kernel) rfl ?_
              refine J_goto (tgt := 5) dX12_readSum_34 (by decide) ?_
              exact ih5 z62 z63 z64 (v_bc0c2646ae h65) (v_a6725f25e8 h65) (v_9e8572ccbd i5_2 h55 h67) h68 h70 (v_778db8d1be q2 h68 h71) (v_cb9e70f6f7 h65 h71) (fun _ => ⟨ChP.add (i5_7 (v_1022695464 i5_0 h27)).1 (.inr (by rw [h57]; exact (v_7912200c83 h52))) h69 (v_b9aca61388 h67) (v_d34386dce5 h55), (by have u := (i5_7 (v_1022695464 i5_0 h27)).2.1; have w := (v_2e78a692fc h55 h67); omega), (i5_7 (v_1022695464 i5_0 h27)).2.2⟩) (meas_lt (v_64faee003a h55 h67) (v_3cd32163cd h56) hm5)
            · refine J_nf (nh2 := nh) (ck2 := 0) (sk2 := 0) (st2 := []) rfl rfl rfl rfl ?_
              refine J_app (L3 := [(98, .inr (12, (.int (zI ms) :: .int (zI mv) :: .ref 99 :: .ref 100 :: .ref 101 :: .ref 102 :: .ref 103 :: .ref 104 :: .ref 105 :: .int (zI mt) :: .int (zI mfa) :: .ref 106 :: .ref 107 :: .ref 108 :: .int (zI mtn) :: .int (zI z72) :: .int (zI z73) :: .int (zI z74) :: .int (zI mgo) :: .int (zI mge) :: .int (zI mbk) :: .ref 109 :: .int (zI mtt) :: .int (zI mtl) :: .ref 110 :: .ref 111 :: .ref 112 :: .ref 113 :: .ref 114 :: .ref 115 :: .ref 116 :: .ref 117 :: .int (zI hm) :: .int (zI pm) :: .int (zI hb) :: .int (zI sb) :: .ref 118 :: .ref 119 :: .ref 120 :: .ref 121 :: .ref 122 :: .ref 123 :: .ref 124 :: .ref 125 :: .ref 126 :: .ref 127 :: .ref 128 :: .ref 129 :: .int (zI mfu) :: .ref 130 :: .ref 131 :: .ref 132 :: .ref 133 :: .ref 134 :: .int (zI mdm) :: .int (zI mla) :: []))), (98, .inr (12, (.int (zI ms) :: .int (zI mv) :: .ref 99 :: .ref 100 :: .ref 101 :: .ref 102 :: .ref 103 :: .ref 104 :: .ref 105 :: .int (zI mt) :: .int (zI mfa) :: .ref 106 :: .ref 107 :: .ref 108 :: .int (zI mtn) :: .int (zI z53) :: .int (zI lv_5) :: .int (zI bd_5) :: .int (zI mgo) :: .int (zI mge) :: .int (zI mbk) :: .ref 109 :: .int (zI mtt) :: .int (zI mtl) :: .ref 110 :: .ref 111 :: .ref 112 :: .ref 113 :: .ref 114 :: .ref 115 :: .ref 116 :: .ref 117 :: .int (zI hm) :: .int (zI pm) :: .int (zI hb) :: .int (zI sb) :: .ref 118 :: .ref 119 :: .ref 120 :: .ref 121 :: .ref 122 :: .ref 123 :: .ref 124 :: .ref 125 :: .ref 126 :: .ref 127 :: .ref 128 :: .ref 129 :: .int (zI mfu) :: .ref 130 :: .ref 131 :: .ref 132 :: .ref 133 :: .ref 134 :: .int (zI mdm) :: .int (zI mla) :: [])))]) rfl ?_
              refine J_mask (L2 := [(98, .inr (12, (.int (zI ms) :: .int (zI mv) :: .ref 99 :: .ref 100 :: .ref 101 :: .ref 102 :: .ref 103 :: .ref 104 :: .ref 105 :: .int (zI mt) :: .int (zI mfa) :: .ref 106 :: .ref 107 :: .ref 108 :: .int (zI mtn) :: .int (zI z72) :: .int (zI z73) :: .int (zI z74) :: .int (zI mgo) :: .int (zI mge) :: .int (zI mbk) :: .ref 109 :: .int (zI mtt) :: .int (zI mtl) :: .ref 110 :: .ref 111 :: .ref 112 :: .ref 113 :: .ref 114 :: .ref 115 :: .ref 116 :: .ref 117 :: .int (zI hm) :: .int (zI pm) :: .int (zI hb) :: .int (zI sb) :: .ref 118 :: .ref 119 :: .ref 120 :: .ref 121 :: .ref 122 :: .ref 123 :: .ref 124 :: .ref 125 :: .ref 126 :: .ref 127 :: .ref 128 :: .ref 129 :: .int (zI mfu) :: .ref 130 :: .ref 131 :: .ref 132 :: .ref 133 :: .ref 134 :: .int (zI mdm) :: .int (zI mla) :: [])))]) (ks := [98, 98]) [true, false] rfl (by decide +kernel) rfl ?_
              refine J_goto (tgt := 5) dX12_readSum_34 (by decide) ?_
              exact ih5 z72 z73 z74 (v_576129c2e8 h75) h76 (v_f9f6ac3c48 i5_2 h55 h77) h78 h79 h80 (v_85f529c18f q0 i5_2 h55 h75 h77 h80) (fun w => absurd w (by have u := (v_2b02420001 h75); omega)) (meas_lt (v_46068e056c h55 h77) (v_3cd32163cd h56) hm5)
          · refine J_nf (nh2 := nh) (ck2 := 0) (sk2 := 0) (st2 := [.int (zI 0)]) rfl rfl rfl rfl ?_
            refine Z_if_eq (tgt := 37) dX12_readSum_26 (by decide) v_b17331891f (fun h81 => ?_) (fun h81 => absurd h81 (fun q => q v_2ca2bbca1f))
            have gx := i5_7 (v_1022695464 i5_0 h27)
            exact J_vret dX12_readSum_37 rfl (Nat.le_of_ble_eq_true rfl) (Nat.le_of_ble_eq_true rfl) (Or.inl ⟨tk_5, lv_5, bd_5, rfl, rfl, h58, gx.2.2, gx.2.1, i5_3, (ChP.end gx.1 (fun w => by have u0 := h28; have u1 := h59; have u2 := h21; have u3 := h52; rcases w with w | w <;> omega)), i5_4, (v_0471d920d5 i5_6 h27)⟩)
          · exact False.elim (v_221c0ce955 h27 h60)
        · refine J_nf (nh2 := nh) (ck2 := 0) (sk2 := 0) (st2 := [.int (zI 0)]) rfl rfl rfl rfl ?_
          refine Z_if_ne (tgt := 29) dX12_readSum_14 (by decide) v_b17331891f (fun h82 => absurd h82 (fun q => q v_2ca2bbca1f)) (fun h82 => ?_)
          refine J_aload_n dX12_readSum_17 rfl rfl ?_
          refine Z_bipush (n := 45) dX12_readSum_18 (by decide +kernel) ?_
          refine J_callS (st := [.ref 98]) dX12_readSum_20 cs_X12_215 (k_sign 45 v_8bc5410605 v_46bbb1acae) rfl rfl (Nat.le_of_ble_eq_true rfl) ⟨(Nat.le_of_ble_eq_true rfl), (Nat.le_of_ble_eq_true rfl)⟩ ⟨(Nat.le_of_ble_eq_true rfl), (Nat.le_of_ble_eq_true rfl)⟩ (fun r h9 hp => ?_)
          obtain ⟨z83, rfl, rfl, h84⟩ := hp
          refine J_nf (nh2 := nh) (ck2 := 0) (sk2 := 0) (st2 := [.int (zI z83), .ref 98]) rfl rfl rfl rfl ?_
          refine J_callV (st := []) dX12_readSum_23 cv_X12_190 (k_takes0 z83 ms mv mt mfa mtn tk_5 lv_5 bd_5 mgo mge mbk mtt mtl hm pm hb sb mfu mdm mla cc va pl (v_7673703eeb h84) (v_941794293e h84) (v_21976c7318 q0 i5_2) i5_3 q2 i5_0 i5_1 q5 q6 q7 q8 rfl hk106 hk107 hk108) rfl rfl rfl (Nat.le_of_ble_eq_true rfl) ⟨(Nat.le_of_ble_eq_true rfl), (Nat.le_of_ble_eq_true rfl)⟩ ⟨(Nat.le_of_ble_eq_true rfl), (Nat.le_of_ble_eq_true rfl)⟩ (fun r h9 hp => ?_)
          rcases hp with ⟨z85, rfl, rfl, h86, h87, h88, h89⟩ | ⟨rfl, rfl, h90, h91⟩ | ⟨rfl, rfl, h92⟩
          · exact False.elim (v_a2a49c9ec0 h29 h86)
          · exact False.elim (v_a2a49c9ec0 h29 h90)
          · refine J_nf (nh2 := nh) (ck2 := 0) (sk2 := 0) (st2 := [.int (zI 0)]) rfl rfl rfl rfl ?_
            refine Z_if_eq (tgt := 37) dX12_readSum_26 (by decide) v_b17331891f (fun h93 => ?_) (fun h93 => absurd h93 (fun q => q v_2ca2bbca1f))
            exact J_vret dX12_readSum_37 rfl (Nat.le_of_ble_eq_true rfl) (Nat.le_of_ble_eq_true rfl) (Or.inr ⟨tk_5, lv_5, bd_5, rfl, rfl, h92, i5_1, i5_2, i5_3, i5_4, i5_5⟩)
    exact lp5 _ z1 z2 z3 (v_bc0c2646ae h4) (v_a6725f25e8 h4) (v_c771ab5f01 h6) h7 h9 (v_778db8d1be q2 h7 h10) (v_cb9e70f6f7 h4 h10) (fun _ => ⟨ChP_1 h8 (v_b9aca61388 h6), (v_b9aca61388 h6), (v_1022695464 q3 h5)⟩) (Nat.lt_succ_self _)
  · refine J_nf (nh2 := nh) (ck2 := 0) (sk2 := 0) (st2 := []) rfl rfl rfl rfl ?_
    refine J_app (L3 := [(98, .inr (12, (.int (zI ms) :: .int (zI mv) :: .ref 99 :: .ref 100 :: .ref 101 :: .ref 102 :: .ref 103 :: .ref 104 :: .ref 105 :: .int (zI mt) :: .int (zI mfa) :: .ref 106 :: .ref 107 :: .ref 108 :: .int (zI mtn) :: .int (zI z11) :: .int (zI z12) :: .int (zI z13) :: .int (zI mgo) :: .int (zI mge) :: .int (zI mbk) :: .ref 109 :: .int (zI mtt) :: .int (zI mtl) :: .ref 110 :: .ref 111 :: .ref 112 :: .ref 113 :: .ref 114 :: .ref 115 :: .ref 116 :: .ref 117 :: .int (zI hm) :: .int (zI pm) :: .int (zI hb) :: .int (zI sb) :: .ref 118 :: .ref 119 :: .ref 120 :: .ref 121 :: .ref 122 :: .ref 123 :: .ref 124 :: .ref 125 :: .ref 126 :: .ref 127 :: .ref 128 :: .ref 129 :: .int (zI mfu) :: .ref 130 :: .ref 131 :: .ref 132 :: .ref 133 :: .ref 134 :: .int (zI mdm) :: .int (zI mla) :: [])))]) rfl ?_
    have lp5 : ∀ (N5 : Nat) (tk_5 : Int) (lv_5 : Int) (bd_5 : Int), (-1 ≤ bd_5) → (bd_5 ≤ 400) → (mtk ≤ tk_5) → (tk_5 ≤ mtn) → (0 ≤ lv_5) → (lv_5 ≤ 402) → (lv_5 ≤ tk_5 + 1000 * bd_5 + 1000) → (bd_5 = -1 → ChP (TermG (Cc cc mtn) 0) (S2 (Cc cc mtn) 143 145) mtk tk_5 ∧ mtk < tk_5 ∧ mbd = -1) → (mtn - tk_5).toNat < N5 → J l G MX12_readSum { frames := 5, cells := 0, slots := 0, locals := 103 } jE (jMQ G { frames := 5, cells := 0, slots := 0, locals := 103 } (fun rr h9 => (∃ tk2 : Int, ∃ lv2 : Int, ∃ bd2 : Int, rr = none ∧ h9 = (nh, hc fh [(98, .inr (12, (.int (zI ms) :: .int (zI mv) :: .ref 99 :: .ref 100 :: .ref 101 :: .ref 102 :: .ref 103 :: .ref 104 :: .ref 105 :: .int (zI mt) :: .int (zI mfa) :: .ref 106 :: .ref 107 :: .ref 108 :: .int (zI mtn) :: .int (zI tk2) :: .int (zI lv2) :: .int (zI bd2) :: .int (zI mgo) :: .int (zI mge) :: .int (zI mbk) :: .ref 109 :: .int (zI mtt) :: .int (zI mtl) :: .ref 110 :: .ref 111 :: .ref 112 :: .ref 113 :: .ref 114 :: .ref 115 :: .ref 116 :: .ref 117 :: .int (zI hm) :: .int (zI pm) :: .int (zI hb) :: .int (zI sb) :: .ref 118 :: .ref 119 :: .ref 120 :: .ref 121 :: .ref 122 :: .ref 123 :: .ref 124 :: .ref 125 :: .ref 126 :: .ref 127 :: .ref 128 :: .ref 129 :: .int (zI mfu) :: .ref 130 :: .ref 131 :: .ref 132 :: .ref 133 :: .ref 134 :: .int (zI mdm) :: .int (zI mla) :: [])))]) ∧ (bd2 = -1) ∧ (mbd = -1) ∧ (mtk < tk2) ∧ (tk2 ≤ mtn) ∧ (SumG (Cc cc mtn) 0 mtk tk2) ∧ (0 ≤ lv2) ∧ (lv2 ≤ tk2)) ∨ (∃ tk2 : Int, ∃ lv2 : Int, ∃ bd2 : Int, rr = none ∧ h9 = (nh, hc fh [(98, .inr (12, (.int (zI ms) :: .int (zI mv) :: .ref 99 :: .ref 100 :: .ref 101 :: .ref 102 :: .ref 103 :: .ref 104 :: .ref 105 :: .int (zI mt) :: .int (zI mfa) :: .ref 106 :: .ref 107 :: .ref 108 :: .int (zI mtn) :: .int (zI tk2) :: .int (zI lv2) :: .int (zI bd2) :: .int (zI mgo) :: .int (zI mge) :: .int (zI mbk) :: .ref 109 :: .int (zI mtt) :: .int (zI mtl) :: .ref 110 :: .ref 111 :: .ref 112 :: .ref 113 :: .ref 114 :: .ref 115 :: .ref 116 :: .ref 117 :: .int (zI hm) :: .int (zI pm) :: .int (zI hb) :: .int (zI sb) :: .ref 118 :: .ref 119 :: .ref 120 :: .ref 121 :: .ref 122 :: .ref 123 :: .ref 124 :: .ref 125 :: .ref 126 :: .ref 127 :: .ref 128 :: .ref 129 :: .int (zI mfu) :: .ref 130 :: .ref 131 :: .ref 132 :: .ref 133 :: .ref 134 :: .int (zI mdm) :: .int (zI mla) :: [])))]) ∧ (0 ≤ bd2) ∧ (bd2 ≤ 400) ∧ (mtk ≤ tk2) ∧ (tk2 ≤ mtn) ∧ (0 ≤ lv2) ∧ (lv2 ≤ 402)))) (nh, hc fh [(98, .inr (12, (.int (zI ms) :: .int (zI mv) :: .ref 99 :: .ref 100 :: .ref 101 :: .ref 102 :: .ref 103 :: .ref 104 :: .ref 105 :: .int (zI mt) :: .int (zI mfa) :: .ref 106 :: .ref 107 :: .ref 108 :: .int (zI mtn) :: .int (zI tk_5) :: .int (zI lv_5) :: .int (zI bd_5) :: .int (zI mgo) :: .int (zI mge) :: .int (zI mbk) :: .ref 109 :: .int (zI mtt) :: .int (zI mtl) :: .ref 110 :: .ref 111 :: .ref 112 :: .ref 113 :: .ref 114 :: .ref 115 :: .ref 116 :: .ref 117 :: .int (zI hm) :: .int (zI pm) :: .int (zI hb) :: .int (zI sb) :: .ref 118 :: .ref 119 :: .ref 120 :: .ref 121 :: .ref 122 :: .ref 123 :: .ref 124 :: .ref 125 :: .ref 126 :: .ref 127 :: .ref 128 :: .ref 129 :: .int (zI mfu) :: .ref 130 :: .ref 131 :: .ref 132 :: .ref 133 :: .ref 134 :: .int (zI mdm) :: .int (zI mla) :: [])))]) 0 0 5 [some (.ref 98), some (.int (zI 8))] [] := by
      intro N5
      induction N5 with
      | zero => intro tk_5 lv_5 bd_5 i5_0 i5_1 i5_2 i5_3 i5_4 i5_5 i5_6 i5_7 hm; exact absurd hm (Nat.not_lt_zero _)
      | succ N5 ih5 =>
        intro tk_5 lv_5 bd_5 i5_0 i5_1 i5_2 i5_3 i5_4 i5_5 i5_6 i5_7 hm5
        refine J_aload_n dX12_readSum_5 rfl rfl ?_
        refine Z_bipush (n := 43) dX12_readSum_6 (by decide +kernel) ?_
        refine J_callS (st := [.ref 98]) dX12_readSum_8 cs_X12_215 (k_sign 43 v_8b70ad274a v_ff10987188) rfl rfl (Nat.le_of_ble_eq_true rfl) ⟨(Nat.le_of_ble_eq_true rfl), (Nat.le_of_ble_eq_true rfl)⟩ ⟨(Nat.le_of_ble_eq_true rfl), (Nat.le_of_ble_eq_true rfl)⟩ (fun r h9 hp => ?_)
        obtain ⟨z94, rfl, rfl, h95⟩ := hp
        refine J_nf (nh2 := nh) (ck2 := 0) (sk2 := 0) (st2 := [.int (zI z94), .ref 98]) rfl rfl rfl rfl ?_
        refine J_callV (st := []) dX12_readSum_11 cv_X12_190 (k_takes0 z94 ms mv mt mfa mtn tk_5 lv_5 bd_5 mgo mge mbk mtt mtl hm pm hb sb mfu mdm mla cc va pl (v_18e862bf09 h95) (v_1634217108 h95) (v_21976c7318 q0 i5_2) i5_3 q2 i5_0 i5_1 q5 q6 q7 q8 rfl hk106 hk107 hk108) rfl rfl rfl (Nat.le_of_ble_eq_true rfl) ⟨(Nat.le_of_ble_eq_true rfl), (Nat.le_of_ble_eq_true rfl)⟩ ⟨(Nat.le_of_ble_eq_true rfl), (Nat.le_of_ble_eq_true rfl)⟩ (fun r h9 hp => ?_)
        rcases hp with ⟨z96, rfl, rfl, h97, h98, h99, h100⟩ | ⟨rfl, rfl, h101, h102⟩ | ⟨rfl, rfl, h103⟩
        · refine J_nf (nh2 := nh) (ck2 := 0) (sk2 := 0) (st2 := [.int (zI 1)]) rfl rfl rfl rfl ?_
          refine J_app (L3 := [(98, .inr (12, (.int (zI ms) :: .int (zI mv) :: .ref 99 :: .ref 100 :: .ref 101 :: .ref 102 :: .ref 103 :: .ref 104 :: .ref 105 :: .int (zI mt) :: .int (zI mfa) :: .ref 106 :: .ref 107 :: .ref 108 :: .int (zI mtn) :: .int (zI z96) :: .int (zI lv_5) :: .int (zI bd_5) :: .int (zI mgo) :: .int (zI mge) :: .int (zI mbk) :: .ref 109 :: .int (zI mtt) :: .int (zI mtl) :: .ref 110 :: .ref 111 :: .ref 112 :: .ref 113 :: .ref 114 :: .ref 115 :: .ref 116 :: .ref 117 :: .int (zI hm) :: .int (zI pm) :: .int (zI hb) :: .int (zI sb) :: .ref 118 :: .ref 119 :: .ref 120 :: .ref 121 :: .ref 122 :: .ref 123 :: .ref 124 :: .ref 125 :: .ref 126 :: .ref 127 :: .ref 128 :: .ref 129 :: .int (zI mfu) :: .ref 130 :: .ref 131 :: .ref 132 :: .ref 133 :: .ref 134 :: .int (zI mdm) :: .int (zI mla) :: []))), (98, .inr (12, (.int (zI ms) :: .int (zI mv) :: .ref 99 :: .ref 100 :: .ref 101 :: .ref 102 :: .ref 103 :: .ref 104 :: .ref 105 :: .int (zI mt) :: .int (zI mfa) :: .ref 106 :: .ref 107 :: .ref 108 :: .int (zI mtn) :: .int (zI tk_5) :: .int (zI lv_5) :: .int (zI bd_5) :: .int (zI mgo) :: .int (zI mge) :: .int (zI mbk) :: .ref 109 :: .int (zI mtt) :: .int (zI mtl) :: .ref 110 :: .ref 111 :: .ref 112 :: .ref 113 :: .ref 114 :: .ref 115 :: .ref 116 :: .ref 117 :: .int (zI hm) :: .int (zI pm) :: .int (zI hb) :: .int (zI sb) :: .ref 118 :: .ref 119 :: .ref 120 :: .ref 121 :: .ref 122 :: .ref 123 :: .ref 124 :: .ref 125 :: .ref 126 :: .ref 127 :: .ref 128 :: .ref 129 :: .int (zI mfu) :: .ref 130 :: .ref 131 :: .ref 132 :: .ref 133 :: .ref 134 :: .int (zI mdm) :: .int (zI mla) :: [])))]) rfl ?_
          refine J_mask (L2 := [(98, .inr (12, (.int (zI ms) :: .int (zI mv) :: .ref 99 :: .ref 100 :: .ref 101 :: .ref 102 :: .ref 103 :: .ref 104 :: .ref 105 :: .int (zI mt) :: .int (zI mfa) :: .ref 106 :: .ref 107 :: .ref 108 :: .int (zI mtn) :: .int (zI z96) :: .int (zI lv_5) :: .int (zI bd_5) :: .int (zI mgo) :: .int (zI mge) :: .int (zI mbk) :: .ref 109 :: .int (zI mtt) :: .int (zI mtl) :: .ref 110 :: .ref 111 :: .ref 112 :: .ref 113 :: .ref 114 :: .ref 115 :: .ref 116 :: .ref 117 :: .int (zI hm) :: .int (zI pm) :: .int (zI hb) :: .int (zI sb) :: .ref 118 :: .ref 119 :: .ref 120 :: .ref 121 :: .ref 122 :: .ref 123 :: .ref 124 :: .ref 125 :: .ref 126 :: .ref 127 :: .ref 128 :: .ref 129 :: .int (zI mfu) :: .ref 130 :: .ref 131 :: .ref 132 :: .ref 133 :: .ref 134 :: .int (zI mdm) :: .int (zI mla) :: [])))]) (ks := [98, 98]) [true, false] rfl (by decide +kernel) rfl ?_
          refine Z_if_ne (tgt := 29) dX12_readSum_14 (by decide) v_4dcc24baa7 (fun h104 => ?_) (fun h104 => absurd h104 v_3a47bfd896)
          refine J_aload_n dX12_readSum_29 rfl rfl ?_
          refine J_iload_n dX12_readSum_30 rfl rfl ?_
          refine J_callV (st := []) dX12_readSum_31 cv_X12_219 (k_readTerm_0 ms mv mt mfa mtn z96 lv_5 bd_5 mgo mge mbk mtt mtl hm pm hb sb mfu mdm mla cc va pl (v_49f85faddc q0 i5_2 h98) (v_2b81d1254d h98 h99) q2 i5_0 i5_1 q5 q6 q7 q8 i5_4 i5_5 (v_b6e00daf3f i5_6 h98) rfl hk106 hk107 hk108) rfl rfl rfl (Nat.le_of_ble_eq_true rfl) ⟨(Nat.le_of_ble_eq_true rfl), (Nat.le_of_ble_eq_true rfl)⟩ ⟨(Nat.le_of_ble_eq_true rfl), (Nat.le_of_ble_eq_true rfl)⟩ (fun r h9 hp => ?_)
          rcases hp with ⟨z105, z106, z107, rfl, rfl, h108, h109, h110, h111, h112, h113, h114⟩ | ⟨z115, z116, z117, rfl, rfl, h118, h119, h120, h121, h122, h123⟩
          · refine J_nf (nh2 := nh) (ck2 := 0) (sk2 := 0) (st2 := []) rfl rfl rfl rfl ?_
            refine J_app (L3 := [(98, .inr (12, (.int (zI ms) :: .int (zI mv) :: .ref 99 :: .ref 100 :: .ref 101 :: .ref 102 :: .ref 103 :: .ref 104 :: .ref 105 :: .int (zI mt) :: .int (zI mfa) :: .ref 106 :: .ref 107 :: .ref 108 :: .int (zI mtn) :: .int (zI z105) :: .int (zI z106) :: .int (zI z107) :: .int (zI mgo) :: .int (zI mge) :: .int (zI mbk) :: .ref 109 :: .int (zI mtt) :: .int (zI mtl) :: .ref 110 :: .ref 111 :: .ref 112 :: .ref 113 :: .ref 114 :: .ref 115 :: .ref 116 :: .ref 117 :: .int (zI hm) :: .int (zI pm) :: .int (zI hb) :: .int (zI sb) :: .ref 118 :: .ref 119 :: .ref 120 :: .ref 121 :: .ref 122 :: .ref 123 :: .ref 124 :: .ref 125 :: .ref 126 :: .ref 127 :: .ref 128 :: .ref 129 :: .int (zI mfu) :: .ref 130 :: .ref 131 :: .ref 132 :: .ref 133 :: .ref 134 :: .int (zI mdm) :: .int (zI mla) :: []))), (98, .inr (12, (.int (zI ms) :: .int (zI mv) :: .ref 99 :: .ref 100 :: .ref 101 :: .ref 102 :: .ref 103 :: .ref 104 :: .ref 105 :: .int (zI mt) :: .int (zI mfa) :: .ref 106 :: .ref 107 :: .ref 108 :: .int (zI mtn) :: .int (zI z96) :: .int (zI lv_5) :: .int (zI bd_5) :: .int (zI mgo) :: .int (zI mge) :: .int (zI mbk) :: .ref 109 :: .int (zI mtt) :: .int (zI mtl) :: .ref 110 :: .ref 111 :: .ref 112 :: .ref 113 :: .ref 114 :: .ref 115 :: .ref 116 :: .ref 117 :: .int (zI hm) :: .int (zI pm) :: .int (zI hb) :: .int (zI sb) :: .ref 118 :: .ref 119 :: .ref 120 :: .ref 121 :: .ref 122 :: .ref 123 :: .ref 124 :: .ref 125 :: .ref 126 :: .ref 127 :: .ref 128 :: .ref 129 :: .int (zI mfu) :: .ref 130 :: .ref 131 :: .ref 132 :: .ref 133 :: .ref 134 :: .int (zI mdm) :: .int (zI mla) :: [])))]) rfl ?_
            refine J_mask (L2 := [(98, .inr (12, (.int (zI ms) :: .int (zI mv) :: .ref 99 :: .ref 100 :: .ref 101 :: .ref 102 :: .ref 103 :: .ref 104 :: .ref 105 :: .int (zI mt) :: .int (zI mfa) :: .ref 106 :: .ref 107 :: .ref 108 :: .int (zI mtn) :: .int (zI z105) :: .int (zI z106) :: .int (zI z107) :: .int (zI mgo) :: .int (zI mge) :: .int (zI mbk) :: .ref 109 :: .int (zI mtt) :: .int (zI mtl) :: .ref 110 :: .ref 111 :: .ref 112 :: .ref 113 :: .ref 114 :: .ref 115 :: .ref 116 :: .ref 117 :: .int (zI hm) :: .int (zI pm) :: .int (zI hb) :: .int (zI sb) :: .ref 118 :: .ref 119 :: .ref 120 :: .ref 121 :: .ref 122 :: .ref 123 :: .ref 124 :: .ref 125 :: .ref 126 :: .ref 127 :: .ref 128 :: .ref 129 :: .int (zI mfu) :: .ref 130 :: .ref 131 :: .ref 132 :: .ref 133 :: .ref 134 :: .int (zI mdm) :: .int (zI mla) :: [])))]) (ks := [98, 98]) [true, false] rfl (by decide +kernel) rfl ?_
            refine J_goto (tgt := 5) dX12_readSum_34 (by decide) ?_
            exact ih5 z105 z106 z107 (v_bc0c2646ae h108) (v_a6725f25e8 h108) (v_9e8572ccbd i5_2 h98 h110) h111 h113 (v_778db8d1be q2 h111 h114) (v_cb9e70f6f7 h108 h114) (fun _ => ⟨ChP.add (i5_7 (v_1022695464 i5_0 h97)).1 (.inl (by rw [h100]; exact (v_b4c0db470d h95))) h112 (v_b9aca61388 h110) (v_d34386dce5 h98), (by have u := (i5_7 (v_1022695464 i5_0 h97)).2.1; have w := (v_2e78a692fc h98 h110); omega), (i5_7 (v_1022695464 i5_0 h97)).2.2⟩) (meas_lt (v_64faee003a h98 h110) (v_3cd32163cd h99) hm5)
          · refine J_nf (nh2 := nh) (ck2 := 0) (sk2 := 0) (st2 := []) rfl rfl rfl rfl ?_
            refine J_app (L3 := [(98, .inr (12, (.int (zI ms) :: .int (zI mv) :: .ref 99 :: .ref 100 :: .ref 101 :: .ref 102 :: .ref 103 :: .ref 104 :: .ref 105 :: .int (zI mt) :: .int (zI mfa) :: .ref 106 :: .ref 107 :: .ref 108 :: .int (zI mtn) :: .int (zI z115) :: .int (zI z116) :: .int (zI z117) :: .int (zI mgo) :: .int (zI mge) :: .int (zI mbk) :: .ref 109 :: .int (zI mtt) :: .int (zI mtl) :: .ref 110 :: .ref 111 :: .ref 112 :: .ref 113 :: .ref 114 :: .ref 115 :: .ref 116 :: .ref 117 :: .int (zI hm) :: .int (zI pm) :: .int (zI hb) :: .int (zI sb) :: .ref 118 :: .ref 119 :: .ref 120 :: .ref 121 :: .ref 122 :: .ref 123 :: .ref 124 :: .ref 125 :: .ref 126 :: .ref 127 :: .ref 128 :: .ref 129 :: .int (zI mfu) :: .ref 130 :: .ref 131 :: .ref 132 :: .ref 133 :: .ref 134 :: .int (zI mdm) :: .int (zI mla) :: []))), (98, .inr (12, (.int (zI ms) :: .int (zI mv) :: .ref 99 :: .ref 100 :: .ref 101 :: .ref 102 :: .ref 103 :: .ref 104 :: .ref 105 :: .int (zI mt) :: .int (zI mfa) :: .ref 106 :: .ref 107 :: .ref 108 :: .int (zI mtn) :: .int (zI z96) :: .int (zI lv_5) :: .int (zI bd_5) :: .int (zI mgo) :: .int (zI mge) :: .int (zI mbk) :: .ref 109 :: .int (zI mtt) :: .int (zI mtl) :: .ref 110 :: .ref 111 :: .ref 112 :: .ref 113 :: .ref 114 :: .ref 115 :: .ref 116 :: .ref 117 :: .int (zI hm) :: .int (zI pm) :: .int (zI hb) :: .int (zI sb) :: .ref 118 :: .ref 119 :: .ref 120 :: .ref 121 :: .ref 122 :: .ref 123 :: .ref 124 :: .ref 125 :: .ref 126 :: .ref 127 :: .ref 128 :: .ref 129 :: .int (zI mfu) :: .ref 130 :: .ref 131 :: .ref 132 :: .ref 133 :: .ref 134 :: .int (zI mdm) :: .int (zI mla) :: [])))]) rfl ?_
            refine J_mask (L2 := [(98, .inr (12, (.int (zI ms) :: .int (zI mv) :: .ref 99 :: .ref 100 :: .ref 101 :: .ref 102 :: .ref 103 :: .ref 104 :: .ref 105 :: .int (zI mt) :: .int (zI mfa) :: .ref 106 :: .ref 107 :: .ref 108 :: .int (zI mtn) :: .int (zI z115) :: .int (zI z116) :: .int (zI z117) :: .int (zI mgo) :: .int (zI mge) :: .int (zI mbk) :: .ref 109 :: .int (zI mtt) :: .int (zI mtl) :: .ref 110 :: .ref 111 :: .ref 112 :: .ref 113 :: .ref 114 :: .ref 115 :: .ref 116 :: .ref 117 :: .int (zI hm) :: .int (zI pm) :: .int (zI hb) :: .int (zI sb) :: .ref 118 :: .ref 119 :: .ref 120 :: .ref 121 :: .ref 122 :: .ref 123 :: .ref 124 :: .ref 125 :: .ref 126 :: .ref 127 :: .ref 128 :: .ref 129 :: .int (zI mfu) :: .ref 130 :: .ref 131 :: .ref 132 :: .ref 133 :: .ref 134 :: .int (zI mdm) :: .int (zI mla) :: [])))]) (ks := [98, 98]) [true, false] rfl (by decide +kernel) rfl ?_
            refine J_goto (tgt := 5) dX12_readSum_34 (by decide) ?_
            exact ih5 z115 z116 z117 (v_576129c2e8 h118) h119 (v_f9f6ac3c48 i5_2 h98 h120) h121 h122 h123 (v_85f529c18f q0 i5_2 h98 h118 h120 h123) (fun w => absurd w (by have u := (v_2b02420001 h118); omega)) (meas_lt (v_46068e056c h98 h120) (v_3cd32163cd h99) hm5)
        · refine J_nf (nh2 := nh) (ck2 := 0) (sk2 := 0) (st2 := [.int (zI 0)]) rfl rfl rfl rfl ?_
          refine Z_if_ne (tgt := 29) dX12_readSum_14 (by decide) v_b17331891f (fun h124 => absurd h124 (fun q => q v_2ca2bbca1f)) (fun h124 => ?_)
          refine J_aload_n dX12_readSum_17 rfl rfl ?_
          refine Z_bipush (n := 45) dX12_readSum_18 (by decide +kernel) ?_
          refine J_callS (st := [.ref 98]) dX12_readSum_20 cs_X12_215 (k_sign 45 v_8bc5410605 v_46bbb1acae) rfl rfl (Nat.le_of_ble_eq_true rfl) ⟨(Nat.le_of_ble_eq_true rfl), (Nat.le_of_ble_eq_true rfl)⟩ ⟨(Nat.le_of_ble_eq_true rfl), (Nat.le_of_ble_eq_true rfl)⟩ (fun r h9 hp => ?_)
          obtain ⟨z125, rfl, rfl, h126⟩ := hp
          refine J_nf (nh2 := nh) (ck2 := 0) (sk2 := 0) (st2 := [.int (zI z125), .ref 98]) rfl rfl rfl rfl ?_
          refine J_callV (st := []) dX12_readSum_23 cv_X12_190 (k_takes0 z125 ms mv mt mfa mtn tk_5 lv_5 bd_5 mgo mge mbk mtt mtl hm pm hb sb mfu mdm mla cc va pl (v_7673703eeb h126) (v_941794293e h126) (v_21976c7318 q0 i5_2) i5_3 q2 i5_0 i5_1 q5 q6 q7 q8 rfl hk106 hk107 hk108) rfl rfl rfl (Nat.le_of_ble_eq_true rfl) ⟨(Nat.le_of_ble_eq_true rfl), (Nat.le_of_ble_eq_true rfl)⟩ ⟨(Nat.le_of_ble_eq_true rfl), (Nat.le_of_ble_eq_true rfl)⟩ (fun r h9 hp => ?_)
          rcases hp with ⟨z127, rfl, rfl, h128, h129, h130, h131⟩ | ⟨rfl, rfl, h132, h133⟩ | ⟨rfl, rfl, h134⟩
          · refine J_nf (nh2 := nh) (ck2 := 0) (sk2 := 0) (st2 := [.int (zI 1)]) rfl rfl rfl rfl ?_
            refine J_app (L3 := [(98, .inr (12, (.int (zI ms) :: .int (zI mv) :: .ref 99 :: .ref 100 :: .ref 101 :: .ref 102 :: .ref 103 :: .ref 104 :: .ref 105 :: .int (zI mt) :: .int (zI mfa) :: .ref 106 :: .ref 107 :: .ref 108 :: .int (zI mtn) :: .int (zI z127) :: .int (zI lv_5) :: .int (zI bd_5) :: .int (zI mgo) :: .int (zI mge) :: .int (zI mbk) :: .ref 109 :: .int (zI mtt) :: .int (zI mtl) :: .ref 110 :: .ref 111 :: .ref 112 :: .ref 113 :: .ref 114 :: .ref 115 :: .ref 116 :: .ref 117 :: .int (zI hm) :: .int (zI pm) :: .int (zI hb) :: .int (zI sb) :: .ref 118 :: .ref 119 :: .ref 120 :: .ref 121 :: .ref 122 :: .ref 123 :: .ref 124 :: .ref 125 :: .ref 126 :: .ref 127 :: .ref 128 :: .ref 129 :: .int (zI mfu) :: .ref 130 :: .ref 131 :: .ref 132 :: .ref 133 :: .ref 134 :: .int (zI mdm) :: .int (zI mla) :: []))), (98, .inr (12, (.int (zI ms) :: .int (zI mv) :: .ref 99 :: .ref 100 :: .ref 101 :: .ref 102 :: .ref 103 :: .ref 104 :: .ref 105 :: .int (zI mt) :: .int (zI mfa) :: .ref 106 :: .ref 107 :: .ref 108 :: .int (zI mtn) :: .int (zI tk_5) :: .int (zI lv_5) :: .int (zI bd_5) :: .int (zI mgo) :: .int (zI mge) :: .int (zI mbk) :: .ref 109 :: .int (zI mtt) :: .int (zI mtl) :: .ref 110 :: .ref 111 :: .ref 112 :: .ref 113 :: .ref 114 :: .ref 115 :: .ref 116 :: .ref 117 :: .int (zI hm) :: .int (zI pm) :: .int (zI hb) :: .int (zI sb) :: .ref 118 :: .ref 119 :: .ref 120 :: .ref 121 :: .ref 122 :: .ref 123 :: .ref 124 :: .ref 125 :: .ref 126 :: .ref 127 :: .ref 128 :: .ref 129 :: .int (zI mfu) :: .ref 130 :: .ref 131 :: .ref 132 :: .ref 133 :: .ref 134 :: .int (zI mdm) :: .int (zI mla) :: [])))]) rfl ?_
            refine J_mask (L2 := [(98, .inr (12, (.int (zI ms) :: .int (zI mv) :: .ref 99 :: .ref 100 :: .ref 101 :: .ref 102 :: .ref 103 :: .ref 104 :: .ref 105 :: .int (zI mt) :: .int (zI mfa) :: .ref 106 :: .ref 107 :: .ref 108 :: .int (zI mtn) :: .int (zI z127) :: .int (zI lv_5) :: .int (zI bd_5) :: .int (zI mgo) :: .int (zI mge) :: .int (zI mbk) :: .ref 109 :: .int (zI mtt) :: .int (zI mtl) :: .ref 110 :: .ref 111 :: .ref 112 :: .ref 113 :: .ref 114 :: .ref 115 :: .ref 116 :: .ref 117 :: .int (zI hm) :: .int (zI pm) :: .int (zI hb) :: .int (zI sb) :: .ref 118 :: .ref 119 :: .ref 120 :: .ref 121 :: .ref 122 :: .ref 123 :: .ref 124 :: .ref 125 :: .ref 126 :: .ref 127 :: .ref 128 :: .ref 129 :: .int (zI mfu) :: .ref 130 :: .ref 131 :: .ref 132 :: .ref 133 :: .ref 134 :: .int (zI mdm) :: .int (zI mla) :: [])))]) (ks := [98, 98]) [true, false] rfl (by decide +kernel) rfl ?_
            refine Z_if_eq (tgt := 37) dX12_readSum_26 (by decide) v_4dcc24baa7 (fun h135 => absurd h135 v_3a47bfd896) (fun h135 => ?_)
            refine J_aload_n dX12_readSum_29 rfl rfl ?_
            refine J_iload_n dX12_readSum_30 rfl rfl ?_
            refine J_callV (st := []) dX12_readSum_31 cv_X12_219 (k_readTerm_0 ms mv mt mfa mtn z127 lv_5 bd_5 mgo mge mbk mtt mtl hm pm hb sb mfu mdm mla cc va pl (v_49f85faddc q0 i5_2 h129) (v_2b81d1254d h129 h130) q2 i5_0 i5_1 q5 q6 q7 q8 i5_4 i5_5 (v_b6e00daf3f i5_6 h129) rfl hk106 hk107 hk108) rfl rfl rfl (Nat.le_of_ble_eq_true rfl) ⟨(Nat.le_of_ble_eq_true rfl), (Nat.le_of_ble_eq_true rfl)⟩ ⟨(Nat.le_of_ble_eq_true rfl), (Nat.le_of_ble_eq_true rfl)⟩ (fun r h9 hp => ?_)
            rcases hp with ⟨z136, z137, z138, rfl, rfl, h139, h140, h141, h142, h143, h144, h145⟩ | ⟨z146, z147, z148, rfl, rfl, h149, h150, h151, h152, h153, h154⟩
            · refine J_nf (nh2 := nh) (ck2 := 0) (sk2 := 0) (st2 := []) rfl rfl rfl rfl ?_
              refine J_app (L3 := [(98, .inr (12, (.int (zI ms) :: .int (zI mv) :: .ref 99 :: .ref 100 :: .ref 101 :: .ref 102 :: .ref 103 :: .ref 104 :: .ref 105 :: .int (zI mt) :: .int (zI mfa) :: .ref 106 :: .ref 107 :: .ref 108 :: .int (zI mtn) :: .int (zI z136) :: .int (zI z137) :: .int (zI z138) :: .int (zI mgo) :: .int (zI mge) :: .int (zI mbk) :: .ref 109 :: .int (zI mtt) :: .int (zI mtl) :: .ref 110 :: .ref 111 :: .ref 112 :: .ref 113 :: .ref 114 :: .ref 115 :: .ref 116 :: .ref 117 :: .int (zI hm) :: .int (zI pm) :: .int (zI hb) :: .int (zI sb) :: .ref 118 :: .ref 119 :: .ref 120 :: .ref 121 :: .ref 122 :: .ref 123 :: .ref 124 :: .ref 125 :: .ref 126 :: .ref 127 :: .ref 128 :: .ref 129 :: .int (zI mfu) :: .ref 130 :: .ref 131 :: .ref 132 :: .ref 133 :: .ref 134 :: .int (zI mdm) :: .int (zI mla) :: []))), (98, .inr (12, (.int (zI ms) :: .int (zI mv) :: .ref 99 :: .ref 100 :: .ref 101 :: .ref 102 :: .ref 103 :: .ref 104 :: .ref 105 :: .int (zI mt) :: .int (zI mfa) :: .ref 106 :: .ref 107 :: .ref 108 :: .int (zI mtn) :: .int (zI z127) :: .int (zI lv_5) :: .int (zI bd_5) :: .int (zI mgo) :: .int (zI mge) :: .int (zI mbk) :: .ref 109 :: .int (zI mtt) :: .int (zI mtl) :: .ref 110 :: .ref 111 :: .ref 112 :: .ref 113 :: .ref 114 :: .ref 115 :: .ref 116 :: .ref 117 :: .int (zI hm) :: .int (zI pm) :: .int (zI hb) :: .int (zI sb) :: .ref 118 :: .ref 119 :: .ref 120 :: .ref 121 :: .ref 122 :: .ref 123 :: .ref 124 :: .ref 125 :: .ref 126 :: .ref 127 :: .ref 128 :: .ref 129 :: .int (zI mfu) :: .ref 130 :: .ref 131 :: .ref 132 :: .ref 133 :: .ref 134 :: .int (zI mdm) :: .int (zI mla) :: [])))]) rfl ?_
              refine J_mask (L2 := [(98, .inr (12, (.int (zI ms) :: .int (zI mv) :: .ref 99 :: .ref 100 :: .ref 101 :: .ref 102 :: .ref 103 :: .ref 104 :: .ref 105 :: .int (zI mt) :: .int (zI mfa) :: .ref 106 :: .ref 107 :: .ref 108 :: .int (zI mtn) :: .int (zI z136) :: .int (zI z137) :: .int (zI z138) :: .int (zI mgo) :: .int (zI mge) :: .int (zI mbk) :: .ref 109 :: .int (zI mtt) :: .int (zI mtl) :: .ref 110 :: .ref 111 :: .ref 112 :: .ref 113 :: .ref 114 :: .ref 115 :: .ref 116 :: .ref 117 :: .int (zI hm) :: .int (zI pm) :: .int (zI hb) :: .int (zI sb) :: .ref 118 :: .ref 119 :: .ref 120 :: .ref 121 :: .ref 122 :: .ref 123 :: .ref 124 :: .ref 125 :: .ref 126 :: .ref 127 :: .ref 128 :: .ref 129 :: .int (zI mfu) :: .ref 130 :: .ref 131 :: .ref 132 :: .ref 133 :: .ref 134 :: .int (zI mdm) :: .int (zI mla) :: [])))]) (ks := [98, 98]) [true, false] rfl (by decide +kernel) rfl ?_
              refine J_goto (tgt := 5) dX12_readSum_34 (by decide) ?_
              exact ih5 z136 z137 z138 (v_bc0c2646ae h139) (v_a6725f25e8 h139) (v_9e8572ccbd i5_2 h129 h141) h142 h144 (v_778db8d1be q2 h142 h145) (v_cb9e70f6f7 h139 h145) (fun _ => ⟨ChP.add (i5_7 (v_1022695464 i5_0 h101)).1 (.inr (by rw [h131]; exact (v_7912200c83 h126))) h143 (v_b9aca61388 h141) (v_d34386dce5 h129), (by have u := (i5_7 (v_1022695464 i5_0 h101)).2.1; have w := (v_2e78a692fc h129 h141); omega), (i5_7 (v_1022695464 i5_0 h101)).2.2⟩) (meas_lt (v_64faee003a h129 h141) (v_3cd32163cd h130) hm5)
            · refine J_nf (nh2 := nh) (ck2 := 0) (sk2 := 0) (st2 := []) rfl rfl rfl rfl ?_
              refine J_app (L3 := [(98, .inr (12, (.int (zI ms) :: .int (zI mv) :: .ref 99 :: .ref 100 :: .ref 101 :: .ref 102 :: .ref 103 :: .ref 104 :: .ref 105 :: .int (zI mt) :: .int (zI mfa) :: .ref 106 :: .ref 107 :: .ref 108 :: .int (zI mtn) :: .int (zI z146) :: .int (zI z147) :: .int (zI z148) :: .int (zI mgo) :: .int (zI mge) :: .int (zI mbk) :: .ref 109 :: .int (zI mtt) :: .int (zI mtl) :: .ref 110 :: .ref 111 :: .ref 112 :: .ref 113 :: .ref 114 :: .ref 115 :: .ref 116 :: .ref 117 :: .int (zI hm) :: .int (zI pm) :: .int (zI hb) :: .int (zI sb) :: .ref 118 :: .ref 119 :: .ref 120 :: .ref 121 :: .ref 122 :: .ref 123 :: .ref 124 :: .ref 125 :: .ref 126 :: .ref 127 :: .ref 128 :: .ref 129 :: .int (zI mfu) :: .ref 130 :: .ref 131 :: .ref 132 :: .ref 133 :: .ref 134 :: .int (zI mdm) :: .int (zI mla) :: []))), (98, .inr (12, (.int (zI ms) :: .int (zI mv) :: .ref 99 :: .ref 100 :: .ref 101 :: .ref 102 :: .ref 103 :: .ref 104 :: .ref 105 :: .int (zI mt) :: .int (zI mfa) :: .ref 106 :: .ref 107 :: .ref 108 :: .int (zI mtn) :: .int (zI z127) :: .int (zI lv_5) :: .int (zI bd_5) :: .int (zI mgo) :: .int (zI mge) :: .int (zI mbk) :: .ref 109 :: .int (zI mtt) :: .int (zI mtl) :: .ref 110 :: .ref 111 :: .ref 112 :: .ref 113 :: .ref 114 :: .ref 115 :: .ref 116 :: .ref 117 :: .int (zI hm) :: .int (zI pm) :: .int (zI hb) :: .int (zI sb) :: .ref 118 :: .ref 119 :: .ref 120 :: .ref 121 :: .ref 122 :: .ref 123 :: .ref 124 :: .ref 125 :: .ref 126 :: .ref 127 :: .ref 128 :: .ref 129 :: .int (zI mfu) :: .ref 130 :: .ref 131 :: .ref 132 :: .ref 133 :: .ref 134 :: .int (zI mdm) :: .int (zI mla) :: [])))]) rfl ?_
              refine J_mask (L2 := [(98, .inr (12, (.int (zI ms) :: .int (zI mv) :: .ref 99 :: .ref 100 :: .ref 101 :: .ref 102 :: .ref 103 :: .ref 104 :: .ref 105 :: .int (zI mt) :: .int (zI mfa) :: .ref 106 :: .ref 107 :: .ref 108 :: .int (zI mtn) :: .int (zI z146) :: .int (zI z147) :: .int (zI z148) :: .int (zI mgo) :: .int (zI mge) :: .int (zI mbk) :: .ref 109 :: .int (zI mtt) :: .int (zI mtl) :: .ref 110 :: .ref 111 :: .ref 112 :: .ref 113 :: .ref 114 :: .ref 115 :: .ref 116 :: .ref 117 :: .int (zI hm) :: .int (zI pm) :: .int (zI hb) :: .int (zI sb) :: .ref 118 :: .ref 119 :: .ref 120 :: .ref 121 :: .ref 122 :: .ref 123 :: .ref 124 :: .ref 125 :: .ref 126 :: .ref 127 :: .ref 128 :: .ref 129 :: .int (zI mfu) :: .ref 130 :: .ref 131 :: .ref 132 :: .ref 133 :: .ref 134 :: .int (zI mdm) :: .int (zI mla) :: [])))]) (ks := [98, 98]) [true, false] rfl (by decide +kernel) rfl ?_
              refine J_goto (tgt := 5) dX12_readSum_34 (by decide) ?_
              exact ih5 z146 z147 z148 (v_576129c2e8 h149) h150 (v_f9f6ac3c48 i5_2 h129 h151) h152 h153 h154 (v_85f529c18f q0 i5_2 h129 h149 h151 h154) (fun w => absurd w (by have u := (v_2b02420001 h149); omega)) (meas_lt (v_46068e056c h129 h151) (v_3cd32163cd h130) hm5)
          · refine J_nf (nh2 := nh) (ck2 := 0) (sk2 := 0) (st2 := [.int (zI 0)]) rfl rfl rfl rfl ?_
            refine Z_if_eq (tgt := 37) dX12_readSum_26 (by decide) v_b17331891f (fun h155 => ?_) (fun h155 => absurd h155 (fun q => q v_2ca2bbca1f))
            have gx := i5_7 (v_1022695464 i5_0 h101)
            exact J_vret dX12_readSum_37 rfl (Nat.le_of_ble_eq_true rfl) (Nat.le_of_ble_eq_true rfl) (Or.inl ⟨tk_5, lv_5, bd_5, rfl, rfl, h132, gx.2.2, gx.2.1, i5_3, (ChP.end gx.1 (fun w => by have u0 := h102; have u1 := h133; have u2 := h95; have u3 := h126; rcases w with w | w <;> omega)), i5_4, (v_0471d920d5 i5_6 h101)⟩)
          · exact False.elim (v_221c0ce955 h101 h134)
        · refine J_nf (nh2 := nh) (ck2 := 0) (sk2 := 0) (st2 := [.int (zI 0)]) rfl rfl rfl rfl ?_
          refine Z_if_ne (tgt := 29) dX12_readSum_14 (by decide) v_b17331891f (fun h156 => absurd h156 (fun q => q v_2ca2bbca1f)) (fun h156 => ?_)
          refine J_aload_n dX12_readSum_17 rfl rfl ?_
          refine Z_bipush (n := 45) dX12_readSum_18 (by decide +kernel) ?_
          refine J_callS (st := [.ref 98]) dX12_readSum_20 cs_X12_215 (k_sign 45 v_8bc5410605 v_46bbb1acae) rfl rfl (Nat.le_of_ble_eq_true rfl) ⟨(Nat.le_of_ble_eq_true rfl), (Nat.le_of_ble_eq_true rfl)⟩ ⟨(Nat.le_of_ble_eq_true rfl), (Nat.le_of_ble_eq_true rfl)⟩ (fun r h9 hp => ?_)
          obtain ⟨z157, rfl, rfl, h158⟩ := hp
          refine J_nf (nh2 := nh) (ck2 := 0) (sk2 := 0) (st2 := [.int (zI z157), .ref 98]) rfl rfl rfl rfl ?_
          refine J_callV (st := []) dX12_readSum_23 cv_X12_190 (k_takes0 z157 ms mv mt mfa mtn tk_5 lv_5 bd_5 mgo mge mbk mtt mtl hm pm hb sb mfu mdm mla cc va pl (v_7673703eeb h158) (v_941794293e h158) (v_21976c7318 q0 i5_2) i5_3 q2 i5_0 i5_1 q5 q6 q7 q8 rfl hk106 hk107 hk108) rfl rfl rfl (Nat.le_of_ble_eq_true rfl) ⟨(Nat.le_of_ble_eq_true rfl), (Nat.le_of_ble_eq_true rfl)⟩ ⟨(Nat.le_of_ble_eq_true rfl), (Nat.le_of_ble_eq_true rfl)⟩ (fun r h9 hp => ?_)
          rcases hp with ⟨z159, rfl, rfl, h160, h161, h162, h163⟩ | ⟨rfl, rfl, h164, h165⟩ | ⟨rfl, rfl, h166⟩
          · exact False.elim (v_a2a49c9ec0 h103 h160)
          · exact False.elim (v_a2a49c9ec0 h103 h164)
          · refine J_nf (nh2 := nh) (ck2 := 0) (sk2 := 0) (st2 := [.int (zI 0)]) rfl rfl rfl rfl ?_
            refine Z_if_eq (tgt := 37) dX12_readSum_26 (by decide) v_b17331891f (fun h167 => ?_) (fun h167 => absurd h167 (fun q => q v_2ca2bbca1f))
            exact J_vret dX12_readSum_37 rfl (Nat.le_of_ble_eq_true rfl) (Nat.le_of_ble_eq_true rfl) (Or.inr ⟨tk_5, lv_5, bd_5, rfl, rfl, h166, i5_1, i5_2, i5_3, i5_4, i5_5⟩)
    exact lp5 _ z11 z12 z13 (v_576129c2e8 h14) h15 h16 h17 h18 h19 (v_53027a106b q0 h14 h16 h19) (fun w => absurd w (by have u := (v_2b02420001 h14); omega)) (Nat.lt_succ_self _)
set_option maxHeartbeats 4000000 in
set_option maxRecDepth 100000 in
theorem k_readPart_1 {l : Launch} {G : jG} {nh : Nat} {fh : Nat → Option va_E} (ms : Int) (mv : Int) (mt : Int) (mfa : Int) (mtn : Int) (mtk : Int) (mlv : Int) (mbd : Int) (mgo : Int) (mge : Int) (mbk : Int) (mtt : Int) (mtl : Int) (hm : Int) (pm : Int) (hb : Int) (sb : Int) (mfu : Int) (mdm : Int) (mla : Int) (cc : Int → Int) (va : Int → Int) (pl : Int → Int) (q0 : 0 ≤ mtk) (q1 : mtk ≤ mtn) (q2 : mtn ≤ 400) (q3 : -1 ≤ mbd) (q4 : mbd ≤ 400) (q5 : Rg cc 401 (-2147483648) 2147483647) (q6 : cc mtn = 0) (q7 : Rg pl 401 0 400) (q8 : Rg va 401 (-2147483648) 2147483647) (q9 : 0 ≤ mlv) (q10 : mlv ≤ 402) (q11 : mlv ≤ mtk + 1000 * mbd + 1000) (hk98 : fh 98 = some (.inr (12, (.int (zI ms) :: .int (zI mv) :: .ref 99 :: .ref 100 :: .ref 101 :: .ref 102 :: .ref 103 :: .ref 104 :: .ref 105 :: .int (zI mt) :: .int (zI mfa) :: .ref 106 :: .ref 107 :: .ref 108 :: .int (zI mtn) :: .int (zI mtk) :: .int (zI mlv) :: .int (zI mbd) :: .int (zI mgo) :: .int (zI mge) :: .int (zI mbk) :: .ref 109 :: .int (zI mtt) :: .int (zI mtl) :: .ref 110 :: .ref 111 :: .ref 112 :: .ref 113 :: .ref 114 :: .ref 115 :: .ref 116 :: .ref 117 :: .int (zI hm) :: .int (zI pm) :: .int (zI hb) :: .int (zI sb) :: .ref 118 :: .ref 119 :: .ref 120 :: .ref 121 :: .ref 122 :: .ref 123 :: .ref 124 :: .ref 125 :: .ref 126 :: .ref 127 :: .ref 128 :: .ref 129 :: .int (zI mfu) :: .ref 130 :: .ref 131 :: .ref 132 :: .ref 133 :: .ref 134 :: .int (zI mdm) :: .int (zI mla) :: [])))) (hk106 : fh 106 = some (.inl (0, 401, .inl (zA cc)))) (hk107 : fh 107 = some (.inl (0, 401, .inl (zA va)))) (hk108 : fh 108 = some (.inl (0, 401, .inl (zA pl)))) : JM l G yX12_readPart MX12_readPart { frames := 6, cells := 0, slots := 0, locals := 124 } [.ref 98, .int (zI 7)] (nh, fh) (fun rr h9 => (∃ tk2 : Int, ∃ lv2 : Int, ∃ bd2 : Int, rr = none ∧ h9 = (nh, hc fh [(98, .inr (12, (.int (zI ms) :: .int (zI mv) :: .ref 99 :: .ref 100 :: .ref 101 :: .ref 102 :: .ref 103 :: .ref 104 :: .ref 105 :: .int (zI mt) :: .int (zI mfa) :: .ref 106 :: .ref 107 :: .ref 108 :: .int (zI mtn) :: .int (zI tk2) :: .int (zI lv2) :: .int (zI bd2) :: .int (zI mgo) :: .int (zI mge) :: .int (zI mbk) :: .ref 109 :: .int (zI mtt) :: .int (zI mtl) :: .ref 110 :: .ref 111 :: .ref 112 :: .ref 113 :: .ref 114 :: .ref 115 :: .ref 116 :: .ref 117 :: .int (zI hm) :: .int (zI pm) :: .int (zI hb) :: .int (zI sb) :: .ref 118 :: .ref 119 :: .ref 120 :: .ref 121 :: .ref 122 :: .ref 123 :: .ref 124 :: .ref 125 :: .ref 126 :: .ref 127 :: .ref 128 :: .ref 129 :: .int (zI mfu) :: .ref 130 :: .ref 131 :: .ref 132 :: .ref 133 :: .ref 134 :: .int (zI mdm) :: .int (zI mla) :: [])))]) ∧ (bd2 = -1) ∧ (mbd = -1) ∧ (mtk < tk2) ∧ (tk2 ≤ mtn) ∧ (PartG (Cc cc mtn) 1 mtk tk2) ∧ (0 ≤ lv2) ∧ (lv2 ≤ tk2)) ∨ (∃ tk2 : Int, ∃ lv2 : Int, ∃ bd2 : Int, rr = none ∧ h9 = (nh, hc fh [(98, .inr (12, (.int (zI ms) :: .int (zI mv) :: .ref 99 :: .ref 100 :: .ref 101 :: .ref 102 :: .ref 103 :: .ref 104 :: .ref 105 :: .int (zI mt) :: .int (zI mfa) :: .ref 106 :: .ref 107 :: .ref 108 :: .int (zI mtn) :: .int (zI tk2) :: .int (zI lv2) :: .int (zI bd2) :: .int (zI mgo) :: .int (zI mge) :: .int (zI mbk) :: .ref 109 :: .int (zI mtt) :: .int (zI mtl) :: .ref 110 :: .ref 111 :: .ref 112 :: .ref 113 :: .ref 114 :: .ref 115 :: .ref 116 :: .ref 117 :: .int (zI hm) :: .int (zI pm) :: .int (zI hb) :: .int (zI sb) :: .ref 118 :: .ref 119 :: .ref 120 :: .ref 121 :: .ref 122 :: .ref 123 :: .ref 124 :: .ref 125 :: .ref 126 :: .ref 127 :: .ref 128 :: .ref 129 :: .int (zI mfu) :: .ref 130 :: .ref 131 :: .ref 132 :: .ref 133 :: .ref 134 :: .int (zI mdm) :: .int (zI mla) :: [])))]) ∧ (0 ≤ bd2) ∧ (bd2 ≤ 400) ∧ (mtk ≤ tk2) ∧ (tk2 ≤ mtn) ∧ (0 ≤ lv2) ∧ (lv2 ≤ 402))) := by
  refine JM.of (by decide) rfl (fun h => by cases h) (Nat.le_of_ble_eq_true rfl) ⟨1, rfl⟩ ?_
  refine J_hc0 (J_ls (ls2 := [some (.ref 98), some (.int (zI 7)), none]) rfl ?_)
  refine J_aload_n dX12_readPart_0 rfl rfl ?_
  refine J_callV (st := []) dX12_readPart_1 cv_X12_183 (k_fine ms mv mt mfa mtn mtk mlv mbd mgo mge mbk mtt mtl hm pm hb sb mfu mdm mla q3 q4 hk98) hk98 rfl rfl (Nat.le_of_ble_eq_true rfl) ⟨(Nat.le_of_ble_eq_true rfl), (Nat.le_of_ble_eq_true rfl)⟩ ⟨(Nat.le_of_ble_eq_true rfl), (Nat.le_of_ble_eq_true rfl)⟩ (fun r h9 hp => ?_)
  rcases hp with ⟨rfl, rfl, h1⟩ | ⟨rfl, rfl, h2⟩
  · refine J_nf (nh2 := nh) (ck2 := 0) (sk2 := 0) (st2 := [.int (zI 1)]) rfl rfl rfl rfl ?_
    refine Z_if_ne (tgt := 8) dX12_readPart_4 (by decide) v_4dcc24baa7 (fun h3 => ?_) (fun h3 => absurd h3 v_3a47bfd896)
    refine J_aload_n dX12_readPart_8 rfl rfl ?_
    refine J_get (v := .ref 106) dX12_readPart_9 fl_X12_43 hk98 rfl ?_
    refine J_aload_n dX12_readPart_12 rfl rfl ?_
    refine J_get (v := .int (zI mtk)) dX12_readPart_13 fl_X12_187 hk98 rfl ?_
    obtain ⟨z4, ez4⟩ : ∃ z : Int, cc mtk = z := ⟨_, rfl⟩
    have h5 := Rg.at q5 (v_2b02420001 q0) (v_5bf06d1e5f q1 q2) ez4
    refine Y_iald (z := z4) 401 dX12_readPart_16 hk106 rfl (by decide) (v_2b02420001 q0) (v_5bf06d1e5f q1 q2) ez4 ?_
    have g6 : Cc cc mtn mtk = z4 := Cc_at (v_2b02420001 q0) (v_d464d4c634 q1) q6 ez4
    refine J_istore_n dX12_readPart_17 rfl (Nat.le_of_ble_eq_true rfl) rfl ?_
    refine J_ls (ls2 := [some (.ref 98), some (.int (zI 7)), some (.int (zI z4))]) rfl ?_
    refine J_iload_n dX12_readPart_18 rfl rfl ?_
    refine Z_bipush (n := 91) dX12_readPart_19 (by decide +kernel) ?_
    refine J_callS (st := [.int (zI z4)]) dX12_readPart_21 cs_X12_215 (k_sign 91 v_df2cb83190 v_d563f19a9d) rfl rfl (Nat.le_of_ble_eq_true rfl) ⟨(Nat.le_of_ble_eq_true rfl), (Nat.le_of_ble_eq_true rfl)⟩ ⟨(Nat.le_of_ble_eq_true rfl), (Nat.le_of_ble_eq_true rfl)⟩ (fun r h9 hp => ?_)
    obtain ⟨z7, rfl, rfl, h8⟩ := hp
    refine J_nf (nh2 := nh) (ck2 := 0) (sk2 := 0) (st2 := [.int (zI z7), .int (zI z4)]) rfl rfl rfl rfl ?_
    refine Z_icmp_ne (tgt := 74) dX12_readPart_24 (by decide) (v_f306e1cdb8 h5.1 h5.2) (v_7465453b16 h8) (fun h9 => ?_) (fun h9 => ?_)
    · refine J_iload_n dX12_readPart_74 rfl rfl ?_
      refine Z_bipush (n := 50) dX12_readPart_75 (by decide +kernel) ?_
      refine Z_icmp_ne (tgt := 95) dX12_readPart_77 (by decide) (v_f306e1cdb8 h5.1 h5.2) v_e1e0ea2c24 (fun h10 => ?_) (fun h10 => ?_)
      · refine J_iload_n dX12_readPart_95 rfl rfl ?_
        refine Z_bipush (n := 8) dX12_readPart_96 (by decide +kernel) ?_
        refine Z_icmp_lt (tgt := 114) dX12_readPart_98 (by decide) (v_f306e1cdb8 h5.1 h5.2) v_665891e294 (fun h11 => ?_) (fun h11 => ?_)
        · refine J_aload_n dX12_readPart_114 rfl rfl ?_
          refine J_callV (st := []) dX12_readPart_115 cv_X12_193 (k_faults ms mv mt mfa mtn mtk mlv mbd mgo mge mbk mtt mtl hm pm hb sb mfu mdm mla cc va pl q0 q1 q2 q3 q4 q5 q6 q7 q8 hk98 hk106 hk107 hk108) hk98 rfl rfl (Nat.le_of_ble_eq_true rfl) ⟨(Nat.le_of_ble_eq_true rfl), (Nat.le_of_ble_eq_true rfl)⟩ ⟨(Nat.le_of_ble_eq_true rfl), (Nat.le_of_ble_eq_true rfl)⟩ (fun r h9 hp => ?_)
          obtain ⟨z12, rfl, rfl, h13, h14⟩ := hp
          refine J_nf (nh2 := nh) (ck2 := 0) (sk2 := 0) (st2 := []) rfl rfl rfl rfl ?_
          refine J_app (L3 := [(98, .inr (12, (.int (zI ms) :: .int (zI mv) :: .ref 99 :: .ref 100 :: .ref 101 :: .ref 102 :: .ref 103 :: .ref 104 :: .ref 105 :: .int (zI mt) :: .int (zI mfa) :: .ref 106 :: .ref 107 :: .ref 108 :: .int (zI mtn) :: .int (zI mtk) :: .int (zI mlv) :: .int (zI z12) :: .int (zI mgo) :: .int (zI mge) :: .int (zI mbk) :: .ref 109 :: .int (zI mtt) :: .int (zI mtl) :: .ref 110 :: .ref 111 :: .ref 112 :: .ref 113 :: .ref 114 :: .ref 115 :: .ref 116 :: .ref 117 :: .int (zI hm) :: .int (zI pm) :: .int (zI hb) :: .int (zI sb) :: .ref 118 :: .ref 119 :: .ref 120 :: .ref 121 :: .ref 122 :: .ref 123 :: .ref 124 :: .ref 125 :: .ref 126 :: .ref 127 :: .ref 128 :: .ref 129 :: .int (zI mfu) :: .ref 130 :: .ref 131 :: .ref 132 :: .ref 133 :: .ref 134 :: .int (zI mdm) :: .int (zI mla) :: [])))]) rfl ?_
          exact J_vret dX12_readPart_118 rfl (Nat.le_of_ble_eq_true rfl) (Nat.le_of_ble_eq_true rfl) (Or.inr ⟨mtk, mlv, z12, rfl, rfl, h13, h14, v_0065452639, q1, q9, q10⟩)
        · refine J_iload_n dX12_readPart_101 rfl rfl ?_
          refine Z_bipush (n := 15) dX12_readPart_102 (by decide +kernel) ?_
          refine Z_icmp_gt (tgt := 114) dX12_readPart_104 (by decide) (v_0a3e555e5b h5.2 h11) v_a632db44ba (fun h15 => ?_) (fun h15 => ?_)
          · refine J_aload_n dX12_readPart_114 rfl rfl ?_
            refine J_callV (st := []) dX12_readPart_115 cv_X12_193 (k_faults ms mv mt mfa mtn mtk mlv mbd mgo mge mbk mtt mtl hm pm hb sb mfu mdm mla cc va pl q0 q1 q2 q3 q4 q5 q6 q7 q8 hk98 hk106 hk107 hk108) hk98 rfl rfl (Nat.le_of_ble_eq_true rfl) ⟨(Nat.le_of_ble_eq_true rfl), (Nat.le_of_ble_eq_true rfl)⟩ ⟨(Nat.le_of_ble_eq_true rfl), (Nat.le_of_ble_eq_true rfl)⟩ (fun r h9 hp => ?_)
            obtain ⟨z16, rfl, rfl, h17, h18⟩ := hp
            refine J_nf (nh2 := nh) (ck2 := 0) (sk2 := 0) (st2 := []) rfl rfl rfl rfl ?_
            refine J_app (L3 := [(98, .inr (12, (.int (zI ms) :: .int (zI mv) :: .ref 99 :: .ref 100 :: .ref 101 :: .ref 102 :: .ref 103 :: .ref 104 :: .ref 105 :: .int (zI mt) :: .int (zI mfa) :: .ref 106 :: .ref 107 :: .ref 108 :: .int (zI mtn) :: .int (zI mtk) :: .int (zI mlv) :: .int (zI z16) :: .int (zI mgo) :: .int (zI mge) :: .int (zI mbk) :: .ref 109 :: .int (zI mtt) :: .int (zI mtl) :: .ref 110 :: .ref 111 :: .ref 112 :: .ref 113 :: .ref 114 :: .ref 115 :: .ref 116 :: .ref 117 :: .int (zI hm) :: .int (zI pm) :: .int (zI hb) :: .int (zI sb) :: .ref 118 :: .ref 119 :: .ref 120 :: .ref 121 :: .ref 122 :: .ref 123 :: .ref 124 :: .ref 125 :: .ref 126 :: .ref 127 :: .ref 128 :: .ref 129 :: .int (zI mfu) :: .ref 130 :: .ref 131 :: .ref 132 :: .ref 133 :: .ref 134 :: .int (zI mdm) :: .int (zI mla) :: [])))]) rfl ?_
            exact J_vret dX12_readPart_118 rfl (Nat.le_of_ble_eq_true rfl) (Nat.le_of_ble_eq_true rfl) (Or.inr ⟨mtk, mlv, z16, rfl, rfl, h17, h18, v_0065452639, q1, q9, q10⟩)
          · have g19 : mtk < mtn := Cc_lt g6 (v_a8c2b63a84 h11)
            refine J_aload_n dX12_readPart_107 rfl rfl ?_
            refine J_callV (st := []) dX12_readPart_108 cv_X12_225 (k_leaf ms mv mt mfa mtn mtk mlv mbd mgo mge mbk mtt mtl hm pm hb sb mfu mdm mla cc va pl q0 q1 q2 q3 q4 q5 q6 q7 q8 h1 g19 q9 (v_e190598c65 q2 q11 h1 g19) hk98 hk106 hk107 hk108) hk98 rfl rfl (Nat.le_of_ble_eq_true rfl) ⟨(Nat.le_of_ble_eq_true rfl), (Nat.le_of_ble_eq_true rfl)⟩ ⟨(Nat.le_of_ble_eq_true rfl), (Nat.le_of_ble_eq_true rfl)⟩ (fun r h9 hp => ?_)
            rcases hp with ⟨z20, z21, z22, rfl, rfl, h23, h24, h25⟩ | ⟨z26, z27, z28, rfl, rfl, h29, h30, h31, h32⟩
            · refine J_nf (nh2 := nh) (ck2 := 0) (sk2 := 0) (st2 := []) rfl rfl rfl rfl ?_
              refine J_app (L3 := [(98, .inr (12, (.int (zI ms) :: .int (zI mv) :: .ref 99 :: .ref 100 :: .ref 101 :: .ref 102 :: .ref 103 :: .ref 104 :: .ref 105 :: .int (zI mt) :: .int (zI mfa) :: .ref 106 :: .ref 107 :: .ref 108 :: .int (zI mtn) :: .int (zI z20) :: .int (zI z21) :: .int (zI z22) :: .int (zI mgo) :: .int (zI mge) :: .int (zI mbk) :: .ref 109 :: .int (zI mtt) :: .int (zI mtl) :: .ref 110 :: .ref 111 :: .ref 112 :: .ref 113 :: .ref 114 :: .ref 115 :: .ref 116 :: .ref 117 :: .int (zI hm) :: .int (zI pm) :: .int (zI hb) :: .int (zI sb) :: .ref 118 :: .ref 119 :: .ref 120 :: .ref 121 :: .ref 122 :: .ref 123 :: .ref 124 :: .ref 125 :: .ref 126 :: .ref 127 :: .ref 128 :: .ref 129 :: .int (zI mfu) :: .ref 130 :: .ref 131 :: .ref 132 :: .ref 133 :: .ref 134 :: .int (zI mdm) :: .int (zI mla) :: [])))]) rfl ?_
              refine J_goto (tgt := 118) dX12_readPart_111 (by decide) ?_
              exact J_vret dX12_readPart_118 rfl (Nat.le_of_ble_eq_true rfl) (Nat.le_of_ble_eq_true rfl) (Or.inl ⟨z20, z21, z22, rfl, rfl, h23, h1, (v_71890b841f h24), (v_e8af0b4480 g19 h24), (PartG.lf (LfG.mk g6 (.inr ⟨(v_1fd7a756fc h11), (v_df5a905ab2 h15)⟩) (v_d34386dce5 h24))), (v_83b3f1d41d q9 h25), (v_d104ce6a3a q11 h1 h24 h25)⟩)
            · refine J_nf (nh2 := nh) (ck2 := 0) (sk2 := 0) (st2 := []) rfl rfl rfl rfl ?_
              refine J_app (L3 := [(98, .inr (12, (.int (zI ms) :: .int (zI mv) :: .ref 99 :: .ref 100 :: .ref 101 :: .ref 102 :: .ref 103 :: .ref 104 :: .ref 105 :: .int (zI mt) :: .int (zI mfa) :: .ref 106 :: .ref 107 :: .ref 108 :: .int (zI mtn) :: .int (zI z26) :: .int (zI z27) :: .int (zI z28) :: .int (zI mgo) :: .int (zI mge) :: .int (zI mbk) :: .ref 109 :: .int (zI mtt) :: .int (zI mtl) :: .ref 110 :: .ref 111 :: .ref 112 :: .ref 113 :: .ref 114 :: .ref 115 :: .ref 116 :: .ref 117 :: .int (zI hm) :: .int (zI pm) :: .int (zI hb) :: .int (zI sb) :: .ref 118 :: .ref 119 :: .ref 120 :: .ref 121 :: .ref 122 :: .ref 123 :: .ref 124 :: .ref 125 :: .ref 126 :: .ref 127 :: .ref 128 :: .ref 129 :: .int (zI mfu) :: .ref 130 :: .ref 131 :: .ref 132 :: .ref 133 :: .ref 134 :: .int (zI mdm) :: .int (zI mla) :: [])))]) rfl ?_
              refine J_goto (tgt := 118) dX12_readPart_111 (by decide) ?_
              exact J_vret dX12_readPart_118 rfl (Nat.le_of_ble_eq_true rfl) (Nat.le_of_ble_eq_true rfl) (Or.inr ⟨z26, z27, z28, rfl, rfl, h29, h30, (v_21e3c34460 h31), (v_0f86b4f4eb g19 h31), (v_83b3f1d41d q9 h32), (v_b2ebba5f83 q2 q11 h1 g19 h32)⟩)
      · refine J_aload_n dX12_readPart_80 rfl rfl ?_
        refine J_get (v := .ref 107) dX12_readPart_81 fl_X12_46 hk98 rfl ?_
        refine J_aload_n dX12_readPart_84 rfl rfl ?_
        refine J_get (v := .int (zI mtk)) dX12_readPart_85 fl_X12_187 hk98 rfl ?_
        obtain ⟨z33, ez33⟩ : ∃ z : Int, va mtk = z := ⟨_, rfl⟩
        have h34 := Rg.at q8 (v_2b02420001 q0) (v_5bf06d1e5f q1 q2) ez33
        refine Y_iald (z := z33) 401 dX12_readPart_88 hk107 rfl (by decide) (v_2b02420001 q0) (v_5bf06d1e5f q1 q2) ez33 ?_
        refine Z_sipush (n := 1000) dX12_readPart_89 (by decide +kernel) ?_
        refine Z_icmp_le (tgt := 107) dX12_readPart_92 (by decide) (v_f306e1cdb8 h34.1 h34.2) v_822edaa202 (fun h35 => ?_) (fun h35 => ?_)
        · have g36 : mtk < mtn := Cc_lt g6 (v_bdf8547ff0 h10)
          refine J_aload_n dX12_readPart_107 rfl rfl ?_
          refine J_callV (st := []) dX12_readPart_108 cv_X12_225 (k_leaf ms mv mt mfa mtn mtk mlv mbd mgo mge mbk mtt mtl hm pm hb sb mfu mdm mla cc va pl q0 q1 q2 q3 q4 q5 q6 q7 q8 h1 g36 q9 (v_e190598c65 q2 q11 h1 g36) hk98 hk106 hk107 hk108) hk98 rfl rfl (Nat.le_of_ble_eq_true rfl) ⟨(Nat.le_of_ble_eq_true rfl), (Nat.le_of_ble_eq_true rfl)⟩ ⟨(Nat.le_of_ble_eq_true rfl), (Nat.le_of_ble_eq_true rfl)⟩ (fun r h9 hp => ?_)
          rcases hp with ⟨z37, z38, z39, rfl, rfl, h40, h41, h42⟩ | ⟨z43, z44, z45, rfl, rfl, h46, h47, h48, h49⟩
          · refine J_nf (nh2 := nh) (ck2 := 0) (sk2 := 0) (st2 := []) rfl rfl rfl rfl ?_
            refine J_app (L3 := [(98, .inr (12, (.int (zI ms) :: .int (zI mv) :: .ref 99 :: .ref 100 :: .ref 101 :: .ref 102 :: .ref 103 :: .ref 104 :: .ref 105 :: .int (zI mt) :: .int (zI mfa) :: .ref 106 :: .ref 107 :: .ref 108 :: .int (zI mtn) :: .int (zI z37) :: .int (zI z38) :: .int (zI z39) :: .int (zI mgo) :: .int (zI mge) :: .int (zI mbk) :: .ref 109 :: .int (zI mtt) :: .int (zI mtl) :: .ref 110 :: .ref 111 :: .ref 112 :: .ref 113 :: .ref 114 :: .ref 115 :: .ref 116 :: .ref 117 :: .int (zI hm) :: .int (zI pm) :: .int (zI hb) :: .int (zI sb) :: .ref 118 :: .ref 119 :: .ref 120 :: .ref 121 :: .ref 122 :: .ref 123 :: .ref 124 :: .ref 125 :: .ref 126 :: .ref 127 :: .ref 128 :: .ref 129 :: .int (zI mfu) :: .ref 130 :: .ref 131 :: .ref 132 :: .ref 133 :: .ref 134 :: .int (zI mdm) :: .int (zI mla) :: [])))]) rfl ?_
            refine J_goto (tgt := 118) dX12_readPart_111 (by decide) ?_
            exact J_vret dX12_readPart_118 rfl (Nat.le_of_ble_eq_true rfl) (Nat.le_of_ble_eq_true rfl) (Or.inl ⟨z37, z38, z39, rfl, rfl, h40, h1, (v_71890b841f h41), (v_e8af0b4480 g36 h41), (PartG.lf (LfG.mk g6 (.inl (v_7553af4adb h10)) (v_d34386dce5 h41))), (v_83b3f1d41d q9 h42), (v_d104ce6a3a q11 h1 h41 h42)⟩)
          · refine J_nf (nh2 := nh) (ck2 := 0) (sk2 := 0) (st2 := []) rfl rfl rfl rfl ?_
            refine J_app (L3 := [(98, .inr (12, (.int (zI ms) :: .int (zI mv) :: .ref 99 :: .ref 100 :: .ref 101 :: .ref 102 :: .ref 103 :: .ref 104 :: .ref 105 :: .int (zI mt) :: .int (zI mfa) :: .ref 106 :: .ref 107 :: .ref 108 :: .int (zI mtn) :: .int (zI z43) :: .int (zI z44) :: .int (zI z45) :: .int (zI mgo) :: .int (zI mge) :: .int (zI mbk) :: .ref 109 :: .int (zI mtt) :: .int (zI mtl) :: .ref 110 :: .ref 111 :: .ref 112 :: .ref 113 :: .ref 114 :: .ref 115 :: .ref 116 :: .ref 117 :: .int (zI hm) :: .int (zI pm) :: .int (zI hb) :: .int (zI sb) :: .ref 118 :: .ref 119 :: .ref 120 :: .ref 121 :: .ref 122 :: .ref 123 :: .ref 124 :: .ref 125 :: .ref 126 :: .ref 127 :: .ref 128 :: .ref 129 :: .int (zI mfu) :: .ref 130 :: .ref 131 :: .ref 132 :: .ref 133 :: .ref 134 :: .int (zI mdm) :: .int (zI mla) :: [])))]) rfl ?_
            refine J_goto (tgt := 118) dX12_readPart_111 (by decide) ?_
            exact J_vret dX12_readPart_118 rfl (Nat.le_of_ble_eq_true rfl) (Nat.le_of_ble_eq_true rfl) (Or.inr ⟨z43, z44, z45, rfl, rfl, h46, h47, (v_21e3c34460 h48), (v_0f86b4f4eb g36 h48), (v_83b3f1d41d q9 h49), (v_b2ebba5f83 q2 q11 h1 g36 h49)⟩)
        · refine J_iload_n dX12_readPart_95 rfl rfl ?_
          refine Z_bipush (n := 8) dX12_readPart_96 (by decide +kernel) ?_
          refine Z_icmp_lt (tgt := 114) dX12_readPart_98 (by decide) (v_496602b076 h10) v_665891e294 (fun h50 => absurd h50 (v_b08c1fdfde h10)) (fun h50 => ?_)
          refine J_iload_n dX12_readPart_101 rfl rfl ?_
          refine Z_bipush (n := 15) dX12_readPart_102 (by decide +kernel) ?_
          refine Z_icmp_gt (tgt := 114) dX12_readPart_104 (by decide) (v_496602b076 h10) v_a632db44ba (fun h51 => ?_) (fun h51 => absurd h51 (fun q => q (v_ac03b84f58 h10)))
          refine J_aload_n dX12_readPart_114 rfl rfl ?_
          refine J_callV (st := []) dX12_readPart_115 cv_X12_193 (k_faults ms mv mt mfa mtn mtk mlv mbd mgo mge mbk mtt mtl hm pm hb sb mfu mdm mla cc va pl q0 q1 q2 q3 q4 q5 q6 q7 q8 hk98 hk106 hk107 hk108) hk98 rfl rfl (Nat.le_of_ble_eq_true rfl) ⟨(Nat.le_of_ble_eq_true rfl), (Nat.le_of_ble_eq_true rfl)⟩ ⟨(Nat.le_of_ble_eq_true rfl), (Nat.le_of_ble_eq_true rfl)⟩ (fun r h9 hp => ?_)
          obtain ⟨z52, rfl, rfl, h53, h54⟩ := hp
          refine J_nf (nh2 := nh) (ck2 := 0) (sk2 := 0) (st2 := []) rfl rfl rfl rfl ?_
          refine J_app (L3 := [(98, .inr (12, (.int (zI ms) :: .int (zI mv) :: .ref 99 :: .ref 100 :: .ref 101 :: .ref 102 :: .ref 103 :: .ref 104 :: .ref 105 :: .int (zI mt) :: .int (zI mfa) :: .ref 106 :: .ref 107 :: .ref 108 :: .int (zI mtn) :: .int (zI mtk) :: .int (zI mlv) :: .int (zI z52) :: .int (zI mgo) :: .int (zI mge) :: .int (zI mbk) :: .ref 109 :: .int (zI mtt) :: .int (zI mtl) :: .ref 110 :: .ref 111 :: .ref 112 :: .ref 113 :: .ref 114 :: .ref 115 :: .ref 116 :: .ref 117 :: .int (zI hm) :: .int (zI pm) :: .int (zI hb) :: .int (zI sb) :: .ref 118 :: .ref 119 :: .ref 120 :: .ref 121 :: .ref 122 :: .ref 123 :: .ref 124 :: .ref 125 :: .ref 126 :: .ref 127 :: .ref 128 :: .ref 129 :: .int (zI mfu) :: .ref 130 :: .ref 131 :: .ref 132 :: .ref 133 :: .ref 134 :: .int (zI mdm) :: .int (zI mla) :: [])))]) rfl ?_
          exact J_vret dX12_readPart_118 rfl (Nat.le_of_ble_eq_true rfl) (Nat.le_of_ble_eq_true rfl) (Or.inr ⟨mtk, mlv, z52, rfl, rfl, h53, h54, v_0065452639, q1, q9, q10⟩)
    · refine J_iload_n dX12_readPart_27 rfl rfl ?_
      refine Z_bipush (n := 8) dX12_readPart_28 (by decide +kernel) ?_
      refine Z_icmp_ne (tgt := 37) dX12_readPart_30 (by decide) v_c3fe1a091f v_665891e294 (fun h55 => ?_) (fun h55 => absurd h55 v_d62b89f05c)
      refine J_aload_n dX12_readPart_37 rfl rfl ?_
      refine J_callV (st := []) dX12_readPart_38 cv_X12_183 (k_fine ms mv mt mfa mtn mtk mlv mbd mgo mge mbk mtt mtl hm pm hb sb mfu mdm mla q3 q4 hk98) hk98 rfl rfl (Nat.le_of_ble_eq_true rfl) ⟨(Nat.le_of_ble_eq_true rfl), (Nat.le_of_ble_eq_true rfl)⟩ ⟨(Nat.le_of_ble_eq_true rfl), (Nat.le_of_ble_eq_true rfl)⟩ (fun r h9 hp => ?_)
      rcases hp with ⟨rfl, rfl, h56⟩ | ⟨rfl, rfl, h57⟩
      · refine J_nf (nh2 := nh) (ck2 := 0) (sk2 := 0) (st2 := [.int (zI 1)]) rfl rfl rfl rfl ?_
        refine Z_if_ne (tgt := 45) dX12_readPart_41 (by decide) v_4dcc24baa7 (fun h58 => ?_) (fun h58 => absurd h58 v_3a47bfd896)
        have g59 : mtk < mtn := Cc_lt g6 (v_16d557e200 h8 h9)
        refine J_aload_n dX12_readPart_45 rfl rfl ?_
        refine J_dup dX12_readPart_46 rfl ?_
        refine J_get (v := .int (zI mtk)) dX12_readPart_47 fl_X12_187 hk98 rfl ?_
        refine Z_iconst (n := 1) dX12_readPart_50 ?_
        refine Z_iadd (c := mtk + 1) dX12_readPart_51 rfl ?_
        refine K_put (fs2 := (.int (zI ms) :: .int (zI mv) :: .ref 99 :: .ref 100 :: .ref 101 :: .ref 102 :: .ref 103 :: .ref 104 :: .ref 105 :: .int (zI mt) :: .int (zI mfa) :: .ref 106 :: .ref 107 :: .ref 108 :: .int (zI mtn) :: .int (zI (mtk + 1)) :: .int (zI mlv) :: .int (zI mbd) :: .int (zI mgo) :: .int (zI mge) :: .int (zI mbk) :: .ref 109 :: .int (zI mtt) :: .int (zI mtl) :: .ref 110 :: .ref 111 :: .ref 112 :: .ref 113 :: .ref 114 :: .ref 115 :: .ref 116 :: .ref 117 :: .int (zI hm) :: .int (zI pm) :: .int (zI hb) :: .int (zI sb) :: .ref 118 :: .ref 119 :: .ref 120 :: .ref 121 :: .ref 122 :: .ref 123 :: .ref 124 :: .ref 125 :: .ref 126 :: .ref 127 :: .ref 128 :: .ref 129 :: .int (zI mfu) :: .ref 130 :: .ref 131 :: .ref 132 :: .ref 133 :: .ref 134 :: .int (zI mdm) :: .int (zI mla) :: [])) dX12_readPart_52 fw_X12_187 hk98 (Nat.le_of_ble_eq_true rfl) (fun _ => ⟨rfl, rfl⟩) rfl ?_
        refine J_aload_n dX12_readPart_55 rfl rfl ?_
        refine J_iload_n dX12_readPart_56 rfl rfl ?_
        refine Z_iconst (n := 1) dX12_readPart_57 ?_
        refine Z_iadd (c := 8) dX12_readPart_58 v_0f26919f92 ?_
        refine J_callV (st := []) dX12_readPart_59 cv_X12_199 (k_readSum_0 ms mv mt mfa mtn (mtk + 1) mlv mbd mgo mge mbk mtt mtl hm pm hb sb mfu mdm mla cc va pl (v_da458fa48a q0) (v_04fff13461 g59) q2 q3 q4 q5 q6 q7 q8 q9 q10 (v_0b2d6cdcfa q11) rfl hk106 hk107 hk108) rfl rfl rfl (Nat.le_of_ble_eq_true rfl) ⟨(Nat.le_of_ble_eq_true rfl), (Nat.le_of_ble_eq_true rfl)⟩ ⟨(Nat.le_of_ble_eq_true rfl), (Nat.le_of_ble_eq_true rfl)⟩ (fun r h9 hp => ?_)
        rcases hp with ⟨z60, z61, z62, rfl, rfl, h63, h64, h65, h66, h67, h68, h69⟩ | ⟨z70, z71, z72, rfl, rfl, h73, h74, h75, h76, h77, h78⟩
        · refine J_nf (nh2 := nh) (ck2 := 0) (sk2 := 0) (st2 := []) rfl rfl rfl rfl ?_
          refine J_app (L3 := [(98, .inr (12, (.int (zI ms) :: .int (zI mv) :: .ref 99 :: .ref 100 :: .ref 101 :: .ref 102 :: .ref 103 :: .ref 104 :: .ref 105 :: .int (zI mt) :: .int (zI mfa) :: .ref 106 :: .ref 107 :: .ref 108 :: .int (zI mtn) :: .int (zI z60) :: .int (zI z61) :: .int (zI z62) :: .int (zI mgo) :: .int (zI mge) :: .int (zI mbk) :: .ref 109 :: .int (zI mtt) :: .int (zI mtl) :: .ref 110 :: .ref 111 :: .ref 112 :: .ref 113 :: .ref 114 :: .ref 115 :: .ref 116 :: .ref 117 :: .int (zI hm) :: .int (zI pm) :: .int (zI hb) :: .int (zI sb) :: .ref 118 :: .ref 119 :: .ref 120 :: .ref 121 :: .ref 122 :: .ref 123 :: .ref 124 :: .ref 125 :: .ref 126 :: .ref 127 :: .ref 128 :: .ref 129 :: .int (zI mfu) :: .ref 130 :: .ref 131 :: .ref 132 :: .ref 133 :: .ref 134 :: .int (zI mdm) :: .int (zI mla) :: []))), (98, .inr (12, (.int (zI ms) :: .int (zI mv) :: .ref 99 :: .ref 100 :: .ref 101 :: .ref 102 :: .ref 103 :: .ref 104 :: .ref 105 :: .int (zI mt) :: .int (zI mfa) :: .ref 106 :: .ref 107 :: .ref 108 :: .int (zI mtn) :: .int (zI (mtk + 1)) :: .int (zI mlv) :: .int (zI mbd) :: .int (zI mgo) :: .int (zI mge) :: .int (zI mbk) :: .ref 109 :: .int (zI mtt) :: .int (zI mtl) :: .ref 110 :: .ref 111 :: .ref 112 :: .ref 113 :: .ref 114 :: .ref 115 :: .ref 116 :: .ref 117 :: .int (zI hm) :: .int (zI pm) :: .int (zI hb) :: .int (zI sb) :: .ref 118 :: .ref 119 :: .ref 120 :: .ref 121 :: .ref 122 :: .ref 123 :: .ref 124 :: .ref 125 :: .ref 126 :: .ref 127 :: .ref 128 :: .ref 129 :: .int (zI mfu) :: .ref 130 :: .ref 131 :: .ref 132 :: .ref 133 :: .ref 134 :: .int (zI mdm) :: .int (zI mla) :: [])))]) rfl ?_
          refine J_mask (L2 := [(98, .inr (12, (.int (zI ms) :: .int (zI mv) :: .ref 99 :: .ref 100 :: .ref 101 :: .ref 102 :: .ref 103 :: .ref 104 :: .ref 105 :: .int (zI mt) :: .int (zI mfa) :: .ref 106 :: .ref 107 :: .ref 108 :: .int (zI mtn) :: .int (zI z60) :: .int (zI z61) :: .int (zI z62) :: .int (zI mgo) :: .int (zI mge) :: .int (zI mbk) :: .ref 109 :: .int (zI mtt) :: .int (zI mtl) :: .ref 110 :: .ref 111 :: .ref 112 :: .ref 113 :: .ref 114 :: .ref 115 :: .ref 116 :: .ref 117 :: .int (zI hm) :: .int (zI pm) :: .int (zI hb) :: .int (zI sb) :: .ref 118 :: .ref 119 :: .ref 120 :: .ref 121 :: .ref 122 :: .ref 123 :: .ref 124 :: .ref 125 :: .ref 126 :: .ref 127 :: .ref 128 :: .ref 129 :: .int (zI mfu) :: .ref 130 :: .ref 131 :: .ref 132 :: .ref 133 :: .ref 134 :: .int (zI mdm) :: .int (zI mla) :: [])))]) (ks := [98, 98]) [true, false] rfl (by decide +kernel) rfl ?_
          refine J_aload_n dX12_readPart_62 rfl rfl ?_
          refine Z_bipush (n := 93) dX12_readPart_63 (by decide +kernel) ?_
          refine J_callS (st := [.ref 98]) dX12_readPart_65 cs_X12_215 (k_sign 93 v_57eea63119 v_eeebb5ff41) rfl rfl (Nat.le_of_ble_eq_true rfl) ⟨(Nat.le_of_ble_eq_true rfl), (Nat.le_of_ble_eq_true rfl)⟩ ⟨(Nat.le_of_ble_eq_true rfl), (Nat.le_of_ble_eq_true rfl)⟩ (fun r h9 hp => ?_)
          obtain ⟨z79, rfl, rfl, h80⟩ := hp
          refine J_nf (nh2 := nh) (ck2 := 0) (sk2 := 0) (st2 := [.int (zI z79), .ref 98]) rfl rfl rfl rfl ?_
          refine J_callV (st := []) dX12_readPart_68 cv_X12_203 (k_must z79 ms mv mt mfa mtn z60 z61 z62 mgo mge mbk mtt mtl hm pm hb sb mfu mdm mla cc va pl (v_fd33bc4904 h80) (v_718c2b3a18 h80) (v_3733b53a12 q0 h65) h66 q2 (v_bc0c2646ae h63) (v_a6725f25e8 h63) q5 q6 q7 q8 rfl hk106 hk107 hk108) rfl rfl rfl (Nat.le_of_ble_eq_true rfl) ⟨(Nat.le_of_ble_eq_true rfl), (Nat.le_of_ble_eq_true rfl)⟩ ⟨(Nat.le_of_ble_eq_true rfl), (Nat.le_of_ble_eq_true rfl)⟩ (fun r h9 hp => ?_)
          rcases hp with ⟨z81, rfl, rfl, h82, h83, h84, h85⟩ | ⟨z86, rfl, rfl, h87, h88⟩
          · refine J_nf (nh2 := nh) (ck2 := 0) (sk2 := 0) (st2 := []) rfl rfl rfl rfl ?_
            refine J_app (L3 := [(98, .inr (12, (.int (zI ms) :: .int (zI mv) :: .ref 99 :: .ref 100 :: .ref 101 :: .ref 102 :: .ref 103 :: .ref 104 :: .ref 105 :: .int (zI mt) :: .int (zI mfa) :: .ref 106 :: .ref 107 :: .ref 108 :: .int (zI mtn) :: .int (zI z81) :: .int (zI z61) :: .int (zI z62) :: .int (zI mgo) :: .int (zI mge) :: .int (zI mbk) :: .ref 109 :: .int (zI mtt) :: .int (zI mtl) :: .ref 110 :: .ref 111 :: .ref 112 :: .ref 113 :: .ref 114 :: .ref 115 :: .ref 116 :: .ref 117 :: .int (zI hm) :: .int (zI pm) :: .int (zI hb) :: .int (zI sb) :: .ref 118 :: .ref 119 :: .ref 120 :: .ref 121 :: .ref 122 :: .ref 123 :: .ref 124 :: .ref 125 :: .ref 126 :: .ref 127 :: .ref 128 :: .ref 129 :: .int (zI mfu) :: .ref 130 :: .ref 131 :: .ref 132 :: .ref 133 :: .ref 134 :: .int (zI mdm) :: .int (zI mla) :: []))), (98, .inr (12, (.int (zI ms) :: .int (zI mv) :: .ref 99 :: .ref 100 :: .ref 101 :: .ref 102 :: .ref 103 :: .ref 104 :: .ref 105 :: .int (zI mt) :: .int (zI mfa) :: .ref 106 :: .ref 107 :: .ref 108 :: .int (zI mtn) :: .int (zI z60) :: .int (zI z61) :: .int (zI z62) :: .int (zI mgo) :: .int (zI mge) :: .int (zI mbk) :: .ref 109 :: .int (zI mtt) :: .int (zI mtl) :: .ref 110 :: .ref 111 :: .ref 112 :: .ref 113 :: .ref 114 :: .ref 115 :: .ref 116 :: .ref 117 :: .int (zI hm) :: .int (zI pm) :: .int (zI hb) :: .int (zI sb) :: .ref 118 :: .ref 119 :: .ref 120 :: .ref 121 :: .ref 122 :: .ref 123 :: .ref 124 :: .ref 125 :: .ref 126 :: .ref 127 :: .ref 128 :: .ref 129 :: .int (zI mfu) :: .ref 130 :: .ref 131 :: .ref 132 :: .ref 133 :: .ref 134 :: .int (zI mdm) :: .int (zI mla) :: [])))]) rfl ?_
            refine J_mask (L2 := [(98, .inr (12, (.int (zI ms) :: .int (zI mv) :: .ref 99 :: .ref 100 :: .ref 101 :: .ref 102 :: .ref 103 :: .ref 104 :: .ref 105 :: .int (zI mt) :: .int (zI mfa) :: .ref 106 :: .ref 107 :: .ref 108 :: .int (zI mtn) :: .int (zI z81) :: .int (zI z61) :: .int (zI z62) :: .int (zI mgo) :: .int (zI mge) :: .int (zI mbk) :: .ref 109 :: .int (zI mtt) :: .int (zI mtl) :: .ref 110 :: .ref 111 :: .ref 112 :: .ref 113 :: .ref 114 :: .ref 115 :: .ref 116 :: .ref 117 :: .int (zI hm) :: .int (zI pm) :: .int (zI hb) :: .int (zI sb) :: .ref 118 :: .ref 119 :: .ref 120 :: .ref 121 :: .ref 122 :: .ref 123 :: .ref 124 :: .ref 125 :: .ref 126 :: .ref 127 :: .ref 128 :: .ref 129 :: .int (zI mfu) :: .ref 130 :: .ref 131 :: .ref 132 :: .ref 133 :: .ref 134 :: .int (zI mdm) :: .int (zI mla) :: [])))]) (ks := [98, 98]) [true, false] rfl (by decide +kernel) rfl ?_
            refine J_goto (tgt := 118) dX12_readPart_71 (by decide) ?_
            exact J_vret dX12_readPart_118 rfl (Nat.le_of_ble_eq_true rfl) (Nat.le_of_ble_eq_true rfl) (Or.inl ⟨z81, z61, z62, rfl, rfl, h82, h64, (v_58358923e5 h65 h83), (v_2b81d1254d h83 h84), (PartG.bk (n := 0) (by rw [g6]; exact (v_8439598d74 h8 h9)) v_7157e5c4fa (v_bddb8fd193 h65) h67 (v_d34386dce5 h83)), h68, (v_5db05785ac h69 h83)⟩)
          · refine J_nf (nh2 := nh) (ck2 := 0) (sk2 := 0) (st2 := []) rfl rfl rfl rfl ?_
            refine J_app (L3 := [(98, .inr (12, (.int (zI ms) :: .int (zI mv) :: .ref 99 :: .ref 100 :: .ref 101 :: .ref 102 :: .ref 103 :: .ref 104 :: .ref 105 :: .int (zI mt) :: .int (zI mfa) :: .ref 106 :: .ref 107 :: .ref 108 :: .int (zI mtn) :: .int (zI z60) :: .int (zI z61) :: .int (zI z86) :: .int (zI mgo) :: .int (zI mge) :: .int (zI mbk) :: .ref 109 :: .int (zI mtt) :: .int (zI mtl) :: .ref 110 :: .ref 111 :: .ref 112 :: .ref 113 :: .ref 114 :: .ref 115 :: .ref 116 :: .ref 117 :: .int (zI hm) :: .int (zI pm) :: .int (zI hb) :: .int (zI sb) :: .ref 118 :: .ref 119 :: .ref 120 :: .ref 121 :: .ref 122 :: .ref 123 :: .ref 124 :: .ref 125 :: .ref 126 :: .ref 127 :: .ref 128 :: .ref 129 :: .int (zI mfu) :: .ref 130 :: .ref 131 :: .ref 132 :: .ref 133 :: .ref 134 :: .int (zI mdm) :: .int (zI mla) :: []))), (98, .inr (12, (.int (zI ms) :: .int (zI mv) :: .ref 99 :: .ref 100 :: .ref 101 :: .ref 102 :: .ref 103 :: .ref 104 :: .ref 105 :: .int (zI mt) :: .int (zI mfa) :: .ref 106 :: .ref 107 :: .ref 108 :: .int (zI mtn) :: .int (zI z60) :: .int (zI z61) :: .int (zI z62) :: .int (zI mgo) :: .int (zI mge) :: .int (zI mbk) :: .ref 109 :: .int (zI mtt) :: .int (zI mtl) :: .ref 110 :: .ref 111 :: .ref 112 :: .ref 113 :: .ref 114 :: .ref 115 :: .ref 116 :: .ref 117 :: .int (zI hm) :: .int (zI pm) :: .int (zI hb) :: .int (zI sb) :: .ref 118 :: .ref 119 :: .ref 120 :: .ref 121 :: .ref 122 :: .ref 123 :: .ref 124 :: .ref 125 :: .ref 126 :: .ref 127 :: .ref 128 :: .ref 129 :: .int (zI mfu) :: .ref 130 :: .ref 131 :: .ref 132 :: .ref 133 :: .ref 134 :: .int (zI mdm) :: .int (zI mla) :: [])))]) rfl ?_
            refine J_mask (L2 := [(98, .inr (12, (.int (zI ms) :: .int (zI mv) :: .ref 99 :: .ref 100 :: .ref 101 :: .ref 102 :: .ref 103 :: .ref 104 :: .ref 105 :: .int (zI mt) :: .int (zI mfa) :: .ref 106 :: .ref 107 :: .ref 108 :: .int (zI mtn) :: .int (zI z60) :: .int (zI z61) :: .int (zI z86) :: .int (zI mgo) :: .int (zI mge) :: .int (zI mbk) :: .ref 109 :: .int (zI mtt) :: .int (zI mtl) :: .ref 110 :: .ref 111 :: .ref 112 :: .ref 113 :: .ref 114 :: .ref 115 :: .ref 116 :: .ref 117 :: .int (zI hm) :: .int (zI pm) :: .int (zI hb) :: .int (zI sb) :: .ref 118 :: .ref 119 :: .ref 120 :: .ref 121 :: .ref 122 :: .ref 123 :: .ref 124 :: .ref 125 :: .ref 126 :: .ref 127 :: .ref 128 :: .ref 129 :: .int (zI mfu) :: .ref 130 :: .ref 131 :: .ref 132 :: .ref 133 :: .ref 134 :: .int (zI mdm) :: .int (zI mla) :: [])))]) (ks := [98, 98]) [true, false] rfl (by decide +kernel) rfl ?_
            refine J_goto (tgt := 118) dX12_readPart_71 (by decide) ?_
            exact J_vret dX12_readPart_118 rfl (Nat.le_of_ble_eq_true rfl) (Nat.le_of_ble_eq_true rfl) (Or.inr ⟨z60, z61, z86, rfl, rfl, h87, h88, (v_2133ac244c h65), h66, h68, (v_778db8d1be q2 h66 h69)⟩)
        · refine J_nf (nh2 := nh) (ck2 := 0) (sk2 := 0) (st2 := []) rfl rfl rfl rfl ?_
          refine J_app (L3 := [(98, .inr (12, (.int (zI ms) :: .int (zI mv) :: .ref 99 :: .ref 100 :: .ref 101 :: .ref 102 :: .ref 103 :: .ref 104 :: .ref 105 :: .int (zI mt) :: .int (zI mfa) :: .ref 106 :: .ref 107 :: .ref 108 :: .int (zI mtn) :: .int (zI z70) :: .int (zI z71) :: .int (zI z72) :: .int (zI mgo) :: .int (zI mge) :: .int (zI mbk) :: .ref 109 :: .int (zI mtt) :: .int (zI mtl) :: .ref 110 :: .ref 111 :: .ref 112 :: .ref 113 :: .ref 114 :: .ref 115 :: .ref 116 :: .ref 117 :: .int (zI hm) :: .int (zI pm) :: .int (zI hb) :: .int (zI sb) :: .ref 118 :: .ref 119 :: .ref 120 :: .ref 121 :: .ref 122 :: .ref 123 :: .ref 124 :: .ref 125 :: .ref 126 :: .ref 127 :: .ref 128 :: .ref 129 :: .int (zI mfu) :: .ref 130 :: .ref 131 :: .ref 132 :: .ref 133 :: .ref 134 :: .int (zI mdm) :: .int (zI mla) :: []))), (98, .inr (12, (.int (zI ms) :: .int (zI mv) :: .ref 99 :: .ref 100 :: .ref 101 :: .ref 102 :: .ref 103 :: .ref 104 :: .ref 105 :: .int (zI mt) :: .int (zI mfa) :: .ref 106 :: .ref 107 :: .ref 108 :: .int (zI mtn) :: .int (zI (mtk + 1)) :: .int (zI mlv) :: .int (zI mbd) :: .int (zI mgo) :: .int (zI mge) :: .int (zI mbk) :: .ref 109 :: .int (zI mtt) :: .int (zI mtl) :: .ref 110 :: .ref 111 :: .ref 112 :: .ref 113 :: .ref 114 :: .ref 115 :: .ref 116 :: .ref 117 :: .int (zI hm) :: .int (zI pm) :: .int (zI hb) :: .int (zI sb) :: .ref 118 :: .ref 119 :: .ref 120 :: .ref 121 :: .ref 122 :: .ref 123 :: .ref 124 :: .ref 125 :: .ref 126 :: .ref 127 :: .ref 128 :: .ref 129 :: .int (zI mfu) :: .ref 130 :: .ref 131 :: .ref 132 :: .ref 133 :: .ref 134 :: .int (zI mdm) :: .int (zI mla) :: [])))]) rfl ?_
          refine J_mask (L2 := [(98, .inr (12, (.int (zI ms) :: .int (zI mv) :: .ref 99 :: .ref 100 :: .ref 101 :: .ref 102 :: .ref 103 :: .ref 104 :: .ref 105 :: .int (zI mt) :: .int (zI mfa) :: .ref 106 :: .ref 107 :: .ref 108 :: .int (zI mtn) :: .int (zI z70) :: .int (zI z71) :: .int (zI z72) :: .int (zI mgo) :: .int (zI mge) :: .int (zI mbk) :: .ref 109 :: .int (zI mtt) :: .int (zI mtl) :: .ref 110 :: .ref 111 :: .ref 112 :: .ref 113 :: .ref 114 :: .ref 115 :: .ref 116 :: .ref 117 :: .int (zI hm) :: .int (zI pm) :: .int (zI hb) :: .int (zI sb) :: .ref 118 :: .ref 119 :: .ref 120 :: .ref 121 :: .ref 122 :: .ref 123 :: .ref 124 :: .ref 125 :: .ref 126 :: .ref 127 :: .ref 128 :: .ref 129 :: .int (zI mfu) :: .ref 130 :: .ref 131 :: .ref 132 :: .ref 133 :: .ref 134 :: .int (zI mdm) :: .int (zI mla) :: [])))]) (ks := [98, 98]) [true, false] rfl (by decide +kernel) rfl ?_
          refine J_aload_n dX12_readPart_62 rfl rfl ?_
          refine Z_bipush (n := 93) dX12_readPart_63 (by decide +kernel) ?_
          refine J_callS (st := [.ref 98]) dX12_readPart_65 cs_X12_215 (k_sign 93 v_57eea63119 v_eeebb5ff41) rfl rfl (Nat.le_of_ble_eq_true rfl) ⟨(Nat.le_of_ble_eq_true rfl), (Nat.le_of_ble_eq_true rfl)⟩ ⟨(Nat.le_of_ble_eq_true rfl), (Nat.le_of_ble_eq_true rfl)⟩ (fun r h9 hp => ?_)
          obtain ⟨z89, rfl, rfl, h90⟩ := hp
          refine J_nf (nh2 := nh) (ck2 := 0) (sk2 := 0) (st2 := [.int (zI z89), .ref 98]) rfl rfl rfl rfl ?_
          refine J_callV (st := []) dX12_readPart_68 cv_X12_203 (k_must z89 ms mv mt mfa mtn z70 z71 z72 mgo mge mbk mtt mtl hm pm hb sb mfu mdm mla cc va pl (v_fd33bc4904 h90) (v_718c2b3a18 h90) (v_9f8b22de4f q0 h75) h76 q2 (v_576129c2e8 h73) h74 q5 q6 q7 q8 rfl hk106 hk107 hk108) rfl rfl rfl (Nat.le_of_ble_eq_true rfl) ⟨(Nat.le_of_ble_eq_true rfl), (Nat.le_of_ble_eq_true rfl)⟩ ⟨(Nat.le_of_ble_eq_true rfl), (Nat.le_of_ble_eq_true rfl)⟩ (fun r h9 hp => ?_)
          rcases hp with ⟨z91, rfl, rfl, h92, h93, h94, h95⟩ | ⟨z96, rfl, rfl, h97, h98⟩
          · exact False.elim (v_a2a49c9ec0 h73 h92)
          · refine J_nf (nh2 := nh) (ck2 := 0) (sk2 := 0) (st2 := []) rfl rfl rfl rfl ?_
            refine J_app (L3 := [(98, .inr (12, (.int (zI ms) :: .int (zI mv) :: .ref 99 :: .ref 100 :: .ref 101 :: .ref 102 :: .ref 103 :: .ref 104 :: .ref 105 :: .int (zI mt) :: .int (zI mfa) :: .ref 106 :: .ref 107 :: .ref 108 :: .int (zI mtn) :: .int (zI z70) :: .int (zI z71) :: .int (zI z96) :: .int (zI mgo) :: .int (zI mge) :: .int (zI mbk) :: .ref 109 :: .int (zI mtt) :: .int (zI mtl) :: .ref 110 :: .ref 111 :: .ref 112 :: .ref 113 :: .ref 114 :: .ref 115 :: .ref 116 :: .ref 117 :: .int (zI hm) :: .int (zI pm) :: .int (zI hb) :: .int (zI sb) :: .ref 118 :: .ref 119 :: .ref 120 :: .ref 121 :: .ref 122 :: .ref 123 :: .ref 124 :: .ref 125 :: .ref 126 :: .ref 127 :: .ref 128 :: .ref 129 :: .int (zI mfu) :: .ref 130 :: .ref 131 :: .ref 132 :: .ref 133 :: .ref 134 :: .int (zI mdm) :: .int (zI mla) :: []))), (98, .inr (12, (.int (zI ms) :: .int (zI mv) :: .ref 99 :: .ref 100 :: .ref 101 :: .ref 102 :: .ref 103 :: .ref 104 :: .ref 105 :: .int (zI mt) :: .int (zI mfa) :: .ref 106 :: .ref 107 :: .ref 108 :: .int (zI mtn) :: .int (zI z70) :: .int (zI z71) :: .int (zI z72) :: .int (zI mgo) :: .int (zI mge) :: .int (zI mbk) :: .ref 109 :: .int (zI mtt) :: .int (zI mtl) :: .ref 110 :: .ref 111 :: .ref 112 :: .ref 113 :: .ref 114 :: .ref 115 :: .ref 116 :: .ref 117 :: .int (zI hm) :: .int (zI pm) :: .int (zI hb) :: .int (zI sb) :: .ref 118 :: .ref 119 :: .ref 120 :: .ref 121 :: .ref 122 :: .ref 123 :: .ref 124 :: .ref 125 :: .ref 126 :: .ref 127 :: .ref 128 :: .ref 129 :: .int (zI mfu) :: .ref 130 :: .ref 131 :: .ref 132 :: .ref 133 :: .ref 134 :: .int (zI mdm) :: .int (zI mla) :: [])))]) rfl ?_
            refine J_mask (L2 := [(98, .inr (12, (.int (zI ms) :: .int (zI mv) :: .ref 99 :: .ref 100 :: .ref 101 :: .ref 102 :: .ref 103 :: .ref 104 :: .ref 105 :: .int (zI mt) :: .int (zI mfa) :: .ref 106 :: .ref 107 :: .ref 108 :: .int (zI mtn) :: .int (zI z70) :: .int (zI z71) :: .int (zI z96) :: .int (zI mgo) :: .int (zI mge) :: .int (zI mbk) :: .ref 109 :: .int (zI mtt) :: .int (zI mtl) :: .ref 110 :: .ref 111 :: .ref 112 :: .ref 113 :: .ref 114 :: .ref 115 :: .ref 116 :: .ref 117 :: .int (zI hm) :: .int (zI pm) :: .int (zI hb) :: .int (zI sb) :: .ref 118 :: .ref 119 :: .ref 120 :: .ref 121 :: .ref 122 :: .ref 123 :: .ref 124 :: .ref 125 :: .ref 126 :: .ref 127 :: .ref 128 :: .ref 129 :: .int (zI mfu) :: .ref 130 :: .ref 131 :: .ref 132 :: .ref 133 :: .ref 134 :: .int (zI mdm) :: .int (zI mla) :: [])))]) (ks := [98, 98]) [true, false] rfl (by decide +kernel) rfl ?_
            refine J_goto (tgt := 118) dX12_readPart_71 (by decide) ?_
            exact J_vret dX12_readPart_118 rfl (Nat.le_of_ble_eq_true rfl) (Nat.le_of_ble_eq_true rfl) (Or.inr ⟨z70, z71, z96, rfl, rfl, h97, h98, (v_731e4f4f14 h75), h76, h77, h78⟩)
      · exact False.elim (v_221c0ce955 h1 h57)
  · refine J_nf (nh2 := nh) (ck2 := 0) (sk2 := 0) (st2 := [.int (zI 0)]) rfl rfl rfl rfl ?_
    refine Z_if_ne (tgt := 8) dX12_readPart_4 (by decide) v_b17331891f (fun h99 => absurd h99 (fun q => q v_2ca2bbca1f)) (fun h99 => ?_)
    refine J_touch (k := 98) (e := .inr (12, (.int (zI ms) :: .int (zI mv) :: .ref 99 :: .ref 100 :: .ref 101 :: .ref 102 :: .ref 103 :: .ref 104 :: .ref 105 :: .int (zI mt) :: .int (zI mfa) :: .ref 106 :: .ref 107 :: .ref 108 :: .int (zI mtn) :: .int (zI mtk) :: .int (zI mlv) :: .int (zI mbd) :: .int (zI mgo) :: .int (zI mge) :: .int (zI mbk) :: .ref 109 :: .int (zI mtt) :: .int (zI mtl) :: .ref 110 :: .ref 111 :: .ref 112 :: .ref 113 :: .ref 114 :: .ref 115 :: .ref 116 :: .ref 117 :: .int (zI hm) :: .int (zI pm) :: .int (zI hb) :: .int (zI sb) :: .ref 118 :: .ref 119 :: .ref 120 :: .ref 121 :: .ref 122 :: .ref 123 :: .ref 124 :: .ref 125 :: .ref 126 :: .ref 127 :: .ref 128 :: .ref 129 :: .int (zI mfu) :: .ref 130 :: .ref 131 :: .ref 132 :: .ref 133 :: .ref 134 :: .int (zI mdm) :: .int (zI mla) :: []))) hk98 ?_
    exact J_vret dX12_readPart_7 rfl (Nat.le_of_ble_eq_true rfl) (Nat.le_of_ble_eq_true rfl) (Or.inr ⟨mtk, mlv, mbd, rfl, rfl, h2, q4, v_0065452639, q1, q9, q10⟩)
set_option maxHeartbeats 4000000 in
set_option maxRecDepth 100000 in
theorem k_readTerm_1 {l : Launch} {G : jG} {nh : Nat} {fh : Nat → Option va_E} (ms : Int) (mv : Int) (mt : Int) (mfa : Int) (mtn : Int) (mtk : Int) (mlv : Int) (mbd : Int) (mgo : Int) (mge : Int) (mbk : Int) (mtt : Int) (mtl : Int) (hm : Int) (pm : Int) (hb : Int) (sb : Int) (mfu : Int) (mdm : Int) (mla : Int) (cc : Int → Int) (va : Int → Int) (pl : Int → Int) (q0 : 0 ≤ mtk) (q1 : mtk ≤ mtn) (q2 : mtn ≤ 400) (q3 : -1 ≤ mbd) (q4 : mbd ≤ 400) (q5 : Rg cc 401 (-2147483648) 2147483647) (q6 : cc mtn = 0) (q7 : Rg pl 401 0 400) (q8 : Rg va 401 (-2147483648) 2147483647) (q9 : 0 ≤ mlv) (q10 : mlv ≤ 402) (q11 : mlv ≤ mtk + 1000 * mbd + 1000) (hk98 : fh 98 = some (.inr (12, (.int (zI ms) :: .int (zI mv) :: .ref 99 :: .ref 100 :: .ref 101 :: .ref 102 :: .ref 103 :: .ref 104 :: .ref 105 :: .int (zI mt) :: .int (zI mfa) :: .ref 106 :: .ref 107 :: .ref 108 :: .int (zI mtn) :: .int (zI mtk) :: .int (zI mlv) :: .int (zI mbd) :: .int (zI mgo) :: .int (zI mge) :: .int (zI mbk) :: .ref 109 :: .int (zI mtt) :: .int (zI mtl) :: .ref 110 :: .ref 111 :: .ref 112 :: .ref 113 :: .ref 114 :: .ref 115 :: .ref 116 :: .ref 117 :: .int (zI hm) :: .int (zI pm) :: .int (zI hb) :: .int (zI sb) :: .ref 118 :: .ref 119 :: .ref 120 :: .ref 121 :: .ref 122 :: .ref 123 :: .ref 124 :: .ref 125 :: .ref 126 :: .ref 127 :: .ref 128 :: .ref 129 :: .int (zI mfu) :: .ref 130 :: .ref 131 :: .ref 132 :: .ref 133 :: .ref 134 :: .int (zI mdm) :: .int (zI mla) :: [])))) (hk106 : fh 106 = some (.inl (0, 401, .inl (zA cc)))) (hk107 : fh 107 = some (.inl (0, 401, .inl (zA va)))) (hk108 : fh 108 = some (.inl (0, 401, .inl (zA pl)))) : JM l G yX12_readTerm MX12_readTerm { frames := 7, cells := 0, slots := 0, locals := 146 } [.ref 98, .int (zI 7)] (nh, fh) (fun rr h9 => (∃ tk2 : Int, ∃ lv2 : Int, ∃ bd2 : Int, rr = none ∧ h9 = (nh, hc fh [(98, .inr (12, (.int (zI ms) :: .int (zI mv) :: .ref 99 :: .ref 100 :: .ref 101 :: .ref 102 :: .ref 103 :: .ref 104 :: .ref 105 :: .int (zI mt) :: .int (zI mfa) :: .ref 106 :: .ref 107 :: .ref 108 :: .int (zI mtn) :: .int (zI tk2) :: .int (zI lv2) :: .int (zI bd2) :: .int (zI mgo) :: .int (zI mge) :: .int (zI mbk) :: .ref 109 :: .int (zI mtt) :: .int (zI mtl) :: .ref 110 :: .ref 111 :: .ref 112 :: .ref 113 :: .ref 114 :: .ref 115 :: .ref 116 :: .ref 117 :: .int (zI hm) :: .int (zI pm) :: .int (zI hb) :: .int (zI sb) :: .ref 118 :: .ref 119 :: .ref 120 :: .ref 121 :: .ref 122 :: .ref 123 :: .ref 124 :: .ref 125 :: .ref 126 :: .ref 127 :: .ref 128 :: .ref 129 :: .int (zI mfu) :: .ref 130 :: .ref 131 :: .ref 132 :: .ref 133 :: .ref 134 :: .int (zI mdm) :: .int (zI mla) :: [])))]) ∧ (bd2 = -1) ∧ (mbd = -1) ∧ (mtk < tk2) ∧ (tk2 ≤ mtn) ∧ (TermG (Cc cc mtn) 1 mtk tk2) ∧ (0 ≤ lv2) ∧ (lv2 ≤ tk2)) ∨ (∃ tk2 : Int, ∃ lv2 : Int, ∃ bd2 : Int, rr = none ∧ h9 = (nh, hc fh [(98, .inr (12, (.int (zI ms) :: .int (zI mv) :: .ref 99 :: .ref 100 :: .ref 101 :: .ref 102 :: .ref 103 :: .ref 104 :: .ref 105 :: .int (zI mt) :: .int (zI mfa) :: .ref 106 :: .ref 107 :: .ref 108 :: .int (zI mtn) :: .int (zI tk2) :: .int (zI lv2) :: .int (zI bd2) :: .int (zI mgo) :: .int (zI mge) :: .int (zI mbk) :: .ref 109 :: .int (zI mtt) :: .int (zI mtl) :: .ref 110 :: .ref 111 :: .ref 112 :: .ref 113 :: .ref 114 :: .ref 115 :: .ref 116 :: .ref 117 :: .int (zI hm) :: .int (zI pm) :: .int (zI hb) :: .int (zI sb) :: .ref 118 :: .ref 119 :: .ref 120 :: .ref 121 :: .ref 122 :: .ref 123 :: .ref 124 :: .ref 125 :: .ref 126 :: .ref 127 :: .ref 128 :: .ref 129 :: .int (zI mfu) :: .ref 130 :: .ref 131 :: .ref 132 :: .ref 133 :: .ref 134 :: .int (zI mdm) :: .int (zI mla) :: [])))]) ∧ (0 ≤ bd2) ∧ (bd2 ≤ 400) ∧ (mtk ≤ tk2) ∧ (tk2 ≤ mtn) ∧ (0 ≤ lv2) ∧ (lv2 ≤ 402))) := by
  refine JM.of (by decide) rfl (fun h => by cases h) (Nat.le_of_ble_eq_true rfl) ⟨0, rfl⟩ ?_
  refine J_hc0 (J_ls (ls2 := [some (.ref 98), some (.int (zI 7))]) rfl ?_)
  refine J_aload_n dX12_readTerm_0 rfl rfl ?_
  refine J_iload_n dX12_readTerm_1 rfl rfl ?_
  refine J_callV (st := []) dX12_readTerm_2 cv_X12_222 (k_readPart_1 ms mv mt mfa mtn mtk mlv mbd mgo mge mbk mtt mtl hm pm hb sb mfu mdm mla cc va pl q0 q1 q2 q3 q4 q5 q6 q7 q8 q9 q10 q11 hk98 hk106 hk107 hk108) hk98 rfl rfl (Nat.le_of_ble_eq_true rfl) ⟨(Nat.le_of_ble_eq_true rfl), (Nat.le_of_ble_eq_true rfl)⟩ ⟨(Nat.le_of_ble_eq_true rfl), (Nat.le_of_ble_eq_true rfl)⟩ (fun r h9 hp => ?_)
  rcases hp with ⟨z1, z2, z3, rfl, rfl, h4, h5, h6, h7, h8, h9, h10⟩ | ⟨z11, z12, z13, rfl, rfl, h14, h15, h16, h17, h18, h19⟩
  · refine J_nf (nh2 := nh) (ck2 := 0) (sk2 := 0) (st2 := []) rfl rfl rfl rfl ?_
    refine J_app (L3 := [(98, .inr (12, (.int (zI ms) :: .int (zI mv) :: .ref 99 :: .ref 100 :: .ref 101 :: .ref 102 :: .ref 103 :: .ref 104 :: .ref 105 :: .int (zI mt) :: .int (zI mfa) :: .ref 106 :: .ref 107 :: .ref 108 :: .int (zI mtn) :: .int (zI z1) :: .int (zI z2) :: .int (zI z3) :: .int (zI mgo) :: .int (zI mge) :: .int (zI mbk) :: .ref 109 :: .int (zI mtt) :: .int (zI mtl) :: .ref 110 :: .ref 111 :: .ref 112 :: .ref 113 :: .ref 114 :: .ref 115 :: .ref 116 :: .ref 117 :: .int (zI hm) :: .int (zI pm) :: .int (zI hb) :: .int (zI sb) :: .ref 118 :: .ref 119 :: .ref 120 :: .ref 121 :: .ref 122 :: .ref 123 :: .ref 124 :: .ref 125 :: .ref 126 :: .ref 127 :: .ref 128 :: .ref 129 :: .int (zI mfu) :: .ref 130 :: .ref 131 :: .ref 132 :: .ref 133 :: .ref 134 :: .int (zI mdm) :: .int (zI mla) :: [])))]) rfl ?_
    have lp5 : ∀ (N5 : Nat) (tk_5 : Int) (lv_5 : Int) (bd_5 : Int), (-1 ≤ bd_5) → (bd_5 ≤ 400) → (mtk ≤ tk_5) → (tk_5 ≤ mtn) → (0 ≤ lv_5) → (lv_5 ≤ 402) → (lv_5 ≤ tk_5 + 1000 * bd_5 + 1000) → (bd_5 = -1 → ChP (PartG (Cc cc mtn) 1) (S2 (Cc cc mtn) 142 147) mtk tk_5 ∧ mtk < tk_5 ∧ mbd = -1) → (mtn - tk_5).toNat < N5 → J l G MX12_readTerm { frames := 7, cells := 0, slots := 0, locals := 146 } jE (jMQ G { frames := 7, cells := 0, slots := 0, locals := 146 } (fun rr h9 => (∃ tk2 : Int, ∃ lv2 : Int, ∃ bd2 : Int, rr = none ∧ h9 = (nh, hc fh [(98, .inr (12, (.int (zI ms) :: .int (zI mv) :: .ref 99 :: .ref 100 :: .ref 101 :: .ref 102 :: .ref 103 :: .ref 104 :: .ref 105 :: .int (zI mt) :: .int (zI mfa) :: .ref 106 :: .ref 107 :: .ref 108 :: .int (zI mtn) :: .int (zI tk2) :: .int (zI lv2) :: .int (zI bd2) :: .int (zI mgo) :: .int (zI mge) :: .int (zI mbk) :: .ref 109 :: .int (zI mtt) :: .int (zI mtl) :: .ref 110 :: .ref 111 :: .ref 112 :: .ref 113 :: .ref 114 :: .ref 115 :: .ref 116 :: .ref 117 :: .int (zI hm) :: .int (zI pm) :: .int (zI hb) :: .int (zI sb) :: .ref 118 :: .ref 119 :: .ref 120 :: .ref 121 :: .ref 122 :: .ref 123 :: .ref 124 :: .ref 125 :: .ref 126 :: .ref 127 :: .ref 128 :: .ref 129 :: .int (zI mfu) :: .ref 130 :: .ref 131 :: .ref 132 :: .ref 133 :: .ref 134 :: .int (zI mdm) :: .int (zI mla) :: [])))]) ∧ (bd2 = -1) ∧ (mbd = -1) ∧ (mtk < tk2) ∧ (tk2 ≤ mtn) ∧ (TermG (Cc cc mtn) 1 mtk tk2) ∧ (0 ≤ lv2) ∧ (lv2 ≤ tk2)) ∨ (∃ tk2 : Int, ∃ lv2 : Int, ∃ bd2 : Int, rr = none ∧ h9 = (nh, hc fh [(98, .inr (12, (.int (zI ms) :: .int (zI mv) :: .ref 99 :: .ref 100 :: .ref 101 :: .ref 102 :: .ref 103 :: .ref 104 :: .ref 105 :: .int (zI mt) :: .int (zI mfa) :: .ref 106 :: .ref 107 :: .ref 108 :: .int (zI mtn) :: .int (zI tk2) :: .int (zI lv2) :: .int (zI bd2) :: .int (zI mgo) :: .int (zI mge) :: .int (zI mbk) :: .ref 109 :: .int (zI mtt) :: .int (zI mtl) :: .ref 110 :: .ref 111 :: .ref 112 :: .ref 113 :: .ref 114 :: .ref 115 :: .ref 116 :: .ref 117 :: .int (zI hm) :: .int (zI pm) :: .int (zI hb) :: .int (zI sb) :: .ref 118 :: .ref 119 :: .ref 120 :: .ref 121 :: .ref 122 :: .ref 123 :: .ref 124 :: .ref 125 :: .ref 126 :: .ref 127 :: .ref 128 :: .ref 129 :: .int (zI mfu) :: .ref 130 :: .ref 131 :: .ref 132 :: .ref 133 :: .ref 134 :: .int (zI mdm) :: .int (zI mla) :: [])))]) ∧ (0 ≤ bd2) ∧ (bd2 ≤ 400) ∧ (mtk ≤ tk2) ∧ (tk2 ≤ mtn) ∧ (0 ≤ lv2) ∧ (lv2 ≤ 402)))) (nh, hc fh [(98, .inr (12, (.int (zI ms) :: .int (zI mv) :: .ref 99 :: .ref 100 :: .ref 101 :: .ref 102 :: .ref 103 :: .ref 104 :: .ref 105 :: .int (zI mt) :: .int (zI mfa) :: .ref 106 :: .ref 107 :: .ref 108 :: .int (zI mtn) :: .int (zI tk_5) :: .int (zI lv_5) :: .int (zI bd_5) :: .int (zI mgo) :: .int (zI mge) :: .int (zI mbk) :: .ref 109 :: .int (zI mtt) :: .int (zI mtl) :: .ref 110 :: .ref 111 :: .ref 112 :: .ref 113 :: .ref 114 :: .ref 115 :: .ref 116 :: .ref 117 :: .int (zI hm) :: .int (zI pm) :: .int (zI hb) :: .int (zI sb) :: .ref 118 :: .ref 119 :: .ref 120 :: .ref 121 :: .ref 122 :: .ref 123 :: .ref 124 :: .ref 125 :: .ref 126 :: .ref 127 :: .ref 128 :: .ref 129 :: .int (zI mfu) :: .ref 130 :: .ref 131 :: .ref 132 :: .ref 133 :: .ref 134 :: .int (zI mdm) :: .int (zI mla) :: [])))]) 0 0 5 [some (.ref 98), some (.int (zI 7))] [] := by
      intro N5
      induction N5 with
      | zero => intro tk_5 lv_5 bd_5 i5_0 i5_1 i5_2 i5_3 i5_4 i5_5 i5_6 i5_7 hm; exact absurd hm (Nat.not_lt_zero _)
      | succ N5 ih5 =>
        intro tk_5 lv_5 bd_5 i5_0 i5_1 i5_2 i5_3 i5_4 i5_5 i5_6 i5_7 hm5
        refine J_aload_n dX12_readTerm_5 rfl rfl ?_
        refine Z_bipush (n := 42) dX12_readTerm_6 (by decide +kernel) ?_
        refine J_callS (st := [.ref 98]) dX12_readTerm_8 cs_X12_215 (k_sign 42 v_19b0ad2cd1 v_1f79c0c2c4) rfl rfl (Nat.le_of_ble_eq_true rfl) ⟨(Nat.le_of_ble_eq_true rfl), (Nat.le_of_ble_eq_true rfl)⟩ ⟨(Nat.le_of_ble_eq_true rfl), (Nat.le_of_ble_eq_true rfl)⟩ (fun r h9 hp => ?_)
        obtain ⟨z20, rfl, rfl, h21⟩ := hp
        refine J_nf (nh2 := nh) (ck2 := 0) (sk2 := 0) (st2 := [.int (zI z20), .ref 98]) rfl rfl rfl rfl ?_
        refine J_callV (st := []) dX12_readTerm_11 cv_X12_190 (k_takes0 z20 ms mv mt mfa mtn tk_5 lv_5 bd_5 mgo mge mbk mtt mtl hm pm hb sb mfu mdm mla cc va pl (v_be84312a04 h21) (v_8c70c87066 h21) (v_21976c7318 q0 i5_2) i5_3 q2 i5_0 i5_1 q5 q6 q7 q8 rfl hk106 hk107 hk108) rfl rfl rfl (Nat.le_of_ble_eq_true rfl) ⟨(Nat.le_of_ble_eq_true rfl), (Nat.le_of_ble_eq_true rfl)⟩ ⟨(Nat.le_of_ble_eq_true rfl), (Nat.le_of_ble_eq_true rfl)⟩ (fun r h9 hp => ?_)
        rcases hp with ⟨z22, rfl, rfl, h23, h24, h25, h26⟩ | ⟨rfl, rfl, h27, h28⟩ | ⟨rfl, rfl, h29⟩
        · refine J_nf (nh2 := nh) (ck2 := 0) (sk2 := 0) (st2 := [.int (zI 1)]) rfl rfl rfl rfl ?_
          refine J_app (L3 := [(98, .inr (12, (.int (zI ms) :: .int (zI mv) :: .ref 99 :: .ref 100 :: .ref 101 :: .ref 102 :: .ref 103 :: .ref 104 :: .ref 105 :: .int (zI mt) :: .int (zI mfa) :: .ref 106 :: .ref 107 :: .ref 108 :: .int (zI mtn) :: .int (zI z22) :: .int (zI lv_5) :: .int (zI bd_5) :: .int (zI mgo) :: .int (zI mge) :: .int (zI mbk) :: .ref 109 :: .int (zI mtt) :: .int (zI mtl) :: .ref 110 :: .ref 111 :: .ref 112 :: .ref 113 :: .ref 114 :: .ref 115 :: .ref 116 :: .ref 117 :: .int (zI hm) :: .int (zI pm) :: .int (zI hb) :: .int (zI sb) :: .ref 118 :: .ref 119 :: .ref 120 :: .ref 121 :: .ref 122 :: .ref 123 :: .ref 124 :: .ref 125 :: .ref 126 :: .ref 127 :: .ref 128 :: .ref 129 :: .int (zI mfu) :: .ref 130 :: .ref 131 :: .ref 132 :: .ref 133 :: .ref 134 :: .int (zI mdm) :: .int (zI mla) :: []))), (98, .inr (12, (.int (zI ms) :: .int (zI mv) :: .ref 99 :: .ref 100 :: .ref 101 :: .ref 102 :: .ref 103 :: .ref 104 :: .ref 105 :: .int (zI mt) :: .int (zI mfa) :: .ref 106 :: .ref 107 :: .ref 108 :: .int (zI mtn) :: .int (zI tk_5) :: .int (zI lv_5) :: .int (zI bd_5) :: .int (zI mgo) :: .int (zI mge) :: .int (zI mbk) :: .ref 109 :: .int (zI mtt) :: .int (zI mtl) :: .ref 110 :: .ref 111 :: .ref 112 :: .ref 113 :: .ref 114 :: .ref 115 :: .ref 116 :: .ref 117 :: .int (zI hm) :: .int (zI pm) :: .int (zI hb) :: .int (zI sb) :: .ref 118 :: .ref 119 :: .ref 120 :: .ref 121 :: .ref 122 :: .ref 123 :: .ref 124 :: .ref 125 :: .ref 126 :: .ref 127 :: .ref 128 :: .ref 129 :: .int (zI mfu) :: .ref 130 :: .ref 131 :: .ref 132 :: .ref 133 :: .ref 134 :: .int (zI mdm) :: .int (zI mla) :: [])))]) rfl ?_
          refine J_mask (L2 := [(98, .inr (12, (.int (zI ms) :: .int (zI mv) :: .ref 99 :: .ref 100 :: .ref 101 :: .ref 102 :: .ref 103 :: .ref 104 :: .ref 105 :: .int (zI mt) :: .int (zI mfa) :: .ref 106 :: .ref 107 :: .ref 108 :: .int (zI mtn) :: .int (zI z22) :: .int (zI lv_5) :: .int (zI bd_5) :: .int (zI mgo) :: .int (zI mge) :: .int (zI mbk) :: .ref 109 :: .int (zI mtt) :: .int (zI mtl) :: .ref 110 :: .ref 111 :: .ref 112 :: .ref 113 :: .ref 114 :: .ref 115 :: .ref 116 :: .ref 117 :: .int (zI hm) :: .int (zI pm) :: .int (zI hb) :: .int (zI sb) :: .ref 118 :: .ref 119 :: .ref 120 :: .ref 121 :: .ref 122 :: .ref 123 :: .ref 124 :: .ref 125 :: .ref 126 :: .ref 127 :: .ref 128 :: .ref 129 :: .int (zI mfu) :: .ref 130 :: .ref 131 :: .ref 132 :: .ref 133 :: .ref 134 :: .int (zI mdm) :: .int (zI mla) :: [])))]) (ks := [98, 98]) [true, false] rfl (by decide +kernel) rfl ?_
          refine Z_if_ne (tgt := 29) dX12_readTerm_14 (by decide) v_4dcc24baa7 (fun h30 => ?_) (fun h30 => absurd h30 v_3a47bfd896)
          refine J_aload_n dX12_readTerm_29 rfl rfl ?_
          refine J_iload_n dX12_readTerm_30 rfl rfl ?_
          refine J_callV (st := []) dX12_readTerm_31 cv_X12_222 (k_readPart_1 ms mv mt mfa mtn z22 lv_5 bd_5 mgo mge mbk mtt mtl hm pm hb sb mfu mdm mla cc va pl (v_49f85faddc q0 i5_2 h24) (v_2b81d1254d h24 h25) q2 i5_0 i5_1 q5 q6 q7 q8 i5_4 i5_5 (v_b6e00daf3f i5_6 h24) rfl hk106 hk107 hk108) rfl rfl rfl (Nat.le_of_ble_eq_true rfl) ⟨(Nat.le_of_ble_eq_true rfl), (Nat.le_of_ble_eq_true rfl)⟩ ⟨(Nat.le_of_ble_eq_true rfl), (Nat.le_of_ble_eq_true rfl)⟩ (fun r h9 hp => ?_)
          rcases hp with ⟨z31, z32, z33, rfl, rfl, h34, h35, h36, h37, h38, h39, h40⟩ | ⟨z41, z42, z43, rfl, rfl, h44, h45, h46, h47, h48, h49⟩
          · refine J_nf (nh2 := nh) (ck2 := 0) (sk2 := 0) (st2 := []) rfl rfl rfl rfl ?_
            refine J_app (L3 := [(98, .inr (12, (.int (zI ms) :: .int (zI mv) :: .ref 99 :: .ref 100 :: .ref 101 :: .ref 102 :: .ref 103 :: .ref 104 :: .ref 105 :: .int (zI mt) :: .int (zI mfa) :: .ref 106 :: .ref 107 :: .ref 108 :: .int (zI mtn) :: .int (zI z31) :: .int (zI z32) :: .int (zI z33) :: .int (zI mgo) :: .int (zI mge) :: .int (zI mbk) :: .ref 109 :: .int (zI mtt) :: .int (zI mtl) :: .ref 110 :: .ref 111 :: .ref 112 :: .ref 113 :: .ref 114 :: .ref 115 :: .ref 116 :: .ref 117 :: .int (zI hm) :: .int (zI pm) :: .int (zI hb) :: .int (zI sb) :: .ref 118 :: .ref 119 :: .ref 120 :: .ref 121 :: .ref 122 :: .ref 123 :: .ref 124 :: .ref 125 :: .ref 126 :: .ref 127 :: .ref 128 :: .ref 129 :: .int (zI mfu) :: .ref 130 :: .ref 131 :: .ref 132 :: .ref 133 :: .ref 134 :: .int (zI mdm) :: .int (zI mla) :: []))), (98, .inr (12, (.int (zI ms) :: .int (zI mv) :: .ref 99 :: .ref 100 :: .ref 101 :: .ref 102 :: .ref 103 :: .ref 104 :: .ref 105 :: .int (zI mt) :: .int (zI mfa) :: .ref 106 :: .ref 107 :: .ref 108 :: .int (zI mtn) :: .int (zI z22) :: .int (zI lv_5) :: .int (zI bd_5) :: .int (zI mgo) :: .int (zI mge) :: .int (zI mbk) :: .ref 109 :: .int (zI mtt) :: .int (zI mtl) :: .ref 110 :: .ref 111 :: .ref 112 :: .ref 113 :: .ref 114 :: .ref 115 :: .ref 116 :: .ref 117 :: .int (zI hm) :: .int (zI pm) :: .int (zI hb) :: .int (zI sb) :: .ref 118 :: .ref 119 :: .ref 120 :: .ref 121 :: .ref 122 :: .ref 123 :: .ref 124 :: .ref 125 :: .ref 126 :: .ref 127 :: .ref 128 :: .ref 129 :: .int (zI mfu) :: .ref 130 :: .ref 131 :: .ref 132 :: .ref 133 :: .ref 134 :: .int (zI mdm) :: .int (zI mla) :: [])))]) rfl ?_
            refine J_mask (L2 := [(98, .inr (12, (.int (zI ms) :: .int (zI mv) :: .ref 99 :: .ref 100 :: .ref 101 :: .ref 102 :: .ref 103 :: .ref 104 :: .ref 105 :: .int (zI mt) :: .int (zI mfa) :: .ref 106 :: .ref 107 :: .ref 108 :: .int (zI mtn) :: .int (zI z31) :: .int (zI z32) :: .int (zI z33) :: .int (zI mgo) :: .int (zI mge) :: .int (zI mbk) :: .ref 109 :: .int (zI mtt) :: .int (zI mtl) :: .ref 110 :: .ref 111 :: .ref 112 :: .ref 113 :: .ref 114 :: .ref 115 :: .ref 116 :: .ref 117 :: .int (zI hm) :: .int (zI pm) :: .int (zI hb) :: .int (zI sb) :: .ref 118 :: .ref 119 :: .ref 120 :: .ref 121 :: .ref 122 :: .ref 123 :: .ref 124 :: .ref 125 :: .ref 126 :: .ref 127 :: .ref 128 :: .ref 129 :: .int (zI mfu) :: .ref 130 :: .ref 131 :: .ref 132 :: .ref 133 :: .ref 134 :: .int (zI mdm) :: .int (zI mla) :: [])))]) (ks := [98, 98]) [true, false] rfl (by decide +kernel) rfl ?_
            refine J_goto (tgt := 5) dX12_readTerm_34 (by decide) ?_
            exact ih5 z31 z32 z33 (v_bc0c2646ae h34) (v_a6725f25e8 h34) (v_9e8572ccbd i5_2 h24 h36) h37 h39 (v_778db8d1be q2 h37 h40) (v_cb9e70f6f7 h34 h40) (fun _ => ⟨ChP.add (i5_7 (v_1022695464 i5_0 h23)).1 (.inl (by rw [h26]; exact (v_1500549be1 h21))) h38 (v_b9aca61388 h36) (v_d34386dce5 h24), (by have u := (i5_7 (v_1022695464 i5_0 h23)).2.1; have w := (v_2e78a692fc h24 h36); omega), (i5_7 (v_1022695464 i5_0 h23)).2.2⟩) (meas_lt (v_64faee003a h24 h36) (v_3cd32163cd h25) hm5)
          · refine J_nf (nh2 := nh) (ck2 := 0) (sk2 := 0) (st2 := []) rfl rfl rfl rfl ?_
            refine J_app (L3 := [(98, .inr (12, (.int (zI ms) :: .int (zI mv) :: .ref 99 :: .ref 100 :: .ref 101 :: .ref 102 :: .ref 103 :: .ref 104 :: .ref 105 :: .int (zI mt) :: .int (zI mfa) :: .ref 106 :: .ref 107 :: .ref 108 :: .int (zI mtn) :: .int (zI z41) :: .int (zI z42) :: .int (zI z43) :: .int (zI mgo) :: .int (zI mge) :: .int (zI mbk) :: .ref 109 :: .int (zI mtt) :: .int (zI mtl) :: .ref 110 :: .ref 111 :: .ref 112 :: .ref 113 :: .ref 114 :: .ref 115 :: .ref 116 :: .ref 117 :: .int (zI hm) :: .int (zI pm) :: .int (zI hb) :: .int (zI sb) :: .ref 118 :: .ref 119 :: .ref 120 :: .ref 121 :: .ref 122 :: .ref 123 :: .ref 124 :: .ref 125 :: .ref 126 :: .ref 127 :: .ref 128 :: .ref 129 :: .int (zI mfu) :: .ref 130 :: .ref 131 :: .ref 132 :: .ref 133 :: .ref 134 :: .int (zI mdm) :: .int (zI mla) :: []))), (98, .inr (12, (.int (zI ms) :: .int (zI mv) :: .ref 99 :: .ref 100 :: .ref 101 :: .ref 102 :: .ref 103 :: .ref 104 :: .ref 105 :: .int (zI mt) :: .int (zI mfa) :: .ref 106 :: .ref 107 :: .ref 108 :: .int (zI mtn) :: .int (zI z22) :: .int (zI lv_5) :: .int (zI bd_5) :: .int (zI mgo) :: .int (zI mge) :: .int (zI mbk) :: .ref 109 :: .int (zI mtt) :: .int (zI mtl) :: .ref 110 :: .ref 111 :: .ref 112 :: .ref 113 :: .ref 114 :: .ref 115 :: .ref 116 :: .ref 117 :: .int (zI hm) :: .int (zI pm) :: .int (zI hb) :: .int (zI sb) :: .ref 118 :: .ref 119 :: .ref 120 :: .ref 121 :: .ref 122 :: .ref 123 :: .ref 124 :: .ref 125 :: .ref 126 :: .ref 127 :: .ref 128 :: .ref 129 :: .int (zI mfu) :: .ref 130 :: .ref 131 :: .ref 132 :: .ref 133 :: .ref 134 :: .int (zI mdm) :: .int (zI mla) :: [])))]) rfl ?_
            refine J_mask (L2 := [(98, .inr (12, (.int (zI ms) :: .int (zI mv) :: .ref 99 :: .ref 100 :: .ref 101 :: .ref 102 :: .ref 103 :: .ref 104 :: .ref 105 :: .int (zI mt) :: .int (zI mfa) :: .ref 106 :: .ref 107 :: .ref 108 :: .int (zI mtn) :: .int (zI z41) :: .int (zI z42) :: .int (zI z43) :: .int (zI mgo) :: .int (zI mge) :: .int (zI mbk) :: .ref 109 :: .int (zI mtt) :: .int (zI mtl) :: .ref 110 :: .ref 111 :: .ref 112 :: .ref 113 :: .ref 114 :: .ref 115 :: .ref 116 :: .ref 117 :: .int (zI hm) :: .int (zI pm) :: .int (zI hb) :: .int (zI sb) :: .ref 118 :: .ref 119 :: .ref 120 :: .ref 121 :: .ref 122 :: .ref 123 :: .ref 124 :: .ref 125 :: .ref 126 :: .ref 127 :: .ref 128 :: .ref 129 :: .int (zI mfu) :: .ref 130 :: .ref 131 :: .ref 132 :: .ref 133 :: .ref 134 :: .int (zI mdm) :: .int (zI mla) :: [])))]) (ks := [98, 98]) [true, false] rfl (by decide +kernel) rfl ?_
            refine J_goto (tgt := 5) dX12_readTerm_34 (by decide) ?_
            exact ih5 z41 z42 z43 (v_576129c2e8 h44) h45 (v_f9f6ac3c48 i5_2 h24 h46) h47 h48 h49 (v_85f529c18f q0 i5_2 h24 h44 h46 h49) (fun w => absurd w (by have u := (v_2b02420001 h44); omega)) (meas_lt (v_46068e056c h24 h46) (v_3cd32163cd h25) hm5)
        · refine J_nf (nh2 := nh) (ck2 := 0) (sk2 := 0) (st2 := [.int (zI 0)]) rfl rfl rfl rfl ?_
          refine Z_if_ne (tgt := 29) dX12_readTerm_14 (by decide) v_b17331891f (fun h50 => absurd h50 (fun q => q v_2ca2bbca1f)) (fun h50 => ?_)
          refine J_aload_n dX12_readTerm_17 rfl rfl ?_
          refine Z_bipush (n := 47) dX12_readTerm_18 (by decide +kernel) ?_
          refine J_callS (st := [.ref 98]) dX12_readTerm_20 cs_X12_215 (k_sign 47 v_a2835897db v_8710bb8462) rfl rfl (Nat.le_of_ble_eq_true rfl) ⟨(Nat.le_of_ble_eq_true rfl), (Nat.le_of_ble_eq_true rfl)⟩ ⟨(Nat.le_of_ble_eq_true rfl), (Nat.le_of_ble_eq_true rfl)⟩ (fun r h9 hp => ?_)
          obtain ⟨z51, rfl, rfl, h52⟩ := hp
          refine J_nf (nh2 := nh) (ck2 := 0) (sk2 := 0) (st2 := [.int (zI z51), .ref 98]) rfl rfl rfl rfl ?_
          refine J_callV (st := []) dX12_readTerm_23 cv_X12_190 (k_takes0 z51 ms mv mt mfa mtn tk_5 lv_5 bd_5 mgo mge mbk mtt mtl hm pm hb sb mfu mdm mla cc va pl (v_14fa416972 h52) (v_78d3fd05d2 h52) (v_21976c7318 q0 i5_2) i5_3 q2 i5_0 i5_1 q5 q6 q7 q8 rfl hk106 hk107 hk108) rfl rfl rfl (Nat.le_of_ble_eq_true rfl) ⟨(Nat.le_of_ble_eq_true rfl), (Nat.le_of_ble_eq_true rfl)⟩ ⟨(Nat.le_of_ble_eq_true rfl), (Nat.le_of_ble_eq_true rfl)⟩ (fun r h9 hp => ?_)
          rcases hp with ⟨z53, rfl, rfl, h54, h55, h56, h57⟩ | ⟨rfl, rfl, h58, h59⟩ | ⟨rfl, rfl, h60⟩
          · refine J_nf (nh2 := nh) (ck2 := 0) (sk2 := 0) (st2 := [.int (zI 1)]) rfl rfl rfl rfl ?_
            refine J_app (L3 := [(98, .inr (12, (.int (zI ms) :: .int (zI mv) :: .ref 99 :: .ref 100 :: .ref 101 :: .ref 102 :: .ref 103 :: .ref 104 :: .ref 105 :: .int (zI mt) :: .int (zI mfa) :: .ref 106 :: .ref 107 :: .ref 108 :: .int (zI mtn) :: .int (zI z53) :: .int (zI lv_5) :: .int (zI bd_5) :: .int (zI mgo) :: .int (zI mge) :: .int (zI mbk) :: .ref 109 :: .int (zI mtt) :: .int (zI mtl) :: .ref 110 :: .ref 111 :: .ref 112 :: .ref 113 :: .ref 114 :: .ref 115 :: .ref 116 :: .ref 117 :: .int (zI hm) :: .int (zI pm) :: .int (zI hb) :: .int (zI sb) :: .ref 118 :: .ref 119 :: .ref 120 :: .ref 121 :: .ref 122 :: .ref 123 :: .ref 124 :: .ref 125 :: .ref 126 :: .ref 127 :: .ref 128 :: .ref 129 :: .int (zI mfu) :: .ref 130 :: .ref 131 :: .ref 132 :: .ref 133 :: .ref 134 :: .int (zI mdm) :: .int (zI mla) :: []))), (98, .inr (12, (.int (zI ms) :: .int (zI mv) :: .ref 99 :: .ref 100 :: .ref 101 :: .ref 102 :: .ref 103 :: .ref 104 :: .ref 105 :: .int (zI mt) :: .int (zI mfa) :: .ref 106 :: .ref 107 :: .ref 108 :: .int (zI mtn) :: .int (zI tk_5) :: .int (zI lv_5) :: .int (zI bd_5) :: .int (zI mgo) :: .int (zI mge) :: .int (zI mbk) :: .ref 109 :: .int (zI mtt) :: .int (zI mtl) :: .ref 110 :: .ref 111 :: .ref 112 :: .ref 113 :: .ref 114 :: .ref 115 :: .ref 116 :: .ref 117 :: .int (zI hm) :: .int (zI pm) :: .int (zI hb) :: .int (zI sb) :: .ref 118 :: .ref 119 :: .ref 120 :: .ref 121 :: .ref 122 :: .ref 123 :: .ref 124 :: .ref 125 :: .ref 126 :: .ref 127 :: .ref 128 :: .ref 129 :: .int (zI mfu) :: .ref 130 :: .ref 131 :: .ref 132 :: .ref 133 :: .ref 134 :: .int (zI mdm) :: .int (zI mla) :: [])))]) rfl ?_
            refine J_mask (L2 := [(98, .inr (12, (.int (zI ms) :: .int (zI mv) :: .ref 99 :: .ref 100 :: .ref 101 :: .ref 102 :: .ref 103 :: .ref 104 :: .ref 105 :: .int (zI mt) :: .int (zI mfa) :: .ref 106 :: .ref 107 :: .ref 108 :: .int (zI mtn) :: .int (zI z53) :: .int (zI lv_5) :: .int (zI bd_5) :: .int (zI mgo) :: .int (zI mge) :: .int (zI mbk) :: .ref 109 :: .int (zI mtt) :: .int (zI mtl) :: .ref 110 :: .ref 111 :: .ref 112 :: .ref 113 :: .ref 114 :: .ref 115 :: .ref 116 :: .ref 117 :: .int (zI hm) :: .int (zI pm) :: .int (zI hb) :: .int (zI sb) :: .ref 118 :: .ref 119 :: .ref 120 :: .ref 121 :: .ref 122 :: .ref 123 :: .ref 124 :: .ref 125 :: .ref 126 :: .ref 127 :: .ref 128 :: .ref 129 :: .int (zI mfu) :: .ref 130 :: .ref 131 :: .ref 132 :: .ref 133 :: .ref 134 :: .int (zI mdm) :: .int (zI mla) :: [])))]) (ks := [98, 98]) [true, false] rfl (by decide +kernel) rfl ?_
            refine Z_if_eq (tgt := 37) dX12_readTerm_26 (by decide) v_4dcc24baa7 (fun h61 => absurd h61 v_3a47bfd896) (fun h61 => ?_)
            refine J_aload_n dX12_readTerm_29 rfl rfl ?_
            refine J_iload_n dX12_readTerm_30 rfl rfl ?_
            refine J_callV (st := []) dX12_readTerm_31 cv_X12_222 (k_readPart_1 ms mv mt mfa mtn z53 lv_5 bd_5 mgo mge mbk mtt mtl hm pm hb sb mfu mdm mla cc va pl (v_49f85faddc q0 i5_2 h55) (v_2b81d1254d h55 h56) q2 i5_0 i5_1 q5 q6 q7 q8 i5_4 i5_5 (v_b6e00daf3f i5_6 h55) rfl hk106 hk107 hk108) rfl rfl rfl (Nat.le_of_ble_eq_true rfl) ⟨(Nat.le_of_ble_eq_true rfl), (Nat.le_of_ble_eq_true rfl)⟩ ⟨(Nat.le_of_ble_eq_true rfl), (Nat.le_of_ble_eq_true rfl)⟩ (fun r h9 hp => ?_)
            rcases hp with ⟨z62, z63, z64, rfl, rfl, h65, h66, h67, h68, h69, h70, h71⟩ | ⟨z72, z73, z74, rfl, rfl, h75, h76, h77, h78, h79, h80⟩
            · refine J_nf (nh2 := nh) (ck2 := 0) (sk2 := 0) (st2 := []) rfl rfl rfl rfl ?_
              refine J_app (L3 := [(98, .inr (12, (.int (zI ms) :: .int (zI mv) :: .ref 99 :: .ref 100 :: .ref 101 :: .ref 102 :: .ref 103 :: .ref 104 :: .ref 105 :: .int (zI mt) :: .int (zI mfa) :: .ref 106 :: .ref 107 :: .ref 108 :: .int (zI mtn) :: .int (zI z62) :: .int (zI z63) :: .int (zI z64) :: .int (zI mgo) :: .int (zI mge) :: .int (zI mbk) :: .ref 109 :: .int (zI mtt) :: .int (zI mtl) :: .ref 110 :: .ref 111 :: .ref 112 :: .ref 113 :: .ref 114 :: .ref 115 :: .ref 116 :: .ref 117 :: .int (zI hm) :: .int (zI pm) :: .int (zI hb) :: .int (zI sb) :: .ref 118 :: .ref 119 :: .ref 120 :: .ref 121 :: .ref 122 :: .ref 123 :: .ref 124 :: .ref 125 :: .ref 126 :: .ref 127 :: .ref 128 :: .ref 129 :: .int (zI mfu) :: .ref 130 :: .ref 131 :: .ref 132 :: .ref 133 :: .ref 134 :: .int (zI mdm) :: .int (zI mla) :: []))), (98, .inr (12, (.int (zI ms) :: .int (zI mv) :: .ref 99 :: .ref 100 :: .ref 101 :: .ref 102 :: .ref 103 :: .ref 104 :: .ref 105 :: .int (zI mt) :: .int (zI mfa) :: .ref 106 :: .ref 107 :: .ref 108 :: .int (zI mtn) :: .int (zI z53) :: .int (zI lv_5) :: .int (zI bd_5) :: .int (zI mgo) :: .int (zI mge) :: .int (zI mbk) :: .ref 109 :: .int (zI mtt) :: .int (zI mtl) :: .ref 110 :: .ref 111 :: .ref 112 :: .ref 113 :: .ref 114 :: .ref 115 :: .ref 116 :: .ref 117 :: .int (zI hm) :: .int (zI pm) :: .int (zI hb) :: .int (zI sb) :: .ref 118 :: .ref 119 :: .ref 120 :: .ref 121 :: .ref 122 :: .ref 123 :: .ref 124 :: .ref 125 :: .ref 126 :: .ref 127 :: .ref 128 :: .ref 129 :: .int (zI mfu) :: .ref 130 :: .ref 131 :: .ref 132 :: .ref 133 :: .ref 134 :: .int (zI mdm) :: .int (zI mla) :: [])))]) rfl ?_
              refine J_mask (L2 := [(98, .inr (12, (.int (zI ms) :: .int (zI mv) :: .ref 99 :: .ref 100 :: .ref 101 :: .ref 102 :: .ref 103 :: .ref 104 :: .ref 105 :: .int (zI mt) :: .int (zI mfa) :: .ref 106 :: .ref 107 :: .ref 108 :: .int (zI mtn) :: .int (zI z62) :: .int (zI z63) :: .int (zI z64) :: .int (zI mgo) :: .int (zI mge) :: .int (zI mbk) :: .ref 109 :: .int (zI mtt) :: .int (zI mtl) :: .ref 110 :: .ref 111 :: .ref 112 :: .ref 113 :: .ref 114 :: .ref 115 :: .ref 116 :: .ref 117 :: .int (zI hm) :: .int (zI pm) :: .int (zI hb) :: .int (zI sb) :: .ref 118 :: .ref 119 :: .ref 120 :: .ref 121 :: .ref 122 :: .ref 123 :: .ref 124 :: .ref 125 :: .ref 126 :: .ref 127 :: .ref 128 :: .ref 129 :: .int (zI mfu) :: .ref 130 :: .ref 131 :: .ref 132 :: .ref 133 :: .ref 134 :: .int (zI mdm) :: .int (zI mla) :: [])))]) (ks := [98, 98]) [true, false] rfl (by decide +kernel) rfl ?_
              refine J_goto (tgt := 5) dX12_readTerm_34 (by decide) ?_
              exact ih5 z62 z63 z64 (v_bc0c2646ae h65) (v_a6725f25e8 h65) (v_9e8572ccbd i5_2 h55 h67) h68 h70 (v_778db8d1be q2 h68 h71) (v_cb9e70f6f7 h65 h71) (fun _ => ⟨ChP.add (i5_7 (v_1022695464 i5_0 h27)).1 (.inr (by rw [h57]; exact (v_963e78d969 h52))) h69 (v_b9aca61388 h67) (v_d34386dce5 h55), (by have u := (i5_7 (v_1022695464 i5_0 h27)).2.1; have w := (v_2e78a692fc h55 h67); omega), (i5_7 (v_1022695464 i5_0 h27)).2.2⟩) (meas_lt (v_64faee003a h55 h67) (v_3cd32163cd h56) hm5)
            · refine J_nf (nh2 := nh) (ck2 := 0) (sk2 := 0) (st2 := []) rfl rfl rfl rfl ?_
              refine J_app (L3 := [(98, .inr (12, (.int (zI ms) :: .int (zI mv) :: .ref 99 :: .ref 100 :: .ref 101 :: .ref 102 :: .ref 103 :: .ref 104 :: .ref 105 :: .int (zI mt) :: .int (zI mfa) :: .ref 106 :: .ref 107 :: .ref 108 :: .int (zI mtn) :: .int (zI z72) :: .int (zI z73) :: .int (zI z74) :: .int (zI mgo) :: .int (zI mge) :: .int (zI mbk) :: .ref 109 :: .int (zI mtt) :: .int (zI mtl) :: .ref 110 :: .ref 111 :: .ref 112 :: .ref 113 :: .ref 114 :: .ref 115 :: .ref 116 :: .ref 117 :: .int (zI hm) :: .int (zI pm) :: .int (zI hb) :: .int (zI sb) :: .ref 118 :: .ref 119 :: .ref 120 :: .ref 121 :: .ref 122 :: .ref 123 :: .ref 124 :: .ref 125 :: .ref 126 :: .ref 127 :: .ref 128 :: .ref 129 :: .int (zI mfu) :: .ref 130 :: .ref 131 :: .ref 132 :: .ref 133 :: .ref 134 :: .int (zI mdm) :: .int (zI mla) :: []))), (98, .inr (12, (.int (zI ms) :: .int (zI mv) :: .ref 99 :: .ref 100 :: .ref 101 :: .ref 102 :: .ref 103 :: .ref 104 :: .ref 105 :: .int (zI mt) :: .int (zI mfa) :: .ref 106 :: .ref 107 :: .ref 108 :: .int (zI mtn) :: .int (zI z53) :: .int (zI lv_5) :: .int (zI bd_5) :: .int (zI mgo) :: .int (zI mge) :: .int (zI mbk) :: .ref 109 :: .int (zI mtt) :: .int (zI mtl) :: .ref 110 :: .ref 111 :: .ref 112 :: .ref 113 :: .ref 114 :: .ref 115 :: .ref 116 :: .ref 117 :: .int (zI hm) :: .int (zI pm) :: .int (zI hb) :: .int (zI sb) :: .ref 118 :: .ref 119 :: .ref 120 :: .ref 121 :: .ref 122 :: .ref 123 :: .ref 124 :: .ref 125 :: .ref 126 :: .ref 127 :: .ref 128 :: .ref 129 :: .int (zI mfu) :: .ref 130 :: .ref 131 :: .ref 132 :: .ref 133 :: .ref 134 :: .int (zI mdm) :: .int (zI mla) :: [])))]) rfl ?_
              refine J_mask (L2 := [(98, .inr (12, (.int (zI ms) :: .int (zI mv) :: .ref 99 :: .ref 100 :: .ref 101 :: .ref 102 :: .ref 103 :: .ref 104 :: .ref 105 :: .int (zI mt) :: .int (zI mfa) :: .ref 106 :: .ref 107 :: .ref 108 :: .int (zI mtn) :: .int (zI z72) :: .int (zI z73) :: .int (zI z74) :: .int (zI mgo) :: .int (zI mge) :: .int (zI mbk) :: .ref 109 :: .int (zI mtt) :: .int (zI mtl) :: .ref 110 :: .ref 111 :: .ref 112 :: .ref 113 :: .ref 114 :: .ref 115 :: .ref 116 :: .ref 117 :: .int (zI hm) :: .int (zI pm) :: .int (zI hb) :: .int (zI sb) :: .ref 118 :: .ref 119 :: .ref 120 :: .ref 121 :: .ref 122 :: .ref 123 :: .ref 124 :: .ref 125 :: .ref 126 :: .ref 127 :: .ref 128 :: .ref 129 :: .int (zI mfu) :: .ref 130 :: .ref 131 :: .ref 132 :: .ref 133 :: .ref 134 :: .int (zI mdm) :: .int (zI mla) :: [])))]) (ks := [98, 98]) [true, false] rfl (by decide +kernel) rfl ?_
              refine J_goto (tgt := 5) dX12_readTerm_34 (by decide) ?_
              exact ih5 z72 z73 z74 (v_576129c2e8 h75) h76 (v_f9f6ac3c48 i5_2 h55 h77) h78 h79 h80 (v_85f529c18f q0 i5_2 h55 h75 h77 h80) (fun w => absurd w (by have u := (v_2b02420001 h75); omega)) (meas_lt (v_46068e056c h55 h77) (v_3cd32163cd h56) hm5)
          · refine J_nf (nh2 := nh) (ck2 := 0) (sk2 := 0) (st2 := [.int (zI 0)]) rfl rfl rfl rfl ?_
            refine Z_if_eq (tgt := 37) dX12_readTerm_26 (by decide) v_b17331891f (fun h81 => ?_) (fun h81 => absurd h81 (fun q => q v_2ca2bbca1f))
            have gx := i5_7 (v_1022695464 i5_0 h27)
            exact J_vret dX12_readTerm_37 rfl (Nat.le_of_ble_eq_true rfl) (Nat.le_of_ble_eq_true rfl) (Or.inl ⟨tk_5, lv_5, bd_5, rfl, rfl, h58, gx.2.2, gx.2.1, i5_3, (ChP.end gx.1 (fun w => by have u0 := h28; have u1 := h59; have u2 := h21; have u3 := h52; rcases w with w | w <;> omega)), i5_4, (v_0471d920d5 i5_6 h27)⟩)
          · exact False.elim (v_221c0ce955 h27 h60)
        · refine J_nf (nh2 := nh) (ck2 := 0) (sk2 := 0) (st2 := [.int (zI 0)]) rfl rfl rfl rfl ?_
          refine Z_if_ne (tgt := 29) dX12_readTerm_14 (by decide) v_b17331891f (fun h82 => absurd h82 (fun q => q v_2ca2bbca1f)) (fun h82 => ?_)
          refine J_aload_n dX12_readTerm_17 rfl rfl ?_
          refine Z_bipush (n := 47) dX12_readTerm_18 (by decide +kernel) ?_
          refine J_callS (st := [.ref 98]) dX12_readTerm_20 cs_X12_215 (k_sign 47 v_a2835897db v_8710bb8462) rfl rfl (Nat.le_of_ble_eq_true rfl) ⟨(Nat.le_of_ble_eq_true rfl), (Nat.le_of_ble_eq_true rfl)⟩ ⟨(Nat.le_of_ble_eq_true rfl), (Nat.le_of_ble_eq_true rfl)⟩ (fun r h9 hp => ?_)
          obtain ⟨z83, rfl, rfl, h84⟩ := hp
          refine J_nf (nh2 := nh) (ck2 := 0) (sk2 := 0) (st2 := [.int (zI z83), .ref 98]) rfl rfl rfl rfl ?_
          refine J_callV (st := []) dX12_readTerm_23 cv_X12_190 (k_takes0 z83 ms mv mt mfa mtn tk_5 lv_5 bd_5 mgo mge mbk mtt mtl hm pm hb sb mfu mdm mla cc va pl (v_14fa416972 h84) (v_78d3fd05d2 h84) (v_21976c7318 q0 i5_2) i5_3 q2 i5_0 i5_1 q5 q6 q7 q8 rfl hk106 hk107 hk108) rfl rfl rfl (Nat.le_of_ble_eq_true rfl) ⟨(Nat.le_of_ble_eq_true rfl), (Nat.le_of_ble_eq_true rfl)⟩ ⟨(Nat.le_of_ble_eq_true rfl), (Nat.le_of_ble_eq_true rfl)⟩ (fun r h9 hp => ?_)
          rcases hp with ⟨z85, rfl, rfl, h86, h87, h88, h89⟩ | ⟨rfl, rfl, h90, h91⟩ | ⟨rfl, rfl, h92⟩
          · exact False.elim (v_a2a49c9ec0 h29 h86)
          · exact False.elim (v_a2a49c9ec0 h29 h90)
          · refine J_nf (nh2 := nh) (ck2 := 0) (sk2 := 0) (st2 := [.int (zI 0)]) rfl rfl rfl rfl ?_
            refine Z_if_eq (tgt := 37) dX12_readTerm_26 (by decide) v_b17331891f (fun h93 => ?_) (fun h93 => absurd h93 (fun q => q v_2ca2bbca1f))
            exact J_vret dX12_readTerm_37 rfl (Nat.le_of_ble_eq_true rfl) (Nat.le_of_ble_eq_true rfl) (Or.inr ⟨tk_5, lv_5, bd_5, rfl, rfl, h92, i5_1, i5_2, i5_3, i5_4, i5_5⟩)
    exact lp5 _ z1 z2 z3 (v_bc0c2646ae h4) (v_a6725f25e8 h4) (v_c771ab5f01 h6) h7 h9 (v_778db8d1be q2 h7 h10) (v_cb9e70f6f7 h4 h10) (fun _ => ⟨ChP_1 h8 (v_b9aca61388 h6), (v_b9aca61388 h6), (v_1022695464 q3 h5)⟩) (Nat.lt_succ_self _)
  · refine J_nf (nh2 := nh) (ck2 := 0) (sk2 := 0) (st2 := []) rfl rfl rfl rfl ?_
    refine J_app (L3 := [(98, .inr (12, (.int (zI ms) :: .int (zI mv) :: .ref 99 :: .ref 100 :: .ref 101 :: .ref 102 :: .ref 103 :: .ref 104 :: .ref 105 :: .int (zI mt) :: .int (zI mfa) :: .ref 106 :: .ref 107 :: .ref 108 :: .int (zI mtn) :: .int (zI z11) :: .int (zI z12) :: .int (zI z13) :: .int (zI mgo) :: .int (zI mge) :: .int (zI mbk) :: .ref 109 :: .int (zI mtt) :: .int (zI mtl) :: .ref 110 :: .ref 111 :: .ref 112 :: .ref 113 :: .ref 114 :: .ref 115 :: .ref 116 :: .ref 117 :: .int (zI hm) :: .int (zI pm) :: .int (zI hb) :: .int (zI sb) :: .ref 118 :: .ref 119 :: .ref 120 :: .ref 121 :: .ref 122 :: .ref 123 :: .ref 124 :: .ref 125 :: .ref 126 :: .ref 127 :: .ref 128 :: .ref 129 :: .int (zI mfu) :: .ref 130 :: .ref 131 :: .ref 132 :: .ref 133 :: .ref 134 :: .int (zI mdm) :: .int (zI mla) :: [])))]) rfl ?_
    have lp5 : ∀ (N5 : Nat) (tk_5 : Int) (lv_5 : Int) (bd_5 : Int), (-1 ≤ bd_5) → (bd_5 ≤ 400) → (mtk ≤ tk_5) → (tk_5 ≤ mtn) → (0 ≤ lv_5) → (lv_5 ≤ 402) → (lv_5 ≤ tk_5 + 1000 * bd_5 + 1000) → (bd_5 = -1 → ChP (PartG (Cc cc mtn) 1) (S2 (Cc cc mtn) 142 147) mtk tk_5 ∧ mtk < tk_5 ∧ mbd = -1) → (mtn - tk_5).toNat < N5 → J l G MX12_readTerm { frames := 7, cells := 0, slots := 0, locals := 146 } jE (jMQ G { frames := 7, cells := 0, slots := 0, locals := 146 } (fun rr h9 => (∃ tk2 : Int, ∃ lv2 : Int, ∃ bd2 : Int, rr = none ∧ h9 = (nh, hc fh [(98, .inr (12, (.int (zI ms) :: .int (zI mv) :: .ref 99 :: .ref 100 :: .ref 101 :: .ref 102 :: .ref 103 :: .ref 104 :: .ref 105 :: .int (zI mt) :: .int (zI mfa) :: .ref 106 :: .ref 107 :: .ref 108 :: .int (zI mtn) :: .int (zI tk2) :: .int (zI lv2) :: .int (zI bd2) :: .int (zI mgo) :: .int (zI mge) :: .int (zI mbk) :: .ref 109 :: .int (zI mtt) :: .int (zI mtl) :: .ref 110 :: .ref 111 :: .ref 112 :: .ref 113 :: .ref 114 :: .ref 115 :: .ref 116 :: .ref 117 :: .int (zI hm) :: .int (zI pm) :: .int (zI hb) :: .int (zI sb) :: .ref 118 :: .ref 119 :: .ref 120 :: .ref 121 :: .ref 122 :: .ref 123 :: .ref 124 :: .ref 125 :: .ref 126 :: .ref 127 :: .ref 128 :: .ref 129 :: .int (zI mfu) :: .ref 130 :: .ref 131 :: .ref 132 :: .ref 133 :: .ref 134 :: .int (zI mdm) :: .int (zI mla) :: [])))]) ∧ (bd2 = -1) ∧ (mbd = -1) ∧ (mtk < tk2) ∧ (tk2 ≤ mtn) ∧ (TermG (Cc cc mtn) 1 mtk tk2) ∧ (0 ≤ lv2) ∧ (lv2 ≤ tk2)) ∨ (∃ tk2 : Int, ∃ lv2 : Int, ∃ bd2 : Int, rr = none ∧ h9 = (nh, hc fh [(98, .inr (12, (.int (zI ms) :: .int (zI mv) :: .ref 99 :: .ref 100 :: .ref 101 :: .ref 102 :: .ref 103 :: .ref 104 :: .ref 105 :: .int (zI mt) :: .int (zI mfa) :: .ref 106 :: .ref 107 :: .ref 108 :: .int (zI mtn) :: .int (zI tk2) :: .int (zI lv2) :: .int (zI bd2) :: .int (zI mgo) :: .int (zI mge) :: .int (zI mbk) :: .ref 109 :: .int (zI mtt) :: .int (zI mtl) :: .ref 110 :: .ref 111 :: .ref 112 :: .ref 113 :: .ref 114 :: .ref 115 :: .ref 116 :: .ref 117 :: .int (zI hm) :: .int (zI pm) :: .int (zI hb) :: .int (zI sb) :: .ref 118 :: .ref 119 :: .ref 120 :: .ref 121 :: .ref 122 :: .ref 123 :: .ref 124 :: .ref 125 :: .ref 126 :: .ref 127 :: .ref 128 :: .ref 129 :: .int (zI mfu) :: .ref 130 :: .ref 131 :: .ref 132 :: .ref 133 :: .ref 134 :: .int (zI mdm) :: .int (zI mla) :: [])))]) ∧ (0 ≤ bd2) ∧ (bd2 ≤ 400) ∧ (mtk ≤ tk2) ∧ (tk2 ≤ mtn) ∧ (0 ≤ lv2) ∧ (lv2 ≤ 402)))) (nh, hc fh [(98, .inr (12, (.int (zI ms) :: .int (zI mv) :: .ref 99 :: .ref 100 :: .ref 101 :: .ref 102 :: .ref 103 :: .ref 104 :: .ref 105 :: .int (zI mt) :: .int (zI mfa) :: .ref 106 :: .ref 107 :: .ref 108 :: .int (zI mtn) :: .int (zI tk_5) :: .int (zI lv_5) :: .int (zI bd_5) :: .int (zI mgo) :: .int (zI mge) :: .int (zI mbk) :: .ref 109 :: .int (zI mtt) :: .int (zI mtl) :: .ref 110 :: .ref 111 :: .ref 112 :: .ref 113 :: .ref 114 :: .ref 115 :: .ref 116 :: .ref 117 :: .int (zI hm) :: .int (zI pm) :: .int (zI hb) :: .int (zI sb) :: .ref 118 :: .ref 119 :: .ref 120 :: .ref 121 :: .ref 122 :: .ref 123 :: .ref 124 :: .ref 125 :: .ref 126 :: .ref 127 :: .ref 128 :: .ref 129 :: .int (zI mfu) :: .ref 130 :: .ref 131 :: .ref 132 :: .ref 133 :: .ref 134 :: .int (zI mdm) :: .int (zI mla) :: [])))]) 0 0 5 [some (.ref 98), some (.int (zI 7))] [] := by
      intro N5
      induction N5 with
      | zero => intro tk_5 lv_5 bd_5 i5_0 i5_1 i5_2 i5_3 i5_4 i5_5 i5_6 i5_7 hm; exact absurd hm (Nat.not_lt_zero _)
      | succ N5 ih5 =>
        intro tk_5 lv_5 bd_5 i5_0 i5_1 i5_2 i5_3 i5_4 i5_5 i5_6 i5_7 hm5
        refine J_aload_n dX12_readTerm_5 rfl rfl ?_
        refine Z_bipush (n := 42) dX12_readTerm_6 (by decide +kernel) ?_
        refine J_callS (st := [.ref 98]) dX12_readTerm_8 cs_X12_215 (k_sign 42 v_19b0ad2cd1 v_1f79c0c2c4) rfl rfl (Nat.le_of_ble_eq_true rfl) ⟨(Nat.le_of_ble_eq_true rfl), (Nat.le_of_ble_eq_true rfl)⟩ ⟨(Nat.le_of_ble_eq_true rfl), (Nat.le_of_ble_eq_true rfl)⟩ (fun r h9 hp => ?_)
        obtain ⟨z94, rfl, rfl, h95⟩ := hp
        refine J_nf (nh2 := nh) (ck2 := 0) (sk2 := 0) (st2 := [.int (zI z94), .ref 98]) rfl rfl rfl rfl ?_
        refine J_callV (st := []) dX12_readTerm_11 cv_X12_190 (k_takes0 z94 ms mv mt mfa mtn tk_5 lv_5 bd_5 mgo mge mbk mtt mtl hm pm hb sb mfu mdm mla cc va pl (v_be84312a04 h95) (v_8c70c87066 h95) (v_21976c7318 q0 i5_2) i5_3 q2 i5_0 i5_1 q5 q6 q7 q8 rfl hk106 hk107 hk108) rfl rfl rfl (Nat.le_of_ble_eq_true rfl) ⟨(Nat.le_of_ble_eq_true rfl), (Nat.le_of_ble_eq_true rfl)⟩ ⟨(Nat.le_of_ble_eq_true rfl), (Nat.le_of_ble_eq_true rfl)⟩ (fun r h9 hp => ?_)
        rcases hp with ⟨z96, rfl, rfl, h97, h98, h99, h100⟩ | ⟨rfl, rfl, h101, h102⟩ | ⟨rfl, rfl, h103⟩
        · refine J_nf (nh2 := nh) (ck2 := 0) (sk2 := 0) (st2 := [.int (zI 1)]) rfl rfl rfl rfl ?_
          refine J_app (L3 := [(98, .inr (12, (.int (zI ms) :: .int (zI mv) :: .ref 99 :: .ref 100 :: .ref 101 :: .ref 102 :: .ref 103 :: .ref 104 :: .ref 105 :: .int (zI mt) :: .int (zI mfa) :: .ref 106 :: .ref 107 :: .ref 108 :: .int (zI mtn) :: .int (zI z96) :: .int (zI lv_5) :: .int (zI bd_5) :: .int (zI mgo) :: .int (zI mge) :: .int (zI mbk) :: .ref 109 :: .int (zI mtt) :: .int (zI mtl) :: .ref 110 :: .ref 111 :: .ref 112 :: .ref 113 :: .ref 114 :: .ref 115 :: .ref 116 :: .ref 117 :: .int (zI hm) :: .int (zI pm) :: .int (zI hb) :: .int (zI sb) :: .ref 118 :: .ref 119 :: .ref 120 :: .ref 121 :: .ref 122 :: .ref 123 :: .ref 124 :: .ref 125 :: .ref 126 :: .ref 127 :: .ref 128 :: .ref 129 :: .int (zI mfu) :: .ref 130 :: .ref 131 :: .ref 132 :: .ref 133 :: .ref 134 :: .int (zI mdm) :: .int (zI mla) :: []))), (98, .inr (12, (.int (zI ms) :: .int (zI mv) :: .ref 99 :: .ref 100 :: .ref 101 :: .ref 102 :: .ref 103 :: .ref 104 :: .ref 105 :: .int (zI mt) :: .int (zI mfa) :: .ref 106 :: .ref 107 :: .ref 108 :: .int (zI mtn) :: .int (zI tk_5) :: .int (zI lv_5) :: .int (zI bd_5) :: .int (zI mgo) :: .int (zI mge) :: .int (zI mbk) :: .ref 109 :: .int (zI mtt) :: .int (zI mtl) :: .ref 110 :: .ref 111 :: .ref 112 :: .ref 113 :: .ref 114 :: .ref 115 :: .ref 116 :: .ref 117 :: .int (zI hm) :: .int (zI pm) :: .int (zI hb) :: .int (zI sb) :: .ref 118 :: .ref 119 :: .ref 120 :: .ref 121 :: .ref 122 :: .ref 123 :: .ref 124 :: .ref 125 :: .ref 126 :: .ref 127 :: .ref 128 :: .ref 129 :: .int (zI mfu) :: .ref 130 :: .ref 131 :: .ref 132 :: .ref 133 :: .ref 134 :: .int (zI mdm) :: .int (zI mla) :: [])))]) rfl ?_
          refine J_mask (L2 := [(98, .inr (12, (.int (zI ms) :: .int (zI mv) :: .ref 99 :: .ref 100 :: .ref 101 :: .ref 102 :: .ref 103 :: .ref 104 :: .ref 105 :: .int (zI mt) :: .int (zI mfa) :: .ref 106 :: .ref 107 :: .ref 108 :: .int (zI mtn) :: .int (zI z96) :: .int (zI lv_5) :: .int (zI bd_5) :: .int (zI mgo) :: .int (zI mge) :: .int (zI mbk) :: .ref 109 :: .int (zI mtt) :: .int (zI mtl) :: .ref 110 :: .ref 111 :: .ref 112 :: .ref 113 :: .ref 114 :: .ref 115 :: .ref 116 :: .ref 117 :: .int (zI hm) :: .int (zI pm) :: .int (zI hb) :: .int (zI sb) :: .ref 118 :: .ref 119 :: .ref 120 :: .ref 121 :: .ref 122 :: .ref 123 :: .ref 124 :: .ref 125 :: .ref 126 :: .ref 127 :: .ref 128 :: .ref 129 :: .int (zI mfu) :: .ref 130 :: .ref 131 :: .ref 132 :: .ref 133 :: .ref 134 :: .int (zI mdm) :: .int (zI mla) :: [])))]) (ks := [98, 98]) [true, false] rfl (by decide +kernel) rfl ?_
          refine Z_if_ne (tgt := 29) dX12_readTerm_14 (by decide) v_4dcc24baa7 (fun h104 => ?_) (fun h104 => absurd h104 v_3a47bfd896)
          refine J_aload_n dX12_readTerm_29 rfl rfl ?_
          refine J_iload_n dX12_readTerm_30 rfl rfl ?_
          refine J_callV (st := []) dX12_readTerm_31 cv_X12_222 (k_readPart_1 ms mv mt mfa mtn z96 lv_5 bd_5 mgo mge mbk mtt mtl hm pm hb sb mfu mdm mla cc va pl (v_49f85faddc q0 i5_2 h98) (v_2b81d1254d h98 h99) q2 i5_0 i5_1 q5 q6 q7 q8 i5_4 i5_5 (v_b6e00daf3f i5_6 h98) rfl hk106 hk107 hk108) rfl rfl rfl (Nat.le_of_ble_eq_true rfl) ⟨(Nat.le_of_ble_eq_true rfl), (Nat.le_of_ble_eq_true rfl)⟩ ⟨(Nat.le_of_ble_eq_true rfl), (Nat.le_of_ble_eq_true rfl)⟩ (fun r h9 hp => ?_)
          rcases hp with ⟨z105, z106, z107, rfl, rfl, h108, h109, h110, h111, h112, h113, h114⟩ | ⟨z115, z116, z117, rfl, rfl, h118, h119, h120, h121, h122, h123⟩
          · refine J_nf (nh2 := nh) (ck2 := 0) (sk2 := 0) (st2 := []) rfl rfl rfl rfl ?_
            refine J_app (L3 := [(98, .inr (12, (.int (zI ms) :: .int (zI mv) :: .ref 99 :: .ref 100 :: .ref 101 :: .ref 102 :: .ref 103 :: .ref 104 :: .ref 105 :: .int (zI mt) :: .int (zI mfa) :: .ref 106 :: .ref 107 :: .ref 108 :: .int (zI mtn) :: .int (zI z105) :: .int (zI z106) :: .int (zI z107) :: .int (zI mgo) :: .int (zI mge) :: .int (zI mbk) :: .ref 109 :: .int (zI mtt) :: .int (zI mtl) :: .ref 110 :: .ref 111 :: .ref 112 :: .ref 113 :: .ref 114 :: .ref 115 :: .ref 116 :: .ref 117 :: .int (zI hm) :: .int (zI pm) :: .int (zI hb) :: .int (zI sb) :: .ref 118 :: .ref 119 :: .ref 120 :: .ref 121 :: .ref 122 :: .ref 123 :: .ref 124 :: .ref 125 :: .ref 126 :: .ref 127 :: .ref 128 :: .ref 129 :: .int (zI mfu) :: .ref 130 :: .ref 131 :: .ref 132 :: .ref 133 :: .ref 134 :: .int (zI mdm) :: .int (zI mla) :: []))), (98, .inr (12, (.int (zI ms) :: .int (zI mv) :: .ref 99 :: .ref 100 :: .ref 101 :: .ref 102 :: .ref 103 :: .ref 104 :: .ref 105 :: .int (zI mt) :: .int (zI mfa) :: .ref 106 :: .ref 107 :: .ref 108 :: .int (zI mtn) :: .int (zI z96) :: .int (zI lv_5) :: .int (zI bd_5) :: .int (zI mgo) :: .int (zI mge) :: .int (zI mbk) :: .ref 109 :: .int (zI mtt) :: .int (zI mtl) :: .ref 110 :: .ref 111 :: .ref 112 :: .ref 113 :: .ref 114 :: .ref 115 :: .ref 116 :: .ref 117 :: .int (zI hm) :: .int (zI pm) :: .int (zI hb) :: .int (zI sb) :: .ref 118 :: .ref 119 :: .ref 120 :: .ref 121 :: .ref 122 :: .ref 123 :: .ref 124 :: .ref 125 :: .ref 126 :: .ref 127 :: .ref 128 :: .ref 129 :: .int (zI mfu) :: .ref 130 :: .ref 131 :: .ref 132 :: .ref 133 :: .ref 134 :: .int (zI mdm) :: .int (zI mla) :: [])))]) rfl ?_
            refine J_mask (L2 := [(98, .inr (12, (.int (zI ms) :: .int (zI mv) :: .ref 99 :: .ref 100 :: .ref 101 :: .ref 102 :: .ref 103 :: .ref 104 :: .ref 105 :: .int (zI mt) :: .int (zI mfa) :: .ref 106 :: .ref 107 :: .ref 108 :: .int (zI mtn) :: .int (zI z105) :: .int (zI z106) :: .int (zI z107) :: .int (zI mgo) :: .int (zI mge) :: .int (zI mbk) :: .ref 109 :: .int (zI mtt) :: .int (zI mtl) :: .ref 110 :: .ref 111 :: .ref 112 :: .ref 113 :: .ref 114 :: .ref 115 :: .ref 116 :: .ref 117 :: .int (zI hm) :: .int (zI pm) :: .int (zI hb) :: .int (zI sb) :: .ref 118 :: .ref 119 :: .ref 120 :: .ref 121 :: .ref 122 :: .ref 123 :: .ref 124 :: .ref 125 :: .ref 126 :: .ref 127 :: .ref 128 :: .ref 129 :: .int (zI mfu) :: .ref 130 :: .ref 131 :: .ref 132 :: .ref 133 :: .ref 134 :: .int (zI mdm) :: .int (zI mla) :: [])))]) (ks := [98, 98]) [true, false] rfl (by decide +kernel) rfl ?_
            refine J_goto (tgt := 5) dX12_readTerm_34 (by decide) ?_
            exact ih5 z105 z106 z107 (v_bc0c2646ae h108) (v_a6725f25e8 h108) (v_9e8572ccbd i5_2 h98 h110) h111 h113 (v_778db8d1be q2 h111 h114) (v_cb9e70f6f7 h108 h114) (fun _ => ⟨ChP.add (i5_7 (v_1022695464 i5_0 h97)).1 (.inl (by rw [h100]; exact (v_1500549be1 h95))) h112 (v_b9aca61388 h110) (v_d34386dce5 h98), (by have u := (i5_7 (v_1022695464 i5_0 h97)).2.1; have w := (v_2e78a692fc h98 h110); omega), (i5_7 (v_1022695464 i5_0 h97)).2.2⟩) (meas_lt (v_64faee003a h98 h110) (v_3cd32163cd h99) hm5)
          · refine J_nf (nh2 := nh) (ck2 := 0) (sk2 := 0) (st2 := []) rfl rfl rfl rfl ?_
            refine J_app (L3 := [(98, .inr (12, (.int (zI ms) :: .int (zI mv) :: .ref 99 :: .ref 100 :: .ref 101 :: .ref 102 :: .ref 103 :: .ref 104 :: .ref 105 :: .int (zI mt) :: .int (zI mfa) :: .ref 106 :: .ref 107 :: .ref 108 :: .int (zI mtn) :: .int (zI z115) :: .int (zI z116) :: .int (zI z117) :: .int (zI mgo) :: .int (zI mge) :: .int (zI mbk) :: .ref 109 :: .int (zI mtt) :: .int (zI mtl) :: .ref 110 :: .ref 111 :: .ref 112 :: .ref 113 :: .ref 114 :: .ref 115 :: .ref 116 :: .ref 117 :: .int (zI hm) :: .int (zI pm) :: .int (zI hb) :: .int (zI sb) :: .ref 118 :: .ref 119 :: .ref 120 :: .ref 121 :: .ref 122 :: .ref 123 :: .ref 124 :: .ref 125 :: .ref 126 :: .ref 127 :: .ref 128 :: .ref 129 :: .int (zI mfu) :: .ref 130 :: .ref 131 :: .ref 132 :: .ref 133 :: .ref 134 :: .int (zI mdm) :: .int (zI mla) :: []))), (98, .inr (12, (.int (zI ms) :: .int (zI mv) :: .ref 99 :: .ref 100 :: .ref 101 :: .ref 102 :: .ref 103 :: .ref 104 :: .ref 105 :: .int (zI mt) :: .int (zI mfa) :: .ref 106 :: .ref 107 :: .ref 108 :: .int (zI mtn) :: .int (zI z96) :: .int (zI lv_5) :: .int (zI bd_5) :: .int (zI mgo) :: .int (zI mge) :: .int (zI mbk) :: .ref 109 :: .int (zI mtt) :: .int (zI mtl) :: .ref 110 :: .ref 111 :: .ref 112 :: .ref 113 :: .ref 114 :: .ref 115 :: .ref 116 :: .ref 117 :: .int (zI hm) :: .int (zI pm) :: .int (zI hb) :: .int (zI sb) :: .ref 118 :: .ref 119 :: .ref 120 :: .ref 121 :: .ref 122 :: .ref 123 :: .ref 124 :: .ref 125 :: .ref 126 :: .ref 127 :: .ref 128 :: .ref 129 :: .int (zI mfu) :: .ref 130 :: .ref 131 :: .ref 132 :: .ref 133 :: .ref 134 :: .int (zI mdm) :: .int (zI mla) :: [])))]) rfl ?_
            refine J_mask (L2 := [(98, .inr (12, (.int (zI ms) :: .int (zI mv) :: .ref 99 :: .ref 100 :: .ref 101 :: .ref 102 :: .ref 103 :: .ref 104 :: .ref 105 :: .int (zI mt) :: .int (zI mfa) :: .ref 106 :: .ref 107 :: .ref 108 :: .int (zI mtn) :: .int (zI z115) :: .int (zI z116) :: .int (zI z117) :: .int (zI mgo) :: .int (zI mge) :: .int (zI mbk) :: .ref 109 :: .int (zI mtt) :: .int (zI mtl) :: .ref 110 :: .ref 111 :: .ref 112 :: .ref 113 :: .ref 114 :: .ref 115 :: .ref 116 :: .ref 117 :: .int (zI hm) :: .int (zI pm) :: .int (zI hb) :: .int (zI sb) :: .ref 118 :: .ref 119 :: .ref 120 :: .ref 121 :: .ref 122 :: .ref 123 :: .ref 124 :: .ref 125 :: .ref 126 :: .ref 127 :: .ref 128 :: .ref 129 :: .int (zI mfu) :: .ref 130 :: .ref 131 :: .ref 132 :: .ref 133 :: .ref 134 :: .int (zI mdm) :: .int (zI mla) :: [])))]) (ks := [98, 98]) [true, false] rfl (by decide +kernel) rfl ?_
            refine J_goto (tgt := 5) dX12_readTerm_34 (by decide) ?_
            exact ih5 z115 z116 z117 (v_576129c2e8 h118) h119 (v_f9f6ac3c48 i5_2 h98 h120) h121 h122 h123 (v_85f529c18f q0 i5_2 h98 h118 h120 h123) (fun w => absurd w (by have u := (v_2b02420001 h118); omega)) (meas_lt (v_46068e056c h98 h120) (v_3cd32163cd h99) hm5)
        · refine J_nf (nh2 := nh) (ck2 := 0) (sk2 := 0) (st2 := [.int (zI 0)]) rfl rfl rfl rfl ?_
          refine Z_if_ne (tgt := 29) dX12_readTerm_14 (by decide) v_b17331891f (fun h124 => absurd h124 (fun q => q v_2ca2bbca1f)) (fun h124 => ?_)
          refine J_aload_n dX12_readTerm_17 rfl rfl ?_
          refine Z_bipush (n := 47) dX12_readTerm_18 (by decide +kernel) ?_
          refine J_callS (st := [.ref 98]) dX12_readTerm_20 cs_X12_215 (k_sign 47 v_a2835897db v_8710bb8462) rfl rfl (Nat.le_of_ble_eq_true rfl) ⟨(Nat.le_of_ble_eq_true rfl), (Nat.le_of_ble_eq_true rfl)⟩ ⟨(Nat.le_of_ble_eq_true rfl), (Nat.le_of_ble_eq_true rfl)⟩ (fun r h9 hp => ?_)
          obtain ⟨z125, rfl, rfl, h126⟩ := hp
          refine J_nf (nh2 := nh) (ck2 := 0) (sk2 := 0) (st2 := [.int (zI z125), .ref 98]) rfl rfl rfl rfl ?_
          refine J_callV (st := []) dX12_readTerm_23 cv_X12_190 (k_takes0 z125 ms mv mt mfa mtn tk_5 lv_5 bd_5 mgo mge mbk mtt mtl hm pm hb sb mfu mdm mla cc va pl (v_14fa416972 h126) (v_78d3fd05d2 h126) (v_21976c7318 q0 i5_2) i5_3 q2 i5_0 i5_1 q5 q6 q7 q8 rfl hk106 hk107 hk108) rfl rfl rfl (Nat.le_of_ble_eq_true rfl) ⟨(Nat.le_of_ble_eq_true rfl), (Nat.le_of_ble_eq_true rfl)⟩ ⟨(Nat.le_of_ble_eq_true rfl), (Nat.le_of_ble_eq_true rfl)⟩ (fun r h9 hp => ?_)
          rcases hp with ⟨z127, rfl, rfl, h128, h129, h130, h131⟩ | ⟨rfl, rfl, h132, h133⟩ | ⟨rfl, rfl, h134⟩
          · refine J_nf (nh2 := nh) (ck2 := 0) (sk2 := 0) (st2 := [.int (zI 1)]) rfl rfl rfl rfl ?_
            refine J_app (L3 := [(98, .inr (12, (.int (zI ms) :: .int (zI mv) :: .ref 99 :: .ref 100 :: .ref 101 :: .ref 102 :: .ref 103 :: .ref 104 :: .ref 105 :: .int (zI mt) :: .int (zI mfa) :: .ref 106 :: .ref 107 :: .ref 108 :: .int (zI mtn) :: .int (zI z127) :: .int (zI lv_5) :: .int (zI bd_5) :: .int (zI mgo) :: .int (zI mge) :: .int (zI mbk) :: .ref 109 :: .int (zI mtt) :: .int (zI mtl) :: .ref 110 :: .ref 111 :: .ref 112 :: .ref 113 :: .ref 114 :: .ref 115 :: .ref 116 :: .ref 117 :: .int (zI hm) :: .int (zI pm) :: .int (zI hb) :: .int (zI sb) :: .ref 118 :: .ref 119 :: .ref 120 :: .ref 121 :: .ref 122 :: .ref 123 :: .ref 124 :: .ref 125 :: .ref 126 :: .ref 127 :: .ref 128 :: .ref 129 :: .int (zI mfu) :: .ref 130 :: .ref 131 :: .ref 132 :: .ref 133 :: .ref 134 :: .int (zI mdm) :: .int (zI mla) :: []))), (98, .inr (12, (.int (zI ms) :: .int (zI mv) :: .ref 99 :: .ref 100 :: .ref 101 :: .ref 102 :: .ref 103 :: .ref 104 :: .ref 105 :: .int (zI mt) :: .int (zI mfa) :: .ref 106 :: .ref 107 :: .ref 108 :: .int (zI mtn) :: .int (zI tk_5) :: .int (zI lv_5) :: .int (zI bd_5) :: .int (zI mgo) :: .int (zI mge) :: .int (zI mbk) :: .ref 109 :: .int (zI mtt) :: .int (zI mtl) :: .ref 110 :: .ref 111 :: .ref 112 :: .ref 113 :: .ref 114 :: .ref 115 :: .ref 116 :: .ref 117 :: .int (zI hm) :: .int (zI pm) :: .int (zI hb) :: .int (zI sb) :: .ref 118 :: .ref 119 :: .ref 120 :: .ref 121 :: .ref 122 :: .ref 123 :: .ref 124 :: .ref 125 :: .ref 126 :: .ref 127 :: .ref 128 :: .ref 129 :: .int (zI mfu) :: .ref 130 :: .ref 131 :: .ref 132 :: .ref 133 :: .ref 134 :: .int (zI mdm) :: .int (zI mla) :: [])))]) rfl ?_
            refine J_mask (L2 := [(98, .inr (12, (.int (zI ms) :: .int (zI mv) :: .ref 99 :: .ref 100 :: .ref 101 :: .ref 102 :: .ref 103 :: .ref 104 :: .ref 105 :: .int (zI mt) :: .int (zI mfa) :: .ref 106 :: .ref 107 :: .ref 108 :: .int (zI mtn) :: .int (zI z127) :: .int (zI lv_5) :: .int (zI bd_5) :: .int (zI mgo) :: .int (zI mge) :: .int (zI mbk) :: .ref 109 :: .int (zI mtt) :: .int (zI mtl) :: .ref 110 :: .ref 111 :: .ref 112 :: .ref 113 :: .ref 114 :: .ref 115 :: .ref 116 :: .ref 117 :: .int (zI hm) :: .int (zI pm) :: .int (zI hb) :: .int (zI sb) :: .ref 118 :: .ref 119 :: .ref 120 :: .ref 121 :: .ref 122 :: .ref 123 :: .ref 124 :: .ref 125 :: .ref 126 :: .ref 127 :: .ref 128 :: .ref 129 :: .int (zI mfu) :: .ref 130 :: .ref 131 :: .ref 132 :: .ref 133 :: .ref 134 :: .int (zI mdm) :: .int (zI mla) :: [])))]) (ks := [98, 98]) [true, false] rfl (by decide +kernel) rfl ?_
            refine Z_if_eq (tgt := 37) dX12_readTerm_26 (by decide) v_4dcc24baa7 (fun h135 => absurd h135 v_3a47bfd896) (fun h135 => ?_)
            refine J_aload_n dX12_readTerm_29 rfl rfl ?_
            refine J_iload_n dX12_readTerm_30 rfl rfl ?_
            refine J_callV (st := []) dX12_readTerm_31 cv_X12_222 (k_readPart_1 ms mv mt mfa mtn z127 lv_5 bd_5 mgo mge mbk mtt mtl hm pm hb sb mfu mdm mla cc va pl (v_49f85faddc q0 i5_2 h129) (v_2b81d1254d h129 h130) q2 i5_0 i5_1 q5 q6 q7 q8 i5_4 i5_5 (v_b6e00daf3f i5_6 h129) rfl hk106 hk107 hk108) rfl rfl rfl (Nat.le_of_ble_eq_true rfl) ⟨(Nat.le_of_ble_eq_true rfl), (Nat.le_of_ble_eq_true rfl)⟩ ⟨(Nat.le_of_ble_eq_true rfl), (Nat.le_of_ble_eq_true rfl)⟩ (fun r h9 hp => ?_)
            rcases hp with ⟨z136, z137, z138, rfl, rfl, h139, h140, h141, h142, h143, h144, h145⟩ | ⟨z146, z147, z148, rfl, rfl, h149, h150, h151, h152, h153, h154⟩
            · refine J_nf (nh2 := nh) (ck2 := 0) (sk2 := 0) (st2 := []) rfl rfl rfl rfl ?_
              refine J_app (L3 := [(98, .inr (12, (.int (zI ms) :: .int (zI mv) :: .ref 99 :: .ref 100 :: .ref 101 :: .ref 102 :: .ref 103 :: .ref 104 :: .ref 105 :: .int (zI mt) :: .int (zI mfa) :: .ref 106 :: .ref 107 :: .ref 108 :: .int (zI mtn) :: .int (zI z136) :: .int (zI z137) :: .int (zI z138) :: .int (zI mgo) :: .int (zI mge) :: .int (zI mbk) :: .ref 109 :: .int (zI mtt) :: .int (zI mtl) :: .ref 110 :: .ref 111 :: .ref 112 :: .ref 113 :: .ref 114 :: .ref 115 :: .ref 116 :: .ref 117 :: .int (zI hm) :: .int (zI pm) :: .int (zI hb) :: .int (zI sb) :: .ref 118 :: .ref 119 :: .ref 120 :: .ref 121 :: .ref 122 :: .ref 123 :: .ref 124 :: .ref 125 :: .ref 126 :: .ref 127 :: .ref 128 :: .ref 129 :: .int (zI mfu) :: .ref 130 :: .ref 131 :: .ref 132 :: .ref 133 :: .ref 134 :: .int (zI mdm) :: .int (zI mla) :: []))), (98, .inr (12, (.int (zI ms) :: .int (zI mv) :: .ref 99 :: .ref 100 :: .ref 101 :: .ref 102 :: .ref 103 :: .ref 104 :: .ref 105 :: .int (zI mt) :: .int (zI mfa) :: .ref 106 :: .ref 107 :: .ref 108 :: .int (zI mtn) :: .int (zI z127) :: .int (zI lv_5) :: .int (zI bd_5) :: .int (zI mgo) :: .int (zI mge) :: .int (zI mbk) :: .ref 109 :: .int (zI mtt) :: .int (zI mtl) :: .ref 110 :: .ref 111 :: .ref 112 :: .ref 113 :: .ref 114 :: .ref 115 :: .ref 116 :: .ref 117 :: .int (zI hm) :: .int (zI pm) :: .int (zI hb) :: .int (zI sb) :: .ref 118 :: .ref 119 :: .ref 120 :: .ref 121 :: .ref 122 :: .ref 123 :: .ref 124 :: .ref 125 :: .ref 126 :: .ref 127 :: .ref 128 :: .ref 129 :: .int (zI mfu) :: .ref 130 :: .ref 131 :: .ref 132 :: .ref 133 :: .ref 134 :: .int (zI mdm) :: .int (zI mla) :: [])))]) rfl ?_
              refine J_mask (L2 := [(98, .inr (12, (.int (zI ms) :: .int (zI mv) :: .ref 99 :: .ref 100 :: .ref 101 :: .ref 102 :: .ref 103 :: .ref 104 :: .ref 105 :: .int (zI mt) :: .int (zI mfa) :: .ref 106 :: .ref 107 :: .ref 108 :: .int (zI mtn) :: .int (zI z136) :: .int (zI z137) :: .int (zI z138) :: .int (zI mgo) :: .int (zI mge) :: .int (zI mbk) :: .ref 109 :: .int (zI mtt) :: .int (zI mtl) :: .ref 110 :: .ref 111 :: .ref 112 :: .ref 113 :: .ref 114 :: .ref 115 :: .ref 116 :: .ref 117 :: .int (zI hm) :: .int (zI pm) :: .int (zI hb) :: .int (zI sb) :: .ref 118 :: .ref 119 :: .ref 120 :: .ref 121 :: .ref 122 :: .ref 123 :: .ref 124 :: .ref 125 :: .ref 126 :: .ref 127 :: .ref 128 :: .ref 129 :: .int (zI mfu) :: .ref 130 :: .ref 131 :: .ref 132 :: .ref 133 :: .ref 134 :: .int (zI mdm) :: .int (zI mla) :: [])))]) (ks := [98, 98]) [true, false] rfl (by decide +kernel) rfl ?_
              refine J_goto (tgt := 5) dX12_readTerm_34 (by decide) ?_
              exact ih5 z136 z137 z138 (v_bc0c2646ae h139) (v_a6725f25e8 h139) (v_9e8572ccbd i5_2 h129 h141) h142 h144 (v_778db8d1be q2 h142 h145) (v_cb9e70f6f7 h139 h145) (fun _ => ⟨ChP.add (i5_7 (v_1022695464 i5_0 h101)).1 (.inr (by rw [h131]; exact (v_963e78d969 h126))) h143 (v_b9aca61388 h141) (v_d34386dce5 h129), (by have u := (i5_7 (v_1022695464 i5_0 h101)).2.1; have w := (v_2e78a692fc h129 h141); omega), (i5_7 (v_1022695464 i5_0 h101)).2.2⟩) (meas_lt (v_64faee003a h129 h141) (v_3cd32163cd h130) hm5)
            · refine J_nf (nh2 := nh) (ck2 := 0) (sk2 := 0) (st2 := []) rfl rfl rfl rfl ?_
              refine J_app (L3 := [(98, .inr (12, (.int (zI ms) :: .int (zI mv) :: .ref 99 :: .ref 100 :: .ref 101 :: .ref 102 :: .ref 103 :: .ref 104 :: .ref 105 :: .int (zI mt) :: .int (zI mfa) :: .ref 106 :: .ref 107 :: .ref 108 :: .int (zI mtn) :: .int (zI z146) :: .int (zI z147) :: .int (zI z148) :: .int (zI mgo) :: .int (zI mge) :: .int (zI mbk) :: .ref 109 :: .int (zI mtt) :: .int (zI mtl) :: .ref 110 :: .ref 111 :: .ref 112 :: .ref 113 :: .ref 114 :: .ref 115 :: .ref 116 :: .ref 117 :: .int (zI hm) :: .int (zI pm) :: .int (zI hb) :: .int (zI sb) :: .ref 118 :: .ref 119 :: .ref 120 :: .ref 121 :: .ref 122 :: .ref 123 :: .ref 124 :: .ref 125 :: .ref 126 :: .ref 127 :: .ref 128 :: .ref 129 :: .int (zI mfu) :: .ref 130 :: .ref 131 :: .ref 132 :: .ref 133 :: .ref 134 :: .int (zI mdm) :: .int (zI mla) :: []))), (98, .inr (12, (.int (zI ms) :: .int (zI mv) :: .ref 99 :: .ref 100 :: .ref 101 :: .ref 102 :: .ref 103 :: .ref 104 :: .ref 105 :: .int (zI mt) :: .int (zI mfa) :: .ref 106 :: .ref 107 :: .ref 108 :: .int (zI mtn) :: .int (zI z127) :: .int (zI lv_5) :: .int (zI bd_5) :: .int (zI mgo) :: .int (zI mge) :: .int (zI mbk) :: .ref 109 :: .int (zI mtt) :: .int (zI mtl) :: .ref 110 :: .ref 111 :: .ref 112 :: .ref 113 :: .ref 114 :: .ref 115 :: .ref 116 :: .ref 117 :: .int (zI hm) :: .int (zI pm) :: .int (zI hb) :: .int (zI sb) :: .ref 118 :: .ref 119 :: .ref 120 :: .ref 121 :: .ref 122 :: .ref 123 :: .ref 124 :: .ref 125 :: .ref 126 :: .ref 127 :: .ref 128 :: .ref 129 :: .int (zI mfu) :: .ref 130 :: .ref 131 :: .ref 132 :: .ref 133 :: .ref 134 :: .int (zI mdm) :: .int (zI mla) :: [])))]) rfl ?_
              refine J_mask (L2 := [(98, .inr (12, (.int (zI ms) :: .int (zI mv) :: .ref 99 :: .ref 100 :: .ref 101 :: .ref 102 :: .ref 103 :: .ref 104 :: .ref 105 :: .int (zI mt) :: .int (zI mfa) :: .ref 106 :: .ref 107 :: .ref 108 :: .int (zI mtn) :: .int (zI z146) :: .int (zI z147) :: .int (zI z148) :: .int (zI mgo) :: .int (zI mge) :: .int (zI mbk) :: .ref 109 :: .int (zI mtt) :: .int (zI mtl) :: .ref 110 :: .ref 111 :: .ref 112 :: .ref 113 :: .ref 114 :: .ref 115 :: .ref 116 :: .ref 117 :: .int (zI hm) :: .int (zI pm) :: .int (zI hb) :: .int (zI sb) :: .ref 118 :: .ref 119 :: .ref 120 :: .ref 121 :: .ref 122 :: .ref 123 :: .ref 124 :: .ref 125 :: .ref 126 :: .ref 127 :: .ref 128 :: .ref 129 :: .int (zI mfu) :: .ref 130 :: .ref 131 :: .ref 132 :: .ref 133 :: .ref 134 :: .int (zI mdm) :: .int (zI mla) :: [])))]) (ks := [98, 98]) [true, false] rfl (by decide +kernel) rfl ?_
              refine J_goto (tgt := 5) dX12_readTerm_34 (by decide) ?_
              exact ih5 z146 z147 z148 (v_576129c2e8 h149) h150 (v_f9f6ac3c48 i5_2 h129 h151) h152 h153 h154 (v_85f529c18f q0 i5_2 h129 h149 h151 h154) (fun w => absurd w (by have u := (v_2b02420001 h149); omega)) (meas_lt (v_46068e056c h129 h151) (v_3cd32163cd h130) hm5)
          · refine J_nf (nh2 := nh) (ck2 := 0) (sk2 := 0) (st2 := [.int (zI 0)]) rfl rfl rfl rfl ?_
            refine Z_if_eq (tgt := 37) dX12_readTerm_26 (by decide) v_b17331891f (fun h155 => ?_) (fun h155 => absurd h155 (fun q => q v_2ca2bbca1f))
            have gx := i5_7 (v_1022695464 i5_0 h101)
            exact J_vret dX12_readTerm_37 rfl (Nat.le_of_ble_eq_true rfl) (Nat.le_of_ble_eq_true rfl) (Or.inl ⟨tk_5, lv_5, bd_5, rfl, rfl, h132, gx.2.2, gx.2.1, i5_3, (ChP.end gx.1 (fun w => by have u0 := h102; have u1 := h133; have u2 := h95; have u3 := h126; rcases w with w | w <;> omega)), i5_4, (v_0471d920d5 i5_6 h101)⟩)
          · exact False.elim (v_221c0ce955 h101 h134)
        · refine J_nf (nh2 := nh) (ck2 := 0) (sk2 := 0) (st2 := [.int (zI 0)]) rfl rfl rfl rfl ?_
          refine Z_if_ne (tgt := 29) dX12_readTerm_14 (by decide) v_b17331891f (fun h156 => absurd h156 (fun q => q v_2ca2bbca1f)) (fun h156 => ?_)
          refine J_aload_n dX12_readTerm_17 rfl rfl ?_
          refine Z_bipush (n := 47) dX12_readTerm_18 (by decide +kernel) ?_
          refine J_callS (st := [.ref 98]) dX12_readTerm_20 cs_X12_215 (k_sign 47 v_a2835897db v_8710bb8462) rfl rfl (Nat.le_of_ble_eq_true rfl) ⟨(Nat.le_of_ble_eq_true rfl), (Nat.le_of_ble_eq_true rfl)⟩ ⟨(Nat.le_of_ble_eq_true rfl), (Nat.le_of_ble_eq_true rfl)⟩ (fun r h9 hp => ?_)
          obtain ⟨z157, rfl, rfl, h158⟩ := hp
          refine J_nf (nh2 := nh) (ck2 := 0) (sk2 := 0) (st2 := [.int (zI z157), .ref 98]) rfl rfl rfl rfl ?_
          refine J_callV (st := []) dX12_readTerm_23 cv_X12_190 (k_takes0 z157 ms mv mt mfa mtn tk_5 lv_5 bd_5 mgo mge mbk mtt mtl hm pm hb sb mfu mdm mla cc va pl (v_14fa416972 h158) (v_78d3fd05d2 h158) (v_21976c7318 q0 i5_2) i5_3 q2 i5_0 i5_1 q5 q6 q7 q8 rfl hk106 hk107 hk108) rfl rfl rfl (Nat.le_of_ble_eq_true rfl) ⟨(Nat.le_of_ble_eq_true rfl), (Nat.le_of_ble_eq_true rfl)⟩ ⟨(Nat.le_of_ble_eq_true rfl), (Nat.le_of_ble_eq_true rfl)⟩ (fun r h9 hp => ?_)
          rcases hp with ⟨z159, rfl, rfl, h160, h161, h162, h163⟩ | ⟨rfl, rfl, h164, h165⟩ | ⟨rfl, rfl, h166⟩
          · exact False.elim (v_a2a49c9ec0 h103 h160)
          · exact False.elim (v_a2a49c9ec0 h103 h164)
          · refine J_nf (nh2 := nh) (ck2 := 0) (sk2 := 0) (st2 := [.int (zI 0)]) rfl rfl rfl rfl ?_
            refine Z_if_eq (tgt := 37) dX12_readTerm_26 (by decide) v_b17331891f (fun h167 => ?_) (fun h167 => absurd h167 (fun q => q v_2ca2bbca1f))
            exact J_vret dX12_readTerm_37 rfl (Nat.le_of_ble_eq_true rfl) (Nat.le_of_ble_eq_true rfl) (Or.inr ⟨tk_5, lv_5, bd_5, rfl, rfl, h166, i5_1, i5_2, i5_3, i5_4, i5_5⟩)
    exact lp5 _ z11 z12 z13 (v_576129c2e8 h14) h15 h16 h17 h18 h19 (v_53027a106b q0 h14 h16 h19) (fun w => absurd w (by have u := (v_2b02420001 h14); omega)) (Nat.lt_succ_self _)
