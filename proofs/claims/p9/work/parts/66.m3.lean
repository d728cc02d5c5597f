abbrev MX12_stepBetween : jM := (RX12, cX12_stepBetween, 4, some .int, false)
theorem fl_X12_67 : jFL RX12 67 12 28 := ⟨_, _, _, rfl, iX12, by decide, Or.inl (jt6 102 rfl rfl)⟩
theorem fl_X12_61 : jFL RX12 61 12 26 := ⟨_, _, _, rfl, iX12, by decide, Or.inl (jt6 100 rfl rfl)⟩
abbrev MX12_measures : jM := (RX12, cX12_measures, 7, some .int, false)
theorem fl_X12_85 : jFL RX12 85 12 36 := ⟨_, _, _, rfl, iX12, by decide, Or.inl (jt6 110 rfl rfl)⟩
theorem fl_X12_88 : jFL RX12 88 12 37 := ⟨_, _, _, rfl, iX12, by decide, Or.inl (jt6 111 rfl rfl)⟩
theorem fl_X12_92 : jFL RX12 92 12 38 := ⟨_, _, _, rfl, iX12, by decide, Or.inl (jt6 112 rfl rfl)⟩
abbrev MX12_leastOf : jM := (RX12, cX12_leastOf, 7, some .int, false)
theorem fl_X12_98 : jFL RX12 98 12 40 := ⟨_, _, _, rfl, iX12, by decide, Or.inl (jt6 114 rfl rfl)⟩
theorem fl_X12_95 : jFL RX12 95 12 39 := ⟨_, _, _, rfl, iX12, by decide, Or.inl (jt6 113 rfl rfl)⟩
theorem fl_X12_64 : jFL RX12 64 12 27 := ⟨_, _, _, rfl, iX12, by decide, Or.inl (jt6 101 rfl rfl)⟩
abbrev MX12_measuresTo : jM := (RX12, cX12_measuresTo, 6, none, false)
theorem fl_X12_101 : jFL RX12 101 12 41 := ⟨_, _, _, rfl, iX12, by decide, Or.inl (jt6 115 rfl rfl)⟩
theorem dX12_stepBetween_0 : decode cX12_stepBetween 0 = .ok (.iconst 0, 1) := by decide +kernel
theorem dX12_stepBetween_1 : decode cX12_stepBetween 1 = .ok (.istore_n 3, 1) := by decide +kernel
theorem dX12_stepBetween_2 : decode cX12_stepBetween 2 = .ok (.iload_n 3, 1) := by decide +kernel
theorem dX12_stepBetween_3 : decode cX12_stepBetween 3 = .ok (.aload_n 0, 1) := by decide +kernel
theorem dX12_stepBetween_4 : decode cX12_stepBetween 4 = .ok (.getfield 67, 3) := by decide +kernel
theorem dX12_stepBetween_7 : decode cX12_stepBetween 7 = .ok (.iload_n 1, 1) := by decide +kernel
theorem dX12_stepBetween_8 : decode cX12_stepBetween 8 = .ok (.iaload, 1) := by decide +kernel
theorem dX12_stepBetween_9 : decode cX12_stepBetween 9 = .ok (.if_icmp .ge 26, 3) := by decide +kernel
theorem dX12_stepBetween_35 : decode cX12_stepBetween 35 = .ok (.iconst (-1), 1) := by decide +kernel
theorem dX12_stepBetween_36 : decode cX12_stepBetween 36 = .ok (.ireturn, 1) := by decide +kernel
theorem dX12_stepBetween_12 : decode cX12_stepBetween 12 = .ok (.aload_n 0, 1) := by decide +kernel
theorem dX12_stepBetween_13 : decode cX12_stepBetween 13 = .ok (.getfield 61, 3) := by decide +kernel
theorem dX12_stepBetween_16 : decode cX12_stepBetween 16 = .ok (.bipush 22, 2) := by decide +kernel
theorem dX12_stepBetween_18 : decode cX12_stepBetween 18 = .ok (.iload_n 1, 1) := by decide +kernel
theorem dX12_stepBetween_19 : decode cX12_stepBetween 19 = .ok (.imul, 1) := by decide +kernel
theorem dX12_stepBetween_20 : decode cX12_stepBetween 20 = .ok (.iload_n 3, 1) := by decide +kernel
theorem dX12_stepBetween_21 : decode cX12_stepBetween 21 = .ok (.iadd, 1) := by decide +kernel
theorem dX12_stepBetween_22 : decode cX12_stepBetween 22 = .ok (.iaload, 1) := by decide +kernel
theorem dX12_stepBetween_23 : decode cX12_stepBetween 23 = .ok (.iload_n 2, 1) := by decide +kernel
theorem dX12_stepBetween_24 : decode cX12_stepBetween 24 = .ok (.if_icmp .ne 5, 3) := by decide +kernel
theorem dX12_stepBetween_29 : decode cX12_stepBetween 29 = .ok (.iinc 3 1, 3) := by decide +kernel
theorem dX12_stepBetween_32 : decode cX12_stepBetween 32 = .ok (.goto (-30), 3) := by decide +kernel
theorem dX12_stepBetween_27 : decode cX12_stepBetween 27 = .ok (.iload_n 3, 1) := by decide +kernel
theorem dX12_stepBetween_28 : decode cX12_stepBetween 28 = .ok (.ireturn, 1) := by decide +kernel
theorem dX12_measures_0 : decode cX12_measures 0 = .ok (.iconst 0, 1) := by decide +kernel
theorem dX12_measures_1 : decode cX12_measures 1 = .ok (.istore_n 2, 1) := by decide +kernel
theorem dX12_measures_2 : decode cX12_measures 2 = .ok (.iload_n 2, 1) := by decide +kernel
theorem dX12_measures_3 : decode cX12_measures 3 = .ok (.aload_n 0, 1) := by decide +kernel
theorem dX12_measures_4 : decode cX12_measures 4 = .ok (.getfield 298, 3) := by decide +kernel
theorem dX12_measures_7 : decode cX12_measures 7 = .ok (.if_icmp .ge 23, 3) := by decide +kernel
theorem dX12_measures_30 : decode cX12_measures 30 = .ok (.aload_n 0, 1) := by decide +kernel
theorem dX12_measures_31 : decode cX12_measures 31 = .ok (.getfield 85, 3) := by decide +kernel
theorem dX12_measures_34 : decode cX12_measures 34 = .ok (.iload_n 1, 1) := by decide +kernel
theorem dX12_measures_35 : decode cX12_measures 35 = .ok (.iconst 0, 1) := by decide +kernel
theorem dX12_measures_36 : decode cX12_measures 36 = .ok (.iastore, 1) := by decide +kernel
theorem dX12_measures_37 : decode cX12_measures 37 = .ok (.aload_n 0, 1) := by decide +kernel
theorem dX12_measures_38 : decode cX12_measures 38 = .ok (.getfield 88, 3) := by decide +kernel
theorem dX12_measures_41 : decode cX12_measures 41 = .ok (.iload_n 1, 1) := by decide +kernel
theorem dX12_measures_42 : decode cX12_measures 42 = .ok (.lconst 1, 1) := by decide +kernel
theorem dX12_measures_43 : decode cX12_measures 43 = .ok (.lastore, 1) := by decide +kernel
theorem dX12_measures_44 : decode cX12_measures 44 = .ok (.aload_n 0, 1) := by decide +kernel
theorem dX12_measures_45 : decode cX12_measures 45 = .ok (.getfield 92, 3) := by decide +kernel
theorem dX12_measures_48 : decode cX12_measures 48 = .ok (.iconst 0, 1) := by decide +kernel
theorem dX12_measures_49 : decode cX12_measures 49 = .ok (.iload_n 1, 1) := by decide +kernel
theorem dX12_measures_50 : decode cX12_measures 50 = .ok (.iastore, 1) := by decide +kernel
theorem dX12_measures_51 : decode cX12_measures 51 = .ok (.iconst 1, 1) := by decide +kernel
theorem dX12_measures_52 : decode cX12_measures 52 = .ok (.istore_n 2, 1) := by decide +kernel
theorem dX12_measures_53 : decode cX12_measures 53 = .ok (.iconst 0, 1) := by decide +kernel
theorem dX12_measures_54 : decode cX12_measures 54 = .ok (.istore_n 3, 1) := by decide +kernel
theorem dX12_measures_55 : decode cX12_measures 55 = .ok (.iload_n 3, 1) := by decide +kernel
theorem dX12_measures_56 : decode cX12_measures 56 = .ok (.iload_n 2, 1) := by decide +kernel
theorem dX12_measures_57 : decode cX12_measures 57 = .ok (.if_icmp .ge 160, 3) := by decide +kernel
theorem dX12_measures_217 : decode cX12_measures 217 = .ok (.iload_n 2, 1) := by decide +kernel
theorem dX12_measures_218 : decode cX12_measures 218 = .ok (.ireturn, 1) := by decide +kernel
theorem dX12_measures_60 : decode cX12_measures 60 = .ok (.aload_n 0, 1) := by decide +kernel
theorem dX12_measures_61 : decode cX12_measures 61 = .ok (.getfield 92, 3) := by decide +kernel
theorem dX12_measures_64 : decode cX12_measures 64 = .ok (.iload_n 3, 1) := by decide +kernel
theorem dX12_measures_65 : decode cX12_measures 65 = .ok (.iaload, 1) := by decide +kernel
theorem dX12_measures_66 : decode cX12_measures 66 = .ok (.istore 4, 2) := by decide +kernel
theorem dX12_measures_68 : decode cX12_measures 68 = .ok (.iconst 0, 1) := by decide +kernel
theorem dX12_measures_69 : decode cX12_measures 69 = .ok (.istore 5, 2) := by decide +kernel
theorem dX12_measures_71 : decode cX12_measures 71 = .ok (.iload 5, 2) := by decide +kernel
theorem dX12_measures_73 : decode cX12_measures 73 = .ok (.aload_n 0, 1) := by decide +kernel
theorem dX12_measures_74 : decode cX12_measures 74 = .ok (.getfield 67, 3) := by decide +kernel
theorem dX12_measures_77 : decode cX12_measures 77 = .ok (.iload 4, 2) := by decide +kernel
theorem dX12_measures_79 : decode cX12_measures 79 = .ok (.iaload, 1) := by decide +kernel
theorem dX12_measures_80 : decode cX12_measures 80 = .ok (.if_icmp .ge 131, 3) := by decide +kernel
theorem dX12_measures_211 : decode cX12_measures 211 = .ok (.iinc 3 1, 3) := by decide +kernel
theorem dX12_measures_214 : decode cX12_measures 214 = .ok (.goto (-159), 3) := by decide +kernel
theorem dX12_measures_83 : decode cX12_measures 83 = .ok (.aload_n 0, 1) := by decide +kernel
theorem dX12_measures_84 : decode cX12_measures 84 = .ok (.getfield 61, 3) := by decide +kernel
theorem dX12_measures_87 : decode cX12_measures 87 = .ok (.bipush 22, 2) := by decide +kernel
theorem dX12_measures_89 : decode cX12_measures 89 = .ok (.iload 4, 2) := by decide +kernel
theorem dX12_measures_91 : decode cX12_measures 91 = .ok (.imul, 1) := by decide +kernel
theorem dX12_measures_92 : decode cX12_measures 92 = .ok (.iload 5, 2) := by decide +kernel
theorem dX12_measures_94 : decode cX12_measures 94 = .ok (.iadd, 1) := by decide +kernel
theorem dX12_measures_95 : decode cX12_measures 95 = .ok (.iaload, 1) := by decide +kernel
theorem dX12_measures_96 : decode cX12_measures 96 = .ok (.istore 6, 2) := by decide +kernel
theorem dX12_measures_98 : decode cX12_measures 98 = .ok (.aload_n 0, 1) := by decide +kernel
theorem dX12_measures_99 : decode cX12_measures 99 = .ok (.getfield 85, 3) := by decide +kernel
theorem dX12_measures_102 : decode cX12_measures 102 = .ok (.iload 6, 2) := by decide +kernel
theorem dX12_measures_104 : decode cX12_measures 104 = .ok (.iaload, 1) := by decide +kernel
theorem dX12_measures_105 : decode cX12_measures 105 = .ok (.iconst (-1), 1) := by decide +kernel
theorem dX12_measures_106 : decode cX12_measures 106 = .ok (.if_icmp .ne 30, 3) := by decide +kernel
theorem dX12_measures_136 : decode cX12_measures 136 = .ok (.aload_n 0, 1) := by decide +kernel
theorem dX12_measures_137 : decode cX12_measures 137 = .ok (.getfield 85, 3) := by decide +kernel
theorem dX12_measures_140 : decode cX12_measures 140 = .ok (.iload 6, 2) := by decide +kernel
theorem dX12_measures_142 : decode cX12_measures 142 = .ok (.iaload, 1) := by decide +kernel
theorem dX12_measures_143 : decode cX12_measures 143 = .ok (.aload_n 0, 1) := by decide +kernel
theorem dX12_measures_144 : decode cX12_measures 144 = .ok (.getfield 85, 3) := by decide +kernel
theorem dX12_measures_147 : decode cX12_measures 147 = .ok (.iload 4, 2) := by decide +kernel
theorem dX12_measures_149 : decode cX12_measures 149 = .ok (.iaload, 1) := by decide +kernel
theorem dX12_measures_150 : decode cX12_measures 150 = .ok (.iconst 1, 1) := by decide +kernel
theorem dX12_measures_151 : decode cX12_measures 151 = .ok (.iadd, 1) := by decide +kernel
theorem dX12_measures_152 : decode cX12_measures 152 = .ok (.if_icmp .ne 53, 3) := by decide +kernel
theorem dX12_measures_205 : decode cX12_measures 205 = .ok (.iinc 5 1, 3) := by decide +kernel
theorem dX12_measures_208 : decode cX12_measures 208 = .ok (.goto (-137), 3) := by decide +kernel
theorem dX12_measures_155 : decode cX12_measures 155 = .ok (.aload_n 0, 1) := by decide +kernel
theorem dX12_measures_156 : decode cX12_measures 156 = .ok (.getfield 88, 3) := by decide +kernel
theorem dX12_measures_159 : decode cX12_measures 159 = .ok (.iload 6, 2) := by decide +kernel
theorem dX12_measures_161 : decode cX12_measures 161 = .ok (.aload_n 0, 1) := by decide +kernel
theorem dX12_measures_162 : decode cX12_measures 162 = .ok (.getfield 88, 3) := by decide +kernel
theorem dX12_measures_165 : decode cX12_measures 165 = .ok (.iload 6, 2) := by decide +kernel
theorem dX12_measures_167 : decode cX12_measures 167 = .ok (.laload, 1) := by decide +kernel
theorem dX12_measures_168 : decode cX12_measures 168 = .ok (.aload_n 0, 1) := by decide +kernel
theorem dX12_measures_169 : decode cX12_measures 169 = .ok (.getfield 88, 3) := by decide +kernel
theorem dX12_measures_172 : decode cX12_measures 172 = .ok (.iload 4, 2) := by decide +kernel
theorem dX12_measures_174 : decode cX12_measures 174 = .ok (.laload, 1) := by decide +kernel
theorem dX12_measures_175 : decode cX12_measures 175 = .ok (.ladd, 1) := by decide +kernel
theorem dX12_measures_176 : decode cX12_measures 176 = .ok (.ldc2_w 246, 3) := by decide +kernel
theorem dX12_measures_179 : decode cX12_measures 179 = .ok (.lcmp, 1) := by decide +kernel
theorem dX12_measures_180 : decode cX12_measures 180 = .ok (.ifCond .le 9, 3) := by decide +kernel
theorem dX12_measures_189 : decode cX12_measures 189 = .ok (.aload_n 0, 1) := by decide +kernel
theorem dX12_measures_190 : decode cX12_measures 190 = .ok (.getfield 88, 3) := by decide +kernel
theorem dX12_measures_193 : decode cX12_measures 193 = .ok (.iload 6, 2) := by decide +kernel
theorem dX12_measures_195 : decode cX12_measures 195 = .ok (.laload, 1) := by decide +kernel
theorem dX12_measures_196 : decode cX12_measures 196 = .ok (.aload_n 0, 1) := by decide +kernel
theorem dX12_measures_197 : decode cX12_measures 197 = .ok (.getfield 88, 3) := by decide +kernel
theorem dX12_measures_200 : decode cX12_measures 200 = .ok (.iload 4, 2) := by decide +kernel
theorem dX12_measures_202 : decode cX12_measures 202 = .ok (.laload, 1) := by decide +kernel
theorem dX12_measures_203 : decode cX12_measures 203 = .ok (.ladd, 1) := by decide +kernel
theorem dX12_measures_204 : decode cX12_measures 204 = .ok (.lastore, 1) := by decide +kernel
theorem dX12_measures_183 : decode cX12_measures 183 = .ok (.ldc2_w 246, 3) := by decide +kernel
theorem dX12_measures_186 : decode cX12_measures 186 = .ok (.goto 18, 3) := by decide +kernel
theorem dX12_measures_109 : decode cX12_measures 109 = .ok (.aload_n 0, 1) := by decide +kernel
theorem dX12_measures_110 : decode cX12_measures 110 = .ok (.getfield 85, 3) := by decide +kernel
theorem dX12_measures_113 : decode cX12_measures 113 = .ok (.iload 6, 2) := by decide +kernel
theorem dX12_measures_115 : decode cX12_measures 115 = .ok (.aload_n 0, 1) := by decide +kernel
theorem dX12_measures_116 : decode cX12_measures 116 = .ok (.getfield 85, 3) := by decide +kernel
theorem dX12_measures_119 : decode cX12_measures 119 = .ok (.iload 4, 2) := by decide +kernel
theorem dX12_measures_121 : decode cX12_measures 121 = .ok (.iaload, 1) := by decide +kernel
theorem dX12_measures_122 : decode cX12_measures 122 = .ok (.iconst 1, 1) := by decide +kernel
theorem dX12_measures_123 : decode cX12_measures 123 = .ok (.iadd, 1) := by decide +kernel
theorem dX12_measures_124 : decode cX12_measures 124 = .ok (.iastore, 1) := by decide +kernel
theorem dX12_measures_125 : decode cX12_measures 125 = .ok (.aload_n 0, 1) := by decide +kernel
theorem dX12_measures_126 : decode cX12_measures 126 = .ok (.getfield 92, 3) := by decide +kernel
theorem dX12_measures_129 : decode cX12_measures 129 = .ok (.iload_n 2, 1) := by decide +kernel
theorem dX12_measures_130 : decode cX12_measures 130 = .ok (.iload 6, 2) := by decide +kernel
theorem dX12_measures_132 : decode cX12_measures 132 = .ok (.iastore, 1) := by decide +kernel
theorem dX12_measures_133 : decode cX12_measures 133 = .ok (.iinc 2 1, 3) := by decide +kernel
theorem dX12_measures_10 : decode cX12_measures 10 = .ok (.aload_n 0, 1) := by decide +kernel
theorem dX12_measures_11 : decode cX12_measures 11 = .ok (.getfield 85, 3) := by decide +kernel
theorem dX12_measures_14 : decode cX12_measures 14 = .ok (.iload_n 2, 1) := by decide +kernel
theorem dX12_measures_15 : decode cX12_measures 15 = .ok (.iconst (-1), 1) := by decide +kernel
theorem dX12_measures_16 : decode cX12_measures 16 = .ok (.iastore, 1) := by decide +kernel
theorem dX12_measures_17 : decode cX12_measures 17 = .ok (.aload_n 0, 1) := by decide +kernel
theorem dX12_measures_18 : decode cX12_measures 18 = .ok (.getfield 88, 3) := by decide +kernel
theorem dX12_measures_21 : decode cX12_measures 21 = .ok (.iload_n 2, 1) := by decide +kernel
theorem dX12_measures_22 : decode cX12_measures 22 = .ok (.lconst 0, 1) := by decide +kernel
theorem dX12_measures_23 : decode cX12_measures 23 = .ok (.lastore, 1) := by decide +kernel
theorem dX12_measures_24 : decode cX12_measures 24 = .ok (.iinc 2 1, 3) := by decide +kernel
theorem dX12_measures_27 : decode cX12_measures 27 = .ok (.goto (-25), 3) := by decide +kernel
theorem dX12_leastOf_0 : decode cX12_leastOf 0 = .ok (.iconst 0, 1) := by decide +kernel
theorem dX12_leastOf_1 : decode cX12_leastOf 1 = .ok (.istore_n 3, 1) := by decide +kernel
theorem dX12_leastOf_2 : decode cX12_leastOf 2 = .ok (.iload_n 3, 1) := by decide +kernel
theorem dX12_leastOf_3 : decode cX12_leastOf 3 = .ok (.aload_n 0, 1) := by decide +kernel
theorem dX12_leastOf_4 : decode cX12_leastOf 4 = .ok (.getfield 298, 3) := by decide +kernel
theorem dX12_leastOf_7 : decode cX12_leastOf 7 = .ok (.if_icmp .ge 33, 3) := by decide +kernel
theorem dX12_leastOf_40 : decode cX12_leastOf 40 = .ok (.iconst (-1), 1) := by decide +kernel
theorem dX12_leastOf_41 : decode cX12_leastOf 41 = .ok (.istore_n 3, 1) := by decide +kernel
theorem dX12_leastOf_42 : decode cX12_leastOf 42 = .ok (.iconst 0, 1) := by decide +kernel
theorem dX12_leastOf_43 : decode cX12_leastOf 43 = .ok (.istore 4, 2) := by decide +kernel
theorem dX12_leastOf_45 : decode cX12_leastOf 45 = .ok (.iload 4, 2) := by decide +kernel
theorem dX12_leastOf_47 : decode cX12_leastOf 47 = .ok (.aload_n 0, 1) := by decide +kernel
theorem dX12_leastOf_48 : decode cX12_leastOf 48 = .ok (.getfield 298, 3) := by decide +kernel
theorem dX12_leastOf_51 : decode cX12_leastOf 51 = .ok (.if_icmp .ge 55, 3) := by decide +kernel
theorem dX12_leastOf_106 : decode cX12_leastOf 106 = .ok (.iload_n 3, 1) := by decide +kernel
theorem dX12_leastOf_107 : decode cX12_leastOf 107 = .ok (.iconst (-1), 1) := by decide +kernel
theorem dX12_leastOf_108 : decode cX12_leastOf 108 = .ok (.if_icmp .eq 8, 3) := by decide +kernel
theorem dX12_leastOf_116 : decode cX12_leastOf 116 = .ok (.iload_n 3, 1) := by decide +kernel
theorem dX12_leastOf_117 : decode cX12_leastOf 117 = .ok (.iconst (-1), 1) := by decide +kernel
theorem dX12_leastOf_118 : decode cX12_leastOf 118 = .ok (.if_icmp .ne 7, 3) := by decide +kernel
theorem dX12_leastOf_121 : decode cX12_leastOf 121 = .ok (.iconst (-1), 1) := by decide +kernel
theorem dX12_leastOf_122 : decode cX12_leastOf 122 = .ok (.goto 9, 3) := by decide +kernel
theorem dX12_leastOf_131 : decode cX12_leastOf 131 = .ok (.ireturn, 1) := by decide +kernel
theorem dX12_leastOf_111 : decode cX12_leastOf 111 = .ok (.iload_n 3, 1) := by decide +kernel
theorem dX12_leastOf_112 : decode cX12_leastOf 112 = .ok (.iload_n 2, 1) := by decide +kernel
theorem dX12_leastOf_113 : decode cX12_leastOf 113 = .ok (.if_icmp .ne 19, 3) := by decide +kernel
theorem dX12_leastOf_132 : decode cX12_leastOf 132 = .ok (.aload_n 0, 1) := by decide +kernel
theorem dX12_leastOf_133 : decode cX12_leastOf 133 = .ok (.getfield 98, 3) := by decide +kernel
theorem dX12_leastOf_136 : decode cX12_leastOf 136 = .ok (.iload_n 3, 1) := by decide +kernel
theorem dX12_leastOf_137 : decode cX12_leastOf 137 = .ok (.iconst 1, 1) := by decide +kernel
theorem dX12_leastOf_138 : decode cX12_leastOf 138 = .ok (.bastore, 1) := by decide +kernel
theorem dX12_leastOf_139 : decode cX12_leastOf 139 = .ok (.iconst 0, 1) := by decide +kernel
theorem dX12_leastOf_140 : decode cX12_leastOf 140 = .ok (.istore 4, 2) := by decide +kernel
theorem dX12_leastOf_142 : decode cX12_leastOf 142 = .ok (.iload 4, 2) := by decide +kernel
theorem dX12_leastOf_144 : decode cX12_leastOf 144 = .ok (.aload_n 0, 1) := by decide +kernel
theorem dX12_leastOf_145 : decode cX12_leastOf 145 = .ok (.getfield 67, 3) := by decide +kernel
theorem dX12_leastOf_148 : decode cX12_leastOf 148 = .ok (.iload_n 3, 1) := by decide +kernel
theorem dX12_leastOf_149 : decode cX12_leastOf 149 = .ok (.iaload, 1) := by decide +kernel
theorem dX12_leastOf_150 : decode cX12_leastOf 150 = .ok (.if_icmp .ge 75, 3) := by decide +kernel
theorem dX12_leastOf_225 : decode cX12_leastOf 225 = .ok (.goto (-185), 3) := by decide +kernel
theorem dX12_leastOf_153 : decode cX12_leastOf 153 = .ok (.aload_n 0, 1) := by decide +kernel
theorem dX12_leastOf_154 : decode cX12_leastOf 154 = .ok (.getfield 61, 3) := by decide +kernel
theorem dX12_leastOf_157 : decode cX12_leastOf 157 = .ok (.bipush 22, 2) := by decide +kernel
theorem dX12_leastOf_159 : decode cX12_leastOf 159 = .ok (.iload_n 3, 1) := by decide +kernel
theorem dX12_leastOf_160 : decode cX12_leastOf 160 = .ok (.imul, 1) := by decide +kernel
theorem dX12_leastOf_161 : decode cX12_leastOf 161 = .ok (.iload 4, 2) := by decide +kernel
theorem dX12_leastOf_163 : decode cX12_leastOf 163 = .ok (.iadd, 1) := by decide +kernel
theorem dX12_leastOf_164 : decode cX12_leastOf 164 = .ok (.iaload, 1) := by decide +kernel
theorem dX12_leastOf_165 : decode cX12_leastOf 165 = .ok (.istore 5, 2) := by decide +kernel
theorem dX12_leastOf_167 : decode cX12_leastOf 167 = .ok (.aload_n 0, 1) := by decide +kernel
theorem dX12_leastOf_168 : decode cX12_leastOf 168 = .ok (.getfield 95, 3) := by decide +kernel
theorem dX12_leastOf_171 : decode cX12_leastOf 171 = .ok (.iload_n 3, 1) := by decide +kernel
theorem dX12_leastOf_172 : decode cX12_leastOf 172 = .ok (.iaload, 1) := by decide +kernel
theorem dX12_leastOf_173 : decode cX12_leastOf 173 = .ok (.aload_n 0, 1) := by decide +kernel
theorem dX12_leastOf_174 : decode cX12_leastOf 174 = .ok (.getfield 64, 3) := by decide +kernel
theorem dX12_leastOf_177 : decode cX12_leastOf 177 = .ok (.bipush 22, 2) := by decide +kernel
theorem dX12_leastOf_179 : decode cX12_leastOf 179 = .ok (.iload_n 3, 1) := by decide +kernel
theorem dX12_leastOf_180 : decode cX12_leastOf 180 = .ok (.imul, 1) := by decide +kernel
theorem dX12_leastOf_181 : decode cX12_leastOf 181 = .ok (.iload 4, 2) := by decide +kernel
theorem dX12_leastOf_183 : decode cX12_leastOf 183 = .ok (.iadd, 1) := by decide +kernel
theorem dX12_leastOf_184 : decode cX12_leastOf 184 = .ok (.iaload, 1) := by decide +kernel
theorem dX12_leastOf_185 : decode cX12_leastOf 185 = .ok (.iadd, 1) := by decide +kernel
theorem dX12_leastOf_186 : decode cX12_leastOf 186 = .ok (.istore 6, 2) := by decide +kernel
theorem dX12_leastOf_188 : decode cX12_leastOf 188 = .ok (.aload_n 0, 1) := by decide +kernel
theorem dX12_leastOf_189 : decode cX12_leastOf 189 = .ok (.getfield 95, 3) := by decide +kernel
theorem dX12_leastOf_192 : decode cX12_leastOf 192 = .ok (.iload 5, 2) := by decide +kernel
theorem dX12_leastOf_194 : decode cX12_leastOf 194 = .ok (.iload 6, 2) := by decide +kernel
theorem dX12_leastOf_196 : decode cX12_leastOf 196 = .ok (.aload_n 0, 1) := by decide +kernel
theorem dX12_leastOf_197 : decode cX12_leastOf 197 = .ok (.getfield 95, 3) := by decide +kernel
theorem dX12_leastOf_200 : decode cX12_leastOf 200 = .ok (.iload 5, 2) := by decide +kernel
theorem dX12_leastOf_202 : decode cX12_leastOf 202 = .ok (.iaload, 1) := by decide +kernel
theorem dX12_leastOf_203 : decode cX12_leastOf 203 = .ok (.if_icmp .ge 8, 3) := by decide +kernel
theorem dX12_leastOf_211 : decode cX12_leastOf 211 = .ok (.aload_n 0, 1) := by decide +kernel
theorem dX12_leastOf_212 : decode cX12_leastOf 212 = .ok (.getfield 95, 3) := by decide +kernel
theorem dX12_leastOf_215 : decode cX12_leastOf 215 = .ok (.iload 5, 2) := by decide +kernel
theorem dX12_leastOf_217 : decode cX12_leastOf 217 = .ok (.iaload, 1) := by decide +kernel
theorem dX12_leastOf_218 : decode cX12_leastOf 218 = .ok (.iastore, 1) := by decide +kernel
theorem dX12_leastOf_219 : decode cX12_leastOf 219 = .ok (.iinc 4 1, 3) := by decide +kernel
theorem dX12_leastOf_222 : decode cX12_leastOf 222 = .ok (.goto (-80), 3) := by decide +kernel
theorem dX12_leastOf_206 : decode cX12_leastOf 206 = .ok (.iload 6, 2) := by decide +kernel
theorem dX12_leastOf_208 : decode cX12_leastOf 208 = .ok (.goto 10, 3) := by decide +kernel
theorem dX12_leastOf_125 : decode cX12_leastOf 125 = .ok (.aload_n 0, 1) := by decide +kernel
theorem dX12_leastOf_126 : decode cX12_leastOf 126 = .ok (.getfield 95, 3) := by decide +kernel
theorem dX12_leastOf_129 : decode cX12_leastOf 129 = .ok (.iload_n 2, 1) := by decide +kernel
theorem dX12_leastOf_130 : decode cX12_leastOf 130 = .ok (.iaload, 1) := by decide +kernel
theorem dX12_leastOf_54 : decode cX12_leastOf 54 = .ok (.aload_n 0, 1) := by decide +kernel
theorem dX12_leastOf_55 : decode cX12_leastOf 55 = .ok (.getfield 98, 3) := by decide +kernel
theorem dX12_leastOf_58 : decode cX12_leastOf 58 = .ok (.iload 4, 2) := by decide +kernel
theorem dX12_leastOf_60 : decode cX12_leastOf 60 = .ok (.baload, 1) := by decide +kernel
theorem dX12_leastOf_61 : decode cX12_leastOf 61 = .ok (.ifCond .ne 39, 3) := by decide +kernel
theorem dX12_leastOf_100 : decode cX12_leastOf 100 = .ok (.iinc 4 1, 3) := by decide +kernel
theorem dX12_leastOf_103 : decode cX12_leastOf 103 = .ok (.goto (-58), 3) := by decide +kernel
theorem dX12_leastOf_64 : decode cX12_leastOf 64 = .ok (.aload_n 0, 1) := by decide +kernel
theorem dX12_leastOf_65 : decode cX12_leastOf 65 = .ok (.getfield 95, 3) := by decide +kernel
theorem dX12_leastOf_68 : decode cX12_leastOf 68 = .ok (.iload 4, 2) := by decide +kernel
theorem dX12_leastOf_70 : decode cX12_leastOf 70 = .ok (.iaload, 1) := by decide +kernel
theorem dX12_leastOf_71 : decode cX12_leastOf 71 = .ok (.ldc 179, 2) := by decide +kernel
theorem dX12_leastOf_73 : decode cX12_leastOf 73 = .ok (.if_icmp .ge 27, 3) := by decide +kernel
theorem dX12_leastOf_76 : decode cX12_leastOf 76 = .ok (.iload_n 3, 1) := by decide +kernel
theorem dX12_leastOf_77 : decode cX12_leastOf 77 = .ok (.iconst (-1), 1) := by decide +kernel
theorem dX12_leastOf_78 : decode cX12_leastOf 78 = .ok (.if_icmp .eq 19, 3) := by decide +kernel
theorem dX12_leastOf_97 : decode cX12_leastOf 97 = .ok (.iload 4, 2) := by decide +kernel
theorem dX12_leastOf_99 : decode cX12_leastOf 99 = .ok (.istore_n 3, 1) := by decide +kernel
theorem dX12_leastOf_81 : decode cX12_leastOf 81 = .ok (.aload_n 0, 1) := by decide +kernel
theorem dX12_leastOf_82 : decode cX12_leastOf 82 = .ok (.getfield 95, 3) := by decide +kernel
theorem dX12_leastOf_85 : decode cX12_leastOf 85 = .ok (.iload 4, 2) := by decide +kernel
theorem dX12_leastOf_87 : decode cX12_leastOf 87 = .ok (.iaload, 1) := by decide +kernel
theorem dX12_leastOf_88 : decode cX12_leastOf 88 = .ok (.aload_n 0, 1) := by decide +kernel
theorem dX12_leastOf_89 : decode cX12_leastOf 89 = .ok (.getfield 95, 3) := by decide +kernel
theorem dX12_leastOf_92 : decode cX12_leastOf 92 = .ok (.iload_n 3, 1) := by decide +kernel
theorem dX12_leastOf_93 : decode cX12_leastOf 93 = .ok (.iaload, 1) := by decide +kernel
theorem dX12_leastOf_94 : decode cX12_leastOf 94 = .ok (.if_icmp .ge 6, 3) := by decide +kernel
theorem dX12_leastOf_10 : decode cX12_leastOf 10 = .ok (.aload_n 0, 1) := by decide +kernel
theorem dX12_leastOf_11 : decode cX12_leastOf 11 = .ok (.getfield 95, 3) := by decide +kernel
theorem dX12_leastOf_14 : decode cX12_leastOf 14 = .ok (.iload_n 3, 1) := by decide +kernel
theorem dX12_leastOf_15 : decode cX12_leastOf 15 = .ok (.iload_n 3, 1) := by decide +kernel
theorem dX12_leastOf_16 : decode cX12_leastOf 16 = .ok (.iload_n 1, 1) := by decide +kernel
theorem dX12_leastOf_17 : decode cX12_leastOf 17 = .ok (.if_icmp .ne 7, 3) := by decide +kernel
theorem dX12_leastOf_24 : decode cX12_leastOf 24 = .ok (.ldc 179, 2) := by decide +kernel
theorem dX12_leastOf_26 : decode cX12_leastOf 26 = .ok (.iastore, 1) := by decide +kernel
theorem dX12_leastOf_27 : decode cX12_leastOf 27 = .ok (.aload_n 0, 1) := by decide +kernel
theorem dX12_leastOf_28 : decode cX12_leastOf 28 = .ok (.getfield 98, 3) := by decide +kernel
theorem dX12_leastOf_31 : decode cX12_leastOf 31 = .ok (.iload_n 3, 1) := by decide +kernel
theorem dX12_leastOf_32 : decode cX12_leastOf 32 = .ok (.iconst 0, 1) := by decide +kernel
theorem dX12_leastOf_33 : decode cX12_leastOf 33 = .ok (.bastore, 1) := by decide +kernel
theorem dX12_leastOf_34 : decode cX12_leastOf 34 = .ok (.iinc 3 1, 3) := by decide +kernel
theorem dX12_leastOf_37 : decode cX12_leastOf 37 = .ok (.goto (-35), 3) := by decide +kernel
theorem dX12_leastOf_20 : decode cX12_leastOf 20 = .ok (.iconst 0, 1) := by decide +kernel
theorem dX12_leastOf_21 : decode cX12_leastOf 21 = .ok (.goto 5, 3) := by decide +kernel
theorem dX12_measuresTo_0 : decode cX12_measuresTo 0 = .ok (.iconst 0, 1) := by decide +kernel
theorem dX12_measuresTo_1 : decode cX12_measuresTo 1 = .ok (.istore_n 2, 1) := by decide +kernel
theorem dX12_measuresTo_2 : decode cX12_measuresTo 2 = .ok (.iload_n 2, 1) := by decide +kernel
theorem dX12_measuresTo_3 : decode cX12_measuresTo 3 = .ok (.aload_n 0, 1) := by decide +kernel
theorem dX12_measuresTo_4 : decode cX12_measuresTo 4 = .ok (.getfield 298, 3) := by decide +kernel
theorem dX12_measuresTo_7 : decode cX12_measuresTo 7 = .ok (.if_icmp .ge 26, 3) := by decide +kernel
theorem dX12_measuresTo_33 : decode cX12_measuresTo 33 = .ok (.iconst 1, 1) := by decide +kernel
theorem dX12_measuresTo_34 : decode cX12_measuresTo 34 = .ok (.istore_n 2, 1) := by decide +kernel
theorem dX12_measuresTo_35 : decode cX12_measuresTo 35 = .ok (.iconst 0, 1) := by decide +kernel
theorem dX12_measuresTo_36 : decode cX12_measuresTo 36 = .ok (.istore_n 3, 1) := by decide +kernel
theorem dX12_measuresTo_37 : decode cX12_measuresTo 37 = .ok (.iload_n 2, 1) := by decide +kernel
theorem dX12_measuresTo_38 : decode cX12_measuresTo 38 = .ok (.ifCond .eq 99, 3) := by decide +kernel
theorem dX12_measuresTo_137 : decode cX12_measuresTo 137 = .ok (.return_, 1) := by decide +kernel
theorem dX12_measuresTo_41 : decode cX12_measuresTo 41 = .ok (.iconst 0, 1) := by decide +kernel
theorem dX12_measuresTo_42 : decode cX12_measuresTo 42 = .ok (.istore_n 2, 1) := by decide +kernel
theorem dX12_measuresTo_43 : decode cX12_measuresTo 43 = .ok (.iconst 0, 1) := by decide +kernel
theorem dX12_measuresTo_44 : decode cX12_measuresTo 44 = .ok (.istore 4, 2) := by decide +kernel
theorem dX12_measuresTo_46 : decode cX12_measuresTo 46 = .ok (.iload 4, 2) := by decide +kernel
theorem dX12_measuresTo_48 : decode cX12_measuresTo 48 = .ok (.aload_n 0, 1) := by decide +kernel
theorem dX12_measuresTo_49 : decode cX12_measuresTo 49 = .ok (.getfield 298, 3) := by decide +kernel
theorem dX12_measuresTo_52 : decode cX12_measuresTo 52 = .ok (.if_icmp .ge 79, 3) := by decide +kernel
theorem dX12_measuresTo_131 : decode cX12_measuresTo 131 = .ok (.iinc 3 1, 3) := by decide +kernel
theorem dX12_measuresTo_134 : decode cX12_measuresTo 134 = .ok (.goto (-97), 3) := by decide +kernel
theorem dX12_measuresTo_55 : decode cX12_measuresTo 55 = .ok (.iconst 0, 1) := by decide +kernel
theorem dX12_measuresTo_56 : decode cX12_measuresTo 56 = .ok (.istore 5, 2) := by decide +kernel
theorem dX12_measuresTo_58 : decode cX12_measuresTo 58 = .ok (.iload 5, 2) := by decide +kernel
theorem dX12_measuresTo_60 : decode cX12_measuresTo 60 = .ok (.aload_n 0, 1) := by decide +kernel
theorem dX12_measuresTo_61 : decode cX12_measuresTo 61 = .ok (.getfield 67, 3) := by decide +kernel
theorem dX12_measuresTo_64 : decode cX12_measuresTo 64 = .ok (.iload 4, 2) := by decide +kernel
theorem dX12_measuresTo_66 : decode cX12_measuresTo 66 = .ok (.iaload, 1) := by decide +kernel
theorem dX12_measuresTo_67 : decode cX12_measuresTo 67 = .ok (.if_icmp .ge 58, 3) := by decide +kernel
theorem dX12_measuresTo_125 : decode cX12_measuresTo 125 = .ok (.iinc 4 1, 3) := by decide +kernel
theorem dX12_measuresTo_128 : decode cX12_measuresTo 128 = .ok (.goto (-82), 3) := by decide +kernel
theorem dX12_measuresTo_70 : decode cX12_measuresTo 70 = .ok (.aload_n 0, 1) := by decide +kernel
theorem dX12_measuresTo_71 : decode cX12_measuresTo 71 = .ok (.getfield 101, 3) := by decide +kernel
theorem dX12_measuresTo_74 : decode cX12_measuresTo 74 = .ok (.iload 4, 2) := by decide +kernel
theorem dX12_measuresTo_76 : decode cX12_measuresTo 76 = .ok (.iaload, 1) := by decide +kernel
theorem dX12_measuresTo_77 : decode cX12_measuresTo 77 = .ok (.ldc 179, 2) := by decide +kernel
theorem dX12_measuresTo_79 : decode cX12_measuresTo 79 = .ok (.if_icmp .ne 46, 3) := by decide +kernel
theorem dX12_measuresTo_82 : decode cX12_measuresTo 82 = .ok (.aload_n 0, 1) := by decide +kernel
theorem dX12_measuresTo_83 : decode cX12_measuresTo 83 = .ok (.getfield 101, 3) := by decide +kernel
theorem dX12_measuresTo_86 : decode cX12_measuresTo 86 = .ok (.aload_n 0, 1) := by decide +kernel
theorem dX12_measuresTo_87 : decode cX12_measuresTo 87 = .ok (.getfield 61, 3) := by decide +kernel
theorem dX12_measuresTo_90 : decode cX12_measuresTo 90 = .ok (.bipush 22, 2) := by decide +kernel
theorem dX12_measuresTo_92 : decode cX12_measuresTo 92 = .ok (.iload 4, 2) := by decide +kernel
theorem dX12_measuresTo_94 : decode cX12_measuresTo 94 = .ok (.imul, 1) := by decide +kernel
theorem dX12_measuresTo_95 : decode cX12_measuresTo 95 = .ok (.iload 5, 2) := by decide +kernel
theorem dX12_measuresTo_97 : decode cX12_measuresTo 97 = .ok (.iadd, 1) := by decide +kernel
theorem dX12_measuresTo_98 : decode cX12_measuresTo 98 = .ok (.iaload, 1) := by decide +kernel
theorem dX12_measuresTo_99 : decode cX12_measuresTo 99 = .ok (.iaload, 1) := by decide +kernel
theorem dX12_measuresTo_100 : decode cX12_measuresTo 100 = .ok (.iload_n 3, 1) := by decide +kernel
theorem dX12_measuresTo_101 : decode cX12_measuresTo 101 = .ok (.if_icmp .eq 6, 3) := by decide +kernel
theorem dX12_measuresTo_107 : decode cX12_measuresTo 107 = .ok (.aload_n 0, 1) := by decide +kernel
theorem dX12_measuresTo_108 : decode cX12_measuresTo 108 = .ok (.getfield 101, 3) := by decide +kernel
theorem dX12_measuresTo_111 : decode cX12_measuresTo 111 = .ok (.iload 4, 2) := by decide +kernel
theorem dX12_measuresTo_113 : decode cX12_measuresTo 113 = .ok (.iload_n 3, 1) := by decide +kernel
theorem dX12_measuresTo_114 : decode cX12_measuresTo 114 = .ok (.iconst 1, 1) := by decide +kernel
theorem dX12_measuresTo_115 : decode cX12_measuresTo 115 = .ok (.iadd, 1) := by decide +kernel
theorem dX12_measuresTo_116 : decode cX12_measuresTo 116 = .ok (.iastore, 1) := by decide +kernel
theorem dX12_measuresTo_117 : decode cX12_measuresTo 117 = .ok (.iconst 1, 1) := by decide +kernel
theorem dX12_measuresTo_118 : decode cX12_measuresTo 118 = .ok (.istore_n 2, 1) := by decide +kernel
theorem dX12_measuresTo_119 : decode cX12_measuresTo 119 = .ok (.iinc 5 1, 3) := by decide +kernel
theorem dX12_measuresTo_122 : decode cX12_measuresTo 122 = .ok (.goto (-64), 3) := by decide +kernel
theorem dX12_measuresTo_104 : decode cX12_measuresTo 104 = .ok (.goto 15, 3) := by decide +kernel
theorem dX12_measuresTo_10 : decode cX12_measuresTo 10 = .ok (.aload_n 0, 1) := by decide +kernel
theorem dX12_measuresTo_11 : decode cX12_measuresTo 11 = .ok (.getfield 101, 3) := by decide +kernel
theorem dX12_measuresTo_14 : decode cX12_measuresTo 14 = .ok (.iload_n 2, 1) := by decide +kernel
theorem dX12_measuresTo_15 : decode cX12_measuresTo 15 = .ok (.iload_n 2, 1) := by decide +kernel
theorem dX12_measuresTo_16 : decode cX12_measuresTo 16 = .ok (.iload_n 1, 1) := by decide +kernel
theorem dX12_measuresTo_17 : decode cX12_measuresTo 17 = .ok (.if_icmp .ne 7, 3) := by decide +kernel
theorem dX12_measuresTo_24 : decode cX12_measuresTo 24 = .ok (.ldc 179, 2) := by decide +kernel
theorem dX12_measuresTo_26 : decode cX12_measuresTo 26 = .ok (.iastore, 1) := by decide +kernel
theorem dX12_measuresTo_27 : decode cX12_measuresTo 27 = .ok (.iinc 2 1, 3) := by decide +kernel
theorem dX12_measuresTo_30 : decode cX12_measuresTo 30 = .ok (.goto (-28), 3) := by decide +kernel
theorem dX12_measuresTo_20 : decode cX12_measuresTo 20 = .ok (.iconst 0, 1) := by decide +kernel
theorem dX12_measuresTo_21 : decode cX12_measuresTo 21 = .ok (.goto 5, 3) := by decide +kernel
theorem v_88d800e4db : (0 : Int) ≤ 22 := by omega
theorem v_d69446900d {a0 : Int} (h0 : 0 ≤ a0) : -1 < a0 := by omega
theorem v_f87d9c79ec : (-(1 : Int)) ≤ 21 := by omega
theorem v_356853efec {a0 a1 a2 a3 : Int} (h0 : a0 < a1) (h1 : a1 ≤ 1260) (h2 : a2 ≤ 22) (h3 : ¬ a2 ≤ a3) : a3 + 22 * a0 < 27720 := by omega
theorem v_47a3e0fadb {a0 a1 : Int} (h0 : a0 ≤ 22) (h1 : ¬ a0 ≤ a1) : (a1 + 1) ≤ 22 := by omega
theorem v_7998cc58ac {a0 : Int} : 22 - (a0 + 1) < (22 - a0) := by omega
theorem v_e4105e2830 {a0 a1 : Int} (h0 : a0 ≤ 22) (h1 : ¬ a0 ≤ a1) : 0 < 22 - a1 := by omega
theorem v_97e8236a73 {a0 a1 : Int} (h0 : a0 ≤ 22) (h1 : ¬ a0 ≤ a1) : a1 ≤ 21 := by omega
theorem v_57ed32f088 {a0 a1 a2 : Int} (h0 : a0 ≤ 1260) (h1 : 0 ≤ a1) (h2 : a1 ≤ a2) (h3 : a2 ≤ a0) : zr a1 := by omega
theorem v_d386818eef {a0 a1 a2 : Int} (h0 : a0 ≤ 1260) (h1 : a1 ≤ a0) (h2 : ¬ a1 ≤ a2) : a2 < 1260 := by omega
theorem v_04fff13461 {a0 a1 : Int} (h0 : a0 < a1) : (a0 + 1) ≤ a1 := by omega
theorem v_7a9b6e7082 {a0 a1 a2 : Int} (h0 : a0 ≤ 1260) (h1 : a1 ≤ a0) (h2 : ¬ a1 ≤ a2) : 0 < 1260 - a2 := by omega
theorem v_ce3ee115e5 {a0 a1 a2 a3 : Int} (h0 : a0 ≤ 1260) (h1 : a1 ≤ a0 - 1) (h2 : a2 ≤ 22) (h3 : ¬ a2 ≤ a3) : a3 + 22 * a1 < 27720 := by omega
theorem v_16b0976d47 {a0 a1 a2 a3 : Int} (h0 : a0 ≤ 1260) (h1 : a1 = a2) (h2 : a1 < a0) (h3 : -1 ≤ a3) (h4 : a3 ≤ a2) : zr a3 := by omega
theorem v_10c1655d5d {a0 a1 a2 a3 : Int} (h0 : a0 ≤ 1260) (h1 : a1 = a2) (h2 : a1 < a0) (h3 : -1 ≤ a3) (h4 : a3 ≤ a2) : zr ((a3 + 1)) := by omega
theorem v_003e008026 : (1000000 : Int) ≤ 1000000 := by omega
theorem v_c9cae7dc9a {a0 : Int} (h0 : -1 ≤ a0) (h1 : a0 = -1) : zr a0 := by omega
theorem v_83b3f1d41d {a0 a1 : Int} (h0 : 0 ≤ a0) (h1 : a1 = a0 + 1) : 0 ≤ a1 := by omega
theorem v_2b81d1254d {a0 a1 a2 : Int} (h0 : a0 = a1 + 1) (h1 : a1 < a2) : a0 ≤ a2 := by omega
theorem v_df4b9d216a {a0 a1 a2 : Int} (h0 : a0 = a1 + 1) : a2 - a0 + 1 < (a2 - a1 + 1) := by omega
theorem v_53b5f18ef1 {a0 a1 : Int} (h0 : a0 < a1) : 0 < a1 - a0 + 1 := by omega
theorem v_ebf75f3068 {a0 a1 : Int} (h0 : -1 ≤ a0) (h1 : ¬ a0 = -1) (h2 : 0 ≤ a1) : 0 ≤ 22 * a0 + a1 := by omega
theorem v_e748e363c7 {a0 a1 a2 a3 : Int} (h0 : a0 ≤ 1260) (h1 : a1 < a0) (h2 : a2 ≤ 22) (h3 : ¬ a2 ≤ a3) : 22 * a1 + a3 < 27720 := by omega
theorem v_bbccdd60f5 {a0 a1 : Int} : 22 * a0 + a1 = 22 * a0 + a1 := by omega
theorem v_7532862d37 {a0 a1 : Int} (h0 : 0 ≤ a0) (h1 : a0 ≤ 1000000) (h2 : 1 ≤ a1) (h3 : a1 ≤ 99) : zr ((a0 + a1)) := by omega
theorem v_446c93d96c {a0 : Int} (h0 : 0 ≤ a0) (h1 : a0 ≤ 1000000) : zr a0 := by omega
theorem v_84bc5d7fcf {a0 : Int} (h0 : a0 ≤ 1000000) : a0 ≤ 1000000 := by omega
theorem v_275822ecf8 {a0 a1 : Int} (h0 : 0 ≤ a0) (h1 : 1 ≤ a1) : 0 ≤ a0 + a1 := by omega
theorem v_34e556aa89 {a0 a1 a2 : Int} (h0 : a0 ≤ 1000000) (h1 : ¬ a0 ≤ a1 + a2) : a1 + a2 ≤ 1000000 := by omega
theorem v_6158abf92a : zr 1000000 := by omega
theorem v_ab28b6e5e4 {a0 : Int} (h0 : 0 ≤ a0) (h1 : ¬ 1000000 ≤ a0) : zr a0 := by omega
theorem v_260153931b {a0 a1 : Int} (h0 : a0 ≤ 1260) (h1 : 0 ≤ a1) (h2 : ¬ a0 ≤ a1) : zr a1 := by omega
theorem v_fc527b01d3 : (0 : Int) ≤ 1000000 := by omega
theorem v_2b5ba25bb9 {a0 a1 a2 : Int} (h0 : 0 ≤ a0) (h1 : a1 + a0 ≤ a2) (h2 : ¬ a0 = 0) : a1 + 1 + 0 ≤ a2 := by omega
theorem v_4bb56b9cee {a0 a1 a2 a3 : Int} (h0 : a0 ≤ 1260) (h1 : 0 ≤ a1) (h2 : a2 + 1 + a1 ≤ a3) (h3 : a3 ≤ a0) : 0 < 1261 - a2 := by omega
theorem v_8172211e62 {a0 a1 a2 a3 : Int} (h0 : a0 ≤ 1260) (h1 : ¬ a0 ≤ a1) (h2 : a2 ≤ 22) (h3 : ¬ a2 ≤ a3) : 22 * a1 + a3 < 27720 := by omega
theorem v_130a2b347e {a0 a1 a2 a3 : Int} (h0 : a0 ≤ 1260) (h1 : 0 ≤ a1) (h2 : 0 ≤ a2) (h3 : a1 + 1 + a2 ≤ a3) (h4 : a3 ≤ a0) : zr a1 := by omega
theorem v_8172bf60ae {a0 a1 a2 a3 : Int} (h0 : a0 ≤ 1260) (h1 : 0 ≤ a1) (h2 : a2 + 1 + a1 ≤ a3) (h3 : a3 ≤ a0) : ¬ a2 + 1 = 1000000 := by omega
theorem v_632ab5c2a3 {a0 : Int} (h0 : a0 ≤ 1000000) (h1 : a0 = 1000000) : a0 = 1000000 := by omega
theorem v_6f1a739f5a {a0 a1 a2 a3 : Int} (h0 : 0 ≤ a0) (h1 : a1 + 1 + a0 ≤ a2) (h2 : a3 = a2 + 1) : a1 + 1 + 1 ≤ a3 := by omega
theorem v_9b1dec7f1f {a0 a1 a2 a3 : Int} (h0 : a0 ≤ 1260) (h1 : 0 ≤ a1) (h2 : a2 + 1 + a1 ≤ a3) (h3 : a3 < a0) : a2 ≤ 1259 := by omega
theorem v_04386017b8 : (1000000 : Int) = 1000000 := by omega
set_option maxHeartbeats 4000000 in
set_option maxRecDepth 100000 in
theorem k_stepBetween {l : Launch} {G : jG} {nh : Nat} {fh : Nat → Option va_E} (x : Int) (y : Int) (st : Int → Int) (tk : Int → Int) (sm : Int → Int) (ms : Int) (mv : Int) (mt : Int) (mfa : Int) (mtn : Int) (mtk : Int) (mlv : Int) (mbd : Int) (mgo : Int) (mge : Int) (mbk : Int) (mtt : Int) (mtl : Int) (hm : Int) (pm : Int) (hb : Int) (sb : Int) (mfu : Int) (mdm : Int) (mla : Int) (q0 : 0 ≤ x) (q1 : x < hm) (q2 : zr y) (q3 : 1 ≤ hm) (q4 : hm ≤ 1260) (q5 : StM st tk sm hm) (hk98 : fh 98 = some (.inr (12, (.int (zI ms) :: .int (zI mv) :: .ref 99 :: .ref 100 :: .ref 101 :: .ref 102 :: .ref 103 :: .ref 104 :: .ref 105 :: .int (zI mt) :: .int (zI mfa) :: .ref 106 :: .ref 107 :: .ref 108 :: .int (zI mtn) :: .int (zI mtk) :: .int (zI mlv) :: .int (zI mbd) :: .int (zI mgo) :: .int (zI mge) :: .int (zI mbk) :: .ref 109 :: .int (zI mtt) :: .int (zI mtl) :: .ref 110 :: .ref 111 :: .ref 112 :: .ref 113 :: .ref 114 :: .ref 115 :: .ref 116 :: .ref 117 :: .int (zI hm) :: .int (zI pm) :: .int (zI hb) :: .int (zI sb) :: .ref 118 :: .ref 119 :: .ref 120 :: .ref 121 :: .ref 122 :: .ref 123 :: .ref 124 :: .ref 125 :: .ref 126 :: .ref 127 :: .ref 128 :: .ref 129 :: .int (zI mfu) :: .ref 130 :: .ref 131 :: .ref 132 :: .ref 133 :: .ref 134 :: .int (zI mdm) :: .int (zI mla) :: [])))) (hk112 : fh 112 = some (.inl (0, 27720, .inl (zA st)))) (hk113 : fh 113 = some (.inl (0, 27720, .inl (zA tk)))) (hk114 : fh 114 = some (.inl (0, 1260, .inl (zA sm)))) : JM l G yX12_stepBetween MX12_stepBetween { frames := 0, cells := 0, slots := 0, locals := 0 } [.ref 98, .int (zI x), .int (zI y)] (nh, fh) (fun rr h9 => ∃ r : Int, rr = some (.int (zI r)) ∧ h9 = (nh, fh) ∧ (-1 ≤ r) ∧ (r < sm x) ∧ (StB st sm x y r) ∧ (r ≤ 21)) := by
  refine JM.of (by decide) rfl (fun h => by cases h) (Nat.le_of_ble_eq_true rfl) ⟨1, rfl⟩ ?_
  refine J_hc0 (J_ls (ls2 := [some (.ref 98), some (.int (zI x)), some (.int (zI y)), none]) rfl ?_)
  refine Z_iconst (n := 0) dX12_stepBetween_0 ?_
  refine J_istore_n dX12_stepBetween_1 rfl (Nat.le_of_ble_eq_true rfl) rfl ?_
  refine J_ls (ls2 := [some (.ref 98), some (.int (zI x)), some (.int (zI y)), some (.int (zI 0))]) rfl ?_
  have lp2 : ∀ (N2 : Nat) (i_2 : Int), (0 ≤ i_2) → (i_2 ≤ 22) → (StBn st x y i_2) → (22 - i_2).toNat < N2 → J l G MX12_stepBetween { frames := 0, cells := 0, slots := 0, locals := 0 } jE (jMQ G { frames := 0, cells := 0, slots := 0, locals := 0 } (fun rr h9 => ∃ r : Int, rr = some (.int (zI r)) ∧ h9 = (nh, fh) ∧ (-1 ≤ r) ∧ (r < sm x) ∧ (StB st sm x y r) ∧ (r ≤ 21))) (nh, hc fh []) 0 0 2 [some (.ref 98), some (.int (zI x)), some (.int (zI y)), some (.int (zI i_2))] [] := by
    intro N2
    induction N2 with
    | zero => intro i_2 i2_0 i2_1 i2_2 hm; exact absurd hm (Nat.not_lt_zero _)
    | succ N2 ih2 =>
      intro i_2 i2_0 i2_1 i2_2 hm2
      refine J_iload_n dX12_stepBetween_2 rfl rfl ?_
      refine J_aload_n dX12_stepBetween_3 rfl rfl ?_
      refine J_get (v := .ref 114) dX12_stepBetween_4 fl_X12_67 hk98 rfl ?_
      refine J_iload_n dX12_stepBetween_7 rfl rfl ?_
      obtain ⟨z1, ez1⟩ : ∃ z : Int, sm x = z := ⟨_, rfl⟩
      have h2 := StM.deg q5 (v_2b02420001 q0) (v_b9aca61388 q1) ez1
      refine Y_iald (z := z1) 1260 dX12_stepBetween_8 hk114 rfl (by decide) (v_2b02420001 q0) (v_6251b724b8 q1 q4) ez1 ?_
      refine Z_icmp_ge (tgt := 35) dX12_stepBetween_9 (by decide) (v_ee6ec25f58 i2_0 i2_1) (v_ee6ec25f58 h2.1 h2.2) (fun h3 => ?_) (fun h3 => ?_)
      · refine Z_iconst (n := -1) dX12_stepBetween_35 ?_
        exact J_iret dX12_stepBetween_36 rfl rfl (Nat.le_of_ble_eq_true rfl) (Nat.le_of_ble_eq_true rfl) ⟨(-1), rfl, rfl, v_4d9e6ac08a, (by rw [ez1]; exact (v_d69446900d h2.1)), (StB.no i2_2 ez1 (v_d464d4c634 h3)), v_f87d9c79ec⟩
      · refine J_aload_n dX12_stepBetween_12 rfl rfl ?_
        refine J_get (v := .ref 112) dX12_stepBetween_13 fl_X12_61 hk98 rfl ?_
        refine Z_bipush (n := 22) dX12_stepBetween_16 (by decide +kernel) ?_
        refine J_iload_n dX12_stepBetween_18 rfl rfl ?_
        refine Z_imul (c := 22 * x) dX12_stepBetween_19 rfl ?_
        refine J_iload_n dX12_stepBetween_20 rfl rfl ?_
        refine Z_iadd (c := i_2 + 22 * x) dX12_stepBetween_21 v_ad6305c414 ?_
        obtain ⟨z4, ez4⟩ : ∃ z : Int, st (i_2 + 22 * x) = z := ⟨_, rfl⟩
        have h5 := StM.to q5 (v_2b02420001 q0) (v_b9aca61388 q1) ez1 (v_2b02420001 i2_0) (v_fe9ea41faa h3) v_67a3777f39 ez4
        refine Y_iald (z := z4) 27720 dX12_stepBetween_22 hk112 rfl (by decide) (v_20ea8ee269 q0 i2_0) (v_356853efec q1 q4 h2.2 h3) ez4 ?_
        refine J_iload_n dX12_stepBetween_23 rfl rfl ?_
        refine Z_icmp_ne (tgt := 29) dX12_stepBetween_24 (by decide) (v_24739b0ba2 q4 h5.1 h5.2) (v_b25fa51a85 q2) (fun h6 => ?_) (fun h6 => ?_)
        · refine Z_iinc (c := i_2 + 1) (ls2 := [some (.ref 98), some (.int (zI x)), some (.int (zI y)), some (.int (zI (i_2 + 1)))]) dX12_stepBetween_29 rfl (Nat.le_of_ble_eq_true rfl) rfl rfl rfl ?_
          refine J_goto (tgt := 2) dX12_stepBetween_32 (by decide) ?_
          exact ih2 (i_2 + 1) (v_da458fa48a i2_0) (v_47a3e0fadb h2.2 h3) (StBn.step i2_2 v_67a3777f39 ez4 (v_da5cc3277e h6)) (meas_lt v_7998cc58ac (v_e4105e2830 h2.2 h3) hm2)
        · refine J_iload_n dX12_stepBetween_27 rfl rfl ?_
          exact J_iret dX12_stepBetween_28 rfl rfl (Nat.le_of_ble_eq_true rfl) (Nat.le_of_ble_eq_true rfl) ⟨i_2, rfl, rfl, (v_576129c2e8 i2_0), (by rw [ez1]; exact (v_fe9ea41faa h3)), (StB.yes i2_0 v_67a3777f39 ez4 (v_cd91a95e4e h6)), (v_97e8236a73 h2.2 h3)⟩
  exact lp2 _ 0 v_939070ca3f v_88d800e4db (StBn_0) (Nat.lt_succ_self _)
set_option maxHeartbeats 4000000 in
set_option maxRecDepth 100000 in
theorem k_measures {l : Launch} {G : jG} {nh : Nat} {fh : Nat → Option va_E} (x : Int) (st : Int → Int) (tk : Int → Int) (sm : Int → Int) (fa : Int → Int) (fm : Int → Int) (li : Int → Int) (ms : Int) (mv : Int) (mt : Int) (mfa : Int) (mtn : Int) (mtk : Int) (mlv : Int) (mbd : Int) (mgo : Int) (mge : Int) (mbk : Int) (mtt : Int) (mtl : Int) (hm : Int) (pm : Int) (hb : Int) (sb : Int) (mfu : Int) (mdm : Int) (mla : Int) (q0 : 0 ≤ x) (q1 : x < hm) (q2 : 1 ≤ hm) (q3 : hm ≤ 1260) (q4 : StM st tk sm hm) (hk98 : fh 98 = some (.inr (12, (.int (zI ms) :: .int (zI mv) :: .ref 99 :: .ref 100 :: .ref 101 :: .ref 102 :: .ref 103 :: .ref 104 :: .ref 105 :: .int (zI mt) :: .int (zI mfa) :: .ref 106 :: .ref 107 :: .ref 108 :: .int (zI mtn) :: .int (zI mtk) :: .int (zI mlv) :: .int (zI mbd) :: .int (zI mgo) :: .int (zI mge) :: .int (zI mbk) :: .ref 109 :: .int (zI mtt) :: .int (zI mtl) :: .ref 110 :: .ref 111 :: .ref 112 :: .ref 113 :: .ref 114 :: .ref 115 :: .ref 116 :: .ref 117 :: .int (zI hm) :: .int (zI pm) :: .int (zI hb) :: .int (zI sb) :: .ref 118 :: .ref 119 :: .ref 120 :: .ref 121 :: .ref 122 :: .ref 123 :: .ref 124 :: .ref 125 :: .ref 126 :: .ref 127 :: .ref 128 :: .ref 129 :: .int (zI mfu) :: .ref 130 :: .ref 131 :: .ref 132 :: .ref 133 :: .ref 134 :: .int (zI mdm) :: .int (zI mla) :: [])))) (hk112 : fh 112 = some (.inl (0, 27720, .inl (zA st)))) (hk113 : fh 113 = some (.inl (0, 27720, .inl (zA tk)))) (hk114 : fh 114 = some (.inl (0, 1260, .inl (zA sm)))) (hk118 : fh 118 = some (.inl (0, 1260, .inl (zA fa)))) (hk119 : fh 119 = some (.inl (1, 1260, .inr (.inl (zAL fm))))) (hk120 : fh 120 = some (.inl (0, 1260, .inl (zA li)))) : JM l G yX12_measures MX12_measures { frames := 0, cells := 0, slots := 0, locals := 0 } [.ref 98, .int (zI x)] (nh, fh) (fun rr h9 => ∃ fa2 : Int → Int, ∃ fm2 : Int → Int, ∃ li2 : Int → Int, ∃ r : Int, rr = some (.int (zI r)) ∧ h9 = (nh, hc fh [(118, .inl (0, 1260, .inl (zA fa2))), (119, .inl (1, 1260, .inr (.inl (zAL fm2)))), (120, .inl (0, 1260, .inl (zA li2)))]) ∧ (1 ≤ r) ∧ (r ≤ hm) ∧ (Rg li2 r 0 (hm - 1)) ∧ (Rg fa2 hm (-1) (hm - 1))) := by
  refine JM.of (by decide) rfl (fun h => by cases h) (Nat.le_of_ble_eq_true rfl) ⟨5, rfl⟩ ?_
  refine J_hc0 (J_ls (ls2 := [some (.ref 98), some (.int (zI x)), none, none, none, none, none]) rfl ?_)
  refine Z_iconst (n := 0) dX12_measures_0 ?_
  refine J_istore_n dX12_measures_1 rfl (Nat.le_of_ble_eq_true rfl) rfl ?_
  refine J_ls (ls2 := [some (.ref 98), some (.int (zI x)), some (.int (zI 0)), none, none, none, none]) rfl ?_
  refine J_touch (k := 118) (e := .inl (0, 1260, .inl (zA fa))) hk118 ?_
  refine J_touch (k := 119) (e := .inl (1, 1260, .inr (.inl (zAL fm)))) hk119 ?_
  have lp2 : ∀ (N2 : Nat) (h_2 : Int) (fx_2 : Int → Int) (mx_2 : Int → Int), (0 ≤ h_2) → (h_2 ≤ hm) → (fx_2 = fillf fa 0 h_2 (-1)) → (hm - h_2).toNat < N2 → J l G MX12_measures { frames := 0, cells := 0, slots := 0, locals := 0 } jE (jMQ G { frames := 0, cells := 0, slots := 0, locals := 0 } (fun rr h9 => ∃ fa2 : Int → Int, ∃ fm2 : Int → Int, ∃ li2 : Int → Int, ∃ r : Int, rr = some (.int (zI r)) ∧ h9 = (nh, hc fh [(118, .inl (0, 1260, .inl (zA fa2))), (119, .inl (1, 1260, .inr (.inl (zAL fm2)))), (120, .inl (0, 1260, .inl (zA li2)))]) ∧ (1 ≤ r) ∧ (r ≤ hm) ∧ (Rg li2 r 0 (hm - 1)) ∧ (Rg fa2 hm (-1) (hm - 1)))) (nh, hc fh [(119, .inl (1, 1260, .inr (.inl (zAL mx_2)))), (118, .inl (0, 1260, .inl (zA fx_2)))]) 0 0 2 [some (.ref 98), some (.int (zI x)), some (.int (zI h_2)), none, none, none, none] [] := by
    intro N2
    induction N2 with
    | zero => intro h_2 fx_2 mx_2 i2_0 i2_1 i2_2 hm; exact absurd hm (Nat.not_lt_zero _)
    | succ N2 ih2 =>
      intro h_2 fx_2 mx_2 i2_0 i2_1 i2_2 hm2
      refine J_iload_n dX12_measures_2 rfl rfl ?_
      refine J_aload_n dX12_measures_3 rfl rfl ?_
      refine J_get (v := .int (zI hm)) dX12_measures_4 fl_X12_298 hk98 rfl ?_
      refine Z_icmp_ge (tgt := 30) dX12_measures_7 (by decide) (v_c9ca704c4d q3 i2_0 i2_1) (v_81c6732ede q2 q3) (fun h1 => ?_) (fun h1 => ?_)
      · have g2 : fx_2 = fillf fa 0 hm (-1) := by have e : h_2 = hm := (v_9b8f42b01e i2_1 h1); rw [← e]; exact i2_2
        refine J_aload_n dX12_measures_30 rfl rfl ?_
        refine J_get (v := .ref 118) dX12_measures_31 fl_X12_85 hk98 rfl ?_
        refine J_iload_n dX12_measures_34 rfl rfl ?_
        refine Z_iconst (n := 0) dX12_measures_35 ?_
        refine Y_iast (v := 0) 1260 dX12_measures_36 rfl rfl (by decide) (v_2b02420001 q0) (v_6251b724b8 q1 q3) (fun f3 ef3 => ?_)
        refine J_aload_n dX12_measures_37 rfl rfl ?_
        refine J_get (v := .ref 119) dX12_measures_38 fl_X12_88 hk98 rfl ?_
        refine J_iload_n dX12_measures_41 rfl rfl ?_
        refine J_lconst (v := zL 1) dX12_measures_42 (by decide +kernel) ?_
        refine Y_last (v := 1) 1260 dX12_measures_43 rfl rfl (by decide) (v_2b02420001 q0) (v_6251b724b8 q1 q3) (fun f4 ef4 => ?_)
        refine J_aload_n dX12_measures_44 rfl rfl ?_
        refine J_get (v := .ref 120) dX12_measures_45 fl_X12_92 hk98 rfl ?_
        refine Z_iconst (n := 0) dX12_measures_48 ?_
        refine J_iload_n dX12_measures_49 rfl rfl ?_
        refine Y_iast (v := x) 1260 dX12_measures_50 hk120 rfl (by decide) v_939070ca3f v_c5edf0a345 (fun f5 ef5 => ?_)
        refine Z_iconst (n := 1) dX12_measures_51 ?_
        refine J_istore_n dX12_measures_52 rfl (Nat.le_of_ble_eq_true rfl) rfl ?_
        refine J_ls (ls2 := [some (.ref 98), some (.int (zI x)), some (.int (zI 1)), none, none, none, none]) rfl ?_
        refine Z_iconst (n := 0) dX12_measures_53 ?_
        refine J_istore_n dX12_measures_54 rfl (Nat.le_of_ble_eq_true rfl) rfl ?_
        refine J_ls (ls2 := [some (.ref 98), some (.int (zI x)), some (.int (zI 1)), some (.int (zI 0)), none, none, none]) rfl ?_
        refine J_mask (L2 := [(120, .inl (0, 1260, .inl (zA f5))), (119, .inl (1, 1260, .inr (.inl (zAL f4)))), (118, .inl (0, 1260, .inl (zA f3)))]) (ks := [120, 119, 118, 119, 118]) [true, true, true, false, false] rfl (by decide +kernel) rfl ?_
        have lp55 : ∀ (N55 : Nat) (n_55 : Int) (k_55 : Int) (fx_55 : Int → Int) (mx_55 : Int → Int) (lx_55 : Int → Int), (0 ≤ k_55) → (k_55 ≤ n_55) → (1 ≤ n_55) → (n_55 ≤ hm) → (cNe fx_55 (-1) hm = n_55) → (Rg lx_55 n_55 0 (hm - 1)) → (Rg fx_55 hm (-1) (n_55 - 1)) → (1260 - k_55).toNat < N55 → J l G MX12_measures { frames := 0, cells := 0, slots := 0, locals := 0 } jE (jMQ G { frames := 0, cells := 0, slots := 0, locals := 0 } (fun rr h9 => ∃ fa2 : Int → Int, ∃ fm2 : Int → Int, ∃ li2 : Int → Int, ∃ r : Int, rr = some (.int (zI r)) ∧ h9 = (nh, hc fh [(118, .inl (0, 1260, .inl (zA fa2))), (119, .inl (1, 1260, .inr (.inl (zAL fm2)))), (120, .inl (0, 1260, .inl (zA li2)))]) ∧ (1 ≤ r) ∧ (r ≤ hm) ∧ (Rg li2 r 0 (hm - 1)) ∧ (Rg fa2 hm (-1) (hm - 1)))) (nh, hc fh [(120, .inl (0, 1260, .inl (zA lx_55))), (119, .inl (1, 1260, .inr (.inl (zAL mx_55)))), (118, .inl (0, 1260, .inl (zA fx_55)))]) 0 0 55 [some (.ref 98), some (.int (zI x)), some (.int (zI n_55)), some (.int (zI k_55)), none, none, none] [] := by
          intro N55
          induction N55 with
          | zero => intro n_55 k_55 fx_55 mx_55 lx_55 i55_0 i55_1 i55_2 i55_3 i55_4 i55_5 i55_6 hm; exact absurd hm (Nat.not_lt_zero _)
          | succ N55 ih55 =>
            intro n_55 k_55 fx_55 mx_55 lx_55 i55_0 i55_1 i55_2 i55_3 i55_4 i55_5 i55_6 hm55
            refine J_iload_n dX12_measures_55 rfl rfl ?_
            refine J_iload_n dX12_measures_56 rfl rfl ?_
            refine Z_icmp_ge (tgt := 217) dX12_measures_57 (by decide) (v_57ed32f088 q3 i55_0 i55_1 i55_3) (v_5f4fb15983 q3 i55_2 i55_3) (fun h6 => ?_) (fun h6 => ?_)
            · refine J_iload_n dX12_measures_217 rfl rfl ?_
              refine J_touch (k := 120) (e := .inl (0, 1260, .inl (zA lx_55))) rfl ?_
              refine J_touch (k := 119) (e := .inl (1, 1260, .inr (.inl (zAL mx_55)))) rfl ?_
              refine J_touch (k := 118) (e := .inl (0, 1260, .inl (zA fx_55))) rfl ?_
              refine J_mask (L2 := [(118, .inl (0, 1260, .inl (zA fx_55))), (119, .inl (1, 1260, .inr (.inl (zAL mx_55)))), (120, .inl (0, 1260, .inl (zA lx_55)))]) (ks := [118, 119, 120, 120, 119, 118]) [true, true, true, false, false, false] rfl (by decide +kernel) rfl ?_
              exact J_iret dX12_measures_218 rfl rfl (Nat.le_of_ble_eq_true rfl) (Nat.le_of_ble_eq_true rfl) ⟨fx_55, mx_55, lx_55, n_55, rfl, rfl, i55_2, i55_3, i55_5, (Rg.mono i55_6 v_0065452639 v_848c23d82e (v_8b27cfcfd8 i55_3))⟩
            · refine J_aload_n dX12_measures_60 rfl rfl ?_
              refine J_get (v := .ref 120) dX12_measures_61 fl_X12_92 hk98 rfl ?_
              refine J_iload_n dX12_measures_64 rfl rfl ?_
              obtain ⟨z7, ez7⟩ : ∃ z : Int, lx_55 k_55 = z := ⟨_, rfl⟩
              have h8 := Rg.at i55_5 (v_2b02420001 i55_0) (v_fe9ea41faa h6) ez7
              refine Y_iald (z := z7) 1260 dX12_measures_65 rfl rfl (by decide) (v_2b02420001 i55_0) (v_d386818eef q3 i55_3 h6) ez7 ?_
              refine J_istore dX12_measures_66 (Nat.le_of_ble_eq_true rfl) rfl ?_
              refine J_ls (ls2 := [some (.ref 98), some (.int (zI x)), some (.int (zI n_55)), some (.int (zI k_55)), some (.int (zI z7)), none, none]) rfl ?_
              refine Z_iconst (n := 0) dX12_measures_68 ?_
              refine J_istore dX12_measures_69 (Nat.le_of_ble_eq_true rfl) rfl ?_
              refine J_ls (ls2 := [some (.ref 98), some (.int (zI x)), some (.int (zI n_55)), some (.int (zI k_55)), some (.int (zI z7)), some (.int (zI 0)), none]) rfl ?_
              have lp71 : ∀ (N71 : Nat) (n_71 : Int) (i_71 : Int) (fx_71 : Int → Int) (mx_71 : Int → Int) (lx_71 : Int → Int), (0 ≤ i_71) → (i_71 ≤ 22) → (k_55 < n_71) → (1 ≤ n_71) → (n_71 ≤ hm) → (cNe fx_71 (-1) hm = n_71) → (Rg lx_71 n_71 0 (hm - 1)) → (Rg fx_71 hm (-1) (n_71 - 1)) → (22 - i_71).toNat < N71 → J l G MX12_measures { frames := 0, cells := 0, slots := 0, locals := 0 } jE (jMQ G { frames := 0, cells := 0, slots := 0, locals := 0 } (fun rr h9 => ∃ fa2 : Int → Int, ∃ fm2 : Int → Int, ∃ li2 : Int → Int, ∃ r : Int, rr = some (.int (zI r)) ∧ h9 = (nh, hc fh [(118, .inl (0, 1260, .inl (zA fa2))), (119, .inl (1, 1260, .inr (.inl (zAL fm2)))), (120, .inl (0, 1260, .inl (zA li2)))]) ∧ (1 ≤ r) ∧ (r ≤ hm) ∧ (Rg li2 r 0 (hm - 1)) ∧ (Rg fa2 hm (-1) (hm - 1)))) (nh, hc fh [(120, .inl (0, 1260, .inl (zA lx_71))), (119, .inl (1, 1260, .inr (.inl (zAL mx_71)))), (118, .inl (0, 1260, .inl (zA fx_71)))]) 0 0 71 [some (.ref 98), some (.int (zI x)), some (.int (zI n_71)), some (.int (zI k_55)), some (.int (zI z7)), some (.int (zI i_71)), none] [] := by
                intro N71
                induction N71 with
                | zero => intro n_71 i_71 fx_71 mx_71 lx_71 i71_0 i71_1 i71_2 i71_3 i71_4 i71_5 i71_6 i71_7 hm; exact absurd hm (Nat.not_lt_zero _)
                | succ N71 ih71 =>
                  intro n_71 i_71 fx_71 mx_71 lx_71 i71_0 i71_1 i71_2 i71_3 i71_4 i71_5 i71_6 i71_7 hm71
                  refine J_iload dX12_measures_71 rfl ?_
                  refine J_aload_n dX12_measures_73 rfl rfl ?_
                  refine J_get (v := .ref 114) dX12_measures_74 fl_X12_67 hk98 rfl ?_
                  refine J_iload dX12_measures_77 rfl ?_
                  obtain ⟨z9, ez9⟩ : ∃ z : Int, sm z7 = z := ⟨_, rfl⟩
                  have h10 := StM.deg q4 (v_2b02420001 h8.1) (v_c036b47710 h8.2) ez9
                  refine Y_iald (z := z9) 1260 dX12_measures_79 hk114 rfl (by decide) (v_2b02420001 h8.1) (v_e2c4b61ba5 q3 h8.2) ez9 ?_
                  refine Z_icmp_ge (tgt := 211) dX12_measures_80 (by decide) (v_ee6ec25f58 i71_0 i71_1) (v_ee6ec25f58 h10.1 h10.2) (fun h11 => ?_) (fun h11 => ?_)
                  · refine Z_iinc (c := k_55 + 1) (ls2 := [some (.ref 98), some (.int (zI x)), some (.int (zI n_71)), some (.int (zI (k_55 + 1))), some (.int (zI z7)), some (.int (zI i_71)), none]) dX12_measures_211 rfl (Nat.le_of_ble_eq_true rfl) rfl rfl rfl ?_
                    refine J_goto (tgt := 55) dX12_measures_214 (by decide) ?_
                    refine J_drop (ls2 := [some (.ref 98), some (.int (zI x)), some (.int (zI n_71)), some (.int (zI (k_55 + 1))), none, none, none]) [true, true, true, true, false, false, false] rfl ?_
                    exact ih55 n_71 (k_55 + 1) fx_71 mx_71 lx_71 (v_da458fa48a i55_0) (v_04fff13461 i71_2) i71_3 i71_4 i71_5 i71_6 i71_7 (meas_lt v_c44c1d6d32 (v_7a9b6e7082 q3 i55_3 h6) hm55)
                  · refine J_aload_n dX12_measures_83 rfl rfl ?_
                    refine J_get (v := .ref 112) dX12_measures_84 fl_X12_61 hk98 rfl ?_
                    refine Z_bipush (n := 22) dX12_measures_87 (by decide +kernel) ?_
                    refine J_iload dX12_measures_89 rfl ?_
                    refine Z_imul (c := 22 * z7) dX12_measures_91 rfl ?_
                    refine J_iload dX12_measures_92 rfl ?_
                    refine Z_iadd (c := i_71 + 22 * z7) dX12_measures_94 v_ad6305c414 ?_
                    obtain ⟨z12, ez12⟩ : ∃ z : Int, st (i_71 + 22 * z7) = z := ⟨_, rfl⟩
                    have h13 := StM.to q4 (v_2b02420001 h8.1) (v_c036b47710 h8.2) ez9 (v_2b02420001 i71_0) (v_fe9ea41faa h11) v_67a3777f39 ez12
                    refine Y_iald (z := z12) 27720 dX12_measures_95 hk112 rfl (by decide) (v_20ea8ee269 h8.1 i71_0) (v_ce3ee115e5 q3 h8.2 h10.2 h11) ez12 ?_
                    refine J_istore dX12_measures_96 (Nat.le_of_ble_eq_true rfl) rfl ?_
                    refine J_ls (ls2 := [some (.ref 98), some (.int (zI x)), some (.int (zI n_71)), some (.int (zI k_55)), some (.int (zI z7)), some (.int (zI i_71)), some (.int (zI z12))]) rfl ?_
                    refine J_aload_n dX12_measures_98 rfl rfl ?_
                    refine J_get (v := .ref 118) dX12_measures_99 fl_X12_85 hk98 rfl ?_
                    refine J_iload dX12_measures_102 rfl ?_
                    obtain ⟨z14, ez14⟩ : ∃ z : Int, fx_71 z12 = z := ⟨_, rfl⟩
                    have h15 := Rg.at i71_7 (v_2b02420001 h13.1) (v_b9aca61388 h13.2) ez14
                    refine Y_iald (z := z14) 1260 dX12_measures_104 rfl rfl (by decide) (v_2b02420001 h13.1) (v_1c8b2a3f47 q3 h13.2) ez14 ?_
                    refine Z_iconst (n := -1) dX12_measures_105 ?_
                    refine Z_icmp_ne (tgt := 136) dX12_measures_106 (by decide) (v_4bcb40f055 q3 i71_4 h15.1 h15.2) v_d64efa60f9 (fun h16 => ?_) (fun h16 => ?_)
                    · refine J_aload_n dX12_measures_136 rfl rfl ?_
                      refine J_get (v := .ref 118) dX12_measures_137 fl_X12_85 hk98 rfl ?_
                      refine J_iload dX12_measures_140 rfl ?_
                      refine Y_iald (z := z14) 1260 dX12_measures_142 rfl rfl (by decide) (v_2b02420001 h13.1) (v_1c8b2a3f47 q3 h13.2) ez14 ?_
                      refine J_aload_n dX12_measures_143 rfl rfl ?_
                      refine J_get (v := .ref 118) dX12_measures_144 fl_X12_85 hk98 rfl ?_
                      refine J_iload dX12_measures_147 rfl ?_
                      obtain ⟨z17, ez17⟩ : ∃ z : Int, fx_71 z7 = z := ⟨_, rfl⟩
                      have h18 := Rg.at i71_7 (v_2b02420001 h8.1) (v_c036b47710 h8.2) ez17
                      refine Y_iald (z := z17) 1260 dX12_measures_149 rfl rfl (by decide) (v_2b02420001 h8.1) (v_e2c4b61ba5 q3 h8.2) ez17 ?_
                      refine Z_iconst (n := 1) dX12_measures_150 ?_
                      refine Z_iadd (c := z17 + 1) dX12_measures_151 rfl ?_
                      refine Z_icmp_ne (tgt := 205) dX12_measures_152 (by decide) (v_4bcb40f055 q3 i71_4 h15.1 h15.2) (v_944e629686 q3 i71_4 h18.1 h18.2) (fun h19 => ?_) (fun h19 => ?_)
                      · refine Z_iinc (c := i_71 + 1) (ls2 := [some (.ref 98), some (.int (zI x)), some (.int (zI n_71)), some (.int (zI k_55)), some (.int (zI z7)), some (.int (zI (i_71 + 1))), some (.int (zI z12))]) dX12_measures_205 rfl (Nat.le_of_ble_eq_true rfl) rfl rfl rfl ?_
                        refine J_goto (tgt := 71) dX12_measures_208 (by decide) ?_
                        refine J_drop (ls2 := [some (.ref 98), some (.int (zI x)), some (.int (zI n_71)), some (.int (zI k_55)), some (.int (zI z7)), some (.int (zI (i_71 + 1))), none]) [true, true, true, true, true, true, false] rfl ?_
                        exact ih71 n_71 (i_71 + 1) fx_71 mx_71 lx_71 (v_da458fa48a i71_0) (v_47a3e0fadb h10.2 h11) i71_2 i71_3 i71_4 i71_5 i71_6 i71_7 (meas_lt v_7998cc58ac (v_e4105e2830 h10.2 h11) hm71)
                      · refine J_aload_n dX12_measures_155 rfl rfl ?_
                        refine J_get (v := .ref 119) dX12_measures_156 fl_X12_88 hk98 rfl ?_
                        refine J_iload dX12_measures_159 rfl ?_
                        refine J_aload_n dX12_measures_161 rfl rfl ?_
                        refine J_get (v := .ref 119) dX12_measures_162 fl_X12_88 hk98 rfl ?_
                        refine J_iload dX12_measures_165 rfl ?_
                        obtain ⟨w20, w20r, w20e⟩ := zL_of (zL (mx_71 z12))
                        refine Y_lald (z := w20) 1260 dX12_measures_167 rfl rfl (by decide) (v_2b02420001 h13.1) (v_1c8b2a3f47 q3 h13.2) w20e ?_
                        refine J_aload_n dX12_measures_168 rfl rfl ?_
                        refine J_get (v := .ref 119) dX12_measures_169 fl_X12_88 hk98 rfl ?_
                        refine J_iload dX12_measures_172 rfl ?_
                        obtain ⟨w21, w21r, w21e⟩ := zL_of (zL (mx_71 z7))
                        refine Y_lald (z := w21) 1260 dX12_measures_174 rfl rfl (by decide) (v_2b02420001 h8.1) (v_e2c4b61ba5 q3 h8.2) w21e ?_
                        refine Y_ladd (c := w20 + w21) dX12_measures_175 rfl ?_
                        refine Y_lany (fun w22 w22r => ?_)
                        refine J_ldc2 (v := zL 1000000000) dX12_measures_176 (jt7 216 rfl rfl) ?_
                        refine Y_lcmp dX12_measures_179 (v_082ba2fd17 w22r) v_288b67a6a5 (fun z23 z23a z23b z23c z23d => ?_)
                        refine Z_if_le (tgt := 189) dX12_measures_180 (by decide) (v_51ccf7ebfa z23a z23b) (fun h24 => ?_) (fun h24 => ?_)
                        · have h25 : w22 ≤ 1000000000 := by omega
                          refine J_aload_n dX12_measures_189 rfl rfl ?_
                          refine J_get (v := .ref 119) dX12_measures_190 fl_X12_88 hk98 rfl ?_
                          refine J_iload dX12_measures_193 rfl ?_
                          obtain ⟨w26, w26r, w26e⟩ := zL_of (zL (mx_71 z12))
                          refine Y_lald (z := w26) 1260 dX12_measures_195 rfl rfl (by decide) (v_2b02420001 h13.1) (v_1c8b2a3f47 q3 h13.2) w26e ?_
                          refine J_aload_n dX12_measures_196 rfl rfl ?_
                          refine J_get (v := .ref 119) dX12_measures_197 fl_X12_88 hk98 rfl ?_
                          refine J_iload dX12_measures_200 rfl ?_
                          obtain ⟨w27, w27r, w27e⟩ := zL_of (zL (mx_71 z7))
                          refine Y_lald (z := w27) 1260 dX12_measures_202 rfl rfl (by decide) (v_2b02420001 h8.1) (v_e2c4b61ba5 q3 h8.2) w27e ?_
                          refine Y_ladd (c := w26 + w27) dX12_measures_203 rfl ?_
                          refine Y_lany (fun w28 w28r => ?_)
                          refine Y_last (v := w28) 1260 dX12_measures_204 rfl rfl (by decide) (v_2b02420001 h13.1) (v_1c8b2a3f47 q3 h13.2) (fun f29 ef29 => ?_)
                          refine Z_iinc (c := i_71 + 1) (ls2 := [some (.ref 98), some (.int (zI x)), some (.int (zI n_71)), some (.int (zI k_55)), some (.int (zI z7)), some (.int (zI (i_71 + 1))), some (.int (zI z12))]) dX12_measures_205 rfl (Nat.le_of_ble_eq_true rfl) rfl rfl rfl ?_
                          refine J_goto (tgt := 71) dX12_measures_208 (by decide) ?_
                          refine J_mask (L2 := [(119, .inl (1, 1260, .inr (.inl (zAL f29)))), (120, .inl (0, 1260, .inl (zA lx_71))), (118, .inl (0, 1260, .inl (zA fx_71)))]) (ks := [119, 120, 119, 118]) [true, true, false, true] rfl (by decide +kernel) rfl ?_
                          refine J_touch (k := 118) (e := .inl (0, 1260, .inl (zA fx_71))) rfl ?_
                          refine J_touch (k := 119) (e := .inl (1, 1260, .inr (.inl (zAL f29)))) rfl ?_
                          refine J_touch (k := 120) (e := .inl (0, 1260, .inl (zA lx_71))) rfl ?_
                          refine J_mask (L2 := [(120, .inl (0, 1260, .inl (zA lx_71))), (119, .inl (1, 1260, .inr (.inl (zAL f29)))), (118, .inl (0, 1260, .inl (zA fx_71)))]) (ks := [120, 119, 118, 119, 120, 118]) [true, true, true, false, false, false] rfl (by decide +kernel) rfl ?_
                          refine J_drop (ls2 := [some (.ref 98), some (.int (zI x)), some (.int (zI n_71)), some (.int (zI k_55)), some (.int (zI z7)), some (.int (zI (i_71 + 1))), none]) [true, true, true, true, true, true, false] rfl ?_
                          exact ih71 n_71 (i_71 + 1) fx_71 f29 lx_71 (v_da458fa48a i71_0) (v_47a3e0fadb h10.2 h11) i71_2 i71_3 i71_4 i71_5 i71_6 i71_7 (meas_lt v_7998cc58ac (v_e4105e2830 h10.2 h11) hm71)
                        · have h30 : 1000000000 < w22 := by omega
                          refine J_ldc2 (v := zL 1000000000) dX12_measures_183 (jt7 216 rfl rfl) ?_
                          refine J_goto (tgt := 204) dX12_measures_186 (by decide) ?_
                          refine Y_last (v := 1000000000) 1260 dX12_measures_204 rfl rfl (by decide) (v_2b02420001 h13.1) (v_1c8b2a3f47 q3 h13.2) (fun f31 ef31 => ?_)
                          refine Z_iinc (c := i_71 + 1) (ls2 := [some (.ref 98), some (.int (zI x)), some (.int (zI n_71)), some (.int (zI k_55)), some (.int (zI z7)), some (.int (zI (i_71 + 1))), some (.int (zI z12))]) dX12_measures_205 rfl (Nat.le_of_ble_eq_true rfl) rfl rfl rfl ?_
                          refine J_goto (tgt := 71) dX12_measures_208 (by decide) ?_
                          refine J_mask (L2 := [(119, .inl (1, 1260, .inr (.inl (zAL f31)))), (120, .inl (0, 1260, .inl (zA lx_71))), (118, .inl (0, 1260, .inl (zA fx_71)))]) (ks := [119, 120, 119, 118]) [true, true, false, true] rfl (by decide +kernel) rfl ?_
                          refine J_touch (k := 118) (e := .inl (0, 1260, .inl (zA fx_71))) rfl ?_
                          refine J_touch (k := 119) (e := .inl (1, 1260, .inr (.inl (zAL f31)))) rfl ?_
                          refine J_touch (k := 120) (e := .inl (0, 1260, .inl (zA lx_71))) rfl ?_
                          refine J_mask (L2 := [(120, .inl (0, 1260, .inl (zA lx_71))), (119, .inl (1, 1260, .inr (.inl (zAL f31)))), (118, .inl (0, 1260, .inl (zA fx_71)))]) (ks := [120, 119, 118, 119, 120, 118]) [true, true, true, false, false, false] rfl (by decide +kernel) rfl ?_
                          refine J_drop (ls2 := [some (.ref 98), some (.int (zI x)), some (.int (zI n_71)), some (.int (zI k_55)), some (.int (zI z7)), some (.int (zI (i_71 + 1))), none]) [true, true, true, true, true, true, false] rfl ?_
                          exact ih71 n_71 (i_71 + 1) fx_71 f31 lx_71 (v_da458fa48a i71_0) (v_47a3e0fadb h10.2 h11) i71_2 i71_3 i71_4 i71_5 i71_6 i71_7 (meas_lt v_7998cc58ac (v_e4105e2830 h10.2 h11) hm71)
                    · have g32 := cNe_lt (v := -1) (n := hm) (v_2b02420001 h13.1) (v_b9aca61388 h13.2) ez14 (v_1022695464 h15.1 h16)
                      refine J_aload_n dX12_measures_109 rfl rfl ?_
                      refine J_get (v := .ref 118) dX12_measures_110 fl_X12_85 hk98 rfl ?_
                      refine J_iload dX12_measures_113 rfl ?_
                      refine J_aload_n dX12_measures_115 rfl rfl ?_
                      refine J_get (v := .ref 118) dX12_measures_116 fl_X12_85 hk98 rfl ?_
                      refine J_iload dX12_measures_119 rfl ?_
                      obtain ⟨z33, ez33⟩ : ∃ z : Int, fx_71 z7 = z := ⟨_, rfl⟩
                      have h34 := Rg.at i71_7 (v_2b02420001 h8.1) (v_c036b47710 h8.2) ez33
                      refine Y_iald (z := z33) 1260 dX12_measures_121 rfl rfl (by decide) (v_2b02420001 h8.1) (v_e2c4b61ba5 q3 h8.2) ez33 ?_
                      refine Z_iconst (n := 1) dX12_measures_122 ?_
                      refine Z_iadd (c := z33 + 1) dX12_measures_123 rfl ?_
                      refine Y_iast (v := z33 + 1) 1260 dX12_measures_124 rfl rfl (by decide) (v_2b02420001 h13.1) (v_1c8b2a3f47 q3 h13.2) (fun f35 ef35 => ?_)
                      refine J_aload_n dX12_measures_125 rfl rfl ?_
                      refine J_get (v := .ref 120) dX12_measures_126 fl_X12_92 hk98 rfl ?_
                      refine J_iload_n dX12_measures_129 rfl rfl ?_
                      refine J_iload dX12_measures_130 rfl ?_
                      refine Y_iast (v := z12) 1260 dX12_measures_132 rfl rfl (by decide) (v_632d2dbe78 i71_3) (v_962b05759d q3 i71_5 g32) (fun f37 ef37 => ?_)
                      have h38 : Rg f37 (n_71 + 1) 0 (hm - 1) := Rg.push i71_6 ef37 v_a0572702c4 v_e828b09c4d (v_2b02420001 h13.1) (v_d1bccf29d4 h13.2)
                      refine Z_iinc (c := n_71 + 1) (ls2 := [some (.ref 98), some (.int (zI x)), some (.int (zI (n_71 + 1))), some (.int (zI k_55)), some (.int (zI z7)), some (.int (zI i_71)), some (.int (zI z12))]) dX12_measures_133 rfl (Nat.le_of_ble_eq_true rfl) rfl rfl rfl ?_
                      have g39 := cNe_new (v := -1) (n := hm) ef35 (v_5a9c47e64b h34.1) (v_2b02420001 h13.1) (v_b9aca61388 h13.2) ez14 (v_1022695464 h15.1 h16)
                      have g40 : Rg f35 hm (-1) n_71 := Rg.ups (Rg.mono i71_7 (Int.le_refl _) (Int.le_refl _) (by omega)) ef35 (v_45cd7c80e0 h34.1) (v_0ac4dcfa5b h34.2)
                      refine J_aload_n dX12_measures_136 rfl rfl ?_
                      refine J_get (v := .ref 118) dX12_measures_137 fl_X12_85 hk98 rfl ?_
                      refine J_iload dX12_measures_140 rfl ?_
                      obtain ⟨z41, ez41⟩ : ∃ z : Int, f35 z12 = z := ⟨_, rfl⟩
                      have h42 := Rg.at g40 (v_2b02420001 h13.1) (v_b9aca61388 h13.2) ez41
                      have h43 : z41 = z33 + 1 := rd_same ef35 v_a0572702c4 ez41
                      refine Y_iald (z := z41) 1260 dX12_measures_142 rfl rfl (by decide) (v_2b02420001 h13.1) (v_1c8b2a3f47 q3 h13.2) ez41 ?_
                      refine J_aload_n dX12_measures_143 rfl rfl ?_
                      refine J_get (v := .ref 118) dX12_measures_144 fl_X12_85 hk98 rfl ?_
                      refine J_iload dX12_measures_147 rfl ?_
                      obtain ⟨z44, ez44⟩ : ∃ z : Int, f35 z7 = z := ⟨_, rfl⟩
                      have h45 := Rg.at g40 (v_2b02420001 h8.1) (v_c036b47710 h8.2) ez44
                      refine Y_iald (z := z44) 1260 dX12_measures_149 rfl rfl (by decide) (v_2b02420001 h8.1) (v_e2c4b61ba5 q3 h8.2) ez44 ?_
                      refine Z_iconst (n := 1) dX12_measures_150 ?_
                      refine Z_iadd (c := z44 + 1) dX12_measures_151 rfl ?_
                      refine Z_icmp_ne (tgt := 205) dX12_measures_152 (by decide) (v_16b0976d47 q3 i71_5 g32 h42.1 h42.2) (v_10c1655d5d q3 i71_5 g32 h45.1 h45.2) (fun h46 => ?_) (fun h46 => ?_)
                      · refine Z_iinc (c := i_71 + 1) (ls2 := [some (.ref 98), some (.int (zI x)), some (.int (zI (n_71 + 1))), some (.int (zI k_55)), some (.int (zI z7)), some (.int (zI (i_71 + 1))), some (.int (zI z12))]) dX12_measures_205 rfl (Nat.le_of_ble_eq_true rfl) rfl rfl rfl ?_
                        refine J_goto (tgt := 71) dX12_measures_208 (by decide) ?_
                        refine J_mask (L2 := [(120, .inl (0, 1260, .inl (zA f37))), (118, .inl (0, 1260, .inl (zA f35))), (119, .inl (1, 1260, .inr (.inl (zAL mx_71))))]) (ks := [120, 118, 120, 119, 118]) [true, true, false, true, false] rfl (by decide +kernel) rfl ?_
                        refine J_touch (k := 118) (e := .inl (0, 1260, .inl (zA f35))) rfl ?_
                        refine J_touch (k := 119) (e := .inl (1, 1260, .inr (.inl (zAL mx_71)))) rfl ?_
                        refine J_touch (k := 120) (e := .inl (0, 1260, .inl (zA f37))) rfl ?_
                        refine J_mask (L2 := [(120, .inl (0, 1260, .inl (zA f37))), (119, .inl (1, 1260, .inr (.inl (zAL mx_71)))), (118, .inl (0, 1260, .inl (zA f35)))]) (ks := [120, 119, 118, 120, 118, 119]) [true, true, true, false, false, false] rfl (by decide +kernel) rfl ?_
                        refine J_drop (ls2 := [some (.ref 98), some (.int (zI x)), some (.int (zI (n_71 + 1))), some (.int (zI k_55)), some (.int (zI z7)), some (.int (zI (i_71 + 1))), none]) [true, true, true, true, true, true, false] rfl ?_
                        exact ih71 (n_71 + 1) (i_71 + 1) f35 mx_71 f37 (v_da458fa48a i71_0) (v_47a3e0fadb h10.2 h11) (v_d6f53c5707 i71_2) (v_f86fa765f0 i71_3) (v_77951b0a5b i71_5 g32) (v_85fba9899a i71_5 g39) h38 (Rg.mono g40 v_0065452639 v_848c23d82e v_ad52f35ff5) (meas_lt v_7998cc58ac (v_e4105e2830 h10.2 h11) hm71)
                      · refine J_aload_n dX12_measures_155 rfl rfl ?_
                        refine J_get (v := .ref 119) dX12_measures_156 fl_X12_88 hk98 rfl ?_
                        refine J_iload dX12_measures_159 rfl ?_
                        refine J_aload_n dX12_measures_161 rfl rfl ?_
                        refine J_get (v := .ref 119) dX12_measures_162 fl_X12_88 hk98 rfl ?_
                        refine J_iload dX12_measures_165 rfl ?_
                        obtain ⟨w47, w47r, w47e⟩ := zL_of (zL (mx_71 z12))
                        refine Y_lald (z := w47) 1260 dX12_measures_167 rfl rfl (by decide) (v_2b02420001 h13.1) (v_1c8b2a3f47 q3 h13.2) w47e ?_
                        refine J_aload_n dX12_measures_168 rfl rfl ?_
                        refine J_get (v := .ref 119) dX12_measures_169 fl_X12_88 hk98 rfl ?_
                        refine J_iload dX12_measures_172 rfl ?_
                        obtain ⟨w48, w48r, w48e⟩ := zL_of (zL (mx_71 z7))
                        refine Y_lald (z := w48) 1260 dX12_measures_174 rfl rfl (by decide) (v_2b02420001 h8.1) (v_e2c4b61ba5 q3 h8.2) w48e ?_
                        refine Y_ladd (c := w47 + w48) dX12_measures_175 rfl ?_
                        refine Y_lany (fun w49 w49r => ?_)
                        refine J_ldc2 (v := zL 1000000000) dX12_measures_176 (jt7 216 rfl rfl) ?_
                        refine Y_lcmp dX12_measures_179 (v_082ba2fd17 w49r) v_288b67a6a5 (fun z50 z50a z50b z50c z50d => ?_)
                        refine Z_if_le (tgt := 189) dX12_measures_180 (by decide) (v_51ccf7ebfa z50a z50b) (fun h51 => ?_) (fun h51 => ?_)
                        · have h52 : w49 ≤ 1000000000 := by omega
                          refine J_aload_n dX12_measures_189 rfl rfl ?_
                          refine J_get (v := .ref 119) dX12_measures_190 fl_X12_88 hk98 rfl ?_
                          refine J_iload dX12_measures_193 rfl ?_
                          obtain ⟨w53, w53r, w53e⟩ := zL_of (zL (mx_71 z12))
                          refine Y_lald (z := w53) 1260 dX12_measures_195 rfl rfl (by decide) (v_2b02420001 h13.1) (v_1c8b2a3f47 q3 h13.2) w53e ?_
                          refine J_aload_n dX12_measures_196 rfl rfl ?_
                          refine J_get (v := .ref 119) dX12_measures_197 fl_X12_88 hk98 rfl ?_
                          refine J_iload dX12_measures_200 rfl ?_
                          obtain ⟨w54, w54r, w54e⟩ := zL_of (zL (mx_71 z7))
                          refine Y_lald (z := w54) 1260 dX12_measures_202 rfl rfl (by decide) (v_2b02420001 h8.1) (v_e2c4b61ba5 q3 h8.2) w54e ?_
                          refine Y_ladd (c := w53 + w54) dX12_measures_203 rfl ?_
                          refine Y_lany (fun w55 w55r => ?_)
                          refine Y_last (v := w55) 1260 dX12_measures_204 rfl rfl (by decide) (v_2b02420001 h13.1) (v_1c8b2a3f47 q3 h13.2) (fun f56 ef56 => ?_)
                          refine Z_iinc (c := i_71 + 1) (ls2 := [some (.ref 98), some (.int (zI x)), some (.int (zI (n_71 + 1))), some (.int (zI k_55)), some (.int (zI z7)), some (.int (zI (i_71 + 1))), some (.int (zI z12))]) dX12_measures_205 rfl (Nat.le_of_ble_eq_true rfl) rfl rfl rfl ?_
                          refine J_goto (tgt := 71) dX12_measures_208 (by decide) ?_
                          refine J_mask (L2 := [(119, .inl (1, 1260, .inr (.inl (zAL f56)))), (120, .inl (0, 1260, .inl (zA f37))), (118, .inl (0, 1260, .inl (zA f35)))]) (ks := [119, 120, 118, 120, 119, 118]) [true, true, true, false, false, false] rfl (by decide +kernel) rfl ?_
                          refine J_touch (k := 118) (e := .inl (0, 1260, .inl (zA f35))) rfl ?_
                          refine J_touch (k := 119) (e := .inl (1, 1260, .inr (.inl (zAL f56)))) rfl ?_
                          refine J_touch (k := 120) (e := .inl (0, 1260, .inl (zA f37))) rfl ?_
                          refine J_mask (L2 := [(120, .inl (0, 1260, .inl (zA f37))), (119, .inl (1, 1260, .inr (.inl (zAL f56)))), (118, .inl (0, 1260, .inl (zA f35)))]) (ks := [120, 119, 118, 119, 120, 118]) [true, true, true, false, false, false] rfl (by decide +kernel) rfl ?_
                          refine J_drop (ls2 := [some (.ref 98), some (.int (zI x)), some (.int (zI (n_71 + 1))), some (.int (zI k_55)), some (.int (zI z7)), some (.int (zI (i_71 + 1))), none]) [true, true, true, true, true, true, false] rfl ?_
                          exact ih71 (n_71 + 1) (i_71 + 1) f35 f56 f37 (v_da458fa48a i71_0) (v_47a3e0fadb h10.2 h11) (v_d6f53c5707 i71_2) (v_f86fa765f0 i71_3) (v_77951b0a5b i71_5 g32) (v_85fba9899a i71_5 g39) h38 (Rg.mono g40 v_0065452639 v_848c23d82e v_ad52f35ff5) (meas_lt v_7998cc58ac (v_e4105e2830 h10.2 h11) hm71)
                        · have h57 : 1000000000 < w49 := by omega
                          refine J_ldc2 (v := zL 1000000000) dX12_measures_183 (jt7 216 rfl rfl) ?_
                          refine J_goto (tgt := 204) dX12_measures_186 (by decide) ?_
                          refine Y_last (v := 1000000000) 1260 dX12_measures_204 rfl rfl (by decide) (v_2b02420001 h13.1) (v_1c8b2a3f47 q3 h13.2) (fun f58 ef58 => ?_)
                          refine Z_iinc (c := i_71 + 1) (ls2 := [some (.ref 98), some (.int (zI x)), some (.int (zI (n_71 + 1))), some (.int (zI k_55)), some (.int (zI z7)), some (.int (zI (i_71 + 1))), some (.int (zI z12))]) dX12_measures_205 rfl (Nat.le_of_ble_eq_true rfl) rfl rfl rfl ?_
                          refine J_goto (tgt := 71) dX12_measures_208 (by decide) ?_
                          refine J_mask (L2 := [(119, .inl (1, 1260, .inr (.inl (zAL f58)))), (120, .inl (0, 1260, .inl (zA f37))), (118, .inl (0, 1260, .inl (zA f35)))]) (ks := [119, 120, 118, 120, 119, 118]) [true, true, true, false, false, false] rfl (by decide +kernel) rfl ?_
                          refine J_touch (k := 118) (e := .inl (0, 1260, .inl (zA f35))) rfl ?_
                          refine J_touch (k := 119) (e := .inl (1, 1260, .inr (.inl (zAL f58)))) rfl ?_
                          refine J_touch (k := 120) (e := .inl (0, 1260, .inl (zA f37))) rfl ?_
                          refine J_mask (L2 := [(120, .inl (0, 1260, .inl (zA f37))), (119, .inl (1, 1260, .inr (.inl (zAL f58)))), (118, .inl (0, 1260, .inl (zA f35)))]) (ks := [120, 119, 118, 119, 120, 118]) [true, true, true, false, false, false] rfl (by decide +kernel) rfl ?_
                          refine J_drop (ls2 := [some (.ref 98), some (.int (zI x)), some (.int (zI (n_71 + 1))), some (.int (zI k_55)), some (.int (zI z7)), some (.int (zI (i_71 + 1))), none]) [true, true, true, true, true, true, false] rfl ?_
                          exact ih71 (n_71 + 1) (i_71 + 1) f35 f58 f37 (v_da458fa48a i71_0) (v_47a3e0fadb h10.2 h11) (v_d6f53c5707 i71_2) (v_f86fa765f0 i71_3) (v_77951b0a5b i71_5 g32) (v_85fba9899a i71_5 g39) h38 (Rg.mono g40 v_0065452639 v_848c23d82e v_ad52f35ff5) (meas_lt v_7998cc58ac (v_e4105e2830 h10.2 h11) hm71)
              exact lp71 _ n_55 0 fx_55 mx_55 lx_55 v_939070ca3f v_88d800e4db (v_fe9ea41faa h6) i55_2 i55_3 i55_4 i55_5 i55_6 (Nat.lt_succ_self _)
        exact lp55 _ 1 0 f3 f4 f5 v_939070ca3f v_316afd7d0b v_bbcfac9b7d q2 (cNe_first g2 (Int.le_refl _) ef3 (by decide) q0 q1) (Rg.push (Rg.nil v_939070ca3f) ef5 rfl v_168d5105f8 (v_2b02420001 q0) (v_d1bccf29d4 q1)) (Rg.ups (fill_Rg g2 (Int.le_refl _) (by decide) (by decide)) ef3 (by decide) (by decide)) (Nat.lt_succ_self _)
      · refine J_aload_n dX12_measures_10 rfl rfl ?_
        refine J_get (v := .ref 118) dX12_measures_11 fl_X12_85 hk98 rfl ?_
        refine J_iload_n dX12_measures_14 rfl rfl ?_
        refine Z_iconst (n := -1) dX12_measures_15 ?_
        refine Y_iast (v := -1) 1260 dX12_measures_16 rfl rfl (by decide) (v_2b02420001 i2_0) (v_610e7c4416 q3 h1) (fun f59 ef59 => ?_)
        refine J_aload_n dX12_measures_17 rfl rfl ?_
        refine J_get (v := .ref 119) dX12_measures_18 fl_X12_88 hk98 rfl ?_
        refine J_iload_n dX12_measures_21 rfl rfl ?_
        refine J_lconst (v := zL 0) dX12_measures_22 (by decide +kernel) ?_
        refine Y_last (v := 0) 1260 dX12_measures_23 rfl rfl (by decide) (v_2b02420001 i2_0) (v_610e7c4416 q3 h1) (fun f60 ef60 => ?_)
        refine Z_iinc (c := h_2 + 1) (ls2 := [some (.ref 98), some (.int (zI x)), some (.int (zI (h_2 + 1))), none, none, none, none]) dX12_measures_24 rfl (Nat.le_of_ble_eq_true rfl) rfl rfl rfl ?_
        refine J_goto (tgt := 2) dX12_measures_27 (by decide) ?_
        refine J_mask (L2 := [(119, .inl (1, 1260, .inr (.inl (zAL f60)))), (118, .inl (0, 1260, .inl (zA f59)))]) (ks := [119, 118, 119, 118]) [true, true, false, false] rfl (by decide +kernel) rfl ?_
        exact ih2 (h_2 + 1) f59 f60 (v_da458fa48a i2_0) (v_e390a36114 h1) (fill_step i2_2 ef59 i2_0 rfl) (meas_lt v_90eacd6fd4 (v_8b7dd7d486 h1) hm2)
  exact lp2 _ 0 fa fm v_939070ca3f (v_632d2dbe78 q2) (fill_0) (Nat.lt_succ_self _)
set_option maxHeartbeats 4000000 in
set_option maxRecDepth 100000 in
theorem k_leastOf {l : Launch} {G : jG} {nh : Nat} {fh : Nat → Option va_E} (x : Int) (y : Int) (st : Int → Int) (tk : Int → Int) (sm : Int → Int) (le : Int → Int) (dn : Int → Int) (ms : Int) (mv : Int) (mt : Int) (mfa : Int) (mtn : Int) (mtk : Int) (mlv : Int) (mbd : Int) (mgo : Int) (mge : Int) (mbk : Int) (mtt : Int) (mtl : Int) (hm : Int) (pm : Int) (hb : Int) (sb : Int) (mfu : Int) (mdm : Int) (mla : Int) (q0 : 0 ≤ x) (q1 : x < hm) (q2 : 0 ≤ y) (q3 : y < hm) (q4 : 1 ≤ hm) (q5 : hm ≤ 1260) (q6 : StM st tk sm hm) (q7 : Rg dn 1260 0 1) (hk98 : fh 98 = some (.inr (12, (.int (zI ms) :: .int (zI mv) :: .ref 99 :: .ref 100 :: .ref 101 :: .ref 102 :: .ref 103 :: .ref 104 :: .ref 105 :: .int (zI mt) :: .int (zI mfa) :: .ref 106 :: .ref 107 :: .ref 108 :: .int (zI mtn) :: .int (zI mtk) :: .int (zI mlv) :: .int (zI mbd) :: .int (zI mgo) :: .int (zI mge) :: .int (zI mbk) :: .ref 109 :: .int (zI mtt) :: .int (zI mtl) :: .ref 110 :: .ref 111 :: .ref 112 :: .ref 113 :: .ref 114 :: .ref 115 :: .ref 116 :: .ref 117 :: .int (zI hm) :: .int (zI pm) :: .int (zI hb) :: .int (zI sb) :: .ref 118 :: .ref 119 :: .ref 120 :: .ref 121 :: .ref 122 :: .ref 123 :: .ref 124 :: .ref 125 :: .ref 126 :: .ref 127 :: .ref 128 :: .ref 129 :: .int (zI mfu) :: .ref 130 :: .ref 131 :: .ref 132 :: .ref 133 :: .ref 134 :: .int (zI mdm) :: .int (zI mla) :: [])))) (hk112 : fh 112 = some (.inl (0, 27720, .inl (zA st)))) (hk113 : fh 113 = some (.inl (0, 27720, .inl (zA tk)))) (hk114 : fh 114 = some (.inl (0, 1260, .inl (zA sm)))) (hk121 : fh 121 = some (.inl (0, 1260, .inl (zA le)))) (hk122 : fh 122 = some (.inl (2, 1260, .inl (zA dn)))) : JM l G yX12_leastOf MX12_leastOf { frames := 0, cells := 0, slots := 0, locals := 0 } [.ref 98, .int (zI x), .int (zI y)] (nh, fh) (fun rr h9 => ∃ le2 : Int → Int, ∃ dn2 : Int → Int, ∃ r : Int, rr = some (.int (zI r)) ∧ h9 = (nh, hc fh [(121, .inl (0, 1260, .inl (zA le2))), (122, .inl (2, 1260, .inl (zA dn2)))]) ∧ (Rg dn2 1260 0 1)) := by
  refine JM.of (by decide) rfl (fun h => by cases h) (Nat.le_of_ble_eq_true rfl) ⟨4, rfl⟩ ?_
  refine J_hc0 (J_ls (ls2 := [some (.ref 98), some (.int (zI x)), some (.int (zI y)), none, none, none, none]) rfl ?_)
  refine Z_iconst (n := 0) dX12_leastOf_0 ?_
  refine J_istore_n dX12_leastOf_1 rfl (Nat.le_of_ble_eq_true rfl) rfl ?_
  refine J_ls (ls2 := [some (.ref 98), some (.int (zI x)), some (.int (zI y)), some (.int (zI 0)), none, none, none]) rfl ?_
  refine J_touch (k := 121) (e := .inl (0, 1260, .inl (zA le))) hk121 ?_
  refine J_touch (k := 122) (e := .inl (2, 1260, .inl (zA dn))) hk122 ?_
  have lp2 : ∀ (N2 : Nat) (h_2 : Int) (lx_2 : Int → Int) (dx_2 : Int → Int), (0 ≤ h_2) → (h_2 ≤ hm) → (Rg lx_2 h_2 0 1000000) → (Rg dx_2 1260 0 1) → (hm - h_2).toNat < N2 → J l G MX12_leastOf { frames := 0, cells := 0, slots := 0, locals := 0 } jE (jMQ G { frames := 0, cells := 0, slots := 0, locals := 0 } (fun rr h9 => ∃ le2 : Int → Int, ∃ dn2 : Int → Int, ∃ r : Int, rr = some (.int (zI r)) ∧ h9 = (nh, hc fh [(121, .inl (0, 1260, .inl (zA le2))), (122, .inl (2, 1260, .inl (zA dn2)))]) ∧ (Rg dn2 1260 0 1))) (nh, hc fh [(122, .inl (2, 1260, .inl (zA dx_2))), (121, .inl (0, 1260, .inl (zA lx_2)))]) 0 0 2 [some (.ref 98), some (.int (zI x)), some (.int (zI y)), some (.int (zI h_2)), none, none, none] [] := by
    intro N2
    induction N2 with
    | zero => intro h_2 lx_2 dx_2 i2_0 i2_1 i2_2 i2_3 hm; exact absurd hm (Nat.not_lt_zero _)
    | succ N2 ih2 =>
      intro h_2 lx_2 dx_2 i2_0 i2_1 i2_2 i2_3 hm2
      refine J_iload_n dX12_leastOf_2 rfl rfl ?_
      refine J_aload_n dX12_leastOf_3 rfl rfl ?_
      refine J_get (v := .int (zI hm)) dX12_leastOf_4 fl_X12_298 hk98 rfl ?_
      refine Z_icmp_ge (tgt := 40) dX12_leastOf_7 (by decide) (v_c9ca704c4d q5 i2_0 i2_1) (v_81c6732ede q4 q5) (fun h1 => ?_) (fun h1 => ?_)
      · refine J_drop (ls2 := [some (.ref 98), some (.int (zI x)), some (.int (zI y)), none, none, none, none]) [true, true, true, false, false, false, false] rfl ?_
        have lp40 : ∀ (N40 : Nat) (lx_40 : Int → Int) (dx_40 : Int → Int), (Rg lx_40 hm 0 1000000) → (Rg dx_40 1260 0 1) → (0 ≤ cNe dx_40 0 hm) → (cNe dx_40 0 hm ≤ hm) → (hm - cNe dx_40 0 hm + 1).toNat < N40 → J l G MX12_leastOf { frames := 0, cells := 0, slots := 0, locals := 0 } jE (jMQ G { frames := 0, cells := 0, slots := 0, locals := 0 } (fun rr h9 => ∃ le2 : Int → Int, ∃ dn2 : Int → Int, ∃ r : Int, rr = some (.int (zI r)) ∧ h9 = (nh, hc fh [(121, .inl (0, 1260, .inl (zA le2))), (122, .inl (2, 1260, .inl (zA dn2)))]) ∧ (Rg dn2 1260 0 1))) (nh, hc fh [(122, .inl (2, 1260, .inl (zA dx_40))), (121, .inl (0, 1260, .inl (zA lx_40)))]) 0 0 40 [some (.ref 98), some (.int (zI x)), some (.int (zI y)), none, none, none, none] [] := by
          intro N40
          induction N40 with
          | zero => intro lx_40 dx_40 i40_0 i40_1 i40_2 i40_3 hm; exact absurd hm (Nat.not_lt_zero _)
          | succ N40 ih40 =>
            intro lx_40 dx_40 i40_0 i40_1 i40_2 i40_3 hm40
            refine Z_iconst (n := -1) dX12_leastOf_40 ?_
            refine J_istore_n dX12_leastOf_41 rfl (Nat.le_of_ble_eq_true rfl) rfl ?_
            refine J_ls (ls2 := [some (.ref 98), some (.int (zI x)), some (.int (zI y)), some (.int (zI (-1))), none, none, none]) rfl ?_
            refine Z_iconst (n := 0) dX12_leastOf_42 ?_
            refine J_istore dX12_leastOf_43 (Nat.le_of_ble_eq_true rfl) rfl ?_
            refine J_ls (ls2 := [some (.ref 98), some (.int (zI x)), some (.int (zI y)), some (.int (zI (-1))), some (.int (zI 0)), none, none]) rfl ?_
            have lp45 : ∀ (N45 : Nat) (b_45 : Int) (h_45 : Int), (0 ≤ h_45) → (h_45 ≤ hm) → (-1 ≤ b_45) → (b_45 < hm) → (Bst dx_40 b_45) → (hm - h_45).toNat < N45 → J l G MX12_leastOf { frames := 0, cells := 0, slots := 0, locals := 0 } jE (jMQ G { frames := 0, cells := 0, slots := 0, locals := 0 } (fun rr h9 => ∃ le2 : Int → Int, ∃ dn2 : Int → Int, ∃ r : Int, rr = some (.int (zI r)) ∧ h9 = (nh, hc fh [(121, .inl (0, 1260, .inl (zA le2))), (122, .inl (2, 1260, .inl (zA dn2)))]) ∧ (Rg dn2 1260 0 1))) (nh, hc fh [(122, .inl (2, 1260, .inl (zA dx_40))), (121, .inl (0, 1260, .inl (zA lx_40)))]) 0 0 45 [some (.ref 98), some (.int (zI x)), some (.int (zI y)), some (.int (zI b_45)), some (.int (zI h_45)), none, none] [] := by
              intro N45
              induction N45 with
              | zero => intro b_45 h_45 i45_0 i45_1 i45_2 i45_3 i45_4 hm; exact absurd hm (Nat.not_lt_zero _)
              | succ N45 ih45 =>
                intro b_45 h_45 i45_0 i45_1 i45_2 i45_3 i45_4 hm45
                refine J_iload dX12_leastOf_45 rfl ?_
                refine J_aload_n dX12_leastOf_47 rfl rfl ?_
                refine J_get (v := .int (zI hm)) dX12_leastOf_48 fl_X12_298 hk98 rfl ?_
                refine Z_icmp_ge (tgt := 106) dX12_leastOf_51 (by decide) (v_c9ca704c4d q5 i45_0 i45_1) (v_81c6732ede q4 q5) (fun h2 => ?_) (fun h2 => ?_)
                · refine J_iload_n dX12_leastOf_106 rfl rfl ?_
                  refine Z_iconst (n := -1) dX12_leastOf_107 ?_
                  refine Z_icmp_eq (tgt := 116) dX12_leastOf_108 (by decide) (v_e305852bbd q5 i45_2 i45_3) v_d64efa60f9 (fun h3 => ?_) (fun h3 => ?_)
                  · refine J_iload_n dX12_leastOf_116 rfl rfl ?_
                    refine Z_iconst (n := -1) dX12_leastOf_117 ?_
                    refine Z_icmp_ne (tgt := 125) dX12_leastOf_118 (by decide) (v_c9cae7dc9a i45_2 h3) v_d64efa60f9 (fun h4 => absurd h4 (fun q => q (v_1022695464 i45_2 h3))) (fun h4 => ?_)
                    refine Z_iconst (n := -1) dX12_leastOf_121 ?_
                    refine J_goto (tgt := 131) dX12_leastOf_122 (by decide) ?_
                    refine J_touch (k := 122) (e := .inl (2, 1260, .inl (zA dx_40))) rfl ?_
                    refine J_touch (k := 121) (e := .inl (0, 1260, .inl (zA lx_40))) rfl ?_
                    refine J_mask (L2 := [(121, .inl (0, 1260, .inl (zA lx_40))), (122, .inl (2, 1260, .inl (zA dx_40)))]) (ks := [121, 122, 122, 121]) [true, true, false, false] rfl (by decide +kernel) rfl ?_
                    exact J_iret dX12_leastOf_131 rfl rfl (Nat.le_of_ble_eq_true rfl) (Nat.le_of_ble_eq_true rfl) ⟨lx_40, dx_40, (-1), rfl, rfl, i40_1⟩
                  · refine J_iload_n dX12_leastOf_111 rfl rfl ?_
                    refine J_iload_n dX12_leastOf_112 rfl rfl ?_
                    refine Z_icmp_ne (tgt := 132) dX12_leastOf_113 (by decide) (v_e305852bbd q5 i45_2 i45_3) (v_23d004c61f q2 q3 q5) (fun h5 => ?_) (fun h5 => ?_)
                    · refine J_aload_n dX12_leastOf_132 rfl rfl ?_
                      refine J_get (v := .ref 122) dX12_leastOf_133 fl_X12_98 hk98 rfl ?_
                      refine J_iload_n dX12_leastOf_136 rfl rfl ?_
                      refine Z_iconst (n := 1) dX12_leastOf_137 ?_
                      refine Y_zast (v := 1) 1260 dX12_leastOf_138 rfl rfl (by decide) (v_a708073960 i45_2 h3) (v_1c8b2a3f47 q5 i45_3) v_316afd7d0b v_bbcfac9b7d (fun f6 ef6 => ?_)
                      have h7 : Rg f6 1260 0 1 := Rg.ups i40_1 ef6 v_316afd7d0b v_bbcfac9b7d
                      obtain ⟨z8, ez8⟩ : ∃ z : Int, dx_40 b_45 = z := ⟨_, rfl⟩
                      have h9 := Rg.at i40_1 (v_a708073960 i45_2 h3) (v_1c8b2a3f47 q5 i45_3) ez8
                      have g11 : z8 = 0 := Bst.at i45_4 (v_5ff7dbea65 i45_2 h3) ez8
                      have g10 := cNe_new (v := 0) (n := hm) ef6 v_3a47bfd896 (v_a708073960 i45_2 h3) (v_b9aca61388 i45_3) ez8 (v_bd6c74a791 h9.1 g11)
                      have g12 := cNe_lt (v := 0) (n := hm) (v_a708073960 i45_2 h3) (v_b9aca61388 i45_3) ez8 (v_bd6c74a791 h9.1 g11)
                      refine Z_iconst (n := 0) dX12_leastOf_139 ?_
                      refine J_istore dX12_leastOf_140 (Nat.le_of_ble_eq_true rfl) rfl ?_
                      refine J_ls (ls2 := [some (.ref 98), some (.int (zI x)), some (.int (zI y)), some (.int (zI b_45)), some (.int (zI 0)), none, none]) rfl ?_
                      refine J_mask (L2 := [(122, .inl (2, 1260, .inl (zA f6))), (121, .inl (0, 1260, .inl (zA lx_40)))]) (ks := [122, 122, 121]) [true, false, true] rfl (by decide +kernel) rfl ?_
                      have lp142 : ∀ (N142 : Nat) (i_142 : Int) (lx_142 : Int → Int), (0 ≤ i_142) → (i_142 ≤ 22) → (Rg lx_142 hm 0 1000000) → (22 - i_142).toNat < N142 → J l G MX12_leastOf { frames := 0, cells := 0, slots := 0, locals := 0 } jE (jMQ G { frames := 0, cells := 0, slots := 0, locals := 0 } (fun rr h9 => ∃ le2 : Int → Int, ∃ dn2 : Int → Int, ∃ r : Int, rr = some (.int (zI r)) ∧ h9 = (nh, hc fh [(121, .inl (0, 1260, .inl (zA le2))), (122, .inl (2, 1260, .inl (zA dn2)))]) ∧ (Rg dn2 1260 0 1))) (nh, hc fh [(122, .inl (2, 1260, .inl (zA f6))), (121, .inl (0, 1260, .inl (zA lx_142)))]) 0 0 142 [some (.ref 98), some (.int (zI x)), some (.int (zI y)), some (.int (zI b_45)), some (.int (zI i_142)), none, none] [] := by
                        intro N142
                        induction N142 with
                        | zero => intro i_142 lx_142 i142_0 i142_1 i142_2 hm; exact absurd hm (Nat.not_lt_zero _)
                        | succ N142 ih142 =>
                          intro i_142 lx_142 i142_0 i142_1 i142_2 hm142
                          refine J_iload dX12_leastOf_142 rfl ?_
                          refine J_aload_n dX12_leastOf_144 rfl rfl ?_
                          refine J_get (v := .ref 114) dX12_leastOf_145 fl_X12_67 hk98 rfl ?_
                          refine J_iload_n dX12_leastOf_148 rfl rfl ?_
                          obtain ⟨z13, ez13⟩ : ∃ z : Int, sm b_45 = z := ⟨_, rfl⟩
                          have h14 := StM.deg q6 (v_a708073960 i45_2 h3) (v_b9aca61388 i45_3) ez13
                          refine Y_iald (z := z13) 1260 dX12_leastOf_149 hk114 rfl (by decide) (v_a708073960 i45_2 h3) (v_1c8b2a3f47 q5 i45_3) ez13 ?_
                          refine Z_icmp_ge (tgt := 225) dX12_leastOf_150 (by decide) (v_ee6ec25f58 i142_0 i142_1) (v_ee6ec25f58 h14.1 h14.2) (fun h15 => ?_) (fun h15 => ?_)
                          · refine J_goto (tgt := 40) dX12_leastOf_225 (by decide) ?_
                            refine J_drop (ls2 := [some (.ref 98), some (.int (zI x)), some (.int (zI y)), none, none, none, none]) [true, true, true, false, false, false, false] rfl ?_
                            exact ih40 lx_142 f6 i142_2 h7 (v_83b3f1d41d i40_2 g10) (v_2b81d1254d g10 g12) (meas_lt (v_df4b9d216a g10) (v_53b5f18ef1 g12) hm40)
                          · refine J_aload_n dX12_leastOf_153 rfl rfl ?_
                            refine J_get (v := .ref 112) dX12_leastOf_154 fl_X12_61 hk98 rfl ?_
                            refine Z_bipush (n := 22) dX12_leastOf_157 (by decide +kernel) ?_
                            refine J_iload_n dX12_leastOf_159 rfl rfl ?_
                            refine Z_imul (c := 22 * b_45) dX12_leastOf_160 rfl ?_
                            refine J_iload dX12_leastOf_161 rfl ?_
                            refine Z_iadd (c := 22 * b_45 + i_142) dX12_leastOf_163 rfl ?_
                            obtain ⟨z16, ez16⟩ : ∃ z : Int, st (22 * b_45 + i_142) = z := ⟨_, rfl⟩
                            have h17 := StM.to q6 (v_a708073960 i45_2 h3) (v_b9aca61388 i45_3) ez13 (v_2b02420001 i142_0) (v_fe9ea41faa h15) v_bbccdd60f5 ez16
                            refine Y_iald (z := z16) 27720 dX12_leastOf_164 hk112 rfl (by decide) (v_ebf75f3068 i45_2 h3 i142_0) (v_e748e363c7 q5 i45_3 h14.2 h15) ez16 ?_
                            refine J_istore dX12_leastOf_165 (Nat.le_of_ble_eq_true rfl) rfl ?_
                            refine J_ls (ls2 := [some (.ref 98), some (.int (zI x)), some (.int (zI y)), some (.int (zI b_45)), some (.int (zI i_142)), some (.int (zI z16)), none]) rfl ?_
                            refine J_aload_n dX12_leastOf_167 rfl rfl ?_
                            refine J_get (v := .ref 121) dX12_leastOf_168 fl_X12_95 hk98 rfl ?_
                            refine J_iload_n dX12_leastOf_171 rfl rfl ?_
                            obtain ⟨z18, ez18⟩ : ∃ z : Int, lx_142 b_45 = z := ⟨_, rfl⟩
                            have h19 := Rg.at i142_2 (v_a708073960 i45_2 h3) (v_b9aca61388 i45_3) ez18
                            refine Y_iald (z := z18) 1260 dX12_leastOf_172 rfl rfl (by decide) (v_a708073960 i45_2 h3) (v_1c8b2a3f47 q5 i45_3) ez18 ?_
                            refine J_aload_n dX12_leastOf_173 rfl rfl ?_
                            refine J_get (v := .ref 113) dX12_leastOf_174 fl_X12_64 hk98 rfl ?_
                            refine Z_bipush (n := 22) dX12_leastOf_177 (by decide +kernel) ?_
                            refine J_iload_n dX12_leastOf_179 rfl rfl ?_
                            refine Z_imul (c := 22 * b_45) dX12_leastOf_180 rfl ?_
                            refine J_iload dX12_leastOf_181 rfl ?_
                            refine Z_iadd (c := 22 * b_45 + i_142) dX12_leastOf_183 rfl ?_
                            obtain ⟨z20, ez20⟩ : ∃ z : Int, tk (22 * b_45 + i_142) = z := ⟨_, rfl⟩
                            have h21 := StM.takes q6 (v_a708073960 i45_2 h3) (v_b9aca61388 i45_3) ez13 (v_2b02420001 i142_0) (v_fe9ea41faa h15) v_bbccdd60f5 ez20
                            refine Y_iald (z := z20) 27720 dX12_leastOf_184 hk113 rfl (by decide) (v_ebf75f3068 i45_2 h3 i142_0) (v_e748e363c7 q5 i45_3 h14.2 h15) ez20 ?_
                            refine Z_iadd (c := z18 + z20) dX12_leastOf_185 rfl ?_
                            refine J_istore dX12_leastOf_186 (Nat.le_of_ble_eq_true rfl) rfl ?_
                            refine J_ls (ls2 := [some (.ref 98), some (.int (zI x)), some (.int (zI y)), some (.int (zI b_45)), some (.int (zI i_142)), some (.int (zI z16)), some (.int (zI (z18 + z20)))]) rfl ?_
                            refine J_aload_n dX12_leastOf_188 rfl rfl ?_
                            refine J_get (v := .ref 121) dX12_leastOf_189 fl_X12_95 hk98 rfl ?_
                            refine J_iload dX12_leastOf_192 rfl ?_
                            refine J_iload dX12_leastOf_194 rfl ?_
                            refine J_aload_n dX12_leastOf_196 rfl rfl ?_
                            refine J_get (v := .ref 121) dX12_leastOf_197 fl_X12_95 hk98 rfl ?_
                            refine J_iload dX12_leastOf_200 rfl ?_
                            obtain ⟨z22, ez22⟩ : ∃ z : Int, lx_142 z16 = z := ⟨_, rfl⟩
                            have h23 := Rg.at i142_2 (v_2b02420001 h17.1) (v_b9aca61388 h17.2) ez22
                            refine Y_iald (z := z22) 1260 dX12_leastOf_202 rfl rfl (by decide) (v_2b02420001 h17.1) (v_1c8b2a3f47 q5 h17.2) ez22 ?_
                            refine Z_icmp_ge (tgt := 211) dX12_leastOf_203 (by decide) (v_7532862d37 h19.1 h19.2 h21.1 h21.2) (v_446c93d96c h23.1 h23.2) (fun h24 => ?_) (fun h24 => ?_)
                            · refine J_aload_n dX12_leastOf_211 rfl rfl ?_
                              refine J_get (v := .ref 121) dX12_leastOf_212 fl_X12_95 hk98 rfl ?_
                              refine J_iload dX12_leastOf_215 rfl ?_
                              refine Y_iald (z := z22) 1260 dX12_leastOf_217 rfl rfl (by decide) (v_2b02420001 h17.1) (v_1c8b2a3f47 q5 h17.2) ez22 ?_
                              refine Y_iast (v := z22) 1260 dX12_leastOf_218 rfl rfl (by decide) (v_2b02420001 h17.1) (v_1c8b2a3f47 q5 h17.2) (fun f25 ef25 => ?_)
                              have h26 : Rg f25 hm 0 1000000 := Rg.ups i142_2 ef25 (v_2b02420001 h23.1) (v_84bc5d7fcf h23.2)
                              refine Z_iinc (c := i_142 + 1) (ls2 := [some (.ref 98), some (.int (zI x)), some (.int (zI y)), some (.int (zI b_45)), some (.int (zI (i_142 + 1))), some (.int (zI z16)), some (.int (zI (z18 + z20)))]) dX12_leastOf_219 rfl (Nat.le_of_ble_eq_true rfl) rfl rfl rfl ?_
                              refine J_goto (tgt := 142) dX12_leastOf_222 (by decide) ?_
                              refine J_mask (L2 := [(121, .inl (0, 1260, .inl (zA f25))), (122, .inl (2, 1260, .inl (zA f6)))]) (ks := [121, 122, 121]) [true, true, false] rfl (by decide +kernel) rfl ?_
                              refine J_touch (k := 121) (e := .inl (0, 1260, .inl (zA f25))) rfl ?_
                              refine J_touch (k := 122) (e := .inl (2, 1260, .inl (zA f6))) rfl ?_
                              refine J_mask (L2 := [(122, .inl (2, 1260, .inl (zA f6))), (121, .inl (0, 1260, .inl (zA f25)))]) (ks := [122, 121, 121, 122]) [true, true, false, false] rfl (by decide +kernel) rfl ?_
                              refine J_drop (ls2 := [some (.ref 98), some (.int (zI x)), some (.int (zI y)), some (.int (zI b_45)), some (.int (zI (i_142 + 1))), none, none]) [true, true, true, true, true, false, false] rfl ?_
                              exact ih142 (i_142 + 1) f25 (v_da458fa48a i142_0) (v_47a3e0fadb h14.2 h15) h26 (meas_lt v_7998cc58ac (v_e4105e2830 h14.2 h15) hm142)
                            · refine J_iload dX12_leastOf_206 rfl ?_
                              refine J_goto (tgt := 218) dX12_leastOf_208 (by decide) ?_
                              refine Y_iast (v := z18 + z20) 1260 dX12_leastOf_218 rfl rfl (by decide) (v_2b02420001 h17.1) (v_1c8b2a3f47 q5 h17.2) (fun f27 ef27 => ?_)
                              have h28 : Rg f27 hm 0 1000000 := Rg.ups i142_2 ef27 (v_275822ecf8 h19.1 h21.1) (v_34e556aa89 h23.2 h24)
                              refine Z_iinc (c := i_142 + 1) (ls2 := [some (.ref 98), some (.int (zI x)), some (.int (zI y)), some (.int (zI b_45)), some (.int (zI (i_142 + 1))), some (.int (zI z16)), some (.int (zI (z18 + z20)))]) dX12_leastOf_219 rfl (Nat.le_of_ble_eq_true rfl) rfl rfl rfl ?_
                              refine J_goto (tgt := 142) dX12_leastOf_222 (by decide) ?_
                              refine J_mask (L2 := [(121, .inl (0, 1260, .inl (zA f27))), (122, .inl (2, 1260, .inl (zA f6)))]) (ks := [121, 122, 121]) [true, true, false] rfl (by decide +kernel) rfl ?_
                              refine J_touch (k := 121) (e := .inl (0, 1260, .inl (zA f27))) rfl ?_
                              refine J_touch (k := 122) (e := .inl (2, 1260, .inl (zA f6))) rfl ?_
                              refine J_mask (L2 := [(122, .inl (2, 1260, .inl (zA f6))), (121, .inl (0, 1260, .inl (zA f27)))]) (ks := [122, 121, 121, 122]) [true, true, false, false] rfl (by decide +kernel) rfl ?_
                              refine J_drop (ls2 := [some (.ref 98), some (.int (zI x)), some (.int (zI y)), some (.int (zI b_45)), some (.int (zI (i_142 + 1))), none, none]) [true, true, true, true, true, false, false] rfl ?_
                              exact ih142 (i_142 + 1) f27 (v_da458fa48a i142_0) (v_47a3e0fadb h14.2 h15) h28 (meas_lt v_7998cc58ac (v_e4105e2830 h14.2 h15) hm142)
                      exact lp142 _ 0 lx_40 v_939070ca3f v_88d800e4db i40_0 (Nat.lt_succ_self _)
                    · refine J_iload_n dX12_leastOf_116 rfl rfl ?_
                      refine Z_iconst (n := -1) dX12_leastOf_117 ?_
                      refine Z_icmp_ne (tgt := 125) dX12_leastOf_118 (by decide) (v_e305852bbd q5 i45_2 i45_3) v_d64efa60f9 (fun h29 => ?_) (fun h29 => absurd h29 (v_5ff7dbea65 i45_2 h3))
                      refine J_aload_n dX12_leastOf_125 rfl rfl ?_
                      refine J_get (v := .ref 121) dX12_leastOf_126 fl_X12_95 hk98 rfl ?_
                      refine J_iload_n dX12_leastOf_129 rfl rfl ?_
                      obtain ⟨z30, ez30⟩ : ∃ z : Int, lx_40 y = z := ⟨_, rfl⟩
                      have h31 := Rg.at i40_0 (v_2b02420001 q2) (v_b9aca61388 q3) ez30
                      refine Y_iald (z := z30) 1260 dX12_leastOf_130 rfl rfl (by decide) (v_2b02420001 q2) (v_6251b724b8 q3 q5) ez30 ?_
                      refine J_touch (k := 122) (e := .inl (2, 1260, .inl (zA dx_40))) rfl ?_
                      refine J_touch (k := 121) (e := .inl (0, 1260, .inl (zA lx_40))) rfl ?_
                      refine J_mask (L2 := [(121, .inl (0, 1260, .inl (zA lx_40))), (122, .inl (2, 1260, .inl (zA dx_40)))]) (ks := [121, 122, 122, 121]) [true, true, false, false] rfl (by decide +kernel) rfl ?_
                      exact J_iret dX12_leastOf_131 rfl rfl (Nat.le_of_ble_eq_true rfl) (Nat.le_of_ble_eq_true rfl) ⟨lx_40, dx_40, z30, rfl, rfl, i40_1⟩
                · refine J_aload_n dX12_leastOf_54 rfl rfl ?_
                  refine J_get (v := .ref 122) dX12_leastOf_55 fl_X12_98 hk98 rfl ?_
                  refine J_iload dX12_leastOf_58 rfl ?_
                  obtain ⟨z32, ez32⟩ : ∃ z : Int, dx_40 h_45 = z := ⟨_, rfl⟩
                  have h33 := Rg.at i40_1 (v_2b02420001 i45_0) (v_610e7c4416 q5 h2) ez32
                  refine Y_zald (z := z32) 1260 dX12_leastOf_60 rfl rfl (by decide) (v_2b02420001 i45_0) (v_610e7c4416 q5 h2) ez32 ?_
                  refine Z_if_ne (tgt := 100) dX12_leastOf_61 (by decide) (v_5f10a759cd h33.1 h33.2) (fun h34 => ?_) (fun h34 => ?_)
                  · refine Z_iinc (c := h_45 + 1) (ls2 := [some (.ref 98), some (.int (zI x)), some (.int (zI y)), some (.int (zI b_45)), some (.int (zI (h_45 + 1))), none, none]) dX12_leastOf_100 rfl (Nat.le_of_ble_eq_true rfl) rfl rfl rfl ?_
                    refine J_goto (tgt := 45) dX12_leastOf_103 (by decide) ?_
                    exact ih45 b_45 (h_45 + 1) (v_da458fa48a i45_0) (v_e390a36114 h2) i45_2 i45_3 (i45_4) (meas_lt v_90eacd6fd4 (v_8b7dd7d486 h2) hm45)
                  · refine J_aload_n dX12_leastOf_64 rfl rfl ?_
                    refine J_get (v := .ref 121) dX12_leastOf_65 fl_X12_95 hk98 rfl ?_
                    refine J_iload dX12_leastOf_68 rfl ?_
                    obtain ⟨z35, ez35⟩ : ∃ z : Int, lx_40 h_45 = z := ⟨_, rfl⟩
                    have h36 := Rg.at i40_0 (v_2b02420001 i45_0) (v_fe9ea41faa h2) ez35
                    refine Y_iald (z := z35) 1260 dX12_leastOf_70 rfl rfl (by decide) (v_2b02420001 i45_0) (v_610e7c4416 q5 h2) ez35 ?_
                    refine J_ldc (v := zI 1000000) dX12_leastOf_71 (jt7 88 rfl rfl) ?_
                    refine Z_icmp_ge (tgt := 100) dX12_leastOf_73 (by decide) (v_446c93d96c h36.1 h36.2) v_6158abf92a (fun h37 => ?_) (fun h37 => ?_)
                    · refine Z_iinc (c := h_45 + 1) (ls2 := [some (.ref 98), some (.int (zI x)), some (.int (zI y)), some (.int (zI b_45)), some (.int (zI (h_45 + 1))), none, none]) dX12_leastOf_100 rfl (Nat.le_of_ble_eq_true rfl) rfl rfl rfl ?_
                      refine J_goto (tgt := 45) dX12_leastOf_103 (by decide) ?_
                      exact ih45 b_45 (h_45 + 1) (v_da458fa48a i45_0) (v_e390a36114 h2) i45_2 i45_3 (i45_4) (meas_lt v_90eacd6fd4 (v_8b7dd7d486 h2) hm45)
                    · refine J_iload_n dX12_leastOf_76 rfl rfl ?_
                      refine Z_iconst (n := -1) dX12_leastOf_77 ?_
                      refine Z_icmp_eq (tgt := 97) dX12_leastOf_78 (by decide) (v_e305852bbd q5 i45_2 i45_3) v_d64efa60f9 (fun h38 => ?_) (fun h38 => ?_)
                      · refine J_iload dX12_leastOf_97 rfl ?_
                        refine J_istore_n dX12_leastOf_99 rfl (Nat.le_of_ble_eq_true rfl) rfl ?_
                        refine J_ls (ls2 := [some (.ref 98), some (.int (zI x)), some (.int (zI y)), some (.int (zI h_45)), some (.int (zI h_45)), none, none]) rfl ?_
                        refine Z_iinc (c := h_45 + 1) (ls2 := [some (.ref 98), some (.int (zI x)), some (.int (zI y)), some (.int (zI h_45)), some (.int (zI (h_45 + 1))), none, none]) dX12_leastOf_100 rfl (Nat.le_of_ble_eq_true rfl) rfl rfl rfl ?_
                        refine J_goto (tgt := 45) dX12_leastOf_103 (by decide) ?_
                        exact ih45 h_45 (h_45 + 1) (v_da458fa48a i45_0) (v_e390a36114 h2) (v_576129c2e8 i45_0) (v_fe9ea41faa h2) (.inr (by rw [ez32]; exact (v_bd6c74a791 h33.1 h34))) (meas_lt v_90eacd6fd4 (v_8b7dd7d486 h2) hm45)
                      · refine J_aload_n dX12_leastOf_81 rfl rfl ?_
                        refine J_get (v := .ref 121) dX12_leastOf_82 fl_X12_95 hk98 rfl ?_
                        refine J_iload dX12_leastOf_85 rfl ?_
                        refine Y_iald (z := z35) 1260 dX12_leastOf_87 rfl rfl (by decide) (v_2b02420001 i45_0) (v_610e7c4416 q5 h2) ez35 ?_
                        refine J_aload_n dX12_leastOf_88 rfl rfl ?_
                        refine J_get (v := .ref 121) dX12_leastOf_89 fl_X12_95 hk98 rfl ?_
                        refine J_iload_n dX12_leastOf_92 rfl rfl ?_
                        obtain ⟨z39, ez39⟩ : ∃ z : Int, lx_40 b_45 = z := ⟨_, rfl⟩
                        have h40 := Rg.at i40_0 (v_a708073960 i45_2 h38) (v_b9aca61388 i45_3) ez39
                        refine Y_iald (z := z39) 1260 dX12_leastOf_93 rfl rfl (by decide) (v_a708073960 i45_2 h38) (v_1c8b2a3f47 q5 i45_3) ez39 ?_
                        refine Z_icmp_ge (tgt := 100) dX12_leastOf_94 (by decide) (v_ab28b6e5e4 h36.1 h37) (v_446c93d96c h40.1 h40.2) (fun h41 => ?_) (fun h41 => ?_)
                        · refine Z_iinc (c := h_45 + 1) (ls2 := [some (.ref 98), some (.int (zI x)), some (.int (zI y)), some (.int (zI b_45)), some (.int (zI (h_45 + 1))), none, none]) dX12_leastOf_100 rfl (Nat.le_of_ble_eq_true rfl) rfl rfl rfl ?_
                          refine J_goto (tgt := 45) dX12_leastOf_103 (by decide) ?_
                          exact ih45 b_45 (h_45 + 1) (v_da458fa48a i45_0) (v_e390a36114 h2) i45_2 i45_3 (i45_4) (meas_lt v_90eacd6fd4 (v_8b7dd7d486 h2) hm45)
                        · refine J_iload dX12_leastOf_97 rfl ?_
                          refine J_istore_n dX12_leastOf_99 rfl (Nat.le_of_ble_eq_true rfl) rfl ?_
                          refine J_ls (ls2 := [some (.ref 98), some (.int (zI x)), some (.int (zI y)), some (.int (zI h_45)), some (.int (zI h_45)), none, none]) rfl ?_
                          refine Z_iinc (c := h_45 + 1) (ls2 := [some (.ref 98), some (.int (zI x)), some (.int (zI y)), some (.int (zI h_45)), some (.int (zI (h_45 + 1))), none, none]) dX12_leastOf_100 rfl (Nat.le_of_ble_eq_true rfl) rfl rfl rfl ?_
                          refine J_goto (tgt := 45) dX12_leastOf_103 (by decide) ?_
                          exact ih45 h_45 (h_45 + 1) (v_da458fa48a i45_0) (v_e390a36114 h2) (v_576129c2e8 i45_0) (v_fe9ea41faa h2) (.inr (by rw [ez32]; exact (v_bd6c74a791 h33.1 h34))) (meas_lt v_90eacd6fd4 (v_8b7dd7d486 h2) hm45)
            exact lp45 _ (-1) 0 v_939070ca3f (v_632d2dbe78 q4) v_4d9e6ac08a (v_7e0ab68801 q4) (.inl rfl) (Nat.lt_succ_self _)
        exact lp40 _ lx_2 dx_2 (Rg.mono i2_2 (v_d464d4c634 h1) v_939070ca3f v_003e008026) i2_3 ((cNe_rng (v_632d2dbe78 q4)).1) ((cNe_rng (v_632d2dbe78 q4)).2) (Nat.lt_succ_self _)
      · refine J_aload_n dX12_leastOf_10 rfl rfl ?_
        refine J_get (v := .ref 121) dX12_leastOf_11 fl_X12_95 hk98 rfl ?_
        refine J_iload_n dX12_leastOf_14 rfl rfl ?_
        refine J_iload_n dX12_leastOf_15 rfl rfl ?_
        refine J_iload_n dX12_leastOf_16 rfl rfl ?_
        refine Z_icmp_ne (tgt := 24) dX12_leastOf_17 (by decide) (v_260153931b q5 i2_0 h1) (v_23d004c61f q0 q1 q5) (fun h42 => ?_) (fun h42 => ?_)
        · refine J_ldc (v := zI 1000000) dX12_leastOf_24 (jt7 88 rfl rfl) ?_
          refine Y_iast (v := 1000000) 1260 dX12_leastOf_26 rfl rfl (by decide) (v_2b02420001 i2_0) (v_610e7c4416 q5 h1) (fun f43 ef43 => ?_)
          have h44 : Rg f43 (h_2 + 1) 0 1000000 := Rg.push i2_2 ef43 v_a0572702c4 v_e828b09c4d v_fc527b01d3 v_003e008026
          refine J_aload_n dX12_leastOf_27 rfl rfl ?_
          refine J_get (v := .ref 122) dX12_leastOf_28 fl_X12_98 hk98 rfl ?_
          refine J_iload_n dX12_leastOf_31 rfl rfl ?_
          refine Z_iconst (n := 0) dX12_leastOf_32 ?_
          refine Y_zast (v := 0) 1260 dX12_leastOf_33 rfl rfl (by decide) (v_2b02420001 i2_0) (v_610e7c4416 q5 h1) v_939070ca3f v_316afd7d0b (fun f45 ef45 => ?_)
          have h46 : Rg f45 1260 0 1 := Rg.ups i2_3 ef45 v_939070ca3f v_316afd7d0b
          refine Z_iinc (c := h_2 + 1) (ls2 := [some (.ref 98), some (.int (zI x)), some (.int (zI y)), some (.int (zI (h_2 + 1))), none, none, none]) dX12_leastOf_34 rfl (Nat.le_of_ble_eq_true rfl) rfl rfl rfl ?_
          refine J_goto (tgt := 2) dX12_leastOf_37 (by decide) ?_
          refine J_mask (L2 := [(122, .inl (2, 1260, .inl (zA f45))), (121, .inl (0, 1260, .inl (zA f43)))]) (ks := [122, 121, 122, 121]) [true, true, false, false] rfl (by decide +kernel) rfl ?_
          exact ih2 (h_2 + 1) f43 f45 (v_da458fa48a i2_0) (v_e390a36114 h1) h44 h46 (meas_lt v_90eacd6fd4 (v_8b7dd7d486 h1) hm2)
        · refine Z_iconst (n := 0) dX12_leastOf_20 ?_
          refine J_goto (tgt := 26) dX12_leastOf_21 (by decide) ?_
          refine Y_iast (v := 0) 1260 dX12_leastOf_26 rfl rfl (by decide) (v_2b02420001 i2_0) (v_610e7c4416 q5 h1) (fun f47 ef47 => ?_)
          have h48 : Rg f47 (h_2 + 1) 0 1000000 := Rg.push i2_2 ef47 v_a0572702c4 v_e828b09c4d v_939070ca3f v_fc527b01d3
          refine J_aload_n dX12_leastOf_27 rfl rfl ?_
          refine J_get (v := .ref 122) dX12_leastOf_28 fl_X12_98 hk98 rfl ?_
          refine J_iload_n dX12_leastOf_31 rfl rfl ?_
          refine Z_iconst (n := 0) dX12_leastOf_32 ?_
          refine Y_zast (v := 0) 1260 dX12_leastOf_33 rfl rfl (by decide) (v_2b02420001 i2_0) (v_610e7c4416 q5 h1) v_939070ca3f v_316afd7d0b (fun f49 ef49 => ?_)
          have h50 : Rg f49 1260 0 1 := Rg.ups i2_3 ef49 v_939070ca3f v_316afd7d0b
          refine Z_iinc (c := h_2 + 1) (ls2 := [some (.ref 98), some (.int (zI x)), some (.int (zI y)), some (.int (zI (h_2 + 1))), none, none, none]) dX12_leastOf_34 rfl (Nat.le_of_ble_eq_true rfl) rfl rfl rfl ?_
          refine J_goto (tgt := 2) dX12_leastOf_37 (by decide) ?_
          refine J_mask (L2 := [(122, .inl (2, 1260, .inl (zA f49))), (121, .inl (0, 1260, .inl (zA f47)))]) (ks := [122, 121, 122, 121]) [true, true, false, false] rfl (by decide +kernel) rfl ?_
          exact ih2 (h_2 + 1) f47 f49 (v_da458fa48a i2_0) (v_e390a36114 h1) h48 h50 (meas_lt v_90eacd6fd4 (v_8b7dd7d486 h1) hm2)
  exact lp2 _ 0 le dn v_939070ca3f (v_632d2dbe78 q4) (Rg.nil v_939070ca3f) q7 (Nat.lt_succ_self _)
set_option maxHeartbeats 4000000 in
set_option maxRecDepth 100000 in
theorem k_measuresTo {l : Launch} {G : jG} {nh : Nat} {fh : Nat → Option va_E} (y : Int) (st : Int → Int) (tk : Int → Int) (sm : Int → Int) (tg : Int → Int) (ms : Int) (mv : Int) (mt : Int) (mfa : Int) (mtn : Int) (mtk : Int) (mlv : Int) (mbd : Int) (mgo : Int) (mge : Int) (mbk : Int) (mtt : Int) (mtl : Int) (hm : Int) (pm : Int) (hb : Int) (sb : Int) (mfu : Int) (mdm : Int) (mla : Int) (q0 : 0 ≤ y) (q1 : y < hm) (q2 : 1 ≤ hm) (q3 : hm ≤ 1260) (q4 : StM st tk sm hm) (hk98 : fh 98 = some (.inr (12, (.int (zI ms) :: .int (zI mv) :: .ref 99 :: .ref 100 :: .ref 101 :: .ref 102 :: .ref 103 :: .ref 104 :: .ref 105 :: .int (zI mt) :: .int (zI mfa) :: .ref 106 :: .ref 107 :: .ref 108 :: .int (zI mtn) :: .int (zI mtk) :: .int (zI mlv) :: .int (zI mbd) :: .int (zI mgo) :: .int (zI mge) :: .int (zI mbk) :: .ref 109 :: .int (zI mtt) :: .int (zI mtl) :: .ref 110 :: .ref 111 :: .ref 112 :: .ref 113 :: .ref 114 :: .ref 115 :: .ref 116 :: .ref 117 :: .int (zI hm) :: .int (zI pm) :: .int (zI hb) :: .int (zI sb) :: .ref 118 :: .ref 119 :: .ref 120 :: .ref 121 :: .ref 122 :: .ref 123 :: .ref 124 :: .ref 125 :: .ref 126 :: .ref 127 :: .ref 128 :: .ref 129 :: .int (zI mfu) :: .ref 130 :: .ref 131 :: .ref 132 :: .ref 133 :: .ref 134 :: .int (zI mdm) :: .int (zI mla) :: [])))) (hk112 : fh 112 = some (.inl (0, 27720, .inl (zA st)))) (hk113 : fh 113 = some (.inl (0, 27720, .inl (zA tk)))) (hk114 : fh 114 = some (.inl (0, 1260, .inl (zA sm)))) (hk123 : fh 123 = some (.inl (0, 1260, .inl (zA tg)))) : JM l G yX12_measuresTo MX12_measuresTo { frames := 0, cells := 0, slots := 0, locals := 0 } [.ref 98, .int (zI y)] (nh, fh) (fun rr h9 => ∃ tg2 : Int → Int, rr = none ∧ h9 = (nh, hc fh [(123, .inl (0, 1260, .inl (zA tg2)))]) ∧ (TGo tg2 st sm hm y)) := by
  refine JM.of (by decide) rfl (fun h => by cases h) (Nat.le_of_ble_eq_true rfl) ⟨4, rfl⟩ ?_
  refine J_hc0 (J_ls (ls2 := [some (.ref 98), some (.int (zI y)), none, none, none, none]) rfl ?_)
  refine Z_iconst (n := 0) dX12_measuresTo_0 ?_
  refine J_istore_n dX12_measuresTo_1 rfl (Nat.le_of_ble_eq_true rfl) rfl ?_
  refine J_ls (ls2 := [some (.ref 98), some (.int (zI y)), some (.int (zI 0)), none, none, none]) rfl ?_
  refine J_touch (k := 123) (e := .inl (0, 1260, .inl (zA tg))) hk123 ?_
  have lp2 : ∀ (N2 : Nat) (h_2 : Int) (tx_2 : Int → Int), (0 ≤ h_2) → (h_2 ≤ hm) → (TG0 tx_2 h_2 y) → (hm - h_2).toNat < N2 → J l G MX12_measuresTo { frames := 0, cells := 0, slots := 0, locals := 0 } jE (jMQ G { frames := 0, cells := 0, slots := 0, locals := 0 } (fun rr h9 => ∃ tg2 : Int → Int, rr = none ∧ h9 = (nh, hc fh [(123, .inl (0, 1260, .inl (zA tg2)))]) ∧ (TGo tg2 st sm hm y))) (nh, hc fh [(123, .inl (0, 1260, .inl (zA tx_2)))]) 0 0 2 [some (.ref 98), some (.int (zI y)), some (.int (zI h_2)), none, none, none] [] := by
    intro N2
    induction N2 with
    | zero => intro h_2 tx_2 i2_0 i2_1 i2_2 hm; exact absurd hm (Nat.not_lt_zero _)
    | succ N2 ih2 =>
      intro h_2 tx_2 i2_0 i2_1 i2_2 hm2
      refine J_iload_n dX12_measuresTo_2 rfl rfl ?_
      refine J_aload_n dX12_measuresTo_3 rfl rfl ?_
      refine J_get (v := .int (zI hm)) dX12_measuresTo_4 fl_X12_298 hk98 rfl ?_
      refine Z_icmp_ge (tgt := 33) dX12_measuresTo_7 (by decide) (v_c9ca704c4d q3 i2_0 i2_1) (v_81c6732ede q2 q3) (fun h1 => ?_) (fun h1 => ?_)
      · refine Z_iconst (n := 1) dX12_measuresTo_33 ?_
        refine J_istore_n dX12_measuresTo_34 rfl (Nat.le_of_ble_eq_true rfl) rfl ?_
        refine J_ls (ls2 := [some (.ref 98), some (.int (zI y)), some (.int (zI 1)), none, none, none]) rfl ?_
        refine Z_iconst (n := 0) dX12_measuresTo_35 ?_
        refine J_istore_n dX12_measuresTo_36 rfl (Nat.le_of_ble_eq_true rfl) rfl ?_
        refine J_ls (ls2 := [some (.ref 98), some (.int (zI y)), some (.int (zI 1)), some (.int (zI 0)), none, none]) rfl ?_
        have lp37 : ∀ (N37 : Nat) (more_37 : Int) (n_37 : Int) (tx_37 : Int → Int), (0 ≤ n_37) → (0 ≤ more_37) → (more_37 ≤ 1) → (n_37 + more_37 ≤ cNe tx_37 1000000 hm) → (TGo tx_37 st sm hm y) → (cNe tx_37 1000000 hm ≤ hm) → (1261 - n_37).toNat < N37 → J l G MX12_measuresTo { frames := 0, cells := 0, slots := 0, locals := 0 } jE (jMQ G { frames := 0, cells := 0, slots := 0, locals := 0 } (fun rr h9 => ∃ tg2 : Int → Int, rr = none ∧ h9 = (nh, hc fh [(123, .inl (0, 1260, .inl (zA tg2)))]) ∧ (TGo tg2 st sm hm y))) (nh, hc fh [(123, .inl (0, 1260, .inl (zA tx_37)))]) 0 0 37 [some (.ref 98), some (.int (zI y)), some (.int (zI more_37)), some (.int (zI n_37)), none, none] [] := by
          intro N37
          induction N37 with
          | zero => intro more_37 n_37 tx_37 i37_0 i37_1 i37_2 i37_3 i37_4 i37_5 hm; exact absurd hm (Nat.not_lt_zero _)
          | succ N37 ih37 =>
            intro more_37 n_37 tx_37 i37_0 i37_1 i37_2 i37_3 i37_4 i37_5 hm37
            refine J_iload_n dX12_measuresTo_37 rfl rfl ?_
            refine Z_if_eq (tgt := 137) dX12_measuresTo_38 (by decide) (v_5f10a759cd i37_1 i37_2) (fun h2 => ?_) (fun h2 => ?_)
            · exact J_vret dX12_measuresTo_137 rfl (Nat.le_of_ble_eq_true rfl) (Nat.le_of_ble_eq_true rfl) ⟨tx_37, rfl, rfl, i37_4⟩
            · refine Z_iconst (n := 0) dX12_measuresTo_41 ?_
              refine J_istore_n dX12_measuresTo_42 rfl (Nat.le_of_ble_eq_true rfl) rfl ?_
              refine J_ls (ls2 := [some (.ref 98), some (.int (zI y)), some (.int (zI 0)), some (.int (zI n_37)), none, none]) rfl ?_
              refine Z_iconst (n := 0) dX12_measuresTo_43 ?_
              refine J_istore dX12_measuresTo_44 (Nat.le_of_ble_eq_true rfl) rfl ?_
              refine J_ls (ls2 := [some (.ref 98), some (.int (zI y)), some (.int (zI 0)), some (.int (zI n_37)), some (.int (zI 0)), none]) rfl ?_
              have lp46 : ∀ (N46 : Nat) (more_46 : Int) (h_46 : Int) (tx_46 : Int → Int), (0 ≤ h_46) → (h_46 ≤ hm) → (0 ≤ more_46) → (more_46 ≤ 1) → (n_37 + 1 + more_46 ≤ cNe tx_46 1000000 hm) → (TGo tx_46 st sm hm y) → (cNe tx_46 1000000 hm ≤ hm) → (hm - h_46).toNat < N46 → J l G MX12_measuresTo { frames := 0, cells := 0, slots := 0, locals := 0 } jE (jMQ G { frames := 0, cells := 0, slots := 0, locals := 0 } (fun rr h9 => ∃ tg2 : Int → Int, rr = none ∧ h9 = (nh, hc fh [(123, .inl (0, 1260, .inl (zA tg2)))]) ∧ (TGo tg2 st sm hm y))) (nh, hc fh [(123, .inl (0, 1260, .inl (zA tx_46)))]) 0 0 46 [some (.ref 98), some (.int (zI y)), some (.int (zI more_46)), some (.int (zI n_37)), some (.int (zI h_46)), none] [] := by
                intro N46
                induction N46 with
                | zero => intro more_46 h_46 tx_46 i46_0 i46_1 i46_2 i46_3 i46_4 i46_5 i46_6 hm; exact absurd hm (Nat.not_lt_zero _)
                | succ N46 ih46 =>
                  intro more_46 h_46 tx_46 i46_0 i46_1 i46_2 i46_3 i46_4 i46_5 i46_6 hm46
                  refine J_iload dX12_measuresTo_46 rfl ?_
                  refine J_aload_n dX12_measuresTo_48 rfl rfl ?_
                  refine J_get (v := .int (zI hm)) dX12_measuresTo_49 fl_X12_298 hk98 rfl ?_
                  refine Z_icmp_ge (tgt := 131) dX12_measuresTo_52 (by decide) (v_c9ca704c4d q3 i46_0 i46_1) (v_81c6732ede q2 q3) (fun h3 => ?_) (fun h3 => ?_)
                  · refine Z_iinc (c := n_37 + 1) (ls2 := [some (.ref 98), some (.int (zI y)), some (.int (zI more_46)), some (.int (zI (n_37 + 1))), some (.int (zI h_46)), none]) dX12_measuresTo_131 rfl (Nat.le_of_ble_eq_true rfl) rfl rfl rfl ?_
                    refine J_goto (tgt := 37) dX12_measuresTo_134 (by decide) ?_
                    refine J_drop (ls2 := [some (.ref 98), some (.int (zI y)), some (.int (zI more_46)), some (.int (zI (n_37 + 1))), none, none]) [true, true, true, true, false, false] rfl ?_
                    exact ih37 more_46 (n_37 + 1) tx_46 (v_da458fa48a i37_0) i46_2 i46_3 i46_4 i46_5 i46_6 (meas_lt v_83d03e04bc (v_4bb56b9cee q3 i46_2 i46_4 i46_6) hm37)
                  · refine Z_iconst (n := 0) dX12_measuresTo_55 ?_
                    refine J_istore dX12_measuresTo_56 (Nat.le_of_ble_eq_true rfl) rfl ?_
                    refine J_ls (ls2 := [some (.ref 98), some (.int (zI y)), some (.int (zI more_46)), some (.int (zI n_37)), some (.int (zI h_46)), some (.int (zI 0))]) rfl ?_
                    have lp58 : ∀ (N58 : Nat) (more_58 : Int) (i_58 : Int) (tx_58 : Int → Int), (0 ≤ i_58) → (i_58 ≤ 22) → (0 ≤ more_58) → (more_58 ≤ 1) → (n_37 + 1 + more_58 ≤ cNe tx_58 1000000 hm) → (TGo tx_58 st sm hm y) → (cNe tx_58 1000000 hm ≤ hm) → (22 - i_58).toNat < N58 → J l G MX12_measuresTo { frames := 0, cells := 0, slots := 0, locals := 0 } jE (jMQ G { frames := 0, cells := 0, slots := 0, locals := 0 } (fun rr h9 => ∃ tg2 : Int → Int, rr = none ∧ h9 = (nh, hc fh [(123, .inl (0, 1260, .inl (zA tg2)))]) ∧ (TGo tg2 st sm hm y))) (nh, hc fh [(123, .inl (0, 1260, .inl (zA tx_58)))]) 0 0 58 [some (.ref 98), some (.int (zI y)), some (.int (zI more_58)), some (.int (zI n_37)), some (.int (zI h_46)), some (.int (zI i_58))] [] := by
                      intro N58
                      induction N58 with
                      | zero => intro more_58 i_58 tx_58 i58_0 i58_1 i58_2 i58_3 i58_4 i58_5 i58_6 hm; exact absurd hm (Nat.not_lt_zero _)
                      | succ N58 ih58 =>
                        intro more_58 i_58 tx_58 i58_0 i58_1 i58_2 i58_3 i58_4 i58_5 i58_6 hm58
                        refine J_iload dX12_measuresTo_58 rfl ?_
                        refine J_aload_n dX12_measuresTo_60 rfl rfl ?_
                        refine J_get (v := .ref 114) dX12_measuresTo_61 fl_X12_67 hk98 rfl ?_
                        refine J_iload dX12_measuresTo_64 rfl ?_
                        obtain ⟨z4, ez4⟩ : ∃ z : Int, sm h_46 = z := ⟨_, rfl⟩
                        have h5 := StM.deg q4 (v_2b02420001 i46_0) (v_fe9ea41faa h3) ez4
                        refine Y_iald (z := z4) 1260 dX12_measuresTo_66 hk114 rfl (by decide) (v_2b02420001 i46_0) (v_610e7c4416 q3 h3) ez4 ?_
                        refine Z_icmp_ge (tgt := 125) dX12_measuresTo_67 (by decide) (v_ee6ec25f58 i58_0 i58_1) (v_ee6ec25f58 h5.1 h5.2) (fun h6 => ?_) (fun h6 => ?_)
                        · refine Z_iinc (c := h_46 + 1) (ls2 := [some (.ref 98), some (.int (zI y)), some (.int (zI more_58)), some (.int (zI n_37)), some (.int (zI (h_46 + 1))), some (.int (zI i_58))]) dX12_measuresTo_125 rfl (Nat.le_of_ble_eq_true rfl) rfl rfl rfl ?_
                          refine J_goto (tgt := 46) dX12_measuresTo_128 (by decide) ?_
                          refine J_drop (ls2 := [some (.ref 98), some (.int (zI y)), some (.int (zI more_58)), some (.int (zI n_37)), some (.int (zI (h_46 + 1))), none]) [true, true, true, true, true, false] rfl ?_
                          exact ih46 more_58 (h_46 + 1) tx_58 (v_da458fa48a i46_0) (v_e390a36114 h3) i58_2 i58_3 i58_4 i58_5 i58_6 (meas_lt v_90eacd6fd4 (v_8b7dd7d486 h3) hm46)
                        · refine J_aload_n dX12_measuresTo_70 rfl rfl ?_
                          refine J_get (v := .ref 123) dX12_measuresTo_71 fl_X12_101 hk98 rfl ?_
                          refine J_iload dX12_measuresTo_74 rfl ?_
                          obtain ⟨z7, ez7⟩ : ∃ z : Int, tx_58 h_46 = z := ⟨_, rfl⟩
                          have h8 := Rg.at i58_5.rg (v_2b02420001 i46_0) (v_fe9ea41faa h3) ez7
                          refine Y_iald (z := z7) 1260 dX12_measuresTo_76 rfl rfl (by decide) (v_2b02420001 i46_0) (v_610e7c4416 q3 h3) ez7 ?_
                          refine J_ldc (v := zI 1000000) dX12_measuresTo_77 (jt7 88 rfl rfl) ?_
                          refine Z_icmp_ne (tgt := 125) dX12_measuresTo_79 (by decide) (v_446c93d96c h8.1 h8.2) v_6158abf92a (fun h9 => ?_) (fun h9 => ?_)
                          · refine Z_iinc (c := h_46 + 1) (ls2 := [some (.ref 98), some (.int (zI y)), some (.int (zI more_58)), some (.int (zI n_37)), some (.int (zI (h_46 + 1))), some (.int (zI i_58))]) dX12_measuresTo_125 rfl (Nat.le_of_ble_eq_true rfl) rfl rfl rfl ?_
                            refine J_goto (tgt := 46) dX12_measuresTo_128 (by decide) ?_
                            refine J_drop (ls2 := [some (.ref 98), some (.int (zI y)), some (.int (zI more_58)), some (.int (zI n_37)), some (.int (zI (h_46 + 1))), none]) [true, true, true, true, true, false] rfl ?_
                            exact ih46 more_58 (h_46 + 1) tx_58 (v_da458fa48a i46_0) (v_e390a36114 h3) i58_2 i58_3 i58_4 i58_5 i58_6 (meas_lt v_90eacd6fd4 (v_8b7dd7d486 h3) hm46)
                          · refine J_aload_n dX12_measuresTo_82 rfl rfl ?_
                            refine J_get (v := .ref 123) dX12_measuresTo_83 fl_X12_101 hk98 rfl ?_
                            refine J_aload_n dX12_measuresTo_86 rfl rfl ?_
                            refine J_get (v := .ref 112) dX12_measuresTo_87 fl_X12_61 hk98 rfl ?_
                            refine Z_bipush (n := 22) dX12_measuresTo_90 (by decide +kernel) ?_
                            refine J_iload dX12_measuresTo_92 rfl ?_
                            refine Z_imul (c := 22 * h_46) dX12_measuresTo_94 rfl ?_
                            refine J_iload dX12_measuresTo_95 rfl ?_
                            refine Z_iadd (c := 22 * h_46 + i_58) dX12_measuresTo_97 rfl ?_
                            obtain ⟨z10, ez10⟩ : ∃ z : Int, st (22 * h_46 + i_58) = z := ⟨_, rfl⟩
                            have h11 := StM.to q4 (v_2b02420001 i46_0) (v_fe9ea41faa h3) ez4 (v_2b02420001 i58_0) (v_fe9ea41faa h6) v_bbccdd60f5 ez10
                            refine Y_iald (z := z10) 27720 dX12_measuresTo_98 hk112 rfl (by decide) (v_c3b7d2d1ca i46_0 i58_0) (v_8172211e62 q3 h3 h5.2 h6) ez10 ?_
                            obtain ⟨z12, ez12⟩ : ∃ z : Int, tx_58 z10 = z := ⟨_, rfl⟩
                            have h13 := Rg.at i58_5.rg (v_2b02420001 h11.1) (v_b9aca61388 h11.2) ez12
                            refine Y_iald (z := z12) 1260 dX12_measuresTo_99 rfl rfl (by decide) (v_2b02420001 h11.1) (v_1c8b2a3f47 q3 h11.2) ez12 ?_
                            refine J_iload_n dX12_measuresTo_100 rfl rfl ?_
                            refine Z_icmp_eq (tgt := 107) dX12_measuresTo_101 (by decide) (v_446c93d96c h13.1 h13.2) (v_130a2b347e q3 i37_0 i46_2 i46_4 i46_6) (fun h14 => ?_) (fun h14 => ?_)
                            · refine J_aload_n dX12_measuresTo_107 rfl rfl ?_
                              refine J_get (v := .ref 123) dX12_measuresTo_108 fl_X12_101 hk98 rfl ?_
                              refine J_iload dX12_measuresTo_111 rfl ?_
                              refine J_iload_n dX12_measuresTo_113 rfl rfl ?_
                              refine Z_iconst (n := 1) dX12_measuresTo_114 ?_
                              refine Z_iadd (c := n_37 + 1) dX12_measuresTo_115 rfl ?_
                              refine Y_iast (v := n_37 + 1) 1260 dX12_measuresTo_116 rfl rfl (by decide) (v_2b02420001 i46_0) (v_610e7c4416 q3 h3) (fun f15 ef15 => ?_)
                              have g16 := cNe_new (v := 1000000) (n := hm) ef15 (v_8172bf60ae q3 i46_2 i46_4 i46_6) (v_2b02420001 i46_0) (v_fe9ea41faa h3) ez7 (v_632ab5c2a3 h8.2 h9)
                              have g17 := cNe_lt (v := 1000000) (n := hm) (v_2b02420001 i46_0) (v_fe9ea41faa h3) ez7 (v_632ab5c2a3 h8.2 h9)
                              refine Z_iconst (n := 1) dX12_measuresTo_117 ?_
                              refine J_istore_n dX12_measuresTo_118 rfl (Nat.le_of_ble_eq_true rfl) rfl ?_
                              refine J_ls (ls2 := [some (.ref 98), some (.int (zI y)), some (.int (zI 1)), some (.int (zI n_37)), some (.int (zI h_46)), some (.int (zI i_58))]) rfl ?_
                              refine Z_iinc (c := i_58 + 1) (ls2 := [some (.ref 98), some (.int (zI y)), some (.int (zI 1)), some (.int (zI n_37)), some (.int (zI h_46)), some (.int (zI (i_58 + 1)))]) dX12_measuresTo_119 rfl (Nat.le_of_ble_eq_true rfl) rfl rfl rfl ?_
                              refine J_goto (tgt := 58) dX12_measuresTo_122 (by decide) ?_
                              refine J_mask (L2 := [(123, .inl (0, 1260, .inl (zA f15)))]) (ks := [123, 123]) [true, false] rfl (by decide +kernel) rfl ?_
                              exact ih58 1 (i_58 + 1) f15 (v_da458fa48a i58_0) (v_47a3e0fadb h5.2 h6) v_316afd7d0b v_bbcfac9b7d (v_6f1a739f5a i58_2 i58_4 g16) (TGo.add (tk := tk) i58_5 (v_9b1dec7f1f q3 i58_2 i58_4 g17) (v_2b02420001 i37_0) ez7 (v_632ab5c2a3 h8.2 h9) i58_0 ez4 (v_fe9ea41faa h6) v_bbccdd60f5 ez10 ez12 (v_cd91a95e4e h14) _ ef15 v_7157e5c4fa) (v_2b81d1254d g16 g17) (meas_lt v_7998cc58ac (v_e4105e2830 h5.2 h6) hm58)
                            · refine J_goto (tgt := 119) dX12_measuresTo_104 (by decide) ?_
                              refine Z_iinc (c := i_58 + 1) (ls2 := [some (.ref 98), some (.int (zI y)), some (.int (zI more_58)), some (.int (zI n_37)), some (.int (zI h_46)), some (.int (zI (i_58 + 1)))]) dX12_measuresTo_119 rfl (Nat.le_of_ble_eq_true rfl) rfl rfl rfl ?_
                              refine J_goto (tgt := 58) dX12_measuresTo_122 (by decide) ?_
                              exact ih58 more_58 (i_58 + 1) tx_58 (v_da458fa48a i58_0) (v_47a3e0fadb h5.2 h6) i58_2 i58_3 i58_4 (i58_5) i58_6 (meas_lt v_7998cc58ac (v_e4105e2830 h5.2 h6) hm58)
                    exact lp58 _ more_46 0 tx_46 v_939070ca3f v_88d800e4db i46_2 i46_3 i46_4 i46_5 i46_6 (Nat.lt_succ_self _)
              exact lp46 _ 0 0 tx_37 v_939070ca3f (v_632d2dbe78 q2) v_939070ca3f v_316afd7d0b (v_2b5ba25bb9 i37_1 i37_3 h2) i37_4 i37_5 (Nat.lt_succ_self _)
        exact lp37 _ 1 0 tx_2 v_939070ca3f v_316afd7d0b v_bbcfac9b7d (TG0.cnt i2_2 (v_d464d4c634 h1) q0 q1) (TG0.go i2_2 (v_d464d4c634 h1)) ((cNe_rng (v_632d2dbe78 q2)).2) (Nat.lt_succ_self _)
      · refine J_aload_n dX12_measuresTo_10 rfl rfl ?_
        refine J_get (v := .ref 123) dX12_measuresTo_11 fl_X12_101 hk98 rfl ?_
        refine J_iload_n dX12_measuresTo_14 rfl rfl ?_
        refine J_iload_n dX12_measuresTo_15 rfl rfl ?_
        refine J_iload_n dX12_measuresTo_16 rfl rfl ?_
        refine Z_icmp_ne (tgt := 24) dX12_measuresTo_17 (by decide) (v_260153931b q3 i2_0 h1) (v_23d004c61f q0 q1 q3) (fun h18 => ?_) (fun h18 => ?_)
        · refine J_ldc (v := zI 1000000) dX12_measuresTo_24 (jt7 88 rfl rfl) ?_
          refine Y_iast (v := 1000000) 1260 dX12_measuresTo_26 rfl rfl (by decide) (v_2b02420001 i2_0) (v_610e7c4416 q3 h1) (fun f19 ef19 => ?_)
          refine Z_iinc (c := h_2 + 1) (ls2 := [some (.ref 98), some (.int (zI y)), some (.int (zI (h_2 + 1))), none, none, none]) dX12_measuresTo_27 rfl (Nat.le_of_ble_eq_true rfl) rfl rfl rfl ?_
          refine J_goto (tgt := 2) dX12_measuresTo_30 (by decide) ?_
          refine J_mask (L2 := [(123, .inl (0, 1260, .inl (zA f19)))]) (ks := [123, 123]) [true, false] rfl (by decide +kernel) rfl ?_
          exact ih2 (h_2 + 1) f19 (v_da458fa48a i2_0) (v_e390a36114 h1) (TG0.no i2_2 ef19 (v_da5cc3277e h18) v_04386017b8) (meas_lt v_90eacd6fd4 (v_8b7dd7d486 h1) hm2)
        · refine Z_iconst (n := 0) dX12_measuresTo_20 ?_
          refine J_goto (tgt := 26) dX12_measuresTo_21 (by decide) ?_
          refine Y_iast (v := 0) 1260 dX12_measuresTo_26 rfl rfl (by decide) (v_2b02420001 i2_0) (v_610e7c4416 q3 h1) (fun f20 ef20 => ?_)
          refine Z_iinc (c := h_2 + 1) (ls2 := [some (.ref 98), some (.int (zI y)), some (.int (zI (h_2 + 1))), none, none, none]) dX12_measuresTo_27 rfl (Nat.le_of_ble_eq_true rfl) rfl rfl rfl ?_
          refine J_goto (tgt := 2) dX12_measuresTo_30 (by decide) ?_
          refine J_mask (L2 := [(123, .inl (0, 1260, .inl (zA f20)))]) (ks := [123, 123]) [true, false] rfl (by decide +kernel) rfl ?_
          exact ih2 (h_2 + 1) f20 (v_da458fa48a i2_0) (v_e390a36114 h1) (TG0.yes i2_2 ef20 (v_cd91a95e4e h18) v_2ca2bbca1f) (meas_lt v_90eacd6fd4 (v_8b7dd7d486 h1) hm2)
  exact lp2 _ 0 tg v_939070ca3f (v_632d2dbe78 q2) (TG0_0) (Nat.lt_succ_self _)
