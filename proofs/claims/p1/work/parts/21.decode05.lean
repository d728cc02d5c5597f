/-! decode rows -/
theorem dX11_sorted_20 : decode cX11_sorted 20 = .ok (.aload_n 0, 1) := by decide +kernel
theorem dX11_sorted_21 : decode cX11_sorted 21 = .ok (.getfield 73, 3) := by decide +kernel
theorem dX11_sorted_24 : decode cX11_sorted 24 = .ok (.iload_n 1, 1) := by decide +kernel
theorem dX11_sorted_25 : decode cX11_sorted 25 = .ok (.invokevirtual 283, 3) := by decide +kernel
theorem dX11_sorted_28 : decode cX11_sorted 28 = .ok (.ireturn, 1) := by decide +kernel
theorem dX11_sorted_4 : decode cX11_sorted 4 = .ok (.iload_n 1, 1) := by decide +kernel
theorem dX11_sorted_5 : decode cX11_sorted 5 = .ok (.invokevirtual 135, 3) := by decide +kernel
theorem dX11_sorted_8 : decode cX11_sorted 8 = .ok (.ifCond .ne 5, 3) := by decide +kernel
theorem dX11_sorts_0 : decode cX11_sorts 0 = .ok (.aload_n 0, 1) := by decide +kernel
theorem dX11_sorts_1 : decode cX11_sorts 1 = .ok (.getfield 73, 3) := by decide +kernel
theorem dX11_sorts_4 : decode cX11_sorts 4 = .ok (.invokevirtual 270, 3) := by decide +kernel
theorem dX11_sorts_40 : decode cX11_sorts 40 = .ok (.aload_n 0, 1) := by decide +kernel
theorem dX11_sorts_41 : decode cX11_sorts 41 = .ok (.getfield 73, 3) := by decide +kernel
theorem dX11_sorts_44 : decode cX11_sorts 44 = .ok (.invokevirtual 271, 3) := by decide +kernel
theorem dX11_sorts_47 : decode cX11_sorts 47 = .ok (.ireturn, 1) := by decide +kernel
theorem dX11_sorts_48 : decode cX11_sorts 48 = .ok (.aload_n 0, 1) := by decide +kernel
theorem dX11_sorts_49 : decode cX11_sorts 49 = .ok (.getfield 73, 3) := by decide +kernel
theorem dX11_sorts_52 : decode cX11_sorts 52 = .ok (.invokevirtual 274, 3) := by decide +kernel
theorem dX11_sorts_55 : decode cX11_sorts 55 = .ok (.ireturn, 1) := by decide +kernel
theorem dX11_sorts_56 : decode cX11_sorts 56 = .ok (.aload_n 0, 1) := by decide +kernel
theorem dX11_sorts_57 : decode cX11_sorts 57 = .ok (.getfield 73, 3) := by decide +kernel
theorem dX11_sorts_60 : decode cX11_sorts 60 = .ok (.invokevirtual 277, 3) := by decide +kernel
theorem dX11_sorts_63 : decode cX11_sorts 63 = .ok (.ireturn, 1) := by decide +kernel
theorem dX11_sorts_64 : decode cX11_sorts 64 = .ok (.aload_n 0, 1) := by decide +kernel
theorem dX11_sorts_65 : decode cX11_sorts 65 = .ok (.getfield 73, 3) := by decide +kernel
theorem dX11_sorts_68 : decode cX11_sorts 68 = .ok (.invokevirtual 280, 3) := by decide +kernel
theorem dX11_sorts_7 : decode cX11_sorts 7 = .ok (.iload_n 1, 1) := by decide +kernel
theorem dX11_sorts_71 : decode cX11_sorts 71 = .ok (.ireturn, 1) := by decide +kernel
theorem dX11_sorts_72 : decode cX11_sorts 72 = .ok (.iconst (-1), 1) := by decide +kernel
theorem dX11_sorts_73 : decode cX11_sorts 73 = .ok (.ireturn, 1) := by decide +kernel
theorem dX11_sorts_8 : decode cX11_sorts 8 = .ok (.tableswitch 64 0 3 #[32, 40, 48, 56], 32) := by decide +kernel
theorem dX11_status_0 : decode cX11_status 0 = .ok (.aload_n 0, 1) := by decide +kernel
theorem dX11_status_1 : decode cX11_status 1 = .ok (.getfield 97, 3) := by decide +kernel
theorem dX11_status_4 : decode cX11_status 4 = .ok (.ireturn, 1) := by decide +kernel
theorem dX11_step_0 : decode cX11_step 0 = .ok (.aload_n 0, 1) := by decide +kernel
theorem dX11_step_1 : decode cX11_step 1 = .ok (.getfield 27, 3) := by decide +kernel
theorem dX11_step_11 : decode cX11_step 11 = .ok (.iconst (-1), 1) := by decide +kernel
theorem dX11_step_12 : decode cX11_step 12 = .ok (.ireturn, 1) := by decide +kernel
theorem dX11_step_13 : decode cX11_step 13 = .ok (.aload_n 0, 1) := by decide +kernel
theorem dX11_step_14 : decode cX11_step 14 = .ok (.getfield 43, 3) := by decide +kernel
theorem dX11_step_17 : decode cX11_step 17 = .ok (.invokevirtual 217, 3) := by decide +kernel
theorem dX11_step_20 : decode cX11_step 20 = .ok (.aload_n 0, 1) := by decide +kernel
theorem dX11_step_21 : decode cX11_step 21 = .ok (.getfield 43, 3) := by decide +kernel
theorem dX11_step_24 : decode cX11_step 24 = .ok (.iload_n 1, 1) := by decide +kernel
theorem dX11_step_25 : decode cX11_step 25 = .ok (.invokevirtual 220, 3) := by decide +kernel
theorem dX11_step_28 : decode cX11_step 28 = .ok (.istore 4, 2) := by decide +kernel
theorem dX11_step_30 : decode cX11_step 30 = .ok (.iload_n 2, 1) := by decide +kernel
theorem dX11_step_31 : decode cX11_step 31 = .ok (.iconst (-1), 1) := by decide +kernel
theorem dX11_step_32 : decode cX11_step 32 = .ok (.if_icmp .ne 6, 3) := by decide +kernel
theorem dX11_step_35 : decode cX11_step 35 = .ok (.iload 4, 2) := by decide +kernel
theorem dX11_step_37 : decode cX11_step 37 = .ok (.ireturn, 1) := by decide +kernel
theorem dX11_step_38 : decode cX11_step 38 = .ok (.iload_n 2, 1) := by decide +kernel
theorem dX11_step_39 : decode cX11_step 39 = .ok (.ifCond .lt 18, 3) := by decide +kernel
theorem dX11_step_4 : decode cX11_step 4 = .ok (.iload_n 1, 1) := by decide +kernel
theorem dX11_step_42 : decode cX11_step 42 = .ok (.iload_n 2, 1) := by decide +kernel
theorem dX11_step_43 : decode cX11_step 43 = .ok (.iload 4, 2) := by decide +kernel
theorem dX11_step_45 : decode cX11_step 45 = .ok (.if_icmp .ge 12, 3) := by decide +kernel
theorem dX11_step_5 : decode cX11_step 5 = .ok (.invokevirtual 135, 3) := by decide +kernel
theorem dX11_step_57 : decode cX11_step 57 = .ok (.iconst (-1), 1) := by decide +kernel
theorem dX11_step_58 : decode cX11_step 58 = .ok (.ireturn, 1) := by decide +kernel
theorem dX11_step_8 : decode cX11_step 8 = .ok (.ifCond .ne 5, 3) := by decide +kernel
theorem dX11_swapIf_0 : decode cX11_swapIf 0 = .ok (.iload_n 1, 1) := by decide +kernel
theorem dX11_swapIf_1 : decode cX11_swapIf 1 = .ok (.ifCond .lt 19, 3) := by decide +kernel
theorem dX11_swapIf_10 : decode cX11_swapIf 10 = .ok (.aload_n 0, 1) := by decide +kernel
theorem dX11_swapIf_11 : decode cX11_swapIf 11 = .ok (.getfield 27, 3) := by decide +kernel
theorem dX11_swapIf_14 : decode cX11_swapIf 14 = .ok (.invokevirtual 122, 3) := by decide +kernel
theorem dX11_swapIf_17 : decode cX11_swapIf 17 = .ok (.if_icmp .lt 9, 3) := by decide +kernel
theorem dX11_swapIf_20 : decode cX11_swapIf 20 = .ok (.aload_n 0, 1) := by decide +kernel
theorem dX11_swapIf_21 : decode cX11_swapIf 21 = .ok (.iconst (-1), 1) := by decide +kernel
theorem dX11_swapIf_22 : decode cX11_swapIf 22 = .ok (.invokevirtual 118, 3) := by decide +kernel
theorem dX11_swapIf_25 : decode cX11_swapIf 25 = .ok (.ireturn, 1) := by decide +kernel
theorem dX11_swapIf_4 : decode cX11_swapIf 4 = .ok (.iload_n 2, 1) := by decide +kernel
theorem dX11_swapIf_5 : decode cX11_swapIf 5 = .ok (.iload_n 1, 1) := by decide +kernel
theorem dX11_swapIf_6 : decode cX11_swapIf 6 = .ok (.if_icmp .le 14, 3) := by decide +kernel
theorem dX11_swapIf_9 : decode cX11_swapIf 9 = .ok (.iload_n 2, 1) := by decide +kernel
theorem dX11_terms_0 : decode cX11_terms 0 = .ok (.iload_n 1, 1) := by decide +kernel
theorem dX11_terms_1 : decode cX11_terms 1 = .ok (.ifCond .ne 7, 3) := by decide +kernel
theorem dX11_terms_10 : decode cX11_terms 10 = .ok (.istore_n 3, 1) := by decide +kernel
theorem dX11_terms_11 : decode cX11_terms 11 = .ok (.iload_n 1, 1) := by decide +kernel
theorem dX11_terms_12 : decode cX11_terms 12 = .ok (.ifCond .lt 17, 3) := by decide +kernel
theorem dX11_terms_15 : decode cX11_terms 15 = .ok (.iload_n 1, 1) := by decide +kernel
theorem dX11_terms_16 : decode cX11_terms 16 = .ok (.iconst 1, 1) := by decide +kernel
theorem dX11_terms_17 : decode cX11_terms 17 = .ok (.if_icmp .gt 12, 3) := by decide +kernel
theorem dX11_terms_20 : decode cX11_terms 20 = .ok (.iload_n 2, 1) := by decide +kernel
theorem dX11_terms_21 : decode cX11_terms 21 = .ok (.ifCond .lt 8, 3) := by decide +kernel
theorem dX11_terms_24 : decode cX11_terms 24 = .ok (.iload_n 2, 1) := by decide +kernel
theorem dX11_terms_25 : decode cX11_terms 25 = .ok (.iload_n 3, 1) := by decide +kernel
theorem dX11_terms_26 : decode cX11_terms 26 = .ok (.if_icmp .le 9, 3) := by decide +kernel
theorem dX11_terms_29 : decode cX11_terms 29 = .ok (.aload_n 0, 1) := by decide +kernel
theorem dX11_terms_30 : decode cX11_terms 30 = .ok (.iconst (-1), 1) := by decide +kernel
theorem dX11_terms_31 : decode cX11_terms 31 = .ok (.invokevirtual 118, 3) := by decide +kernel
theorem dX11_terms_34 : decode cX11_terms 34 = .ok (.ireturn, 1) := by decide +kernel
theorem dX11_terms_35 : decode cX11_terms 35 = .ok (.aload_n 0, 1) := by decide +kernel
theorem dX11_terms_36 : decode cX11_terms 36 = .ok (.getfield 10, 3) := by decide +kernel
theorem dX11_terms_39 : decode cX11_terms 39 = .ok (.getfield 145, 3) := by decide +kernel
theorem dX11_terms_4 : decode cX11_terms 4 = .ok (.iconst 1, 1) := by decide +kernel
theorem dX11_terms_42 : decode cX11_terms 42 = .ok (.iload_n 1, 1) := by decide +kernel
theorem dX11_terms_43 : decode cX11_terms 43 = .ok (.iaload, 1) := by decide +kernel
theorem dX11_terms_44 : decode cX11_terms 44 = .ok (.istore 4, 2) := by decide +kernel
theorem dX11_terms_46 : decode cX11_terms 46 = .ok (.aload_n 0, 1) := by decide +kernel
theorem dX11_terms_47 : decode cX11_terms 47 = .ok (.getfield 10, 3) := by decide +kernel
theorem dX11_terms_5 : decode cX11_terms 5 = .ok (.goto 5, 3) := by decide +kernel
theorem dX11_terms_50 : decode cX11_terms 50 = .ok (.getfield 145, 3) := by decide +kernel
theorem dX11_terms_53 : decode cX11_terms 53 = .ok (.iload_n 1, 1) := by decide +kernel
theorem dX11_terms_54 : decode cX11_terms 54 = .ok (.iload_n 2, 1) := by decide +kernel
theorem dX11_terms_55 : decode cX11_terms 55 = .ok (.iastore, 1) := by decide +kernel
theorem dX11_terms_56 : decode cX11_terms 56 = .ok (.aload_n 0, 1) := by decide +kernel
theorem dX11_terms_57 : decode cX11_terms 57 = .ok (.getfield 43, 3) := by decide +kernel
theorem dX11_terms_60 : decode cX11_terms 60 = .ok (.invokevirtual 148, 3) := by decide +kernel
theorem dX11_terms_63 : decode cX11_terms 63 = .ok (.aload_n 0, 1) := by decide +kernel
theorem dX11_terms_64 : decode cX11_terms 64 = .ok (.iload 4, 2) := by decide +kernel
theorem dX11_terms_66 : decode cX11_terms 66 = .ok (.invokevirtual 129, 3) := by decide +kernel
theorem dX11_terms_69 : decode cX11_terms 69 = .ok (.ireturn, 1) := by decide +kernel
theorem dX11_terms_8 : decode cX11_terms 8 = .ok (.bipush 99, 2) := by decide +kernel
theorem dX11_wall_0 : decode cX11_wall 0 = .ok (.aload_n 0, 1) := by decide +kernel
theorem dX11_wall_1 : decode cX11_wall 1 = .ok (.getfield 27, 3) := by decide +kernel
theorem dX11_wall_11 : decode cX11_wall 11 = .ok (.aload_n 0, 1) := by decide +kernel
theorem dX11_wall_12 : decode cX11_wall 12 = .ok (.getfield 27, 3) := by decide +kernel
theorem dX11_wall_15 : decode cX11_wall 15 = .ok (.iload_n 2, 1) := by decide +kernel
theorem dX11_wall_16 : decode cX11_wall 16 = .ok (.invokevirtual 135, 3) := by decide +kernel
theorem dX11_wall_19 : decode cX11_wall 19 = .ok (.ifCond .ne 10, 3) := by decide +kernel
theorem dX11_wall_22 : decode cX11_wall 22 = .ok (.aload_n 0, 1) := by decide +kernel
theorem dX11_wall_23 : decode cX11_wall 23 = .ok (.bipush (-2), 2) := by decide +kernel
theorem dX11_wall_25 : decode cX11_wall 25 = .ok (.invokevirtual 118, 3) := by decide +kernel
theorem dX11_wall_28 : decode cX11_wall 28 = .ok (.ireturn, 1) := by decide +kernel
theorem dX11_wall_29 : decode cX11_wall 29 = .ok (.iload_n 1, 1) := by decide +kernel
theorem dX11_wall_30 : decode cX11_wall 30 = .ok (.iload_n 2, 1) := by decide +kernel
theorem dX11_wall_31 : decode cX11_wall 31 = .ok (.if_icmp .eq 16, 3) := by decide +kernel
theorem dX11_wall_4 : decode cX11_wall 4 = .ok (.iload_n 1, 1) := by decide +kernel
theorem dX11_wall_47 : decode cX11_wall 47 = .ok (.aload_n 0, 1) := by decide +kernel
theorem dX11_wall_48 : decode cX11_wall 48 = .ok (.bipush (-3), 2) := by decide +kernel
theorem dX11_wall_5 : decode cX11_wall 5 = .ok (.invokevirtual 135, 3) := by decide +kernel
theorem dX11_wall_50 : decode cX11_wall 50 = .ok (.invokevirtual 118, 3) := by decide +kernel
theorem dX11_wall_53 : decode cX11_wall 53 = .ok (.ireturn, 1) := by decide +kernel
theorem dX11_wall_8 : decode cX11_wall 8 = .ok (.ifCond .eq 14, 3) := by decide +kernel
theorem dX11_way_0 : decode cX11_way 0 = .ok (.aload_n 0, 1) := by decide +kernel
theorem dX11_way_1 : decode cX11_way 1 = .ok (.getfield 27, 3) := by decide +kernel
theorem dX11_way_11 : decode cX11_way 11 = .ok (.aload_n 0, 1) := by decide +kernel
theorem dX11_way_12 : decode cX11_way 12 = .ok (.getfield 27, 3) := by decide +kernel
theorem dX11_way_15 : decode cX11_way 15 = .ok (.iload_n 2, 1) := by decide +kernel
theorem dX11_way_16 : decode cX11_way 16 = .ok (.invokevirtual 135, 3) := by decide +kernel
theorem dX11_way_19 : decode cX11_way 19 = .ok (.ifCond .ne 5, 3) := by decide +kernel
theorem dX11_way_22 : decode cX11_way 22 = .ok (.iconst (-1), 1) := by decide +kernel
theorem dX11_way_23 : decode cX11_way 23 = .ok (.ireturn, 1) := by decide +kernel
theorem dX11_way_24 : decode cX11_way 24 = .ok (.aload_n 0, 1) := by decide +kernel
theorem dX11_way_25 : decode cX11_way 25 = .ok (.getfield 43, 3) := by decide +kernel
theorem dX11_way_28 : decode cX11_way 28 = .ok (.invokevirtual 217, 3) := by decide +kernel
theorem dX11_way_31 : decode cX11_way 31 = .ok (.aload_n 0, 1) := by decide +kernel
theorem dX11_way_32 : decode cX11_way 32 = .ok (.getfield 52, 3) := by decide +kernel
theorem dX11_way_35 : decode cX11_way 35 = .ok (.iload_n 1, 1) := by decide +kernel
theorem dX11_way_36 : decode cX11_way 36 = .ok (.iload_n 2, 1) := by decide +kernel
theorem dX11_way_37 : decode cX11_way 37 = .ok (.iload_n 3, 1) := by decide +kernel
theorem dX11_way_38 : decode cX11_way 38 = .ok (.invokevirtual 238, 3) := by decide +kernel
theorem dX11_way_4 : decode cX11_way 4 = .ok (.iload_n 1, 1) := by decide +kernel
theorem dX11_way_41 : decode cX11_way 41 = .ok (.ireturn, 1) := by decide +kernel
theorem dX11_way_5 : decode cX11_way 5 = .ok (.invokevirtual 135, 3) := by decide +kernel
theorem dX11_way_8 : decode cX11_way 8 = .ok (.ifCond .eq 14, 3) := by decide +kernel
theorem dX12_ask_0 : decode cX12_ask 0 = .ok (.iload_n 1, 1) := by decide +kernel
theorem dX12_ask_1 : decode cX12_ask 1 = .ok (.iconst 0, 1) := by decide +kernel
theorem dX12_ask_10 : decode cX12_ask 10 = .ok (.invokevirtual 363, 3) := by decide +kernel
theorem dX12_ask_100 : decode cX12_ask 100 = .ok (.iload 6, 2) := by decide +kernel
theorem dX12_ask_102 : decode cX12_ask 102 = .ok (.iaload, 1) := by decide +kernel
theorem dX12_ask_103 : decode cX12_ask 103 = .ok (.iconst (-1), 1) := by decide +kernel
theorem dX12_ask_104 : decode cX12_ask 104 = .ok (.if_icmp .ne 10, 3) := by decide +kernel
theorem dX12_ask_114 : decode cX12_ask 114 = .ok (.aload_n 0, 1) := by decide +kernel
theorem dX12_ask_115 : decode cX12_ask 115 = .ok (.getfield 85, 3) := by decide +kernel
theorem dX12_ask_118 : decode cX12_ask 118 = .ok (.iload 6, 2) := by decide +kernel
theorem dX12_ask_120 : decode cX12_ask 120 = .ok (.iaload, 1) := by decide +kernel
theorem dX12_ask_121 : decode cX12_ask 121 = .ok (.istore 7, 2) := by decide +kernel
theorem dX12_ask_123 : decode cX12_ask 123 = .ok (.aload_n 0, 1) := by decide +kernel
theorem dX12_ask_124 : decode cX12_ask 124 = .ok (.getfield 126, 3) := by decide +kernel
theorem dX12_ask_127 : decode cX12_ask 127 = .ok (.iload 7, 2) := by decide +kernel
theorem dX12_ask_129 : decode cX12_ask 129 = .ok (.dup2, 1) := by decide +kernel
theorem dX12_ask_13 : decode cX12_ask 13 = .ok (.ifCond .ne 5, 3) := by decide +kernel
theorem dX12_ask_130 : decode cX12_ask 130 = .ok (.iaload, 1) := by decide +kernel
theorem dX12_ask_131 : decode cX12_ask 131 = .ok (.iconst 1, 1) := by decide +kernel
theorem dX12_ask_132 : decode cX12_ask 132 = .ok (.iadd, 1) := by decide +kernel
theorem dX12_ask_133 : decode cX12_ask 133 = .ok (.iastore, 1) := by decide +kernel
theorem dX12_ask_134 : decode cX12_ask 134 = .ok (.aload_n 0, 1) := by decide +kernel
theorem dX12_ask_135 : decode cX12_ask 135 = .ok (.getfield 126, 3) := by decide +kernel
theorem dX12_ask_138 : decode cX12_ask 138 = .ok (.iload 7, 2) := by decide +kernel
theorem dX12_ask_140 : decode cX12_ask 140 = .ok (.iaload, 1) := by decide +kernel
theorem dX12_ask_141 : decode cX12_ask 141 = .ok (.iload 5, 2) := by decide +kernel
theorem dX12_ask_143 : decode cX12_ask 143 = .ok (.if_icmp .le 13, 3) := by decide +kernel
theorem dX12_ask_146 : decode cX12_ask 146 = .ok (.aload_n 0, 1) := by decide +kernel
theorem dX12_ask_147 : decode cX12_ask 147 = .ok (.getfield 126, 3) := by decide +kernel
theorem dX12_ask_150 : decode cX12_ask 150 = .ok (.iload 7, 2) := by decide +kernel
theorem dX12_ask_152 : decode cX12_ask 152 = .ok (.iaload, 1) := by decide +kernel
theorem dX12_ask_153 : decode cX12_ask 153 = .ok (.goto 5, 3) := by decide +kernel
theorem dX12_ask_158 : decode cX12_ask 158 = .ok (.istore 5, 2) := by decide +kernel
theorem dX12_ask_16 : decode cX12_ask 16 = .ok (.iconst (-1), 1) := by decide +kernel
theorem dX12_ask_160 : decode cX12_ask 160 = .ok (.iinc 6 1, 3) := by decide +kernel
theorem dX12_ask_163 : decode cX12_ask 163 = .ok (.goto (-89), 3) := by decide +kernel
theorem dX12_ask_166 : decode cX12_ask 166 = .ok (.iload 5, 2) := by decide +kernel
theorem dX12_ask_168 : decode cX12_ask 168 = .ok (.iload_n 3, 1) := by decide +kernel
theorem dX12_ask_169 : decode cX12_ask 169 = .ok (.if_icmp .lt 6, 3) := by decide +kernel
theorem dX12_ask_17 : decode cX12_ask 17 = .ok (.ireturn, 1) := by decide +kernel
theorem dX12_ask_175 : decode cX12_ask 175 = .ok (.iload 5, 2) := by decide +kernel
theorem dX12_ask_177 : decode cX12_ask 177 = .ok (.istore_n 3, 1) := by decide +kernel
theorem dX12_ask_178 : decode cX12_ask 178 = .ok (.iload 4, 2) := by decide +kernel
theorem dX12_ask_18 : decode cX12_ask 18 = .ok (.iconst (-1), 1) := by decide +kernel
theorem dX12_ask_180 : decode cX12_ask 180 = .ok (.istore_n 2, 1) := by decide +kernel
theorem dX12_ask_181 : decode cX12_ask 181 = .ok (.iinc 4 1, 3) := by decide +kernel
theorem dX12_ask_184 : decode cX12_ask 184 = .ok (.goto (-158), 3) := by decide +kernel
theorem dX12_ask_187 : decode cX12_ask 187 = .ok (.iload_n 1, 1) := by decide +kernel
theorem dX12_ask_188 : decode cX12_ask 188 = .ok (.ifCond .ne 7, 3) := by decide +kernel
theorem dX12_ask_19 : decode cX12_ask 19 = .ok (.istore_n 2, 1) := by decide +kernel
theorem dX12_ask_191 : decode cX12_ask 191 = .ok (.iload_n 2, 1) := by decide +kernel
theorem dX12_ask_192 : decode cX12_ask 192 = .ok (.goto 4, 3) := by decide +kernel
theorem dX12_ask_195 : decode cX12_ask 195 = .ok (.iload_n 3, 1) := by decide +kernel
theorem dX12_ask_196 : decode cX12_ask 196 = .ok (.ireturn, 1) := by decide +kernel
theorem dX12_ask_2 : decode cX12_ask 2 = .ok (.iconst 1, 1) := by decide +kernel
theorem dX12_ask_20 : decode cX12_ask 20 = .ok (.ldc 179, 2) := by decide +kernel
theorem dX12_ask_22 : decode cX12_ask 22 = .ok (.istore_n 3, 1) := by decide +kernel
theorem dX12_ask_23 : decode cX12_ask 23 = .ok (.iconst 0, 1) := by decide +kernel
theorem dX12_ask_24 : decode cX12_ask 24 = .ok (.istore 4, 2) := by decide +kernel
theorem dX12_ask_26 : decode cX12_ask 26 = .ok (.iload 4, 2) := by decide +kernel
theorem dX12_ask_28 : decode cX12_ask 28 = .ok (.aload_n 0, 1) := by decide +kernel
theorem dX12_ask_29 : decode cX12_ask 29 = .ok (.getfield 298, 3) := by decide +kernel
theorem dX12_ask_3 : decode cX12_ask 3 = .ok (.invokestatic 138, 3) := by decide +kernel
theorem dX12_ask_32 : decode cX12_ask 32 = .ok (.if_icmp .ge 155, 3) := by decide +kernel
theorem dX12_ask_35 : decode cX12_ask 35 = .ok (.aload_n 0, 1) := by decide +kernel
theorem dX12_ask_36 : decode cX12_ask 36 = .ok (.iload 4, 2) := by decide +kernel
theorem dX12_ask_38 : decode cX12_ask 38 = .ok (.invokevirtual 334, 3) := by decide +kernel
theorem dX12_ask_41 : decode cX12_ask 41 = .ok (.pop, 1) := by decide +kernel
theorem dX12_ask_42 : decode cX12_ask 42 = .ok (.iconst 0, 1) := by decide +kernel
theorem dX12_ask_43 : decode cX12_ask 43 = .ok (.istore 5, 2) := by decide +kernel
theorem dX12_ask_45 : decode cX12_ask 45 = .ok (.iload 5, 2) := by decide +kernel
theorem dX12_ask_47 : decode cX12_ask 47 = .ok (.aload_n 0, 1) := by decide +kernel
theorem dX12_ask_48 : decode cX12_ask 48 = .ok (.getfield 298, 3) := by decide +kernel
theorem dX12_ask_51 : decode cX12_ask 51 = .ok (.if_icmp .gt 17, 3) := by decide +kernel
theorem dX12_ask_54 : decode cX12_ask 54 = .ok (.aload_n 0, 1) := by decide +kernel
theorem dX12_ask_55 : decode cX12_ask 55 = .ok (.getfield 126, 3) := by decide +kernel
theorem dX12_ask_58 : decode cX12_ask 58 = .ok (.iload 5, 2) := by decide +kernel
theorem dX12_ask_6 : decode cX12_ask 6 = .ok (.ifCond .eq 10, 3) := by decide +kernel
theorem dX12_ask_60 : decode cX12_ask 60 = .ok (.iconst 0, 1) := by decide +kernel
theorem dX12_ask_61 : decode cX12_ask 61 = .ok (.iastore, 1) := by decide +kernel
theorem dX12_ask_62 : decode cX12_ask 62 = .ok (.iinc 5 1, 3) := by decide +kernel
theorem dX12_ask_65 : decode cX12_ask 65 = .ok (.goto (-20), 3) := by decide +kernel
theorem dX12_ask_68 : decode cX12_ask 68 = .ok (.iconst 0, 1) := by decide +kernel
theorem dX12_ask_69 : decode cX12_ask 69 = .ok (.istore 5, 2) := by decide +kernel
theorem dX12_ask_71 : decode cX12_ask 71 = .ok (.iconst 0, 1) := by decide +kernel
theorem dX12_ask_72 : decode cX12_ask 72 = .ok (.istore 6, 2) := by decide +kernel
theorem dX12_ask_74 : decode cX12_ask 74 = .ok (.iload 6, 2) := by decide +kernel
theorem dX12_ask_76 : decode cX12_ask 76 = .ok (.aload_n 0, 1) := by decide +kernel
theorem dX12_ask_77 : decode cX12_ask 77 = .ok (.getfield 298, 3) := by decide +kernel
theorem dX12_ask_80 : decode cX12_ask 80 = .ok (.if_icmp .ge 86, 3) := by decide +kernel
theorem dX12_ask_83 : decode cX12_ask 83 = .ok (.aload_n 0, 1) := by decide +kernel
theorem dX12_ask_84 : decode cX12_ask 84 = .ok (.getfield 123, 3) := by decide +kernel
theorem dX12_ask_87 : decode cX12_ask 87 = .ok (.iload 6, 2) := by decide +kernel
theorem dX12_ask_89 : decode cX12_ask 89 = .ok (.baload, 1) := by decide +kernel
theorem dX12_ask_9 : decode cX12_ask 9 = .ok (.aload_n 0, 1) := by decide +kernel
theorem dX12_ask_90 : decode cX12_ask 90 = .ok (.ifCond .ne 6, 3) := by decide +kernel
theorem dX12_ask_96 : decode cX12_ask 96 = .ok (.aload_n 0, 1) := by decide +kernel
theorem dX12_ask_97 : decode cX12_ask 97 = .ok (.getfield 85, 3) := by decide +kernel
theorem dX12_back_0 : decode cX12_back 0 = .ok (.iload_n 1, 1) := by decide +kernel
theorem dX12_back_1 : decode cX12_back 1 = .ok (.iconst 0, 1) := by decide +kernel
theorem dX12_back_10 : decode cX12_back 10 = .ok (.iconst (-1), 1) := by decide +kernel
theorem dX12_back_11 : decode cX12_back 11 = .ok (.invokevirtual 142, 3) := by decide +kernel
theorem dX12_back_14 : decode cX12_back 14 = .ok (.ireturn, 1) := by decide +kernel
theorem dX12_back_15 : decode cX12_back 15 = .ok (.aload_n 0, 1) := by decide +kernel
theorem dX12_back_16 : decode cX12_back 16 = .ok (.getfield 26, 3) := by decide +kernel
theorem dX12_back_19 : decode cX12_back 19 = .ok (.iload_n 1, 1) := by decide +kernel
theorem dX12_back_2 : decode cX12_back 2 = .ok (.iconst 1, 1) := by decide +kernel
theorem dX12_back_20 : decode cX12_back 20 = .ok (.baload, 1) := by decide +kernel
theorem dX12_back_21 : decode cX12_back 21 = .ok (.ifCond .ne 10, 3) := by decide +kernel
theorem dX12_back_24 : decode cX12_back 24 = .ok (.aload_n 0, 1) := by decide +kernel
theorem dX12_back_25 : decode cX12_back 25 = .ok (.bipush (-2), 2) := by decide +kernel
theorem dX12_back_27 : decode cX12_back 27 = .ok (.invokevirtual 142, 3) := by decide +kernel
theorem dX12_back_3 : decode cX12_back 3 = .ok (.invokestatic 138, 3) := by decide +kernel
theorem dX12_back_30 : decode cX12_back 30 = .ok (.ireturn, 1) := by decide +kernel
theorem dX12_back_6 : decode cX12_back 6 = .ok (.ifCond .ne 9, 3) := by decide +kernel
theorem dX12_back_9 : decode cX12_back 9 = .ok (.aload_n 0, 1) := by decide +kernel
theorem dX12_beans_0 : decode cX12_beans 0 = .ok (.iload_n 1, 1) := by decide +kernel
theorem dX12_beans_1 : decode cX12_beans 1 = .ok (.iconst 0, 1) := by decide +kernel
theorem dX12_beans_10 : decode cX12_beans 10 = .ok (.iconst 0, 1) := by decide +kernel
theorem dX12_beans_11 : decode cX12_beans 11 = .ok (.bipush 7, 2) := by decide +kernel
theorem dX12_beans_13 : decode cX12_beans 13 = .ok (.invokestatic 138, 3) := by decide +kernel
theorem dX12_beans_16 : decode cX12_beans 16 = .ok (.ifCond .eq 23, 3) := by decide +kernel
theorem dX12_beans_19 : decode cX12_beans 19 = .ok (.aload_n 0, 1) := by decide +kernel
theorem dX12_beans_2 : decode cX12_beans 2 = .ok (.iconst 4, 1) := by decide +kernel
theorem dX12_beans_20 : decode cX12_beans 20 = .ok (.invokevirtual 149, 3) := by decide +kernel
theorem dX12_beans_23 : decode cX12_beans 23 = .ok (.aload_n 0, 1) := by decide +kernel
theorem dX12_beans_24 : decode cX12_beans 24 = .ok (.getfield 20, 3) := by decide +kernel
theorem dX12_beans_27 : decode cX12_beans 27 = .ok (.iconst 0, 1) := by decide +kernel
theorem dX12_beans_28 : decode cX12_beans 28 = .ok (.iload_n 1, 1) := by decide +kernel
theorem dX12_beans_29 : decode cX12_beans 29 = .ok (.iadd, 1) := by decide +kernel
theorem dX12_beans_3 : decode cX12_beans 3 = .ok (.invokestatic 138, 3) := by decide +kernel
theorem dX12_beans_30 : decode cX12_beans 30 = .ok (.iaload, 1) := by decide +kernel
theorem dX12_beans_31 : decode cX12_beans 31 = .ok (.isub, 1) := by decide +kernel
theorem dX12_beans_32 : decode cX12_beans 32 = .ok (.iload_n 2, 1) := by decide +kernel
theorem dX12_beans_33 : decode cX12_beans 33 = .ok (.iadd, 1) := by decide +kernel
theorem dX12_beans_34 : decode cX12_beans 34 = .ok (.bipush 7, 2) := by decide +kernel
theorem dX12_beans_36 : decode cX12_beans 36 = .ok (.if_icmp .le 9, 3) := by decide +kernel
theorem dX12_beans_39 : decode cX12_beans 39 = .ok (.aload_n 0, 1) := by decide +kernel
theorem dX12_beans_40 : decode cX12_beans 40 = .ok (.iconst (-1), 1) := by decide +kernel
theorem dX12_beans_41 : decode cX12_beans 41 = .ok (.invokevirtual 142, 3) := by decide +kernel
theorem dX12_beans_44 : decode cX12_beans 44 = .ok (.ireturn, 1) := by decide +kernel
theorem dX12_beans_45 : decode cX12_beans 45 = .ok (.aload_n 0, 1) := by decide +kernel
theorem dX12_beans_46 : decode cX12_beans 46 = .ok (.getfield 20, 3) := by decide +kernel
theorem dX12_beans_49 : decode cX12_beans 49 = .ok (.iconst 0, 1) := by decide +kernel
theorem dX12_beans_50 : decode cX12_beans 50 = .ok (.iload_n 1, 1) := by decide +kernel
theorem dX12_beans_51 : decode cX12_beans 51 = .ok (.iadd, 1) := by decide +kernel
theorem dX12_beans_52 : decode cX12_beans 52 = .ok (.iaload, 1) := by decide +kernel
theorem dX12_beans_53 : decode cX12_beans 53 = .ok (.istore_n 3, 1) := by decide +kernel
theorem dX12_beans_54 : decode cX12_beans 54 = .ok (.aload_n 0, 1) := by decide +kernel
theorem dX12_beans_55 : decode cX12_beans 55 = .ok (.getfield 20, 3) := by decide +kernel
theorem dX12_beans_58 : decode cX12_beans 58 = .ok (.iconst 0, 1) := by decide +kernel
theorem dX12_beans_59 : decode cX12_beans 59 = .ok (.iload_n 1, 1) := by decide +kernel
theorem dX12_beans_6 : decode cX12_beans 6 = .ok (.ifCond .eq 33, 3) := by decide +kernel
theorem dX12_beans_60 : decode cX12_beans 60 = .ok (.iadd, 1) := by decide +kernel
theorem dX12_beans_61 : decode cX12_beans 61 = .ok (.iload_n 2, 1) := by decide +kernel
theorem dX12_beans_62 : decode cX12_beans 62 = .ok (.iastore, 1) := by decide +kernel
theorem dX12_beans_63 : decode cX12_beans 63 = .ok (.aload_n 0, 1) := by decide +kernel
theorem dX12_beans_64 : decode cX12_beans 64 = .ok (.invokevirtual 153, 3) := by decide +kernel
theorem dX12_beans_67 : decode cX12_beans 67 = .ok (.aload_n 0, 1) := by decide +kernel
theorem dX12_beans_68 : decode cX12_beans 68 = .ok (.iload_n 3, 1) := by decide +kernel
theorem dX12_beans_69 : decode cX12_beans 69 = .ok (.invokevirtual 146, 3) := by decide +kernel
theorem dX12_beans_72 : decode cX12_beans 72 = .ok (.ireturn, 1) := by decide +kernel
theorem dX12_beans_9 : decode cX12_beans 9 = .ok (.iload_n 2, 1) := by decide +kernel
theorem dX12_breach_0 : decode cX12_breach 0 = .ok (.aload_n 0, 1) := by decide +kernel
theorem dX12_breach_1 : decode cX12_breach 1 = .ok (.iload_n 1, 1) := by decide +kernel
theorem dX12_breach_10 : decode cX12_breach 10 = .ok (.invokevirtual 325, 3) := by decide +kernel
theorem dX12_breach_13 : decode cX12_breach 13 = .ok (.ifCond .ne 10, 3) := by decide +kernel
theorem dX12_breach_16 : decode cX12_breach 16 = .ok (.aload_n 0, 1) := by decide +kernel
theorem dX12_breach_17 : decode cX12_breach 17 = .ok (.bipush (-2), 2) := by decide +kernel
theorem dX12_breach_19 : decode cX12_breach 19 = .ok (.invokevirtual 142, 3) := by decide +kernel
theorem dX12_breach_2 : decode cX12_breach 2 = .ok (.invokevirtual 325, 3) := by decide +kernel
theorem dX12_breach_22 : decode cX12_breach 22 = .ok (.ireturn, 1) := by decide +kernel
theorem dX12_breach_23 : decode cX12_breach 23 = .ok (.iload_n 1, 1) := by decide +kernel
theorem dX12_breach_24 : decode cX12_breach 24 = .ok (.iload_n 2, 1) := by decide +kernel
theorem dX12_breach_25 : decode cX12_breach 25 = .ok (.if_icmp .eq 12, 3) := by decide +kernel
theorem dX12_breach_37 : decode cX12_breach 37 = .ok (.aload_n 0, 1) := by decide +kernel
theorem dX12_breach_38 : decode cX12_breach 38 = .ok (.bipush (-3), 2) := by decide +kernel
theorem dX12_breach_40 : decode cX12_breach 40 = .ok (.invokevirtual 142, 3) := by decide +kernel
theorem dX12_breach_43 : decode cX12_breach 43 = .ok (.ireturn, 1) := by decide +kernel
theorem dX12_breach_5 : decode cX12_breach 5 = .ok (.ifCond .eq 11, 3) := by decide +kernel
theorem dX12_breach_8 : decode cX12_breach 8 = .ok (.aload_n 0, 1) := by decide +kernel
theorem dX12_breach_9 : decode cX12_breach 9 = .ok (.iload_n 2, 1) := by decide +kernel
theorem dX12_clue_0 : decode cX12_clue 0 = .ok (.iload_n 2, 1) := by decide +kernel
theorem dX12_clue_1 : decode cX12_clue 1 = .ok (.iconst (-1), 1) := by decide +kernel
theorem dX12_clue_10 : decode cX12_clue 10 = .ok (.ireturn, 1) := by decide +kernel
theorem dX12_clue_11 : decode cX12_clue 11 = .ok (.aload_n 0, 1) := by decide +kernel
theorem dX12_clue_12 : decode cX12_clue 12 = .ok (.iload_n 1, 1) := by decide +kernel
theorem dX12_clue_13 : decode cX12_clue 13 = .ok (.invokevirtual 325, 3) := by decide +kernel
theorem dX12_clue_16 : decode cX12_clue 16 = .ok (.ifCond .ne 10, 3) := by decide +kernel
theorem dX12_clue_19 : decode cX12_clue 19 = .ok (.aload_n 0, 1) := by decide +kernel
theorem dX12_clue_2 : decode cX12_clue 2 = .ok (.if_icmp .ge 9, 3) := by decide +kernel
theorem dX12_clue_20 : decode cX12_clue 20 = .ok (.bipush (-2), 2) := by decide +kernel
theorem dX12_clue_22 : decode cX12_clue 22 = .ok (.invokevirtual 142, 3) := by decide +kernel
theorem dX12_clue_25 : decode cX12_clue 25 = .ok (.ireturn, 1) := by decide +kernel
theorem dX12_clue_26 : decode cX12_clue 26 = .ok (.aload_n 0, 1) := by decide +kernel
theorem dX12_clue_27 : decode cX12_clue 27 = .ok (.getfield 20, 3) := by decide +kernel
theorem dX12_clue_30 : decode cX12_clue 30 = .ok (.bipush 61, 2) := by decide +kernel
theorem dX12_clue_32 : decode cX12_clue 32 = .ok (.iaload, 1) := by decide +kernel
theorem dX12_clue_33 : decode cX12_clue 33 = .ok (.istore_n 3, 1) := by decide +kernel
theorem dX12_clue_34 : decode cX12_clue 34 = .ok (.iload_n 3, 1) := by decide +kernel
theorem dX12_clue_35 : decode cX12_clue 35 = .ok (.bipush 6, 2) := by decide +kernel
theorem dX12_clue_37 : decode cX12_clue 37 = .ok (.if_icmp .ne 10, 3) := by decide +kernel
theorem dX12_clue_47 : decode cX12_clue 47 = .ok (.aload_n 0, 1) := by decide +kernel
theorem dX12_clue_48 : decode cX12_clue 48 = .ok (.getfield 20, 3) := by decide +kernel
theorem dX12_clue_5 : decode cX12_clue 5 = .ok (.aload_n 0, 1) := by decide +kernel
theorem dX12_clue_51 : decode cX12_clue 51 = .ok (.bipush 47, 2) := by decide +kernel
theorem dX12_clue_53 : decode cX12_clue 53 = .ok (.iconst 2, 1) := by decide +kernel
theorem dX12_clue_54 : decode cX12_clue 54 = .ok (.iload_n 3, 1) := by decide +kernel
theorem dX12_clue_55 : decode cX12_clue 55 = .ok (.imul, 1) := by decide +kernel
theorem dX12_clue_56 : decode cX12_clue 56 = .ok (.iadd, 1) := by decide +kernel
theorem dX12_clue_57 : decode cX12_clue 57 = .ok (.iload_n 1, 1) := by decide +kernel
theorem dX12_clue_58 : decode cX12_clue 58 = .ok (.iastore, 1) := by decide +kernel
theorem dX12_clue_59 : decode cX12_clue 59 = .ok (.aload_n 0, 1) := by decide +kernel
theorem dX12_clue_6 : decode cX12_clue 6 = .ok (.iconst (-1), 1) := by decide +kernel
theorem dX12_clue_60 : decode cX12_clue 60 = .ok (.getfield 20, 3) := by decide +kernel
theorem dX12_clue_63 : decode cX12_clue 63 = .ok (.bipush 47, 2) := by decide +kernel
theorem dX12_clue_65 : decode cX12_clue 65 = .ok (.iconst 2, 1) := by decide +kernel
theorem dX12_clue_66 : decode cX12_clue 66 = .ok (.iload_n 3, 1) := by decide +kernel
theorem dX12_clue_67 : decode cX12_clue 67 = .ok (.imul, 1) := by decide +kernel
theorem dX12_clue_68 : decode cX12_clue 68 = .ok (.iadd, 1) := by decide +kernel
theorem dX12_clue_69 : decode cX12_clue 69 = .ok (.iconst 1, 1) := by decide +kernel
theorem dX12_clue_7 : decode cX12_clue 7 = .ok (.invokevirtual 142, 3) := by decide +kernel
theorem dX12_clue_70 : decode cX12_clue 70 = .ok (.iadd, 1) := by decide +kernel
theorem dX12_clue_71 : decode cX12_clue 71 = .ok (.iload_n 2, 1) := by decide +kernel
theorem dX12_clue_72 : decode cX12_clue 72 = .ok (.iastore, 1) := by decide +kernel
theorem dX12_clue_73 : decode cX12_clue 73 = .ok (.aload_n 0, 1) := by decide +kernel
theorem dX12_clue_74 : decode cX12_clue 74 = .ok (.getfield 20, 3) := by decide +kernel
theorem dX12_clue_77 : decode cX12_clue 77 = .ok (.bipush 61, 2) := by decide +kernel
theorem dX12_clue_79 : decode cX12_clue 79 = .ok (.dup2, 1) := by decide +kernel
theorem dX12_clue_80 : decode cX12_clue 80 = .ok (.iaload, 1) := by decide +kernel
theorem dX12_clue_81 : decode cX12_clue 81 = .ok (.iconst 1, 1) := by decide +kernel
theorem dX12_clue_82 : decode cX12_clue 82 = .ok (.iadd, 1) := by decide +kernel
theorem dX12_clue_83 : decode cX12_clue 83 = .ok (.iastore, 1) := by decide +kernel
theorem dX12_clue_84 : decode cX12_clue 84 = .ok (.aload_n 0, 1) := by decide +kernel
theorem dX12_clue_85 : decode cX12_clue 85 = .ok (.iload_n 3, 1) := by decide +kernel
theorem dX12_clue_86 : decode cX12_clue 86 = .ok (.iconst 1, 1) := by decide +kernel
theorem dX12_clue_87 : decode cX12_clue 87 = .ok (.iadd, 1) := by decide +kernel
theorem dX12_clue_88 : decode cX12_clue 88 = .ok (.invokevirtual 146, 3) := by decide +kernel
theorem dX12_clue_91 : decode cX12_clue 91 = .ok (.ireturn, 1) := by decide +kernel
theorem dX12_code_0 : decode cX12_code 0 = .ok (.aload_n 0, 1) := by decide +kernel
theorem dX12_code_1 : decode cX12_code 1 = .ok (.iload_n 1, 1) := by decide +kernel
theorem dX12_code_12 : decode cX12_code 12 = .ok (.iload_n 1, 1) := by decide +kernel
theorem dX12_code_13 : decode cX12_code 13 = .ok (.iaload, 1) := by decide +kernel
theorem dX12_code_14 : decode cX12_code 14 = .ok (.goto 4, 3) := by decide +kernel
theorem dX12_code_17 : decode cX12_code 17 = .ok (.iconst (-1), 1) := by decide +kernel
theorem dX12_code_18 : decode cX12_code 18 = .ok (.ireturn, 1) := by decide +kernel
theorem dX12_code_2 : decode cX12_code 2 = .ok (.invokevirtual 325, 3) := by decide +kernel
theorem dX12_code_5 : decode cX12_code 5 = .ok (.ifCond .eq 12, 3) := by decide +kernel
theorem dX12_code_8 : decode cX12_code 8 = .ok (.aload_n 0, 1) := by decide +kernel
theorem dX12_code_9 : decode cX12_code 9 = .ok (.getfield 58, 3) := by decide +kernel
theorem dX12_count_0 : decode cX12_count 0 = .ok (.iload_n 1, 1) := by decide +kernel
theorem dX12_count_1 : decode cX12_count 1 = .ok (.tableswitch 189 0 18 #[91, 96, 96, 96, 96, 96, 107, 115, 123, 131, 139, 144, 144, 144, 154, 161, 169, 177, 177], 91) := by decide +kernel
theorem dX12_count_101 : decode cX12_count 101 = .ok (.iconst 0, 1) := by decide +kernel
theorem dX12_count_102 : decode cX12_count 102 = .ok (.iload_n 1, 1) := by decide +kernel
theorem dX12_count_103 : decode cX12_count 103 = .ok (.iadd, 1) := by decide +kernel
theorem dX12_count_104 : decode cX12_count 104 = .ok (.iconst 1, 1) := by decide +kernel
theorem dX12_count_105 : decode cX12_count 105 = .ok (.isub, 1) := by decide +kernel
theorem dX12_count_106 : decode cX12_count 106 = .ok (.iaload, 1) := by decide +kernel
theorem dX12_count_107 : decode cX12_count 107 = .ok (.ireturn, 1) := by decide +kernel
theorem dX12_count_108 : decode cX12_count 108 = .ok (.aload_n 0, 1) := by decide +kernel
theorem dX12_count_109 : decode cX12_count 109 = .ok (.getfield 20, 3) := by decide +kernel
theorem dX12_count_112 : decode cX12_count 112 = .ok (.bipush 62, 2) := by decide +kernel
theorem dX12_count_114 : decode cX12_count 114 = .ok (.iaload, 1) := by decide +kernel
theorem dX12_count_115 : decode cX12_count 115 = .ok (.ireturn, 1) := by decide +kernel
theorem dX12_count_116 : decode cX12_count 116 = .ok (.aload_n 0, 1) := by decide +kernel
theorem dX12_count_117 : decode cX12_count 117 = .ok (.getfield 20, 3) := by decide +kernel
theorem dX12_count_120 : decode cX12_count 120 = .ok (.bipush 59, 2) := by decide +kernel
theorem dX12_count_122 : decode cX12_count 122 = .ok (.iaload, 1) := by decide +kernel
theorem dX12_count_123 : decode cX12_count 123 = .ok (.ireturn, 1) := by decide +kernel
theorem dX12_count_124 : decode cX12_count 124 = .ok (.aload_n 0, 1) := by decide +kernel
theorem dX12_count_125 : decode cX12_count 125 = .ok (.getfield 20, 3) := by decide +kernel
theorem dX12_count_128 : decode cX12_count 128 = .ok (.bipush 61, 2) := by decide +kernel
theorem dX12_count_130 : decode cX12_count 130 = .ok (.iaload, 1) := by decide +kernel
theorem dX12_count_131 : decode cX12_count 131 = .ok (.ireturn, 1) := by decide +kernel
theorem dX12_count_132 : decode cX12_count 132 = .ok (.aload_n 0, 1) := by decide +kernel
theorem dX12_count_133 : decode cX12_count 133 = .ok (.getfield 20, 3) := by decide +kernel
theorem dX12_count_136 : decode cX12_count 136 = .ok (.bipush 60, 2) := by decide +kernel
theorem dX12_count_138 : decode cX12_count 138 = .ok (.iaload, 1) := by decide +kernel
theorem dX12_count_139 : decode cX12_count 139 = .ok (.ireturn, 1) := by decide +kernel
theorem dX12_count_140 : decode cX12_count 140 = .ok (.aload_n 0, 1) := by decide +kernel
theorem dX12_count_141 : decode cX12_count 141 = .ok (.getfield 156, 3) := by decide +kernel
theorem dX12_count_144 : decode cX12_count 144 = .ok (.ireturn, 1) := by decide +kernel
theorem dX12_count_145 : decode cX12_count 145 = .ok (.aload_n 0, 1) := by decide +kernel
theorem dX12_count_146 : decode cX12_count 146 = .ok (.getfield 7, 3) := by decide +kernel
theorem dX12_count_149 : decode cX12_count 149 = .ok (.iload_n 1, 1) := by decide +kernel
theorem dX12_count_150 : decode cX12_count 150 = .ok (.bipush 10, 2) := by decide +kernel
theorem dX12_count_152 : decode cX12_count 152 = .ok (.isub, 1) := by decide +kernel
theorem dX12_count_153 : decode cX12_count 153 = .ok (.iaload, 1) := by decide +kernel
theorem dX12_count_154 : decode cX12_count 154 = .ok (.ireturn, 1) := by decide +kernel
theorem dX12_count_155 : decode cX12_count 155 = .ok (.aload_n 0, 1) := by decide +kernel
theorem dX12_count_156 : decode cX12_count 156 = .ok (.getfield 7, 3) := by decide +kernel
theorem dX12_count_159 : decode cX12_count 159 = .ok (.iconst 5, 1) := by decide +kernel
theorem dX12_count_160 : decode cX12_count 160 = .ok (.iaload, 1) := by decide +kernel
theorem dX12_count_161 : decode cX12_count 161 = .ok (.ireturn, 1) := by decide +kernel
theorem dX12_count_162 : decode cX12_count 162 = .ok (.aload_n 0, 1) := by decide +kernel
theorem dX12_count_163 : decode cX12_count 163 = .ok (.getfield 7, 3) := by decide +kernel
theorem dX12_count_166 : decode cX12_count 166 = .ok (.bipush 6, 2) := by decide +kernel
theorem dX12_count_168 : decode cX12_count 168 = .ok (.iaload, 1) := by decide +kernel
theorem dX12_count_169 : decode cX12_count 169 = .ok (.ireturn, 1) := by decide +kernel
theorem dX12_count_170 : decode cX12_count 170 = .ok (.aload_n 0, 1) := by decide +kernel
theorem dX12_count_171 : decode cX12_count 171 = .ok (.getfield 20, 3) := by decide +kernel
theorem dX12_count_174 : decode cX12_count 174 = .ok (.bipush 63, 2) := by decide +kernel
theorem dX12_count_176 : decode cX12_count 176 = .ok (.iaload, 1) := by decide +kernel
theorem dX12_count_177 : decode cX12_count 177 = .ok (.ireturn, 1) := by decide +kernel
theorem dX12_count_178 : decode cX12_count 178 = .ok (.aload_n 0, 1) := by decide +kernel
theorem dX12_count_179 : decode cX12_count 179 = .ok (.getfield 20, 3) := by decide +kernel
theorem dX12_count_182 : decode cX12_count 182 = .ok (.iconst 5, 1) := by decide +kernel
theorem dX12_count_183 : decode cX12_count 183 = .ok (.iload_n 1, 1) := by decide +kernel
theorem dX12_count_184 : decode cX12_count 184 = .ok (.iadd, 1) := by decide +kernel
theorem dX12_count_185 : decode cX12_count 185 = .ok (.bipush 17, 2) := by decide +kernel
theorem dX12_count_187 : decode cX12_count 187 = .ok (.isub, 1) := by decide +kernel
theorem dX12_count_188 : decode cX12_count 188 = .ok (.iaload, 1) := by decide +kernel
theorem dX12_count_189 : decode cX12_count 189 = .ok (.ireturn, 1) := by decide +kernel
theorem dX12_count_190 : decode cX12_count 190 = .ok (.iconst (-1), 1) := by decide +kernel
theorem dX12_count_191 : decode cX12_count 191 = .ok (.ireturn, 1) := by decide +kernel
theorem dX12_count_92 : decode cX12_count 92 = .ok (.aload_n 0, 1) := by decide +kernel
theorem dX12_count_93 : decode cX12_count 93 = .ok (.invokevirtual 149, 3) := by decide +kernel
theorem dX12_count_96 : decode cX12_count 96 = .ok (.ireturn, 1) := by decide +kernel
theorem dX12_count_97 : decode cX12_count 97 = .ok (.aload_n 0, 1) := by decide +kernel
theorem dX12_count_98 : decode cX12_count 98 = .ok (.getfield 20, 3) := by decide +kernel
theorem dX12_drawn_0 : decode cX12_drawn 0 = .ok (.iload_n 1, 1) := by decide +kernel
theorem dX12_drawn_1 : decode cX12_drawn 1 = .ok (.iconst 0, 1) := by decide +kernel
theorem dX12_drawn_11 : decode cX12_drawn 11 = .ok (.ifCond .eq 12, 3) := by decide +kernel
theorem dX12_drawn_2 : decode cX12_drawn 2 = .ok (.aload_n 0, 1) := by decide +kernel
theorem dX12_drawn_23 : decode cX12_drawn 23 = .ok (.iconst (-1), 1) := by decide +kernel
theorem dX12_drawn_24 : decode cX12_drawn 24 = .ok (.ireturn, 1) := by decide +kernel
theorem dX12_drawn_3 : decode cX12_drawn 3 = .ok (.getfield 375, 3) := by decide +kernel
theorem dX12_drawn_6 : decode cX12_drawn 6 = .ok (.iconst 1, 1) := by decide +kernel
theorem dX12_drawn_7 : decode cX12_drawn 7 = .ok (.isub, 1) := by decide +kernel
theorem dX12_drawn_8 : decode cX12_drawn 8 = .ok (.invokestatic 138, 3) := by decide +kernel
theorem dX12_drunk_0 : decode cX12_drunk 0 = .ok (.iload_n 1, 1) := by decide +kernel
theorem dX12_drunk_1 : decode cX12_drunk 1 = .ok (.iconst 0, 1) := by decide +kernel
theorem dX12_drunk_10 : decode cX12_drunk 10 = .ok (.iload_n 3, 1) := by decide +kernel
theorem dX12_drunk_100 : decode cX12_drunk 100 = .ok (.istore 5, 2) := by decide +kernel
theorem dX12_drunk_102 : decode cX12_drunk 102 = .ok (.iload 5, 2) := by decide +kernel
theorem dX12_drunk_104 : decode cX12_drunk 104 = .ok (.iload_n 3, 1) := by decide +kernel
theorem dX12_drunk_105 : decode cX12_drunk 105 = .ok (.if_icmp .ge 54, 3) := by decide +kernel
theorem dX12_drunk_108 : decode cX12_drunk 108 = .ok (.aload_n 0, 1) := by decide +kernel
theorem dX12_drunk_109 : decode cX12_drunk 109 = .ok (.getfield 67, 3) := by decide +kernel
theorem dX12_drunk_11 : decode cX12_drunk 11 = .ok (.iconst 0, 1) := by decide +kernel
theorem dX12_drunk_112 : decode cX12_drunk 112 = .ok (.iload 4, 2) := by decide +kernel
theorem dX12_drunk_114 : decode cX12_drunk 114 = .ok (.iaload, 1) := by decide +kernel
theorem dX12_drunk_115 : decode cX12_drunk 115 = .ok (.ifCond .le 27, 3) := by decide +kernel
