/-! decode rows -/
theorem dX12_reads_107 : decode cX12_reads 107 = .ok (.ireturn, 1) := by decide +kernel
theorem dX12_reads_13 : decode cX12_reads 13 = .ok (.aload_n 0, 1) := by decide +kernel
theorem dX12_reads_14 : decode cX12_reads 14 = .ok (.iconst 0, 1) := by decide +kernel
theorem dX12_reads_15 : decode cX12_reads 15 = .ok (.putfield 187, 3) := by decide +kernel
theorem dX12_reads_18 : decode cX12_reads 18 = .ok (.aload_n 0, 1) := by decide +kernel
theorem dX12_reads_19 : decode cX12_reads 19 = .ok (.iconst 0, 1) := by decide +kernel
theorem dX12_reads_2 : decode cX12_reads 2 = .ok (.getfield 156, 3) := by decide +kernel
theorem dX12_reads_20 : decode cX12_reads 20 = .ok (.putfield 196, 3) := by decide +kernel
theorem dX12_reads_23 : decode cX12_reads 23 = .ok (.aload_n 0, 1) := by decide +kernel
theorem dX12_reads_24 : decode cX12_reads 24 = .ok (.iconst (-1), 1) := by decide +kernel
theorem dX12_reads_25 : decode cX12_reads 25 = .ok (.putfield 180, 3) := by decide +kernel
theorem dX12_reads_28 : decode cX12_reads 28 = .ok (.aload_n 0, 1) := by decide +kernel
theorem dX12_reads_29 : decode cX12_reads 29 = .ok (.invokevirtual 231, 3) := by decide +kernel
theorem dX12_reads_32 : decode cX12_reads 32 = .ok (.iconst 1, 1) := by decide +kernel
theorem dX12_reads_33 : decode cX12_reads 33 = .ok (.istore_n 1, 1) := by decide +kernel
theorem dX12_reads_34 : decode cX12_reads 34 = .ok (.aload_n 0, 1) := by decide +kernel
theorem dX12_reads_35 : decode cX12_reads 35 = .ok (.bipush 59, 2) := by decide +kernel
theorem dX12_reads_37 : decode cX12_reads 37 = .ok (.invokestatic 215, 3) := by decide +kernel
theorem dX12_reads_40 : decode cX12_reads 40 = .ok (.invokevirtual 190, 3) := by decide +kernel
theorem dX12_reads_43 : decode cX12_reads 43 = .ok (.ifCond .eq 30, 3) := by decide +kernel
theorem dX12_reads_5 : decode cX12_reads 5 = .ok (.invokevirtual 228, 3) := by decide +kernel
theorem dX12_reads_73 : decode cX12_reads 73 = .ok (.aload_n 0, 1) := by decide +kernel
theorem dX12_reads_74 : decode cX12_reads 74 = .ok (.invokevirtual 183, 3) := by decide +kernel
theorem dX12_reads_77 : decode cX12_reads 77 = .ok (.ifCond .eq 18, 3) := by decide +kernel
theorem dX12_reads_8 : decode cX12_reads 8 = .ok (.aload_n 0, 1) := by decide +kernel
theorem dX12_reads_9 : decode cX12_reads 9 = .ok (.iconst 0, 1) := by decide +kernel
theorem dX12_reads_95 : decode cX12_reads 95 = .ok (.aload_n 0, 1) := by decide +kernel
theorem dX12_reads_96 : decode cX12_reads 96 = .ok (.aload_n 0, 1) := by decide +kernel
theorem dX12_reads_97 : decode cX12_reads 97 = .ok (.getfield 180, 3) := by decide +kernel
theorem dX12_refuses_0 : decode cX12_refuses 0 = .ok (.aload_n 0, 1) := by decide +kernel
theorem dX12_refuses_1 : decode cX12_refuses 1 = .ok (.iload_n 1, 1) := by decide +kernel
theorem dX12_refuses_10 : decode cX12_refuses 10 = .ok (.ineg, 1) := by decide +kernel
theorem dX12_refuses_11 : decode cX12_refuses 11 = .ok (.dup2, 1) := by decide +kernel
theorem dX12_refuses_12 : decode cX12_refuses 12 = .ok (.iaload, 1) := by decide +kernel
theorem dX12_refuses_13 : decode cX12_refuses 13 = .ok (.iconst 1, 1) := by decide +kernel
theorem dX12_refuses_14 : decode cX12_refuses 14 = .ok (.iadd, 1) := by decide +kernel
theorem dX12_refuses_15 : decode cX12_refuses 15 = .ok (.iastore, 1) := by decide +kernel
theorem dX12_refuses_16 : decode cX12_refuses 16 = .ok (.iload_n 1, 1) := by decide +kernel
theorem dX12_refuses_17 : decode cX12_refuses 17 = .ok (.ireturn, 1) := by decide +kernel
theorem dX12_refuses_2 : decode cX12_refuses 2 = .ok (.putfield 3, 3) := by decide +kernel
theorem dX12_refuses_5 : decode cX12_refuses 5 = .ok (.aload_n 0, 1) := by decide +kernel
theorem dX12_refuses_6 : decode cX12_refuses 6 = .ok (.getfield 7, 3) := by decide +kernel
theorem dX12_refuses_9 : decode cX12_refuses 9 = .ok (.iload_n 1, 1) := by decide +kernel
theorem dX12_round_0 : decode cX12_round 0 = .ok (.aload_n 0, 1) := by decide +kernel
theorem dX12_round_1 : decode cX12_round 1 = .ok (.invokevirtual 159, 3) := by decide +kernel
theorem dX12_round_10 : decode cX12_round 10 = .ok (.if_icmp .le 5, 3) := by decide +kernel
theorem dX12_round_15 : decode cX12_round 15 = .ok (.aload_n 0, 1) := by decide +kernel
theorem dX12_round_16 : decode cX12_round 16 = .ok (.invokevirtual 328, 3) := by decide +kernel
theorem dX12_round_19 : decode cX12_round 19 = .ok (.aload_n 0, 1) := by decide +kernel
theorem dX12_round_20 : decode cX12_round 20 = .ok (.invokevirtual 351, 3) := by decide +kernel
theorem dX12_round_23 : decode cX12_round 23 = .ok (.istore_n 2, 1) := by decide +kernel
theorem dX12_round_24 : decode cX12_round 24 = .ok (.iload_n 1, 1) := by decide +kernel
theorem dX12_round_25 : decode cX12_round 25 = .ok (.iconst (-1), 1) := by decide +kernel
theorem dX12_round_26 : decode cX12_round 26 = .ok (.if_icmp .ne 13, 3) := by decide +kernel
theorem dX12_round_29 : decode cX12_round 29 = .ok (.iload_n 2, 1) := by decide +kernel
theorem dX12_round_30 : decode cX12_round 30 = .ok (.ifCond .eq 7, 3) := by decide +kernel
theorem dX12_round_37 : decode cX12_round 37 = .ok (.iconst 0, 1) := by decide +kernel
theorem dX12_round_38 : decode cX12_round 38 = .ok (.ireturn, 1) := by decide +kernel
theorem dX12_round_39 : decode cX12_round 39 = .ok (.iload_n 2, 1) := by decide +kernel
theorem dX12_round_4 : decode cX12_round 4 = .ok (.aload_n 0, 1) := by decide +kernel
theorem dX12_round_40 : decode cX12_round 40 = .ok (.ifCond .eq 17, 3) := by decide +kernel
theorem dX12_round_5 : decode cX12_round 5 = .ok (.getfield 298, 3) := by decide +kernel
theorem dX12_round_57 : decode cX12_round 57 = .ok (.iconst (-1), 1) := by decide +kernel
theorem dX12_round_58 : decode cX12_round 58 = .ok (.ireturn, 1) := by decide +kernel
theorem dX12_round_8 : decode cX12_round 8 = .ok (.bipush 14, 2) := by decide +kernel
theorem dX12_row_0 : decode cX12_row 0 = .ok (.aload_n 0, 1) := by decide +kernel
theorem dX12_row_1 : decode cX12_row 1 = .ok (.getfield 156, 3) := by decide +kernel
theorem dX12_row_10 : decode cX12_row 10 = .ok (.iload_n 1, 1) := by decide +kernel
theorem dX12_row_11 : decode cX12_row 11 = .ok (.iconst 1, 1) := by decide +kernel
theorem dX12_row_12 : decode cX12_row 12 = .ok (.bipush 7, 2) := by decide +kernel
theorem dX12_row_14 : decode cX12_row 14 = .ok (.invokestatic 138, 3) := by decide +kernel
theorem dX12_row_17 : decode cX12_row 17 = .ok (.istore_n 2, 1) := by decide +kernel
theorem dX12_row_18 : decode cX12_row 18 = .ok (.iconst 0, 1) := by decide +kernel
theorem dX12_row_19 : decode cX12_row 19 = .ok (.istore_n 3, 1) := by decide +kernel
theorem dX12_row_20 : decode cX12_row 20 = .ok (.iload_n 3, 1) := by decide +kernel
theorem dX12_row_21 : decode cX12_row 21 = .ok (.iload_n 1, 1) := by decide +kernel
theorem dX12_row_22 : decode cX12_row 22 = .ok (.if_icmp .ge 25, 3) := by decide +kernel
theorem dX12_row_4 : decode cX12_row 4 = .ok (.istore_n 1, 1) := by decide +kernel
theorem dX12_row_47 : decode cX12_row 47 = .ok (.iload_n 2, 1) := by decide +kernel
theorem dX12_row_48 : decode cX12_row 48 = .ok (.ifCond .ne 10, 3) := by decide +kernel
theorem dX12_row_5 : decode cX12_row 5 = .ok (.aload_n 0, 1) := by decide +kernel
theorem dX12_row_51 : decode cX12_row 51 = .ok (.aload_n 0, 1) := by decide +kernel
theorem dX12_row_52 : decode cX12_row 52 = .ok (.bipush (-6), 2) := by decide +kernel
theorem dX12_row_54 : decode cX12_row 54 = .ok (.invokevirtual 142, 3) := by decide +kernel
theorem dX12_row_57 : decode cX12_row 57 = .ok (.ireturn, 1) := by decide +kernel
theorem dX12_row_6 : decode cX12_row 6 = .ok (.iconst 0, 1) := by decide +kernel
theorem dX12_row_7 : decode cX12_row 7 = .ok (.putfield 156, 3) := by decide +kernel
theorem dX12_rows_0 : decode cX12_rows 0 = .ok (.aload_n 0, 1) := by decide +kernel
theorem dX12_rows_1 : decode cX12_rows 1 = .ok (.iload_n 1, 1) := by decide +kernel
theorem dX12_rows_10 : decode cX12_rows 10 = .ok (.if_icmp .eq 11, 3) := by decide +kernel
theorem dX12_rows_100 : decode cX12_rows 100 = .ok (.iload 5, 2) := by decide +kernel
theorem dX12_rows_102 : decode cX12_rows 102 = .ok (.lconst 0, 1) := by decide +kernel
theorem dX12_rows_103 : decode cX12_rows 103 = .ok (.lastore, 1) := by decide +kernel
theorem dX12_rows_104 : decode cX12_rows 104 = .ok (.iinc 5 1, 3) := by decide +kernel
theorem dX12_rows_107 : decode cX12_rows 107 = .ok (.goto (-20), 3) := by decide +kernel
theorem dX12_rows_110 : decode cX12_rows 110 = .ok (.iconst 0, 1) := by decide +kernel
theorem dX12_rows_111 : decode cX12_rows 111 = .ok (.istore 5, 2) := by decide +kernel
theorem dX12_rows_113 : decode cX12_rows 113 = .ok (.iload 5, 2) := by decide +kernel
theorem dX12_rows_115 : decode cX12_rows 115 = .ok (.aload_n 0, 1) := by decide +kernel
theorem dX12_rows_116 : decode cX12_rows 116 = .ok (.getfield 298, 3) := by decide +kernel
theorem dX12_rows_119 : decode cX12_rows 119 = .ok (.if_icmp .ge 58, 3) := by decide +kernel
theorem dX12_rows_122 : decode cX12_rows 122 = .ok (.iconst 0, 1) := by decide +kernel
theorem dX12_rows_123 : decode cX12_rows 123 = .ok (.istore 6, 2) := by decide +kernel
theorem dX12_rows_125 : decode cX12_rows 125 = .ok (.iload 6, 2) := by decide +kernel
theorem dX12_rows_127 : decode cX12_rows 127 = .ok (.aload_n 0, 1) := by decide +kernel
theorem dX12_rows_128 : decode cX12_rows 128 = .ok (.getfield 67, 3) := by decide +kernel
theorem dX12_rows_13 : decode cX12_rows 13 = .ok (.aload_n 0, 1) := by decide +kernel
theorem dX12_rows_131 : decode cX12_rows 131 = .ok (.iload 5, 2) := by decide +kernel
theorem dX12_rows_133 : decode cX12_rows 133 = .ok (.iaload, 1) := by decide +kernel
theorem dX12_rows_134 : decode cX12_rows 134 = .ok (.if_icmp .ge 37, 3) := by decide +kernel
theorem dX12_rows_14 : decode cX12_rows 14 = .ok (.iload_n 2, 1) := by decide +kernel
theorem dX12_rows_15 : decode cX12_rows 15 = .ok (.invokevirtual 325, 3) := by decide +kernel
theorem dX12_rows_171 : decode cX12_rows 171 = .ok (.iinc 5 1, 3) := by decide +kernel
theorem dX12_rows_174 : decode cX12_rows 174 = .ok (.goto (-61), 3) := by decide +kernel
theorem dX12_rows_177 : decode cX12_rows 177 = .ok (.iconst 0, 1) := by decide +kernel
theorem dX12_rows_178 : decode cX12_rows 178 = .ok (.istore 5, 2) := by decide +kernel
theorem dX12_rows_18 : decode cX12_rows 18 = .ok (.ifCond .eq 13, 3) := by decide +kernel
theorem dX12_rows_180 : decode cX12_rows 180 = .ok (.iload 5, 2) := by decide +kernel
theorem dX12_rows_182 : decode cX12_rows 182 = .ok (.aload_n 0, 1) := by decide +kernel
theorem dX12_rows_183 : decode cX12_rows 183 = .ok (.getfield 298, 3) := by decide +kernel
theorem dX12_rows_186 : decode cX12_rows 186 = .ok (.if_icmp .ge 23, 3) := by decide +kernel
theorem dX12_rows_189 : decode cX12_rows 189 = .ok (.aload_n 0, 1) := by decide +kernel
theorem dX12_rows_190 : decode cX12_rows 190 = .ok (.getfield 113, 3) := by decide +kernel
theorem dX12_rows_193 : decode cX12_rows 193 = .ok (.iload 5, 2) := by decide +kernel
theorem dX12_rows_195 : decode cX12_rows 195 = .ok (.aload_n 0, 1) := by decide +kernel
theorem dX12_rows_196 : decode cX12_rows 196 = .ok (.getfield 116, 3) := by decide +kernel
theorem dX12_rows_199 : decode cX12_rows 199 = .ok (.iload 5, 2) := by decide +kernel
theorem dX12_rows_2 : decode cX12_rows 2 = .ok (.invokevirtual 325, 3) := by decide +kernel
theorem dX12_rows_201 : decode cX12_rows 201 = .ok (.laload, 1) := by decide +kernel
theorem dX12_rows_202 : decode cX12_rows 202 = .ok (.lastore, 1) := by decide +kernel
theorem dX12_rows_203 : decode cX12_rows 203 = .ok (.iinc 5 1, 3) := by decide +kernel
theorem dX12_rows_206 : decode cX12_rows 206 = .ok (.goto (-26), 3) := by decide +kernel
theorem dX12_rows_209 : decode cX12_rows 209 = .ok (.iinc 4 1, 3) := by decide +kernel
theorem dX12_rows_21 : decode cX12_rows 21 = .ok (.iload_n 3, 1) := by decide +kernel
theorem dX12_rows_212 : decode cX12_rows 212 = .ok (.goto (-134), 3) := by decide +kernel
theorem dX12_rows_215 : decode cX12_rows 215 = .ok (.iload_n 2, 1) := by decide +kernel
theorem dX12_rows_216 : decode cX12_rows 216 = .ok (.iconst (-1), 1) := by decide +kernel
theorem dX12_rows_217 : decode cX12_rows 217 = .ok (.if_icmp .eq 10, 3) := by decide +kernel
theorem dX12_rows_22 : decode cX12_rows 22 = .ok (.iconst 0, 1) := by decide +kernel
theorem dX12_rows_220 : decode cX12_rows 220 = .ok (.aload_n 0, 1) := by decide +kernel
theorem dX12_rows_221 : decode cX12_rows 221 = .ok (.getfield 113, 3) := by decide +kernel
theorem dX12_rows_224 : decode cX12_rows 224 = .ok (.iload_n 2, 1) := by decide +kernel
theorem dX12_rows_225 : decode cX12_rows 225 = .ok (.laload, 1) := by decide +kernel
theorem dX12_rows_226 : decode cX12_rows 226 = .ok (.lreturn, 1) := by decide +kernel
theorem dX12_rows_227 : decode cX12_rows 227 = .ok (.lconst 0, 1) := by decide +kernel
theorem dX12_rows_228 : decode cX12_rows 228 = .ok (.lstore 4, 2) := by decide +kernel
theorem dX12_rows_23 : decode cX12_rows 23 = .ok (.bipush 12, 2) := by decide +kernel
theorem dX12_rows_230 : decode cX12_rows 230 = .ok (.iconst 0, 1) := by decide +kernel
theorem dX12_rows_231 : decode cX12_rows 231 = .ok (.istore 6, 2) := by decide +kernel
theorem dX12_rows_233 : decode cX12_rows 233 = .ok (.iload 6, 2) := by decide +kernel
theorem dX12_rows_235 : decode cX12_rows 235 = .ok (.aload_n 0, 1) := by decide +kernel
theorem dX12_rows_236 : decode cX12_rows 236 = .ok (.getfield 298, 3) := by decide +kernel
theorem dX12_rows_239 : decode cX12_rows 239 = .ok (.if_icmp .ge 21, 3) := by decide +kernel
theorem dX12_rows_242 : decode cX12_rows 242 = .ok (.lload 4, 2) := by decide +kernel
theorem dX12_rows_244 : decode cX12_rows 244 = .ok (.aload_n 0, 1) := by decide +kernel
theorem dX12_rows_245 : decode cX12_rows 245 = .ok (.getfield 113, 3) := by decide +kernel
theorem dX12_rows_248 : decode cX12_rows 248 = .ok (.iload 6, 2) := by decide +kernel
theorem dX12_rows_25 : decode cX12_rows 25 = .ok (.invokestatic 138, 3) := by decide +kernel
theorem dX12_rows_250 : decode cX12_rows 250 = .ok (.laload, 1) := by decide +kernel
theorem dX12_rows_251 : decode cX12_rows 251 = .ok (.ladd, 1) := by decide +kernel
theorem dX12_rows_252 : decode cX12_rows 252 = .ok (.lstore 4, 2) := by decide +kernel
theorem dX12_rows_254 : decode cX12_rows 254 = .ok (.iinc 6 1, 3) := by decide +kernel
theorem dX12_rows_257 : decode cX12_rows 257 = .ok (.goto (-24), 3) := by decide +kernel
theorem dX12_rows_260 : decode cX12_rows 260 = .ok (.lload 4, 2) := by decide +kernel
theorem dX12_rows_262 : decode cX12_rows 262 = .ok (.lreturn, 1) := by decide +kernel
theorem dX12_rows_28 : decode cX12_rows 28 = .ok (.ifCond .ne 7, 3) := by decide +kernel
theorem dX12_rows_31 : decode cX12_rows 31 = .ok (.ldc2_w 346, 3) := by decide +kernel
theorem dX12_rows_34 : decode cX12_rows 34 = .ok (.lreturn, 1) := by decide +kernel
theorem dX12_rows_35 : decode cX12_rows 35 = .ok (.aload_n 0, 1) := by decide +kernel
theorem dX12_rows_36 : decode cX12_rows 36 = .ok (.invokevirtual 328, 3) := by decide +kernel
theorem dX12_rows_39 : decode cX12_rows 39 = .ok (.iconst 0, 1) := by decide +kernel
theorem dX12_rows_40 : decode cX12_rows 40 = .ok (.istore 4, 2) := by decide +kernel
theorem dX12_rows_42 : decode cX12_rows 42 = .ok (.iload 4, 2) := by decide +kernel
theorem dX12_rows_44 : decode cX12_rows 44 = .ok (.aload_n 0, 1) := by decide +kernel
theorem dX12_rows_45 : decode cX12_rows 45 = .ok (.getfield 298, 3) := by decide +kernel
theorem dX12_rows_48 : decode cX12_rows 48 = .ok (.if_icmp .ge 27, 3) := by decide +kernel
theorem dX12_rows_5 : decode cX12_rows 5 = .ok (.ifCond .eq 26, 3) := by decide +kernel
theorem dX12_rows_51 : decode cX12_rows 51 = .ok (.aload_n 0, 1) := by decide +kernel
theorem dX12_rows_52 : decode cX12_rows 52 = .ok (.getfield 113, 3) := by decide +kernel
theorem dX12_rows_55 : decode cX12_rows 55 = .ok (.iload 4, 2) := by decide +kernel
theorem dX12_rows_57 : decode cX12_rows 57 = .ok (.iload 4, 2) := by decide +kernel
theorem dX12_rows_59 : decode cX12_rows 59 = .ok (.iload_n 1, 1) := by decide +kernel
theorem dX12_rows_60 : decode cX12_rows 60 = .ok (.if_icmp .ne 7, 3) := by decide +kernel
theorem dX12_rows_63 : decode cX12_rows 63 = .ok (.lconst 1, 1) := by decide +kernel
theorem dX12_rows_64 : decode cX12_rows 64 = .ok (.goto 4, 3) := by decide +kernel
theorem dX12_rows_68 : decode cX12_rows 68 = .ok (.lastore, 1) := by decide +kernel
theorem dX12_rows_69 : decode cX12_rows 69 = .ok (.iinc 4 1, 3) := by decide +kernel
theorem dX12_rows_72 : decode cX12_rows 72 = .ok (.goto (-30), 3) := by decide +kernel
theorem dX12_rows_75 : decode cX12_rows 75 = .ok (.iconst 0, 1) := by decide +kernel
theorem dX12_rows_76 : decode cX12_rows 76 = .ok (.istore 4, 2) := by decide +kernel
theorem dX12_rows_78 : decode cX12_rows 78 = .ok (.iload 4, 2) := by decide +kernel
theorem dX12_rows_8 : decode cX12_rows 8 = .ok (.iload_n 2, 1) := by decide +kernel
theorem dX12_rows_80 : decode cX12_rows 80 = .ok (.iload_n 3, 1) := by decide +kernel
theorem dX12_rows_81 : decode cX12_rows 81 = .ok (.if_icmp .ge 134, 3) := by decide +kernel
theorem dX12_rows_84 : decode cX12_rows 84 = .ok (.iconst 0, 1) := by decide +kernel
theorem dX12_rows_85 : decode cX12_rows 85 = .ok (.istore 5, 2) := by decide +kernel
theorem dX12_rows_87 : decode cX12_rows 87 = .ok (.iload 5, 2) := by decide +kernel
theorem dX12_rows_89 : decode cX12_rows 89 = .ok (.aload_n 0, 1) := by decide +kernel
theorem dX12_rows_9 : decode cX12_rows 9 = .ok (.iconst (-1), 1) := by decide +kernel
theorem dX12_rows_90 : decode cX12_rows 90 = .ok (.getfield 298, 3) := by decide +kernel
theorem dX12_rows_93 : decode cX12_rows 93 = .ok (.if_icmp .ge 17, 3) := by decide +kernel
theorem dX12_rows_96 : decode cX12_rows 96 = .ok (.aload_n 0, 1) := by decide +kernel
theorem dX12_rows_97 : decode cX12_rows 97 = .ok (.getfield 116, 3) := by decide +kernel
theorem dX12_sign_0 : decode cX12_sign 0 = .ok (.bipush 100, 2) := by decide +kernel
theorem dX12_sign_2 : decode cX12_sign 2 = .ok (.iload_n 0, 1) := by decide +kernel
theorem dX12_sign_3 : decode cX12_sign 3 = .ok (.iadd, 1) := by decide +kernel
theorem dX12_sign_4 : decode cX12_sign 4 = .ok (.ireturn, 1) := by decide +kernel
theorem dX12_sortedBy_0 : decode cX12_sortedBy 0 = .ok (.iconst 0, 1) := by decide +kernel
theorem dX12_sortedBy_1 : decode cX12_sortedBy 1 = .ok (.istore_n 3, 1) := by decide +kernel
theorem dX12_sortedBy_11 : decode cX12_sortedBy 11 = .ok (.iconst 1, 1) := by decide +kernel
theorem dX12_sortedBy_12 : decode cX12_sortedBy 12 = .ok (.isub, 1) := by decide +kernel
theorem dX12_sortedBy_13 : decode cX12_sortedBy 13 = .ok (.istore 4, 2) := by decide +kernel
theorem dX12_sortedBy_15 : decode cX12_sortedBy 15 = .ok (.iload 4, 2) := by decide +kernel
theorem dX12_sortedBy_17 : decode cX12_sortedBy 17 = .ok (.ifCond .lt 42, 3) := by decide +kernel
theorem dX12_sortedBy_2 : decode cX12_sortedBy 2 = .ok (.aload_n 0, 1) := by decide +kernel
theorem dX12_sortedBy_20 : decode cX12_sortedBy 20 = .ok (.aload_n 0, 1) := by decide +kernel
theorem dX12_sortedBy_21 : decode cX12_sortedBy 21 = .ok (.iload 4, 2) := by decide +kernel
theorem dX12_sortedBy_23 : decode cX12_sortedBy 23 = .ok (.iload_n 1, 1) := by decide +kernel
theorem dX12_sortedBy_24 : decode cX12_sortedBy 24 = .ok (.iload_n 2, 1) := by decide +kernel
theorem dX12_sortedBy_25 : decode cX12_sortedBy 25 = .ok (.invokevirtual 357, 3) := by decide +kernel
theorem dX12_sortedBy_28 : decode cX12_sortedBy 28 = .ok (.aload_n 0, 1) := by decide +kernel
theorem dX12_sortedBy_29 : decode cX12_sortedBy 29 = .ok (.invokevirtual 319, 3) := by decide +kernel
theorem dX12_sortedBy_3 : decode cX12_sortedBy 3 = .ok (.iconst (-1), 1) := by decide +kernel
theorem dX12_sortedBy_32 : decode cX12_sortedBy 32 = .ok (.aload_n 0, 1) := by decide +kernel
theorem dX12_sortedBy_33 : decode cX12_sortedBy 33 = .ok (.getfield 58, 3) := by decide +kernel
theorem dX12_sortedBy_36 : decode cX12_sortedBy 36 = .ok (.iconst 0, 1) := by decide +kernel
theorem dX12_sortedBy_37 : decode cX12_sortedBy 37 = .ok (.iaload, 1) := by decide +kernel
theorem dX12_sortedBy_38 : decode cX12_sortedBy 38 = .ok (.if_icmp .ne 9, 3) := by decide +kernel
theorem dX12_sortedBy_4 : decode cX12_sortedBy 4 = .ok (.putfield 354, 3) := by decide +kernel
theorem dX12_sortedBy_41 : decode cX12_sortedBy 41 = .ok (.iinc 3 1, 3) := by decide +kernel
theorem dX12_sortedBy_44 : decode cX12_sortedBy 44 = .ok (.goto 9, 3) := by decide +kernel
theorem dX12_sortedBy_53 : decode cX12_sortedBy 53 = .ok (.iinc 4 (-1), 3) := by decide +kernel
theorem dX12_sortedBy_56 : decode cX12_sortedBy 56 = .ok (.goto (-41), 3) := by decide +kernel
theorem dX12_sortedBy_59 : decode cX12_sortedBy 59 = .ok (.iload_n 3, 1) := by decide +kernel
theorem dX12_sortedBy_60 : decode cX12_sortedBy 60 = .ok (.ireturn, 1) := by decide +kernel
theorem dX12_sortedBy_7 : decode cX12_sortedBy 7 = .ok (.aload_n 0, 1) := by decide +kernel
theorem dX12_sortedBy_8 : decode cX12_sortedBy 8 = .ok (.getfield 298, 3) := by decide +kernel
theorem dX12_sorted_0 : decode cX12_sorted 0 = .ok (.aload_n 0, 1) := by decide +kernel
theorem dX12_sorted_1 : decode cX12_sorted 1 = .ok (.iload_n 1, 1) := by decide +kernel
theorem dX12_sorted_10 : decode cX12_sorted 10 = .ok (.aload_n 0, 1) := by decide +kernel
theorem dX12_sorted_11 : decode cX12_sorted 11 = .ok (.iload_n 1, 1) := by decide +kernel
theorem dX12_sorted_12 : decode cX12_sorted 12 = .ok (.aload_n 0, 1) := by decide +kernel
theorem dX12_sorted_13 : decode cX12_sorted 13 = .ok (.getfield 20, 3) := by decide +kernel
theorem dX12_sorted_16 : decode cX12_sorted 16 = .ok (.bipush 60, 2) := by decide +kernel
theorem dX12_sorted_18 : decode cX12_sorted 18 = .ok (.iaload, 1) := by decide +kernel
theorem dX12_sorted_19 : decode cX12_sorted 19 = .ok (.iconst (-1), 1) := by decide +kernel
theorem dX12_sorted_2 : decode cX12_sorted 2 = .ok (.invokevirtual 325, 3) := by decide +kernel
theorem dX12_sorted_20 : decode cX12_sorted 20 = .ok (.invokevirtual 357, 3) := by decide +kernel
theorem dX12_sorted_23 : decode cX12_sorted 23 = .ok (.aload_n 0, 1) := by decide +kernel
theorem dX12_sorted_24 : decode cX12_sorted 24 = .ok (.aload_n 0, 1) := by decide +kernel
theorem dX12_sorted_25 : decode cX12_sorted 25 = .ok (.invokevirtual 319, 3) := by decide +kernel
theorem dX12_sorted_28 : decode cX12_sorted 28 = .ok (.invokevirtual 162, 3) := by decide +kernel
theorem dX12_sorted_31 : decode cX12_sorted 31 = .ok (.ireturn, 1) := by decide +kernel
theorem dX12_sorted_5 : decode cX12_sorted 5 = .ok (.ifCond .ne 5, 3) := by decide +kernel
theorem dX12_sorted_8 : decode cX12_sorted 8 = .ok (.iconst (-1), 1) := by decide +kernel
theorem dX12_sorted_9 : decode cX12_sorted 9 = .ok (.ireturn, 1) := by decide +kernel
theorem dX12_sorts_0 : decode cX12_sorts 0 = .ok (.iload_n 1, 1) := by decide +kernel
theorem dX12_sorts_1 : decode cX12_sorts 1 = .ok (.iconst 0, 1) := by decide +kernel
theorem dX12_sorts_10 : decode cX12_sorts 10 = .ok (.ireturn, 1) := by decide +kernel
theorem dX12_sorts_101 : decode cX12_sorts 101 = .ok (.aload_n 0, 1) := by decide +kernel
theorem dX12_sorts_102 : decode cX12_sorts 102 = .ok (.iload 5, 2) := by decide +kernel
theorem dX12_sorts_104 : decode cX12_sorts 104 = .ok (.iconst (-1), 1) := by decide +kernel
theorem dX12_sorts_105 : decode cX12_sorts 105 = .ok (.invokevirtual 360, 3) := by decide +kernel
theorem dX12_sorts_108 : decode cX12_sorts 108 = .ok (.iload_n 3, 1) := by decide +kernel
theorem dX12_sorts_109 : decode cX12_sorts 109 = .ok (.if_icmp .ge 9, 3) := by decide +kernel
theorem dX12_sorts_11 : decode cX12_sorts 11 = .ok (.aload_n 0, 1) := by decide +kernel
theorem dX12_sorts_118 : decode cX12_sorts 118 = .ok (.iload 5, 2) := by decide +kernel
theorem dX12_sorts_12 : decode cX12_sorts 12 = .ok (.invokevirtual 159, 3) := by decide +kernel
theorem dX12_sorts_120 : decode cX12_sorts 120 = .ok (.ireturn, 1) := by decide +kernel
theorem dX12_sorts_15 : decode cX12_sorts 15 = .ok (.aload_n 0, 1) := by decide +kernel
theorem dX12_sorts_16 : decode cX12_sorts 16 = .ok (.getfield 20, 3) := by decide +kernel
theorem dX12_sorts_19 : decode cX12_sorts 19 = .ok (.bipush 60, 2) := by decide +kernel
theorem dX12_sorts_2 : decode cX12_sorts 2 = .ok (.iconst 3, 1) := by decide +kernel
theorem dX12_sorts_21 : decode cX12_sorts 21 = .ok (.iaload, 1) := by decide +kernel
theorem dX12_sorts_22 : decode cX12_sorts 22 = .ok (.istore_n 2, 1) := by decide +kernel
theorem dX12_sorts_23 : decode cX12_sorts 23 = .ok (.aload_n 0, 1) := by decide +kernel
theorem dX12_sorts_24 : decode cX12_sorts 24 = .ok (.iload_n 2, 1) := by decide +kernel
theorem dX12_sorts_25 : decode cX12_sorts 25 = .ok (.iconst (-1), 1) := by decide +kernel
theorem dX12_sorts_26 : decode cX12_sorts 26 = .ok (.invokevirtual 360, 3) := by decide +kernel
theorem dX12_sorts_29 : decode cX12_sorts 29 = .ok (.istore_n 3, 1) := by decide +kernel
theorem dX12_sorts_3 : decode cX12_sorts 3 = .ok (.invokestatic 138, 3) := by decide +kernel
theorem dX12_sorts_30 : decode cX12_sorts 30 = .ok (.iload_n 1, 1) := by decide +kernel
theorem dX12_sorts_31 : decode cX12_sorts 31 = .ok (.iconst 2, 1) := by decide +kernel
theorem dX12_sorts_32 : decode cX12_sorts 32 = .ok (.if_icmp .ge 16, 3) := by decide +kernel
theorem dX12_sorts_35 : decode cX12_sorts 35 = .ok (.iload_n 1, 1) := by decide +kernel
theorem dX12_sorts_36 : decode cX12_sorts 36 = .ok (.ifCond .ne 7, 3) := by decide +kernel
theorem dX12_sorts_39 : decode cX12_sorts 39 = .ok (.iload_n 3, 1) := by decide +kernel
theorem dX12_sorts_40 : decode cX12_sorts 40 = .ok (.goto 7, 3) := by decide +kernel
theorem dX12_sorts_43 : decode cX12_sorts 43 = .ok (.aload_n 0, 1) := by decide +kernel
theorem dX12_sorts_44 : decode cX12_sorts 44 = .ok (.getfield 354, 3) := by decide +kernel
theorem dX12_sorts_47 : decode cX12_sorts 47 = .ok (.ireturn, 1) := by decide +kernel
theorem dX12_sorts_48 : decode cX12_sorts 48 = .ok (.iconst 0, 1) := by decide +kernel
theorem dX12_sorts_49 : decode cX12_sorts 49 = .ok (.istore 4, 2) := by decide +kernel
theorem dX12_sorts_51 : decode cX12_sorts 51 = .ok (.iconst 0, 1) := by decide +kernel
theorem dX12_sorts_52 : decode cX12_sorts 52 = .ok (.istore 5, 2) := by decide +kernel
theorem dX12_sorts_54 : decode cX12_sorts 54 = .ok (.iload 5, 2) := by decide +kernel
theorem dX12_sorts_56 : decode cX12_sorts 56 = .ok (.iload_n 2, 1) := by decide +kernel
theorem dX12_sorts_57 : decode cX12_sorts 57 = .ok (.if_icmp .ge 33, 3) := by decide +kernel
theorem dX12_sorts_6 : decode cX12_sorts 6 = .ok (.ifCond .ne 5, 3) := by decide +kernel
theorem dX12_sorts_9 : decode cX12_sorts 9 = .ok (.iconst (-1), 1) := by decide +kernel
theorem dX12_sorts_90 : decode cX12_sorts 90 = .ok (.iload_n 1, 1) := by decide +kernel
theorem dX12_sorts_91 : decode cX12_sorts 91 = .ok (.iconst 2, 1) := by decide +kernel
theorem dX12_sorts_92 : decode cX12_sorts 92 = .ok (.if_icmp .ne 6, 3) := by decide +kernel
theorem dX12_sorts_95 : decode cX12_sorts 95 = .ok (.iload 4, 2) := by decide +kernel
theorem dX12_sorts_97 : decode cX12_sorts 97 = .ok (.ireturn, 1) := by decide +kernel
theorem dX12_sorts_98 : decode cX12_sorts 98 = .ok (.iconst 0, 1) := by decide +kernel
theorem dX12_sorts_99 : decode cX12_sorts 99 = .ok (.istore 5, 2) := by decide +kernel
theorem dX12_splits_0 : decode cX12_splits 0 = .ok (.aload_n 0, 1) := by decide +kernel
theorem dX12_splits_1 : decode cX12_splits 1 = .ok (.iconst 0, 1) := by decide +kernel
theorem dX12_splits_2 : decode cX12_splits 2 = .ok (.putfield 165, 3) := by decide +kernel
theorem dX12_splits_263 : decode cX12_splits 263 = .ok (.aload_n 0, 1) := by decide +kernel
theorem dX12_splits_264 : decode cX12_splits 264 = .ok (.getfield 49, 3) := by decide +kernel
theorem dX12_splits_267 : decode cX12_splits 267 = .ok (.aload_n 0, 1) := by decide +kernel
theorem dX12_splits_268 : decode cX12_splits 268 = .ok (.getfield 165, 3) := by decide +kernel
theorem dX12_splits_271 : decode cX12_splits 271 = .ok (.iload_n 1, 1) := by decide +kernel
theorem dX12_splits_272 : decode cX12_splits 272 = .ok (.iastore, 1) := by decide +kernel
theorem dX12_splits_273 : decode cX12_splits 273 = .ok (.aload_n 0, 1) := by decide +kernel
theorem dX12_splits_274 : decode cX12_splits 274 = .ok (.getfield 43, 3) := by decide +kernel
theorem dX12_splits_277 : decode cX12_splits 277 = .ok (.aload_n 0, 1) := by decide +kernel
theorem dX12_splits_278 : decode cX12_splits 278 = .ok (.getfield 165, 3) := by decide +kernel
theorem dX12_splits_281 : decode cX12_splits 281 = .ok (.iconst 0, 1) := by decide +kernel
theorem dX12_splits_282 : decode cX12_splits 282 = .ok (.iastore, 1) := by decide +kernel
theorem dX12_splits_283 : decode cX12_splits 283 = .ok (.aload_n 0, 1) := by decide +kernel
theorem dX12_splits_284 : decode cX12_splits 284 = .ok (.getfield 46, 3) := by decide +kernel
theorem dX12_splits_287 : decode cX12_splits 287 = .ok (.aload_n 0, 1) := by decide +kernel
theorem dX12_splits_288 : decode cX12_splits 288 = .ok (.getfield 165, 3) := by decide +kernel
theorem dX12_splits_291 : decode cX12_splits 291 = .ok (.iconst 0, 1) := by decide +kernel
theorem dX12_splits_292 : decode cX12_splits 292 = .ok (.iastore, 1) := by decide +kernel
theorem dX12_splits_293 : decode cX12_splits 293 = .ok (.return_, 1) := by decide +kernel
theorem dX12_splits_5 : decode cX12_splits 5 = .ok (.iconst 0, 1) := by decide +kernel
theorem dX12_splits_6 : decode cX12_splits 6 = .ok (.istore_n 2, 1) := by decide +kernel
theorem dX12_splits_7 : decode cX12_splits 7 = .ok (.iload_n 2, 1) := by decide +kernel
theorem dX12_splits_8 : decode cX12_splits 8 = .ok (.iload_n 1, 1) := by decide +kernel
theorem dX12_splits_9 : decode cX12_splits 9 = .ok (.if_icmp .ge 254, 3) := by decide +kernel
theorem dX12_status_0 : decode cX12_status 0 = .ok (.aload_n 0, 1) := by decide +kernel
theorem dX12_status_1 : decode cX12_status 1 = .ok (.getfield 3, 3) := by decide +kernel
theorem dX12_status_4 : decode cX12_status 4 = .ok (.ireturn, 1) := by decide +kernel
theorem dX12_stepBetween_0 : decode cX12_stepBetween 0 = .ok (.iconst 0, 1) := by decide +kernel
theorem dX12_stepBetween_1 : decode cX12_stepBetween 1 = .ok (.istore_n 3, 1) := by decide +kernel
theorem dX12_stepBetween_2 : decode cX12_stepBetween 2 = .ok (.iload_n 3, 1) := by decide +kernel
theorem dX12_stepBetween_3 : decode cX12_stepBetween 3 = .ok (.aload_n 0, 1) := by decide +kernel
theorem dX12_stepBetween_35 : decode cX12_stepBetween 35 = .ok (.iconst (-1), 1) := by decide +kernel
theorem dX12_stepBetween_36 : decode cX12_stepBetween 36 = .ok (.ireturn, 1) := by decide +kernel
theorem dX12_stepBetween_4 : decode cX12_stepBetween 4 = .ok (.getfield 67, 3) := by decide +kernel
theorem dX12_stepBetween_7 : decode cX12_stepBetween 7 = .ok (.iload_n 1, 1) := by decide +kernel
theorem dX12_stepBetween_8 : decode cX12_stepBetween 8 = .ok (.iaload, 1) := by decide +kernel
theorem dX12_stepBetween_9 : decode cX12_stepBetween 9 = .ok (.if_icmp .ge 26, 3) := by decide +kernel
theorem dX12_step_0 : decode cX12_step 0 = .ok (.aload_n 0, 1) := by decide +kernel
theorem dX12_step_1 : decode cX12_step 1 = .ok (.iload_n 1, 1) := by decide +kernel
theorem dX12_step_10 : decode cX12_step 10 = .ok (.aload_n 0, 1) := by decide +kernel
theorem dX12_step_11 : decode cX12_step 11 = .ok (.invokevirtual 328, 3) := by decide +kernel
theorem dX12_step_14 : decode cX12_step 14 = .ok (.iload_n 2, 1) := by decide +kernel
theorem dX12_step_15 : decode cX12_step 15 = .ok (.iconst (-1), 1) := by decide +kernel
theorem dX12_step_16 : decode cX12_step 16 = .ok (.if_icmp .ne 10, 3) := by decide +kernel
theorem dX12_step_19 : decode cX12_step 19 = .ok (.aload_n 0, 1) := by decide +kernel
theorem dX12_step_2 : decode cX12_step 2 = .ok (.invokevirtual 325, 3) := by decide +kernel
theorem dX12_step_20 : decode cX12_step 20 = .ok (.getfield 67, 3) := by decide +kernel
theorem dX12_step_23 : decode cX12_step 23 = .ok (.iload_n 1, 1) := by decide +kernel
theorem dX12_step_24 : decode cX12_step 24 = .ok (.iaload, 1) := by decide +kernel
theorem dX12_step_25 : decode cX12_step 25 = .ok (.ireturn, 1) := by decide +kernel
theorem dX12_step_26 : decode cX12_step 26 = .ok (.iload_n 2, 1) := by decide +kernel
theorem dX12_step_27 : decode cX12_step 27 = .ok (.iconst 0, 1) := by decide +kernel
theorem dX12_step_28 : decode cX12_step 28 = .ok (.aload_n 0, 1) := by decide +kernel
theorem dX12_step_29 : decode cX12_step 29 = .ok (.getfield 67, 3) := by decide +kernel
theorem dX12_step_32 : decode cX12_step 32 = .ok (.iload_n 1, 1) := by decide +kernel
theorem dX12_step_33 : decode cX12_step 33 = .ok (.iaload, 1) := by decide +kernel
theorem dX12_step_34 : decode cX12_step 34 = .ok (.iconst 1, 1) := by decide +kernel
theorem dX12_step_35 : decode cX12_step 35 = .ok (.isub, 1) := by decide +kernel
theorem dX12_step_36 : decode cX12_step 36 = .ok (.invokestatic 138, 3) := by decide +kernel
theorem dX12_step_39 : decode cX12_step 39 = .ok (.ifCond .eq 12, 3) := by decide +kernel
theorem dX12_step_5 : decode cX12_step 5 = .ok (.ifCond .ne 5, 3) := by decide +kernel
theorem dX12_step_51 : decode cX12_step 51 = .ok (.iconst (-1), 1) := by decide +kernel
theorem dX12_step_52 : decode cX12_step 52 = .ok (.ireturn, 1) := by decide +kernel
theorem dX12_step_8 : decode cX12_step 8 = .ok (.iconst (-1), 1) := by decide +kernel
theorem dX12_step_9 : decode cX12_step 9 = .ok (.ireturn, 1) := by decide +kernel
theorem dX12_swapIf_0 : decode cX12_swapIf 0 = .ok (.iload_n 1, 1) := by decide +kernel
theorem dX12_swapIf_1 : decode cX12_swapIf 1 = .ok (.ifCond .lt 16, 3) := by decide +kernel
theorem dX12_swapIf_10 : decode cX12_swapIf 10 = .ok (.aload_n 0, 1) := by decide +kernel
theorem dX12_swapIf_11 : decode cX12_swapIf 11 = .ok (.invokevirtual 149, 3) := by decide +kernel
theorem dX12_swapIf_14 : decode cX12_swapIf 14 = .ok (.if_icmp .lt 9, 3) := by decide +kernel
theorem dX12_swapIf_17 : decode cX12_swapIf 17 = .ok (.aload_n 0, 1) := by decide +kernel
theorem dX12_swapIf_18 : decode cX12_swapIf 18 = .ok (.iconst (-1), 1) := by decide +kernel
theorem dX12_swapIf_19 : decode cX12_swapIf 19 = .ok (.invokevirtual 142, 3) := by decide +kernel
theorem dX12_swapIf_22 : decode cX12_swapIf 22 = .ok (.ireturn, 1) := by decide +kernel
theorem dX12_swapIf_4 : decode cX12_swapIf 4 = .ok (.iload_n 2, 1) := by decide +kernel
theorem dX12_swapIf_5 : decode cX12_swapIf 5 = .ok (.iload_n 1, 1) := by decide +kernel
theorem dX12_swapIf_6 : decode cX12_swapIf 6 = .ok (.if_icmp .le 11, 3) := by decide +kernel
theorem dX12_swapIf_9 : decode cX12_swapIf 9 = .ok (.iload_n 2, 1) := by decide +kernel
theorem dX12_takes0_0 : decode cX12_takes0 0 = .ok (.aload_n 0, 1) := by decide +kernel
theorem dX12_takes0_1 : decode cX12_takes0 1 = .ok (.invokevirtual 183, 3) := by decide +kernel
theorem dX12_takes0_11 : decode cX12_takes0 11 = .ok (.aload_n 0, 1) := by decide +kernel
theorem dX12_takes0_12 : decode cX12_takes0 12 = .ok (.getfield 187, 3) := by decide +kernel
theorem dX12_takes0_15 : decode cX12_takes0 15 = .ok (.iaload, 1) := by decide +kernel
theorem dX12_takes0_16 : decode cX12_takes0 16 = .ok (.iload_n 1, 1) := by decide +kernel
theorem dX12_takes0_17 : decode cX12_takes0 17 = .ok (.if_icmp .ne 7, 3) := by decide +kernel
theorem dX12_takes0_24 : decode cX12_takes0 24 = .ok (.iconst 0, 1) := by decide +kernel
theorem dX12_takes0_25 : decode cX12_takes0 25 = .ok (.istore_n 2, 1) := by decide +kernel
theorem dX12_takes0_26 : decode cX12_takes0 26 = .ok (.iload_n 2, 1) := by decide +kernel
theorem dX12_takes0_27 : decode cX12_takes0 27 = .ok (.ifCond .eq 13, 3) := by decide +kernel
theorem dX12_takes0_4 : decode cX12_takes0 4 = .ok (.ifCond .eq 20, 3) := by decide +kernel
theorem dX12_takes0_40 : decode cX12_takes0 40 = .ok (.iload_n 2, 1) := by decide +kernel
theorem dX12_takes0_41 : decode cX12_takes0 41 = .ok (.ireturn, 1) := by decide +kernel
theorem dX12_takes0_7 : decode cX12_takes0 7 = .ok (.aload_n 0, 1) := by decide +kernel
theorem dX12_takes0_8 : decode cX12_takes0 8 = .ok (.getfield 43, 3) := by decide +kernel
theorem dX12_takesOrder_0 : decode cX12_takesOrder 0 = .ok (.iconst 0, 1) := by decide +kernel
theorem dX12_takesOrder_1 : decode cX12_takesOrder 1 = .ok (.istore_n 2, 1) := by decide +kernel
theorem dX12_takesOrder_2 : decode cX12_takesOrder 2 = .ok (.iload_n 2, 1) := by decide +kernel
theorem dX12_takesOrder_28 : decode cX12_takesOrder 28 = .ok (.return_, 1) := by decide +kernel
theorem dX12_takesOrder_3 : decode cX12_takesOrder 3 = .ok (.aload_n 0, 1) := by decide +kernel
theorem dX12_takesOrder_4 : decode cX12_takesOrder 4 = .ok (.getfield 293, 3) := by decide +kernel
theorem dX12_takesOrder_7 : decode cX12_takesOrder 7 = .ok (.if_icmp .ge 21, 3) := by decide +kernel
theorem dX12_terms_0 : decode cX12_terms 0 = .ok (.iload_n 1, 1) := by decide +kernel
theorem dX12_terms_1 : decode cX12_terms 1 = .ok (.iconst 0, 1) := by decide +kernel
theorem dX12_terms_10 : decode cX12_terms 10 = .ok (.iconst 0, 1) := by decide +kernel
theorem dX12_terms_11 : decode cX12_terms 11 = .ok (.iload_n 1, 1) := by decide +kernel
theorem dX12_terms_12 : decode cX12_terms 12 = .ok (.ifCond .ne 7, 3) := by decide +kernel
theorem dX12_terms_15 : decode cX12_terms 15 = .ok (.iconst 1, 1) := by decide +kernel
theorem dX12_terms_16 : decode cX12_terms 16 = .ok (.goto 5, 3) := by decide +kernel
theorem dX12_terms_19 : decode cX12_terms 19 = .ok (.bipush 99, 2) := by decide +kernel
theorem dX12_terms_2 : decode cX12_terms 2 = .ok (.iconst 1, 1) := by decide +kernel
theorem dX12_terms_21 : decode cX12_terms 21 = .ok (.invokestatic 138, 3) := by decide +kernel
theorem dX12_terms_24 : decode cX12_terms 24 = .ok (.ifCond .ne 9, 3) := by decide +kernel
theorem dX12_terms_27 : decode cX12_terms 27 = .ok (.aload_n 0, 1) := by decide +kernel
theorem dX12_terms_28 : decode cX12_terms 28 = .ok (.iconst (-1), 1) := by decide +kernel
theorem dX12_terms_29 : decode cX12_terms 29 = .ok (.invokevirtual 142, 3) := by decide +kernel
theorem dX12_terms_3 : decode cX12_terms 3 = .ok (.invokestatic 138, 3) := by decide +kernel
theorem dX12_terms_32 : decode cX12_terms 32 = .ok (.ireturn, 1) := by decide +kernel
theorem dX12_terms_33 : decode cX12_terms 33 = .ok (.aload_n 0, 1) := by decide +kernel
theorem dX12_terms_34 : decode cX12_terms 34 = .ok (.getfield 20, 3) := by decide +kernel
theorem dX12_terms_37 : decode cX12_terms 37 = .ok (.iconst 5, 1) := by decide +kernel
theorem dX12_terms_38 : decode cX12_terms 38 = .ok (.iload_n 1, 1) := by decide +kernel
theorem dX12_terms_39 : decode cX12_terms 39 = .ok (.iadd, 1) := by decide +kernel
theorem dX12_terms_40 : decode cX12_terms 40 = .ok (.iaload, 1) := by decide +kernel
theorem dX12_terms_41 : decode cX12_terms 41 = .ok (.istore_n 3, 1) := by decide +kernel
theorem dX12_terms_42 : decode cX12_terms 42 = .ok (.aload_n 0, 1) := by decide +kernel
theorem dX12_terms_43 : decode cX12_terms 43 = .ok (.getfield 20, 3) := by decide +kernel
theorem dX12_terms_46 : decode cX12_terms 46 = .ok (.iconst 5, 1) := by decide +kernel
theorem dX12_terms_47 : decode cX12_terms 47 = .ok (.iload_n 1, 1) := by decide +kernel
theorem dX12_terms_48 : decode cX12_terms 48 = .ok (.iadd, 1) := by decide +kernel
theorem dX12_terms_49 : decode cX12_terms 49 = .ok (.iload_n 2, 1) := by decide +kernel
theorem dX12_terms_50 : decode cX12_terms 50 = .ok (.iastore, 1) := by decide +kernel
theorem dX12_terms_51 : decode cX12_terms 51 = .ok (.aload_n 0, 1) := by decide +kernel
theorem dX12_terms_52 : decode cX12_terms 52 = .ok (.iload_n 3, 1) := by decide +kernel
theorem dX12_terms_53 : decode cX12_terms 53 = .ok (.invokevirtual 146, 3) := by decide +kernel
theorem dX12_terms_56 : decode cX12_terms 56 = .ok (.ireturn, 1) := by decide +kernel
theorem dX12_terms_6 : decode cX12_terms 6 = .ok (.ifCond .eq 21, 3) := by decide +kernel
theorem dX12_terms_9 : decode cX12_terms 9 = .ok (.iload_n 2, 1) := by decide +kernel
theorem dX12_wall_0 : decode cX12_wall 0 = .ok (.aload_n 0, 1) := by decide +kernel
theorem dX12_wall_1 : decode cX12_wall 1 = .ok (.iload_n 1, 1) := by decide +kernel
theorem dX12_wall_10 : decode cX12_wall 10 = .ok (.invokevirtual 325, 3) := by decide +kernel
theorem dX12_wall_13 : decode cX12_wall 13 = .ok (.ifCond .ne 10, 3) := by decide +kernel
theorem dX12_wall_16 : decode cX12_wall 16 = .ok (.aload_n 0, 1) := by decide +kernel
theorem dX12_wall_17 : decode cX12_wall 17 = .ok (.bipush (-2), 2) := by decide +kernel
theorem dX12_wall_19 : decode cX12_wall 19 = .ok (.invokevirtual 142, 3) := by decide +kernel
theorem dX12_wall_2 : decode cX12_wall 2 = .ok (.invokevirtual 325, 3) := by decide +kernel
theorem dX12_wall_22 : decode cX12_wall 22 = .ok (.ireturn, 1) := by decide +kernel
theorem dX12_wall_23 : decode cX12_wall 23 = .ok (.iload_n 1, 1) := by decide +kernel
theorem dX12_wall_24 : decode cX12_wall 24 = .ok (.iload_n 2, 1) := by decide +kernel
theorem dX12_wall_25 : decode cX12_wall 25 = .ok (.if_icmp .eq 12, 3) := by decide +kernel
theorem dX12_wall_37 : decode cX12_wall 37 = .ok (.aload_n 0, 1) := by decide +kernel
theorem dX12_wall_38 : decode cX12_wall 38 = .ok (.bipush (-3), 2) := by decide +kernel
theorem dX12_wall_40 : decode cX12_wall 40 = .ok (.invokevirtual 142, 3) := by decide +kernel
theorem dX12_wall_43 : decode cX12_wall 43 = .ok (.ireturn, 1) := by decide +kernel
theorem dX12_wall_5 : decode cX12_wall 5 = .ok (.ifCond .eq 11, 3) := by decide +kernel
theorem dX12_wall_8 : decode cX12_wall 8 = .ok (.aload_n 0, 1) := by decide +kernel
theorem dX12_wall_9 : decode cX12_wall 9 = .ok (.iload_n 2, 1) := by decide +kernel
theorem dX12_way_0 : decode cX12_way 0 = .ok (.aload_n 0, 1) := by decide +kernel
theorem dX12_way_1 : decode cX12_way 1 = .ok (.iload_n 1, 1) := by decide +kernel
theorem dX12_way_10 : decode cX12_way 10 = .ok (.invokevirtual 325, 3) := by decide +kernel
theorem dX12_way_13 : decode cX12_way 13 = .ok (.ifCond .eq 7, 3) := by decide +kernel
theorem dX12_way_151 : decode cX12_way 151 = .ok (.iload 4, 2) := by decide +kernel
theorem dX12_way_153 : decode cX12_way 153 = .ok (.ireturn, 1) := by decide +kernel
theorem dX12_way_16 : decode cX12_way 16 = .ok (.iload_n 3, 1) := by decide +kernel
theorem dX12_way_17 : decode cX12_way 17 = .ok (.ifCond .ge 5, 3) := by decide +kernel
theorem dX12_way_2 : decode cX12_way 2 = .ok (.invokevirtual 325, 3) := by decide +kernel
theorem dX12_way_20 : decode cX12_way 20 = .ok (.iconst (-1), 1) := by decide +kernel
theorem dX12_way_21 : decode cX12_way 21 = .ok (.ireturn, 1) := by decide +kernel
theorem dX12_way_22 : decode cX12_way 22 = .ok (.aload_n 0, 1) := by decide +kernel
theorem dX12_way_23 : decode cX12_way 23 = .ok (.invokevirtual 328, 3) := by decide +kernel
theorem dX12_way_26 : decode cX12_way 26 = .ok (.aload_n 0, 1) := by decide +kernel
theorem dX12_way_27 : decode cX12_way 27 = .ok (.iload_n 2, 1) := by decide +kernel
theorem dX12_way_28 : decode cX12_way 28 = .ok (.invokevirtual 337, 3) := by decide +kernel
theorem dX12_way_31 : decode cX12_way 31 = .ok (.iload_n 3, 1) := by decide +kernel
theorem dX12_way_32 : decode cX12_way 32 = .ok (.aload_n 0, 1) := by decide +kernel
theorem dX12_way_33 : decode cX12_way 33 = .ok (.getfield 101, 3) := by decide +kernel
theorem dX12_way_36 : decode cX12_way 36 = .ok (.iload_n 1, 1) := by decide +kernel
theorem dX12_way_37 : decode cX12_way 37 = .ok (.iaload, 1) := by decide +kernel
theorem dX12_way_38 : decode cX12_way 38 = .ok (.if_icmp .gt 14, 3) := by decide +kernel
theorem dX12_way_41 : decode cX12_way 41 = .ok (.aload_n 0, 1) := by decide +kernel
theorem dX12_way_42 : decode cX12_way 42 = .ok (.getfield 101, 3) := by decide +kernel
theorem dX12_way_45 : decode cX12_way 45 = .ok (.iload_n 1, 1) := by decide +kernel
theorem dX12_way_46 : decode cX12_way 46 = .ok (.iaload, 1) := by decide +kernel
theorem dX12_way_47 : decode cX12_way 47 = .ok (.ldc 179, 2) := by decide +kernel
theorem dX12_way_49 : decode cX12_way 49 = .ok (.if_icmp .ne 5, 3) := by decide +kernel
theorem dX12_way_5 : decode cX12_way 5 = .ok (.ifCond .eq 15, 3) := by decide +kernel
theorem dX12_way_52 : decode cX12_way 52 = .ok (.iconst (-1), 1) := by decide +kernel
theorem dX12_way_53 : decode cX12_way 53 = .ok (.ireturn, 1) := by decide +kernel
theorem dX12_way_54 : decode cX12_way 54 = .ok (.iload_n 1, 1) := by decide +kernel
theorem dX12_way_55 : decode cX12_way 55 = .ok (.istore 4, 2) := by decide +kernel
theorem dX12_way_57 : decode cX12_way 57 = .ok (.iconst 0, 1) := by decide +kernel
