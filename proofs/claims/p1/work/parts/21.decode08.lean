/-! decode rows -/
theorem dX12_laysHouses_155 : decode cX12_laysHouses 155 = .ok (.putfield 298, 3) := by decide +kernel
theorem dX12_laysHouses_158 : decode cX12_laysHouses 158 = .ok (.aload_n 0, 1) := by decide +kernel
theorem dX12_laysHouses_159 : decode cX12_laysHouses 159 = .ok (.invokevirtual 301, 3) := by decide +kernel
theorem dX12_laysHouses_162 : decode cX12_laysHouses 162 = .ok (.istore_n 2, 1) := by decide +kernel
theorem dX12_laysHouses_163 : decode cX12_laysHouses 163 = .ok (.goto (-83), 3) := by decide +kernel
theorem dX12_laysHouses_166 : decode cX12_laysHouses 166 = .ok (.return_, 1) := by decide +kernel
theorem dX12_laysHouses_17 : decode cX12_laysHouses 17 = .ok (.putfield 79, 3) := by decide +kernel
theorem dX12_laysHouses_20 : decode cX12_laysHouses 20 = .ok (.aload_n 0, 1) := by decide +kernel
theorem dX12_laysHouses_21 : decode cX12_laysHouses 21 = .ok (.aload_n 0, 1) := by decide +kernel
theorem dX12_laysHouses_22 : decode cX12_laysHouses 22 = .ok (.invokevirtual 149, 3) := by decide +kernel
theorem dX12_laysHouses_25 : decode cX12_laysHouses 25 = .ok (.putfield 293, 3) := by decide +kernel
theorem dX12_laysHouses_28 : decode cX12_laysHouses 28 = .ok (.iconst 0, 1) := by decide +kernel
theorem dX12_laysHouses_29 : decode cX12_laysHouses 29 = .ok (.istore_n 1, 1) := by decide +kernel
theorem dX12_laysHouses_30 : decode cX12_laysHouses 30 = .ok (.iconst 0, 1) := by decide +kernel
theorem dX12_laysHouses_31 : decode cX12_laysHouses 31 = .ok (.istore_n 2, 1) := by decide +kernel
theorem dX12_laysHouses_32 : decode cX12_laysHouses 32 = .ok (.iload_n 2, 1) := by decide +kernel
theorem dX12_laysHouses_33 : decode cX12_laysHouses 33 = .ok (.iconst 5, 1) := by decide +kernel
theorem dX12_laysHouses_34 : decode cX12_laysHouses 34 = .ok (.if_icmp .ge 39, 3) := by decide +kernel
theorem dX12_laysHouses_37 : decode cX12_laysHouses 37 = .ok (.iconst 0, 1) := by decide +kernel
theorem dX12_laysHouses_38 : decode cX12_laysHouses 38 = .ok (.istore_n 3, 1) := by decide +kernel
theorem dX12_laysHouses_39 : decode cX12_laysHouses 39 = .ok (.iload_n 3, 1) := by decide +kernel
theorem dX12_laysHouses_4 : decode cX12_laysHouses 4 = .ok (.aload_n 0, 1) := by decide +kernel
theorem dX12_laysHouses_40 : decode cX12_laysHouses 40 = .ok (.aload_n 0, 1) := by decide +kernel
theorem dX12_laysHouses_41 : decode cX12_laysHouses 41 = .ok (.getfield 20, 3) := by decide +kernel
theorem dX12_laysHouses_44 : decode cX12_laysHouses 44 = .ok (.iconst 0, 1) := by decide +kernel
theorem dX12_laysHouses_45 : decode cX12_laysHouses 45 = .ok (.iload_n 2, 1) := by decide +kernel
theorem dX12_laysHouses_46 : decode cX12_laysHouses 46 = .ok (.iadd, 1) := by decide +kernel
theorem dX12_laysHouses_47 : decode cX12_laysHouses 47 = .ok (.iaload, 1) := by decide +kernel
theorem dX12_laysHouses_48 : decode cX12_laysHouses 48 = .ok (.if_icmp .ge 19, 3) := by decide +kernel
theorem dX12_laysHouses_5 : decode cX12_laysHouses 5 = .ok (.getfield 11, 3) := by decide +kernel
theorem dX12_laysHouses_67 : decode cX12_laysHouses 67 = .ok (.iinc 2 1, 3) := by decide +kernel
theorem dX12_laysHouses_70 : decode cX12_laysHouses 70 = .ok (.goto (-38), 3) := by decide +kernel
theorem dX12_laysHouses_73 : decode cX12_laysHouses 73 = .ok (.aload_n 0, 1) := by decide +kernel
theorem dX12_laysHouses_74 : decode cX12_laysHouses 74 = .ok (.iconst 0, 1) := by decide +kernel
theorem dX12_laysHouses_75 : decode cX12_laysHouses 75 = .ok (.putfield 298, 3) := by decide +kernel
theorem dX12_laysHouses_78 : decode cX12_laysHouses 78 = .ok (.iconst 1, 1) := by decide +kernel
theorem dX12_laysHouses_79 : decode cX12_laysHouses 79 = .ok (.istore_n 2, 1) := by decide +kernel
theorem dX12_laysHouses_8 : decode cX12_laysHouses 8 = .ok (.if_icmp .ne 4, 3) := by decide +kernel
theorem dX12_laysHouses_80 : decode cX12_laysHouses 80 = .ok (.iload_n 2, 1) := by decide +kernel
theorem dX12_laysHouses_81 : decode cX12_laysHouses 81 = .ok (.ifCond .eq 85, 3) := by decide +kernel
theorem dX12_laysHouses_84 : decode cX12_laysHouses 84 = .ok (.iconst 0, 1) := by decide +kernel
theorem dX12_laysHouses_85 : decode cX12_laysHouses 85 = .ok (.istore_n 3, 1) := by decide +kernel
theorem dX12_laysHouses_86 : decode cX12_laysHouses 86 = .ok (.iconst 0, 1) := by decide +kernel
theorem dX12_laysHouses_87 : decode cX12_laysHouses 87 = .ok (.istore 4, 2) := by decide +kernel
theorem dX12_laysHouses_89 : decode cX12_laysHouses 89 = .ok (.iload 4, 2) := by decide +kernel
theorem dX12_laysHouses_91 : decode cX12_laysHouses 91 = .ok (.aload_n 0, 1) := by decide +kernel
theorem dX12_laysHouses_92 : decode cX12_laysHouses 92 = .ok (.getfield 293, 3) := by decide +kernel
theorem dX12_laysHouses_95 : decode cX12_laysHouses 95 = .ok (.if_icmp .ge 43, 3) := by decide +kernel
theorem dX12_leastOf_0 : decode cX12_leastOf 0 = .ok (.iconst 0, 1) := by decide +kernel
theorem dX12_leastOf_1 : decode cX12_leastOf 1 = .ok (.istore_n 3, 1) := by decide +kernel
theorem dX12_leastOf_10 : decode cX12_leastOf 10 = .ok (.aload_n 0, 1) := by decide +kernel
theorem dX12_leastOf_100 : decode cX12_leastOf 100 = .ok (.iinc 4 1, 3) := by decide +kernel
theorem dX12_leastOf_103 : decode cX12_leastOf 103 = .ok (.goto (-58), 3) := by decide +kernel
theorem dX12_leastOf_106 : decode cX12_leastOf 106 = .ok (.iload_n 3, 1) := by decide +kernel
theorem dX12_leastOf_107 : decode cX12_leastOf 107 = .ok (.iconst (-1), 1) := by decide +kernel
theorem dX12_leastOf_108 : decode cX12_leastOf 108 = .ok (.if_icmp .eq 8, 3) := by decide +kernel
theorem dX12_leastOf_11 : decode cX12_leastOf 11 = .ok (.getfield 95, 3) := by decide +kernel
theorem dX12_leastOf_111 : decode cX12_leastOf 111 = .ok (.iload_n 3, 1) := by decide +kernel
theorem dX12_leastOf_112 : decode cX12_leastOf 112 = .ok (.iload_n 2, 1) := by decide +kernel
theorem dX12_leastOf_113 : decode cX12_leastOf 113 = .ok (.if_icmp .ne 19, 3) := by decide +kernel
theorem dX12_leastOf_116 : decode cX12_leastOf 116 = .ok (.iload_n 3, 1) := by decide +kernel
theorem dX12_leastOf_117 : decode cX12_leastOf 117 = .ok (.iconst (-1), 1) := by decide +kernel
theorem dX12_leastOf_118 : decode cX12_leastOf 118 = .ok (.if_icmp .ne 7, 3) := by decide +kernel
theorem dX12_leastOf_125 : decode cX12_leastOf 125 = .ok (.aload_n 0, 1) := by decide +kernel
theorem dX12_leastOf_126 : decode cX12_leastOf 126 = .ok (.getfield 95, 3) := by decide +kernel
theorem dX12_leastOf_129 : decode cX12_leastOf 129 = .ok (.iload_n 2, 1) := by decide +kernel
theorem dX12_leastOf_130 : decode cX12_leastOf 130 = .ok (.iaload, 1) := by decide +kernel
theorem dX12_leastOf_131 : decode cX12_leastOf 131 = .ok (.ireturn, 1) := by decide +kernel
theorem dX12_leastOf_14 : decode cX12_leastOf 14 = .ok (.iload_n 3, 1) := by decide +kernel
theorem dX12_leastOf_15 : decode cX12_leastOf 15 = .ok (.iload_n 3, 1) := by decide +kernel
theorem dX12_leastOf_16 : decode cX12_leastOf 16 = .ok (.iload_n 1, 1) := by decide +kernel
theorem dX12_leastOf_17 : decode cX12_leastOf 17 = .ok (.if_icmp .ne 7, 3) := by decide +kernel
theorem dX12_leastOf_2 : decode cX12_leastOf 2 = .ok (.iload_n 3, 1) := by decide +kernel
theorem dX12_leastOf_20 : decode cX12_leastOf 20 = .ok (.iconst 0, 1) := by decide +kernel
theorem dX12_leastOf_21 : decode cX12_leastOf 21 = .ok (.goto 5, 3) := by decide +kernel
theorem dX12_leastOf_26 : decode cX12_leastOf 26 = .ok (.iastore, 1) := by decide +kernel
theorem dX12_leastOf_27 : decode cX12_leastOf 27 = .ok (.aload_n 0, 1) := by decide +kernel
theorem dX12_leastOf_28 : decode cX12_leastOf 28 = .ok (.getfield 98, 3) := by decide +kernel
theorem dX12_leastOf_3 : decode cX12_leastOf 3 = .ok (.aload_n 0, 1) := by decide +kernel
theorem dX12_leastOf_31 : decode cX12_leastOf 31 = .ok (.iload_n 3, 1) := by decide +kernel
theorem dX12_leastOf_32 : decode cX12_leastOf 32 = .ok (.iconst 0, 1) := by decide +kernel
theorem dX12_leastOf_33 : decode cX12_leastOf 33 = .ok (.bastore, 1) := by decide +kernel
theorem dX12_leastOf_34 : decode cX12_leastOf 34 = .ok (.iinc 3 1, 3) := by decide +kernel
theorem dX12_leastOf_37 : decode cX12_leastOf 37 = .ok (.goto (-35), 3) := by decide +kernel
theorem dX12_leastOf_4 : decode cX12_leastOf 4 = .ok (.getfield 298, 3) := by decide +kernel
theorem dX12_leastOf_40 : decode cX12_leastOf 40 = .ok (.iconst (-1), 1) := by decide +kernel
theorem dX12_leastOf_41 : decode cX12_leastOf 41 = .ok (.istore_n 3, 1) := by decide +kernel
theorem dX12_leastOf_42 : decode cX12_leastOf 42 = .ok (.iconst 0, 1) := by decide +kernel
theorem dX12_leastOf_43 : decode cX12_leastOf 43 = .ok (.istore 4, 2) := by decide +kernel
theorem dX12_leastOf_45 : decode cX12_leastOf 45 = .ok (.iload 4, 2) := by decide +kernel
theorem dX12_leastOf_47 : decode cX12_leastOf 47 = .ok (.aload_n 0, 1) := by decide +kernel
theorem dX12_leastOf_48 : decode cX12_leastOf 48 = .ok (.getfield 298, 3) := by decide +kernel
theorem dX12_leastOf_51 : decode cX12_leastOf 51 = .ok (.if_icmp .ge 55, 3) := by decide +kernel
theorem dX12_leastOf_54 : decode cX12_leastOf 54 = .ok (.aload_n 0, 1) := by decide +kernel
theorem dX12_leastOf_55 : decode cX12_leastOf 55 = .ok (.getfield 98, 3) := by decide +kernel
theorem dX12_leastOf_58 : decode cX12_leastOf 58 = .ok (.iload 4, 2) := by decide +kernel
theorem dX12_leastOf_60 : decode cX12_leastOf 60 = .ok (.baload, 1) := by decide +kernel
theorem dX12_leastOf_61 : decode cX12_leastOf 61 = .ok (.ifCond .ne 39, 3) := by decide +kernel
theorem dX12_leastOf_64 : decode cX12_leastOf 64 = .ok (.aload_n 0, 1) := by decide +kernel
theorem dX12_leastOf_65 : decode cX12_leastOf 65 = .ok (.getfield 95, 3) := by decide +kernel
theorem dX12_leastOf_68 : decode cX12_leastOf 68 = .ok (.iload 4, 2) := by decide +kernel
theorem dX12_leastOf_7 : decode cX12_leastOf 7 = .ok (.if_icmp .ge 33, 3) := by decide +kernel
theorem dX12_leastOf_70 : decode cX12_leastOf 70 = .ok (.iaload, 1) := by decide +kernel
theorem dX12_leastOf_71 : decode cX12_leastOf 71 = .ok (.ldc 179, 2) := by decide +kernel
theorem dX12_leastOf_73 : decode cX12_leastOf 73 = .ok (.if_icmp .ge 27, 3) := by decide +kernel
theorem dX12_leastOf_76 : decode cX12_leastOf 76 = .ok (.iload_n 3, 1) := by decide +kernel
theorem dX12_leastOf_77 : decode cX12_leastOf 77 = .ok (.iconst (-1), 1) := by decide +kernel
theorem dX12_leastOf_78 : decode cX12_leastOf 78 = .ok (.if_icmp .eq 19, 3) := by decide +kernel
theorem dX12_leastOf_97 : decode cX12_leastOf 97 = .ok (.iload 4, 2) := by decide +kernel
theorem dX12_leastOf_99 : decode cX12_leastOf 99 = .ok (.istore_n 3, 1) := by decide +kernel
theorem dX12_lies_0 : decode cX12_lies 0 = .ok (.iload_n 0, 1) := by decide +kernel
theorem dX12_lies_1 : decode cX12_lies 1 = .ok (.iload_n 1, 1) := by decide +kernel
theorem dX12_lies_10 : decode cX12_lies 10 = .ok (.iconst 1, 1) := by decide +kernel
theorem dX12_lies_11 : decode cX12_lies 11 = .ok (.goto 4, 3) := by decide +kernel
theorem dX12_lies_14 : decode cX12_lies 14 = .ok (.iconst 0, 1) := by decide +kernel
theorem dX12_lies_15 : decode cX12_lies 15 = .ok (.ireturn, 1) := by decide +kernel
theorem dX12_lies_2 : decode cX12_lies 2 = .ok (.if_icmp .lt 12, 3) := by decide +kernel
theorem dX12_lies_5 : decode cX12_lies 5 = .ok (.iload_n 0, 1) := by decide +kernel
theorem dX12_lies_6 : decode cX12_lies 6 = .ok (.iload_n 2, 1) := by decide +kernel
theorem dX12_lies_7 : decode cX12_lies 7 = .ok (.if_icmp .gt 7, 3) := by decide +kernel
theorem dX12_looks_0 : decode cX12_looks 0 = .ok (.aload_n 0, 1) := by decide +kernel
theorem dX12_looks_1 : decode cX12_looks 1 = .ok (.invokevirtual 159, 3) := by decide +kernel
theorem dX12_looks_12 : decode cX12_looks 12 = .ok (.if_icmp .ne 4, 3) := by decide +kernel
theorem dX12_looks_16 : decode cX12_looks 16 = .ok (.aload_n 0, 1) := by decide +kernel
theorem dX12_looks_161 : decode cX12_looks 161 = .ok (.aload_n 0, 1) := by decide +kernel
theorem dX12_looks_162 : decode cX12_looks 162 = .ok (.getfield 20, 3) := by decide +kernel
theorem dX12_looks_165 : decode cX12_looks 165 = .ok (.iconst 5, 1) := by decide +kernel
theorem dX12_looks_166 : decode cX12_looks 166 = .ok (.iaload, 1) := by decide +kernel
theorem dX12_looks_167 : decode cX12_looks 167 = .ok (.ifCond .eq 62, 3) := by decide +kernel
theorem dX12_looks_17 : decode cX12_looks 17 = .ok (.aload_n 0, 1) := by decide +kernel
theorem dX12_looks_18 : decode cX12_looks 18 = .ok (.getfield 11, 3) := by decide +kernel
theorem dX12_looks_21 : decode cX12_looks 21 = .ok (.putfield 82, 3) := by decide +kernel
theorem dX12_looks_229 : decode cX12_looks 229 = .ok (.iinc 1 1, 3) := by decide +kernel
theorem dX12_looks_232 : decode cX12_looks 232 = .ok (.goto (-183), 3) := by decide +kernel
theorem dX12_looks_235 : decode cX12_looks 235 = .ok (.return_, 1) := by decide +kernel
theorem dX12_looks_24 : decode cX12_looks 24 = .ok (.iconst 0, 1) := by decide +kernel
theorem dX12_looks_25 : decode cX12_looks 25 = .ok (.istore_n 1, 1) := by decide +kernel
theorem dX12_looks_26 : decode cX12_looks 26 = .ok (.iload_n 1, 1) := by decide +kernel
theorem dX12_looks_27 : decode cX12_looks 27 = .ok (.aload_n 0, 1) := by decide +kernel
theorem dX12_looks_28 : decode cX12_looks 28 = .ok (.getfield 298, 3) := by decide +kernel
theorem dX12_looks_31 : decode cX12_looks 31 = .ok (.if_icmp .ge 16, 3) := by decide +kernel
theorem dX12_looks_34 : decode cX12_looks 34 = .ok (.aload_n 0, 1) := by decide +kernel
theorem dX12_looks_35 : decode cX12_looks 35 = .ok (.getfield 73, 3) := by decide +kernel
theorem dX12_looks_38 : decode cX12_looks 38 = .ok (.iload_n 1, 1) := by decide +kernel
theorem dX12_looks_39 : decode cX12_looks 39 = .ok (.iconst 0, 1) := by decide +kernel
theorem dX12_looks_4 : decode cX12_looks 4 = .ok (.aload_n 0, 1) := by decide +kernel
theorem dX12_looks_40 : decode cX12_looks 40 = .ok (.iastore, 1) := by decide +kernel
theorem dX12_looks_41 : decode cX12_looks 41 = .ok (.iinc 1 1, 3) := by decide +kernel
theorem dX12_looks_44 : decode cX12_looks 44 = .ok (.goto (-18), 3) := by decide +kernel
theorem dX12_looks_47 : decode cX12_looks 47 = .ok (.iconst 0, 1) := by decide +kernel
theorem dX12_looks_48 : decode cX12_looks 48 = .ok (.istore_n 1, 1) := by decide +kernel
theorem dX12_looks_49 : decode cX12_looks 49 = .ok (.iload_n 1, 1) := by decide +kernel
theorem dX12_looks_5 : decode cX12_looks 5 = .ok (.getfield 82, 3) := by decide +kernel
theorem dX12_looks_50 : decode cX12_looks 50 = .ok (.aload_n 0, 1) := by decide +kernel
theorem dX12_looks_51 : decode cX12_looks 51 = .ok (.getfield 298, 3) := by decide +kernel
theorem dX12_looks_54 : decode cX12_looks 54 = .ok (.if_icmp .ge 181, 3) := by decide +kernel
theorem dX12_looks_57 : decode cX12_looks 57 = .ok (.aload_n 0, 1) := by decide +kernel
theorem dX12_looks_58 : decode cX12_looks 58 = .ok (.getfield 67, 3) := by decide +kernel
theorem dX12_looks_61 : decode cX12_looks 61 = .ok (.iload_n 1, 1) := by decide +kernel
theorem dX12_looks_62 : decode cX12_looks 62 = .ok (.iconst 0, 1) := by decide +kernel
theorem dX12_looks_63 : decode cX12_looks 63 = .ok (.iastore, 1) := by decide +kernel
theorem dX12_looks_64 : decode cX12_looks 64 = .ok (.iconst 0, 1) := by decide +kernel
theorem dX12_looks_65 : decode cX12_looks 65 = .ok (.istore_n 2, 1) := by decide +kernel
theorem dX12_looks_66 : decode cX12_looks 66 = .ok (.iload_n 2, 1) := by decide +kernel
theorem dX12_looks_67 : decode cX12_looks 67 = .ok (.aload_n 0, 1) := by decide +kernel
theorem dX12_looks_68 : decode cX12_looks 68 = .ok (.getfield 293, 3) := by decide +kernel
theorem dX12_looks_71 : decode cX12_looks 71 = .ok (.if_icmp .ge 90, 3) := by decide +kernel
theorem dX12_looks_8 : decode cX12_looks 8 = .ok (.aload_n 0, 1) := by decide +kernel
theorem dX12_looks_9 : decode cX12_looks 9 = .ok (.getfield 11, 3) := by decide +kernel
theorem dX12_measuresTo_0 : decode cX12_measuresTo 0 = .ok (.iconst 0, 1) := by decide +kernel
theorem dX12_measuresTo_1 : decode cX12_measuresTo 1 = .ok (.istore_n 2, 1) := by decide +kernel
theorem dX12_measuresTo_10 : decode cX12_measuresTo 10 = .ok (.aload_n 0, 1) := by decide +kernel
theorem dX12_measuresTo_11 : decode cX12_measuresTo 11 = .ok (.getfield 101, 3) := by decide +kernel
theorem dX12_measuresTo_125 : decode cX12_measuresTo 125 = .ok (.iinc 4 1, 3) := by decide +kernel
theorem dX12_measuresTo_128 : decode cX12_measuresTo 128 = .ok (.goto (-82), 3) := by decide +kernel
theorem dX12_measuresTo_131 : decode cX12_measuresTo 131 = .ok (.iinc 3 1, 3) := by decide +kernel
theorem dX12_measuresTo_134 : decode cX12_measuresTo 134 = .ok (.goto (-97), 3) := by decide +kernel
theorem dX12_measuresTo_137 : decode cX12_measuresTo 137 = .ok (.return_, 1) := by decide +kernel
theorem dX12_measuresTo_14 : decode cX12_measuresTo 14 = .ok (.iload_n 2, 1) := by decide +kernel
theorem dX12_measuresTo_15 : decode cX12_measuresTo 15 = .ok (.iload_n 2, 1) := by decide +kernel
theorem dX12_measuresTo_16 : decode cX12_measuresTo 16 = .ok (.iload_n 1, 1) := by decide +kernel
theorem dX12_measuresTo_17 : decode cX12_measuresTo 17 = .ok (.if_icmp .ne 7, 3) := by decide +kernel
theorem dX12_measuresTo_2 : decode cX12_measuresTo 2 = .ok (.iload_n 2, 1) := by decide +kernel
theorem dX12_measuresTo_20 : decode cX12_measuresTo 20 = .ok (.iconst 0, 1) := by decide +kernel
theorem dX12_measuresTo_21 : decode cX12_measuresTo 21 = .ok (.goto 5, 3) := by decide +kernel
theorem dX12_measuresTo_26 : decode cX12_measuresTo 26 = .ok (.iastore, 1) := by decide +kernel
theorem dX12_measuresTo_27 : decode cX12_measuresTo 27 = .ok (.iinc 2 1, 3) := by decide +kernel
theorem dX12_measuresTo_3 : decode cX12_measuresTo 3 = .ok (.aload_n 0, 1) := by decide +kernel
theorem dX12_measuresTo_30 : decode cX12_measuresTo 30 = .ok (.goto (-28), 3) := by decide +kernel
theorem dX12_measuresTo_33 : decode cX12_measuresTo 33 = .ok (.iconst 1, 1) := by decide +kernel
theorem dX12_measuresTo_34 : decode cX12_measuresTo 34 = .ok (.istore_n 2, 1) := by decide +kernel
theorem dX12_measuresTo_35 : decode cX12_measuresTo 35 = .ok (.iconst 0, 1) := by decide +kernel
theorem dX12_measuresTo_36 : decode cX12_measuresTo 36 = .ok (.istore_n 3, 1) := by decide +kernel
theorem dX12_measuresTo_37 : decode cX12_measuresTo 37 = .ok (.iload_n 2, 1) := by decide +kernel
theorem dX12_measuresTo_38 : decode cX12_measuresTo 38 = .ok (.ifCond .eq 99, 3) := by decide +kernel
theorem dX12_measuresTo_4 : decode cX12_measuresTo 4 = .ok (.getfield 298, 3) := by decide +kernel
theorem dX12_measuresTo_41 : decode cX12_measuresTo 41 = .ok (.iconst 0, 1) := by decide +kernel
theorem dX12_measuresTo_42 : decode cX12_measuresTo 42 = .ok (.istore_n 2, 1) := by decide +kernel
theorem dX12_measuresTo_43 : decode cX12_measuresTo 43 = .ok (.iconst 0, 1) := by decide +kernel
theorem dX12_measuresTo_44 : decode cX12_measuresTo 44 = .ok (.istore 4, 2) := by decide +kernel
theorem dX12_measuresTo_46 : decode cX12_measuresTo 46 = .ok (.iload 4, 2) := by decide +kernel
theorem dX12_measuresTo_48 : decode cX12_measuresTo 48 = .ok (.aload_n 0, 1) := by decide +kernel
theorem dX12_measuresTo_49 : decode cX12_measuresTo 49 = .ok (.getfield 298, 3) := by decide +kernel
theorem dX12_measuresTo_52 : decode cX12_measuresTo 52 = .ok (.if_icmp .ge 79, 3) := by decide +kernel
theorem dX12_measuresTo_55 : decode cX12_measuresTo 55 = .ok (.iconst 0, 1) := by decide +kernel
theorem dX12_measuresTo_56 : decode cX12_measuresTo 56 = .ok (.istore 5, 2) := by decide +kernel
theorem dX12_measuresTo_58 : decode cX12_measuresTo 58 = .ok (.iload 5, 2) := by decide +kernel
theorem dX12_measuresTo_60 : decode cX12_measuresTo 60 = .ok (.aload_n 0, 1) := by decide +kernel
theorem dX12_measuresTo_61 : decode cX12_measuresTo 61 = .ok (.getfield 67, 3) := by decide +kernel
theorem dX12_measuresTo_64 : decode cX12_measuresTo 64 = .ok (.iload 4, 2) := by decide +kernel
theorem dX12_measuresTo_66 : decode cX12_measuresTo 66 = .ok (.iaload, 1) := by decide +kernel
theorem dX12_measuresTo_67 : decode cX12_measuresTo 67 = .ok (.if_icmp .ge 58, 3) := by decide +kernel
theorem dX12_measuresTo_7 : decode cX12_measuresTo 7 = .ok (.if_icmp .ge 26, 3) := by decide +kernel
theorem dX12_measures_0 : decode cX12_measures 0 = .ok (.iconst 0, 1) := by decide +kernel
theorem dX12_measures_1 : decode cX12_measures 1 = .ok (.istore_n 2, 1) := by decide +kernel
theorem dX12_measures_10 : decode cX12_measures 10 = .ok (.aload_n 0, 1) := by decide +kernel
theorem dX12_measures_11 : decode cX12_measures 11 = .ok (.getfield 85, 3) := by decide +kernel
theorem dX12_measures_14 : decode cX12_measures 14 = .ok (.iload_n 2, 1) := by decide +kernel
theorem dX12_measures_15 : decode cX12_measures 15 = .ok (.iconst (-1), 1) := by decide +kernel
theorem dX12_measures_16 : decode cX12_measures 16 = .ok (.iastore, 1) := by decide +kernel
theorem dX12_measures_17 : decode cX12_measures 17 = .ok (.aload_n 0, 1) := by decide +kernel
theorem dX12_measures_18 : decode cX12_measures 18 = .ok (.getfield 88, 3) := by decide +kernel
theorem dX12_measures_2 : decode cX12_measures 2 = .ok (.iload_n 2, 1) := by decide +kernel
theorem dX12_measures_21 : decode cX12_measures 21 = .ok (.iload_n 2, 1) := by decide +kernel
theorem dX12_measures_211 : decode cX12_measures 211 = .ok (.iinc 3 1, 3) := by decide +kernel
theorem dX12_measures_214 : decode cX12_measures 214 = .ok (.goto (-159), 3) := by decide +kernel
theorem dX12_measures_217 : decode cX12_measures 217 = .ok (.iload_n 2, 1) := by decide +kernel
theorem dX12_measures_218 : decode cX12_measures 218 = .ok (.ireturn, 1) := by decide +kernel
theorem dX12_measures_22 : decode cX12_measures 22 = .ok (.lconst 0, 1) := by decide +kernel
theorem dX12_measures_23 : decode cX12_measures 23 = .ok (.lastore, 1) := by decide +kernel
theorem dX12_measures_24 : decode cX12_measures 24 = .ok (.iinc 2 1, 3) := by decide +kernel
theorem dX12_measures_27 : decode cX12_measures 27 = .ok (.goto (-25), 3) := by decide +kernel
theorem dX12_measures_3 : decode cX12_measures 3 = .ok (.aload_n 0, 1) := by decide +kernel
theorem dX12_measures_30 : decode cX12_measures 30 = .ok (.aload_n 0, 1) := by decide +kernel
theorem dX12_measures_31 : decode cX12_measures 31 = .ok (.getfield 85, 3) := by decide +kernel
theorem dX12_measures_34 : decode cX12_measures 34 = .ok (.iload_n 1, 1) := by decide +kernel
theorem dX12_measures_35 : decode cX12_measures 35 = .ok (.iconst 0, 1) := by decide +kernel
theorem dX12_measures_36 : decode cX12_measures 36 = .ok (.iastore, 1) := by decide +kernel
theorem dX12_measures_37 : decode cX12_measures 37 = .ok (.aload_n 0, 1) := by decide +kernel
theorem dX12_measures_38 : decode cX12_measures 38 = .ok (.getfield 88, 3) := by decide +kernel
theorem dX12_measures_4 : decode cX12_measures 4 = .ok (.getfield 298, 3) := by decide +kernel
theorem dX12_measures_41 : decode cX12_measures 41 = .ok (.iload_n 1, 1) := by decide +kernel
theorem dX12_measures_42 : decode cX12_measures 42 = .ok (.lconst 1, 1) := by decide +kernel
theorem dX12_measures_43 : decode cX12_measures 43 = .ok (.lastore, 1) := by decide +kernel
theorem dX12_measures_44 : decode cX12_measures 44 = .ok (.aload_n 0, 1) := by decide +kernel
theorem dX12_measures_45 : decode cX12_measures 45 = .ok (.getfield 92, 3) := by decide +kernel
theorem dX12_measures_48 : decode cX12_measures 48 = .ok (.iconst 0, 1) := by decide +kernel
theorem dX12_measures_49 : decode cX12_measures 49 = .ok (.iload_n 1, 1) := by decide +kernel
theorem dX12_measures_50 : decode cX12_measures 50 = .ok (.iastore, 1) := by decide +kernel
theorem dX12_measures_51 : decode cX12_measures 51 = .ok (.iconst 1, 1) := by decide +kernel
theorem dX12_measures_52 : decode cX12_measures 52 = .ok (.istore_n 2, 1) := by decide +kernel
theorem dX12_measures_53 : decode cX12_measures 53 = .ok (.iconst 0, 1) := by decide +kernel
theorem dX12_measures_54 : decode cX12_measures 54 = .ok (.istore_n 3, 1) := by decide +kernel
theorem dX12_measures_55 : decode cX12_measures 55 = .ok (.iload_n 3, 1) := by decide +kernel
theorem dX12_measures_56 : decode cX12_measures 56 = .ok (.iload_n 2, 1) := by decide +kernel
theorem dX12_measures_57 : decode cX12_measures 57 = .ok (.if_icmp .ge 160, 3) := by decide +kernel
theorem dX12_measures_60 : decode cX12_measures 60 = .ok (.aload_n 0, 1) := by decide +kernel
theorem dX12_measures_61 : decode cX12_measures 61 = .ok (.getfield 92, 3) := by decide +kernel
theorem dX12_measures_64 : decode cX12_measures 64 = .ok (.iload_n 3, 1) := by decide +kernel
theorem dX12_measures_65 : decode cX12_measures 65 = .ok (.iaload, 1) := by decide +kernel
theorem dX12_measures_66 : decode cX12_measures 66 = .ok (.istore 4, 2) := by decide +kernel
theorem dX12_measures_68 : decode cX12_measures 68 = .ok (.iconst 0, 1) := by decide +kernel
theorem dX12_measures_69 : decode cX12_measures 69 = .ok (.istore 5, 2) := by decide +kernel
theorem dX12_measures_7 : decode cX12_measures 7 = .ok (.if_icmp .ge 23, 3) := by decide +kernel
theorem dX12_measures_71 : decode cX12_measures 71 = .ok (.iload 5, 2) := by decide +kernel
theorem dX12_measures_73 : decode cX12_measures 73 = .ok (.aload_n 0, 1) := by decide +kernel
theorem dX12_measures_74 : decode cX12_measures 74 = .ok (.getfield 67, 3) := by decide +kernel
theorem dX12_measures_77 : decode cX12_measures 77 = .ok (.iload 4, 2) := by decide +kernel
theorem dX12_measures_79 : decode cX12_measures 79 = .ok (.iaload, 1) := by decide +kernel
theorem dX12_measures_80 : decode cX12_measures 80 = .ok (.if_icmp .ge 131, 3) := by decide +kernel
theorem dX12_must_0 : decode cX12_must 0 = .ok (.aload_n 0, 1) := by decide +kernel
theorem dX12_must_1 : decode cX12_must 1 = .ok (.iload_n 1, 1) := by decide +kernel
theorem dX12_must_12 : decode cX12_must 12 = .ok (.return_, 1) := by decide +kernel
theorem dX12_must_2 : decode cX12_must 2 = .ok (.invokevirtual 190, 3) := by decide +kernel
theorem dX12_must_5 : decode cX12_must 5 = .ok (.ifCond .ne 7, 3) := by decide +kernel
theorem dX12_must_8 : decode cX12_must 8 = .ok (.aload_n 0, 1) := by decide +kernel
theorem dX12_must_9 : decode cX12_must 9 = .ok (.invokevirtual 193, 3) := by decide +kernel
theorem dX12_newBeans_0 : decode cX12_newBeans 0 = .ok (.aload_n 0, 1) := by decide +kernel
theorem dX12_newBeans_1 : decode cX12_newBeans 1 = .ok (.getfield 20, 3) := by decide +kernel
theorem dX12_newBeans_111 : decode cX12_newBeans 111 = .ok (.aload_n 0, 1) := by decide +kernel
theorem dX12_newBeans_112 : decode cX12_newBeans 112 = .ok (.getfield 20, 3) := by decide +kernel
theorem dX12_newBeans_115 : decode cX12_newBeans 115 = .ok (.bipush 60, 2) := by decide +kernel
theorem dX12_newBeans_117 : decode cX12_newBeans 117 = .ok (.iload_n 1, 1) := by decide +kernel
theorem dX12_newBeans_118 : decode cX12_newBeans 118 = .ok (.iastore, 1) := by decide +kernel
theorem dX12_newBeans_119 : decode cX12_newBeans 119 = .ok (.return_, 1) := by decide +kernel
theorem dX12_newBeans_12 : decode cX12_newBeans 12 = .ok (.bipush 61, 2) := by decide +kernel
theorem dX12_newBeans_14 : decode cX12_newBeans 14 = .ok (.iconst 0, 1) := by decide +kernel
theorem dX12_newBeans_15 : decode cX12_newBeans 15 = .ok (.iastore, 1) := by decide +kernel
theorem dX12_newBeans_16 : decode cX12_newBeans 16 = .ok (.iconst 0, 1) := by decide +kernel
theorem dX12_newBeans_17 : decode cX12_newBeans 17 = .ok (.istore_n 1, 1) := by decide +kernel
theorem dX12_newBeans_18 : decode cX12_newBeans 18 = .ok (.iconst 0, 1) := by decide +kernel
theorem dX12_newBeans_19 : decode cX12_newBeans 19 = .ok (.istore_n 2, 1) := by decide +kernel
theorem dX12_newBeans_20 : decode cX12_newBeans 20 = .ok (.iload_n 2, 1) := by decide +kernel
theorem dX12_newBeans_21 : decode cX12_newBeans 21 = .ok (.aload_n 0, 1) := by decide +kernel
theorem dX12_newBeans_22 : decode cX12_newBeans 22 = .ok (.getfield 20, 3) := by decide +kernel
theorem dX12_newBeans_25 : decode cX12_newBeans 25 = .ok (.bipush 60, 2) := by decide +kernel
theorem dX12_newBeans_27 : decode cX12_newBeans 27 = .ok (.iaload, 1) := by decide +kernel
theorem dX12_newBeans_28 : decode cX12_newBeans 28 = .ok (.if_icmp .ge 83, 3) := by decide +kernel
theorem dX12_newBeans_4 : decode cX12_newBeans 4 = .ok (.bipush 59, 2) := by decide +kernel
theorem dX12_newBeans_6 : decode cX12_newBeans 6 = .ok (.iconst 0, 1) := by decide +kernel
theorem dX12_newBeans_7 : decode cX12_newBeans 7 = .ok (.iastore, 1) := by decide +kernel
theorem dX12_newBeans_8 : decode cX12_newBeans 8 = .ok (.aload_n 0, 1) := by decide +kernel
theorem dX12_newBeans_9 : decode cX12_newBeans 9 = .ok (.getfield 20, 3) := by decide +kernel
theorem dX12_nextOrder_0 : decode cX12_nextOrder 0 = .ok (.aload_n 0, 1) := by decide +kernel
theorem dX12_nextOrder_1 : decode cX12_nextOrder 1 = .ok (.getfield 293, 3) := by decide +kernel
theorem dX12_nextOrder_34 : decode cX12_nextOrder 34 = .ok (.iload_n 1, 1) := by decide +kernel
theorem dX12_nextOrder_35 : decode cX12_nextOrder 35 = .ok (.ifCond .ge 5, 3) := by decide +kernel
theorem dX12_nextOrder_38 : decode cX12_nextOrder 38 = .ok (.iconst 0, 1) := by decide +kernel
theorem dX12_nextOrder_39 : decode cX12_nextOrder 39 = .ok (.ireturn, 1) := by decide +kernel
theorem dX12_nextOrder_4 : decode cX12_nextOrder 4 = .ok (.iconst 2, 1) := by decide +kernel
theorem dX12_nextOrder_5 : decode cX12_nextOrder 5 = .ok (.isub, 1) := by decide +kernel
theorem dX12_nextOrder_6 : decode cX12_nextOrder 6 = .ok (.istore_n 1, 1) := by decide +kernel
theorem dX12_nextOrder_7 : decode cX12_nextOrder 7 = .ok (.iload_n 1, 1) := by decide +kernel
theorem dX12_nextOrder_8 : decode cX12_nextOrder 8 = .ok (.ifCond .lt 26, 3) := by decide +kernel
theorem dX12_orderCode_0 : decode cX12_orderCode 0 = .ok (.iconst 0, 1) := by decide +kernel
theorem dX12_orderCode_1 : decode cX12_orderCode 1 = .ok (.istore_n 1, 1) := by decide +kernel
theorem dX12_orderCode_2 : decode cX12_orderCode 2 = .ok (.iconst 0, 1) := by decide +kernel
theorem dX12_orderCode_29 : decode cX12_orderCode 29 = .ok (.iload_n 1, 1) := by decide +kernel
theorem dX12_orderCode_3 : decode cX12_orderCode 3 = .ok (.istore_n 2, 1) := by decide +kernel
theorem dX12_orderCode_30 : decode cX12_orderCode 30 = .ok (.ireturn, 1) := by decide +kernel
theorem dX12_orderCode_4 : decode cX12_orderCode 4 = .ok (.iload_n 2, 1) := by decide +kernel
theorem dX12_orderCode_5 : decode cX12_orderCode 5 = .ok (.aload_n 0, 1) := by decide +kernel
theorem dX12_orderCode_6 : decode cX12_orderCode 6 = .ok (.getfield 293, 3) := by decide +kernel
theorem dX12_orderCode_9 : decode cX12_orderCode 9 = .ok (.if_icmp .ge 20, 3) := by decide +kernel
theorem dX12_parted_0 : decode cX12_parted 0 = .ok (.aload_n 0, 1) := by decide +kernel
theorem dX12_parted_1 : decode cX12_parted 1 = .ok (.iload_n 1, 1) := by decide +kernel
theorem dX12_parted_10 : decode cX12_parted 10 = .ok (.invokevirtual 325, 3) := by decide +kernel
theorem dX12_parted_13 : decode cX12_parted 13 = .ok (.ifCond .eq 8, 3) := by decide +kernel
theorem dX12_parted_16 : decode cX12_parted 16 = .ok (.iload_n 1, 1) := by decide +kernel
theorem dX12_parted_17 : decode cX12_parted 17 = .ok (.iload_n 2, 1) := by decide +kernel
theorem dX12_parted_18 : decode cX12_parted 18 = .ok (.if_icmp .ne 5, 3) := by decide +kernel
theorem dX12_parted_2 : decode cX12_parted 2 = .ok (.invokevirtual 325, 3) := by decide +kernel
theorem dX12_parted_21 : decode cX12_parted 21 = .ok (.iconst (-1), 1) := by decide +kernel
theorem dX12_parted_22 : decode cX12_parted 22 = .ok (.ireturn, 1) := by decide +kernel
theorem dX12_parted_5 : decode cX12_parted 5 = .ok (.ifCond .eq 16, 3) := by decide +kernel
theorem dX12_parted_8 : decode cX12_parted 8 = .ok (.aload_n 0, 1) := by decide +kernel
theorem dX12_parted_9 : decode cX12_parted 9 = .ok (.iload_n 2, 1) := by decide +kernel
theorem dX12_places_0 : decode cX12_places 0 = .ok (.iconst 0, 1) := by decide +kernel
theorem dX12_places_1 : decode cX12_places 1 = .ok (.istore_n 1, 1) := by decide +kernel
theorem dX12_places_10 : decode cX12_places 10 = .ok (.aload_n 0, 1) := by decide +kernel
theorem dX12_places_11 : decode cX12_places 11 = .ok (.getfield 20, 3) := by decide +kernel
theorem dX12_places_14 : decode cX12_places 14 = .ok (.iconst 0, 1) := by decide +kernel
theorem dX12_places_15 : decode cX12_places 15 = .ok (.iload_n 2, 1) := by decide +kernel
theorem dX12_places_16 : decode cX12_places 16 = .ok (.iadd, 1) := by decide +kernel
theorem dX12_places_17 : decode cX12_places 17 = .ok (.iaload, 1) := by decide +kernel
theorem dX12_places_18 : decode cX12_places 18 = .ok (.iadd, 1) := by decide +kernel
theorem dX12_places_19 : decode cX12_places 19 = .ok (.istore_n 1, 1) := by decide +kernel
theorem dX12_places_2 : decode cX12_places 2 = .ok (.iconst 0, 1) := by decide +kernel
theorem dX12_places_20 : decode cX12_places 20 = .ok (.iinc 2 1, 3) := by decide +kernel
theorem dX12_places_23 : decode cX12_places 23 = .ok (.goto (-19), 3) := by decide +kernel
theorem dX12_places_26 : decode cX12_places 26 = .ok (.iload_n 1, 1) := by decide +kernel
theorem dX12_places_27 : decode cX12_places 27 = .ok (.ireturn, 1) := by decide +kernel
theorem dX12_places_3 : decode cX12_places 3 = .ok (.istore_n 2, 1) := by decide +kernel
theorem dX12_places_4 : decode cX12_places 4 = .ok (.iload_n 2, 1) := by decide +kernel
theorem dX12_places_5 : decode cX12_places 5 = .ok (.iconst 5, 1) := by decide +kernel
theorem dX12_places_6 : decode cX12_places 6 = .ok (.if_icmp .ge 20, 3) := by decide +kernel
theorem dX12_places_9 : decode cX12_places 9 = .ok (.iload_n 1, 1) := by decide +kernel
theorem dX12_post_0 : decode cX12_post 0 = .ok (.aload_n 0, 1) := by decide +kernel
theorem dX12_post_1 : decode cX12_post 1 = .ok (.iload_n 1, 1) := by decide +kernel
theorem dX12_post_10 : decode cX12_post 10 = .ok (.invokevirtual 325, 3) := by decide +kernel
theorem dX12_post_13 : decode cX12_post 13 = .ok (.ifCond .eq 40, 3) := by decide +kernel
theorem dX12_post_16 : decode cX12_post 16 = .ok (.aload_n 0, 1) := by decide +kernel
theorem dX12_post_17 : decode cX12_post 17 = .ok (.iload_n 3, 1) := by decide +kernel
theorem dX12_post_18 : decode cX12_post 18 = .ok (.invokevirtual 325, 3) := by decide +kernel
theorem dX12_post_2 : decode cX12_post 2 = .ok (.invokevirtual 325, 3) := by decide +kernel
theorem dX12_post_21 : decode cX12_post 21 = .ok (.ifCond .eq 32, 3) := by decide +kernel
theorem dX12_post_24 : decode cX12_post 24 = .ok (.aload_n 0, 1) := by decide +kernel
theorem dX12_post_25 : decode cX12_post 25 = .ok (.iload 4, 2) := by decide +kernel
theorem dX12_post_27 : decode cX12_post 27 = .ok (.invokevirtual 325, 3) := by decide +kernel
theorem dX12_post_30 : decode cX12_post 30 = .ok (.ifCond .eq 23, 3) := by decide +kernel
theorem dX12_post_33 : decode cX12_post 33 = .ok (.iload_n 1, 1) := by decide +kernel
theorem dX12_post_34 : decode cX12_post 34 = .ok (.iload_n 3, 1) := by decide +kernel
theorem dX12_post_35 : decode cX12_post 35 = .ok (.if_icmp .eq 18, 3) := by decide +kernel
theorem dX12_post_5 : decode cX12_post 5 = .ok (.ifCond .eq 48, 3) := by decide +kernel
theorem dX12_post_53 : decode cX12_post 53 = .ok (.iconst (-1), 1) := by decide +kernel
theorem dX12_post_54 : decode cX12_post 54 = .ok (.ireturn, 1) := by decide +kernel
theorem dX12_post_8 : decode cX12_post 8 = .ok (.aload_n 0, 1) := by decide +kernel
theorem dX12_post_9 : decode cX12_post 9 = .ok (.iload_n 2, 1) := by decide +kernel
theorem dX12_reach_0 : decode cX12_reach 0 = .ok (.aload_n 0, 1) := by decide +kernel
theorem dX12_reach_1 : decode cX12_reach 1 = .ok (.iload_n 1, 1) := by decide +kernel
theorem dX12_reach_10 : decode cX12_reach 10 = .ok (.iconst 3, 1) := by decide +kernel
theorem dX12_reach_100 : decode cX12_reach 100 = .ok (.iconst 1, 1) := by decide +kernel
theorem dX12_reach_101 : decode cX12_reach 101 = .ok (.if_icmp .ne 8, 3) := by decide +kernel
theorem dX12_reach_104 : decode cX12_reach 104 = .ok (.iload 4, 2) := by decide +kernel
theorem dX12_reach_106 : decode cX12_reach 106 = .ok (.goto 15, 3) := by decide +kernel
theorem dX12_reach_109 : decode cX12_reach 109 = .ok (.iload_n 2, 1) := by decide +kernel
theorem dX12_reach_11 : decode cX12_reach 11 = .ok (.invokestatic 138, 3) := by decide +kernel
theorem dX12_reach_110 : decode cX12_reach 110 = .ok (.iconst 2, 1) := by decide +kernel
theorem dX12_reach_111 : decode cX12_reach 111 = .ok (.if_icmp .ne 8, 3) := by decide +kernel
theorem dX12_reach_114 : decode cX12_reach 114 = .ok (.iload 5, 2) := by decide +kernel
theorem dX12_reach_116 : decode cX12_reach 116 = .ok (.goto 5, 3) := by decide +kernel
theorem dX12_reach_119 : decode cX12_reach 119 = .ok (.iload 6, 2) := by decide +kernel
theorem dX12_reach_121 : decode cX12_reach 121 = .ok (.ireturn, 1) := by decide +kernel
theorem dX12_reach_14 : decode cX12_reach 14 = .ok (.ifCond .ne 5, 3) := by decide +kernel
theorem dX12_reach_17 : decode cX12_reach 17 = .ok (.iconst (-1), 1) := by decide +kernel
theorem dX12_reach_18 : decode cX12_reach 18 = .ok (.ireturn, 1) := by decide +kernel
theorem dX12_reach_19 : decode cX12_reach 19 = .ok (.aload_n 0, 1) := by decide +kernel
theorem dX12_reach_2 : decode cX12_reach 2 = .ok (.invokevirtual 325, 3) := by decide +kernel
theorem dX12_reach_20 : decode cX12_reach 20 = .ok (.invokevirtual 328, 3) := by decide +kernel
theorem dX12_reach_23 : decode cX12_reach 23 = .ok (.aload_n 0, 1) := by decide +kernel
theorem dX12_reach_24 : decode cX12_reach 24 = .ok (.iload_n 1, 1) := by decide +kernel
theorem dX12_reach_25 : decode cX12_reach 25 = .ok (.invokevirtual 334, 3) := by decide +kernel
theorem dX12_reach_28 : decode cX12_reach 28 = .ok (.istore_n 3, 1) := by decide +kernel
theorem dX12_reach_29 : decode cX12_reach 29 = .ok (.aload_n 0, 1) := by decide +kernel
theorem dX12_reach_30 : decode cX12_reach 30 = .ok (.getfield 85, 3) := by decide +kernel
theorem dX12_reach_33 : decode cX12_reach 33 = .ok (.aload_n 0, 1) := by decide +kernel
theorem dX12_reach_34 : decode cX12_reach 34 = .ok (.getfield 92, 3) := by decide +kernel
theorem dX12_reach_37 : decode cX12_reach 37 = .ok (.iload_n 3, 1) := by decide +kernel
theorem dX12_reach_38 : decode cX12_reach 38 = .ok (.iconst 1, 1) := by decide +kernel
theorem dX12_reach_39 : decode cX12_reach 39 = .ok (.isub, 1) := by decide +kernel
theorem dX12_reach_40 : decode cX12_reach 40 = .ok (.iaload, 1) := by decide +kernel
theorem dX12_reach_41 : decode cX12_reach 41 = .ok (.iaload, 1) := by decide +kernel
theorem dX12_reach_42 : decode cX12_reach 42 = .ok (.istore 4, 2) := by decide +kernel
theorem dX12_reach_44 : decode cX12_reach 44 = .ok (.iconst 0, 1) := by decide +kernel
theorem dX12_reach_45 : decode cX12_reach 45 = .ok (.istore 5, 2) := by decide +kernel
theorem dX12_reach_47 : decode cX12_reach 47 = .ok (.iconst (-1), 1) := by decide +kernel
theorem dX12_reach_48 : decode cX12_reach 48 = .ok (.istore 6, 2) := by decide +kernel
theorem dX12_reach_5 : decode cX12_reach 5 = .ok (.ifCond .eq 12, 3) := by decide +kernel
theorem dX12_reach_50 : decode cX12_reach 50 = .ok (.aload_n 0, 1) := by decide +kernel
theorem dX12_reach_51 : decode cX12_reach 51 = .ok (.getfield 298, 3) := by decide +kernel
theorem dX12_reach_54 : decode cX12_reach 54 = .ok (.iconst 1, 1) := by decide +kernel
theorem dX12_reach_55 : decode cX12_reach 55 = .ok (.isub, 1) := by decide +kernel
theorem dX12_reach_56 : decode cX12_reach 56 = .ok (.istore 7, 2) := by decide +kernel
theorem dX12_reach_58 : decode cX12_reach 58 = .ok (.iload 7, 2) := by decide +kernel
theorem dX12_reach_60 : decode cX12_reach 60 = .ok (.ifCond .lt 31, 3) := by decide +kernel
theorem dX12_reach_63 : decode cX12_reach 63 = .ok (.aload_n 0, 1) := by decide +kernel
theorem dX12_reach_64 : decode cX12_reach 64 = .ok (.getfield 85, 3) := by decide +kernel
theorem dX12_reach_67 : decode cX12_reach 67 = .ok (.iload 7, 2) := by decide +kernel
theorem dX12_reach_69 : decode cX12_reach 69 = .ok (.iaload, 1) := by decide +kernel
theorem dX12_reach_70 : decode cX12_reach 70 = .ok (.iload 4, 2) := by decide +kernel
theorem dX12_reach_72 : decode cX12_reach 72 = .ok (.if_icmp .eq 6, 3) := by decide +kernel
theorem dX12_reach_78 : decode cX12_reach 78 = .ok (.iinc 5 1, 3) := by decide +kernel
theorem dX12_reach_8 : decode cX12_reach 8 = .ok (.iload_n 2, 1) := by decide +kernel
theorem dX12_reach_81 : decode cX12_reach 81 = .ok (.iload 7, 2) := by decide +kernel
theorem dX12_reach_83 : decode cX12_reach 83 = .ok (.istore 6, 2) := by decide +kernel
theorem dX12_reach_85 : decode cX12_reach 85 = .ok (.iinc 7 (-1), 3) := by decide +kernel
theorem dX12_reach_88 : decode cX12_reach 88 = .ok (.goto (-30), 3) := by decide +kernel
theorem dX12_reach_9 : decode cX12_reach 9 = .ok (.iconst 0, 1) := by decide +kernel
theorem dX12_reach_91 : decode cX12_reach 91 = .ok (.iload_n 2, 1) := by decide +kernel
theorem dX12_reach_92 : decode cX12_reach 92 = .ok (.ifCond .ne 7, 3) := by decide +kernel
theorem dX12_reach_95 : decode cX12_reach 95 = .ok (.iload_n 3, 1) := by decide +kernel
theorem dX12_reach_96 : decode cX12_reach 96 = .ok (.goto 25, 3) := by decide +kernel
theorem dX12_reach_99 : decode cX12_reach 99 = .ok (.iload_n 2, 1) := by decide +kernel
theorem dX12_readClause_0 : decode cX12_readClause 0 = .ok (.aload_n 0, 1) := by decide +kernel
theorem dX12_readClause_1 : decode cX12_readClause 1 = .ok (.iconst 1, 1) := by decide +kernel
theorem dX12_readClause_16 : decode cX12_readClause 16 = .ok (.aload_n 0, 1) := by decide +kernel
theorem dX12_readClause_17 : decode cX12_readClause 17 = .ok (.iconst 2, 1) := by decide +kernel
theorem dX12_readClause_18 : decode cX12_readClause 18 = .ok (.invokevirtual 190, 3) := by decide +kernel
theorem dX12_readClause_2 : decode cX12_readClause 2 = .ok (.invokevirtual 190, 3) := by decide +kernel
theorem dX12_readClause_21 : decode cX12_readClause 21 = .ok (.ifCond .ne 8, 3) := by decide +kernel
theorem dX12_readClause_24 : decode cX12_readClause 24 = .ok (.aload_n 0, 1) := by decide +kernel
theorem dX12_readClause_25 : decode cX12_readClause 25 = .ok (.iconst 3, 1) := by decide +kernel
theorem dX12_readClause_26 : decode cX12_readClause 26 = .ok (.invokevirtual 203, 3) := by decide +kernel
theorem dX12_readClause_29 : decode cX12_readClause 29 = .ok (.aload_n 0, 1) := by decide +kernel
theorem dX12_readClause_30 : decode cX12_readClause 30 = .ok (.iconst 4, 1) := by decide +kernel
theorem dX12_readClause_31 : decode cX12_readClause 31 = .ok (.invokevirtual 190, 3) := by decide +kernel
theorem dX12_readClause_34 : decode cX12_readClause 34 = .ok (.ifCond .eq 8, 3) := by decide +kernel
theorem dX12_readClause_42 : decode cX12_readClause 42 = .ok (.return_, 1) := by decide +kernel
theorem dX12_readClause_5 : decode cX12_readClause 5 = .ok (.ifCond .eq 11, 3) := by decide +kernel
theorem dX12_read_0 : decode cX12_read 0 = .ok (.aload_n 0, 1) := by decide +kernel
theorem dX12_read_1 : decode cX12_read 1 = .ok (.iload_n 1, 1) := by decide +kernel
theorem dX12_read_10 : decode cX12_read 10 = .ok (.iconst 1, 1) := by decide +kernel
theorem dX12_read_11 : decode cX12_read 11 = .ok (.invokestatic 138, 3) := by decide +kernel
theorem dX12_read_124 : decode cX12_read 124 = .ok (.iload_n 2, 1) := by decide +kernel
theorem dX12_read_125 : decode cX12_read 125 = .ok (.iconst 1, 1) := by decide +kernel
theorem dX12_read_126 : decode cX12_read 126 = .ok (.if_icmp .ne 7, 3) := by decide +kernel
theorem dX12_read_129 : decode cX12_read 129 = .ok (.iload_n 3, 1) := by decide +kernel
theorem dX12_read_130 : decode cX12_read 130 = .ok (.goto 11, 3) := by decide +kernel
theorem dX12_read_133 : decode cX12_read 133 = .ok (.aload_n 0, 1) := by decide +kernel
theorem dX12_read_134 : decode cX12_read 134 = .ok (.aload_n 0, 1) := by decide +kernel
theorem dX12_read_135 : decode cX12_read 135 = .ok (.invokevirtual 319, 3) := by decide +kernel
theorem dX12_read_138 : decode cX12_read 138 = .ok (.invokevirtual 162, 3) := by decide +kernel
theorem dX12_read_14 : decode cX12_read 14 = .ok (.ifCond .ne 5, 3) := by decide +kernel
theorem dX12_read_141 : decode cX12_read 141 = .ok (.ireturn, 1) := by decide +kernel
theorem dX12_read_17 : decode cX12_read 17 = .ok (.iconst (-1), 1) := by decide +kernel
theorem dX12_read_18 : decode cX12_read 18 = .ok (.ireturn, 1) := by decide +kernel
theorem dX12_read_19 : decode cX12_read 19 = .ok (.iconst 0, 1) := by decide +kernel
theorem dX12_read_2 : decode cX12_read 2 = .ok (.invokevirtual 325, 3) := by decide +kernel
theorem dX12_read_20 : decode cX12_read 20 = .ok (.istore_n 3, 1) := by decide +kernel
theorem dX12_read_21 : decode cX12_read 21 = .ok (.iconst 0, 1) := by decide +kernel
theorem dX12_read_22 : decode cX12_read 22 = .ok (.istore 4, 2) := by decide +kernel
theorem dX12_read_24 : decode cX12_read 24 = .ok (.iload 4, 2) := by decide +kernel
theorem dX12_read_26 : decode cX12_read 26 = .ok (.aload_n 0, 1) := by decide +kernel
theorem dX12_read_27 : decode cX12_read 27 = .ok (.getfield 293, 3) := by decide +kernel
theorem dX12_read_30 : decode cX12_read 30 = .ok (.if_icmp .ge 55, 3) := by decide +kernel
theorem dX12_read_5 : decode cX12_read 5 = .ok (.ifCond .eq 12, 3) := by decide +kernel
theorem dX12_read_8 : decode cX12_read 8 = .ok (.iload_n 2, 1) := by decide +kernel
theorem dX12_read_85 : decode cX12_read 85 = .ok (.iconst 0, 1) := by decide +kernel
theorem dX12_read_86 : decode cX12_read 86 = .ok (.istore 4, 2) := by decide +kernel
theorem dX12_read_88 : decode cX12_read 88 = .ok (.iload 4, 2) := by decide +kernel
theorem dX12_read_9 : decode cX12_read 9 = .ok (.iconst 0, 1) := by decide +kernel
theorem dX12_read_90 : decode cX12_read 90 = .ok (.aload_n 0, 1) := by decide +kernel
theorem dX12_read_91 : decode cX12_read 91 = .ok (.getfield 293, 3) := by decide +kernel
theorem dX12_read_94 : decode cX12_read 94 = .ok (.if_icmp .ge 30, 3) := by decide +kernel
theorem dX12_reads_0 : decode cX12_reads 0 = .ok (.aload_n 0, 1) := by decide +kernel
theorem dX12_reads_1 : decode cX12_reads 1 = .ok (.aload_n 0, 1) := by decide +kernel
theorem dX12_reads_10 : decode cX12_reads 10 = .ok (.putfield 156, 3) := by decide +kernel
theorem dX12_reads_100 : decode cX12_reads 100 = .ok (.putfield 40, 3) := by decide +kernel
theorem dX12_reads_103 : decode cX12_reads 103 = .ok (.aload_n 0, 1) := by decide +kernel
theorem dX12_reads_104 : decode cX12_reads 104 = .ok (.invokevirtual 183, 3) := by decide +kernel
