/-! decode rows -/
theorem dX0_settle_17 : decode cX0_settle 17 = .ok (.iaload, 1) := by decide +kernel
theorem dX0_settle_18 : decode cX0_settle 18 = .ok (.if_icmp .ge 38, 3) := by decide +kernel
theorem dX0_settle_2 : decode cX0_settle 2 = .ok (.putfield 22, 3) := by decide +kernel
theorem dX0_settle_21 : decode cX0_settle 21 = .ok (.aload_n 0, 1) := by decide +kernel
theorem dX0_settle_22 : decode cX0_settle 22 = .ok (.getfield 22, 3) := by decide +kernel
theorem dX0_settle_25 : decode cX0_settle 25 = .ok (.bipush 7, 2) := by decide +kernel
theorem dX0_settle_27 : decode cX0_settle 27 = .ok (.if_icmp .ge 29, 3) := by decide +kernel
theorem dX0_settle_30 : decode cX0_settle 30 = .ok (.aload_n 0, 1) := by decide +kernel
theorem dX0_settle_31 : decode cX0_settle 31 = .ok (.getfield 15, 3) := by decide +kernel
theorem dX0_settle_34 : decode cX0_settle 34 = .ok (.aload_n 0, 1) := by decide +kernel
theorem dX0_settle_35 : decode cX0_settle 35 = .ok (.getfield 22, 3) := by decide +kernel
theorem dX0_settle_38 : decode cX0_settle 38 = .ok (.iload_n 2, 1) := by decide +kernel
theorem dX0_settle_39 : decode cX0_settle 39 = .ok (.iastore, 1) := by decide +kernel
theorem dX0_settle_40 : decode cX0_settle 40 = .ok (.aload_n 0, 1) := by decide +kernel
theorem dX0_settle_41 : decode cX0_settle 41 = .ok (.dup, 1) := by decide +kernel
theorem dX0_settle_42 : decode cX0_settle 42 = .ok (.getfield 22, 3) := by decide +kernel
theorem dX0_settle_45 : decode cX0_settle 45 = .ok (.iconst 1, 1) := by decide +kernel
theorem dX0_settle_46 : decode cX0_settle 46 = .ok (.iadd, 1) := by decide +kernel
theorem dX0_settle_47 : decode cX0_settle 47 = .ok (.putfield 22, 3) := by decide +kernel
theorem dX0_settle_5 : decode cX0_settle 5 = .ok (.iconst 0, 1) := by decide +kernel
theorem dX0_settle_50 : decode cX0_settle 50 = .ok (.iinc 3 1, 3) := by decide +kernel
theorem dX0_settle_53 : decode cX0_settle 53 = .ok (.goto (-39), 3) := by decide +kernel
theorem dX0_settle_56 : decode cX0_settle 56 = .ok (.iinc 2 1, 3) := by decide +kernel
theorem dX0_settle_59 : decode cX0_settle 59 = .ok (.goto (-52), 3) := by decide +kernel
theorem dX0_settle_6 : decode cX0_settle 6 = .ok (.istore_n 2, 1) := by decide +kernel
theorem dX0_settle_62 : decode cX0_settle 62 = .ok (.aload_n 0, 1) := by decide +kernel
theorem dX0_settle_63 : decode cX0_settle 63 = .ok (.iconst 0, 1) := by decide +kernel
theorem dX0_settle_64 : decode cX0_settle 64 = .ok (.putfield 18, 3) := by decide +kernel
theorem dX0_settle_67 : decode cX0_settle 67 = .ok (.iconst 1, 1) := by decide +kernel
theorem dX0_settle_68 : decode cX0_settle 68 = .ok (.istore_n 2, 1) := by decide +kernel
theorem dX0_settle_69 : decode cX0_settle 69 = .ok (.iconst 0, 1) := by decide +kernel
theorem dX0_settle_7 : decode cX0_settle 7 = .ok (.iload_n 2, 1) := by decide +kernel
theorem dX0_settle_70 : decode cX0_settle 70 = .ok (.istore_n 3, 1) := by decide +kernel
theorem dX0_settle_71 : decode cX0_settle 71 = .ok (.iload_n 3, 1) := by decide +kernel
theorem dX0_settle_72 : decode cX0_settle 72 = .ok (.sipush 1260, 3) := by decide +kernel
theorem dX0_settle_75 : decode cX0_settle 75 = .ok (.if_icmp .ge 41, 3) := by decide +kernel
theorem dX0_settle_78 : decode cX0_settle 78 = .ok (.iload_n 2, 1) := by decide +kernel
theorem dX0_settle_79 : decode cX0_settle 79 = .ok (.ifCond .eq 37, 3) := by decide +kernel
theorem dX0_settle_8 : decode cX0_settle 8 = .ok (.iconst 5, 1) := by decide +kernel
theorem dX0_settle_82 : decode cX0_settle 82 = .ok (.aload_n 0, 1) := by decide +kernel
theorem dX0_settle_83 : decode cX0_settle 83 = .ok (.getfield 9, 3) := by decide +kernel
theorem dX0_settle_86 : decode cX0_settle 86 = .ok (.aload_n 0, 1) := by decide +kernel
theorem dX0_settle_87 : decode cX0_settle 87 = .ok (.getfield 18, 3) := by decide +kernel
theorem dX0_settle_9 : decode cX0_settle 9 = .ok (.if_icmp .ge 53, 3) := by decide +kernel
theorem dX0_settle_90 : decode cX0_settle 90 = .ok (.aload_n 0, 1) := by decide +kernel
theorem dX0_settle_91 : decode cX0_settle 91 = .ok (.invokevirtual 25, 3) := by decide +kernel
theorem dX0_settle_94 : decode cX0_settle 94 = .ok (.iastore, 1) := by decide +kernel
theorem dX0_settle_95 : decode cX0_settle 95 = .ok (.aload_n 0, 1) := by decide +kernel
theorem dX0_settle_96 : decode cX0_settle 96 = .ok (.dup, 1) := by decide +kernel
theorem dX0_settle_97 : decode cX0_settle 97 = .ok (.getfield 18, 3) := by decide +kernel
theorem dX0_shiftOf_0 : decode cX0_shiftOf 0 = .ok (.iconst 3, 1) := by decide +kernel
theorem dX0_shiftOf_1 : decode cX0_shiftOf 1 = .ok (.aload_n 0, 1) := by decide +kernel
theorem dX0_shiftOf_10 : decode cX0_shiftOf 10 = .ok (.ireturn, 1) := by decide +kernel
theorem dX0_shiftOf_2 : decode cX0_shiftOf 2 = .ok (.getfield 22, 3) := by decide +kernel
theorem dX0_shiftOf_5 : decode cX0_shiftOf 5 = .ok (.iconst 1, 1) := by decide +kernel
theorem dX0_shiftOf_6 : decode cX0_shiftOf 6 = .ok (.isub, 1) := by decide +kernel
theorem dX0_shiftOf_7 : decode cX0_shiftOf 7 = .ok (.iload_n 1, 1) := by decide +kernel
theorem dX0_shiftOf_8 : decode cX0_shiftOf 8 = .ok (.isub, 1) := by decide +kernel
theorem dX0_shiftOf_9 : decode cX0_shiftOf 9 = .ok (.imul, 1) := by decide +kernel
theorem dX0_turned_0 : decode cX0_turned 0 = .ok (.aload_n 0, 1) := by decide +kernel
theorem dX0_turned_1 : decode cX0_turned 1 = .ok (.getfield 22, 3) := by decide +kernel
theorem dX0_turned_4 : decode cX0_turned 4 = .ok (.iconst 2, 1) := by decide +kernel
theorem dX0_turned_5 : decode cX0_turned 5 = .ok (.if_icmp .ge 5, 3) := by decide +kernel
theorem dX0_turned_8 : decode cX0_turned 8 = .ok (.iload_n 1, 1) := by decide +kernel
theorem dX0_turned_9 : decode cX0_turned 9 = .ok (.ireturn, 1) := by decide +kernel
theorem dX0_withCode_0 : decode cX0_withCode 0 = .ok (.iload_n 1, 1) := by decide +kernel
theorem dX0_withCode_1 : decode cX0_withCode 1 = .ok (.ifCond .ge 5, 3) := by decide +kernel
theorem dX0_withCode_10 : decode cX0_withCode 10 = .ok (.aload_n 0, 1) := by decide +kernel
theorem dX0_withCode_11 : decode cX0_withCode 11 = .ok (.getfield 22, 3) := by decide +kernel
theorem dX0_withCode_14 : decode cX0_withCode 14 = .ok (.iconst 1, 1) := by decide +kernel
theorem dX0_withCode_15 : decode cX0_withCode 15 = .ok (.isub, 1) := by decide +kernel
theorem dX0_withCode_16 : decode cX0_withCode 16 = .ok (.istore 4, 2) := by decide +kernel
theorem dX0_withCode_18 : decode cX0_withCode 18 = .ok (.iload 4, 2) := by decide +kernel
theorem dX0_withCode_20 : decode cX0_withCode 20 = .ok (.ifCond .lt 26, 3) := by decide +kernel
theorem dX0_withCode_4 : decode cX0_withCode 4 = .ok (.iconst (-1), 1) := by decide +kernel
theorem dX0_withCode_46 : decode cX0_withCode 46 = .ok (.iload_n 2, 1) := by decide +kernel
theorem dX0_withCode_47 : decode cX0_withCode 47 = .ok (.ifCond .ne 11, 3) := by decide +kernel
theorem dX0_withCode_5 : decode cX0_withCode 5 = .ok (.ireturn, 1) := by decide +kernel
theorem dX0_withCode_50 : decode cX0_withCode 50 = .ok (.aload_n 0, 1) := by decide +kernel
theorem dX0_withCode_51 : decode cX0_withCode 51 = .ok (.iload_n 3, 1) := by decide +kernel
theorem dX0_withCode_52 : decode cX0_withCode 52 = .ok (.invokevirtual 55, 3) := by decide +kernel
theorem dX0_withCode_55 : decode cX0_withCode 55 = .ok (.goto 4, 3) := by decide +kernel
theorem dX0_withCode_58 : decode cX0_withCode 58 = .ok (.iconst (-1), 1) := by decide +kernel
theorem dX0_withCode_59 : decode cX0_withCode 59 = .ok (.ireturn, 1) := by decide +kernel
theorem dX0_withCode_6 : decode cX0_withCode 6 = .ok (.iload_n 1, 1) := by decide +kernel
theorem dX0_withCode_7 : decode cX0_withCode 7 = .ok (.istore_n 2, 1) := by decide +kernel
theorem dX0_withCode_8 : decode cX0_withCode 8 = .ok (.iconst 0, 1) := by decide +kernel
theorem dX0_withCode_9 : decode cX0_withCode 9 = .ok (.istore_n 3, 1) := by decide +kernel
theorem dX10_enter_0 : decode cX10_enter 0 = .ok (.iload_n 2, 1) := by decide +kernel
theorem dX10_enter_1 : decode cX10_enter 1 = .ok (.bipush 100, 2) := by decide +kernel
theorem dX10_enter_10 : decode cX10_enter 10 = .ok (.iload_n 2, 1) := by decide +kernel
theorem dX10_enter_11 : decode cX10_enter 11 = .ok (.iastore, 1) := by decide +kernel
theorem dX10_enter_12 : decode cX10_enter 12 = .ok (.aload_n 0, 1) := by decide +kernel
theorem dX10_enter_13 : decode cX10_enter 13 = .ok (.getfield 40, 3) := by decide +kernel
theorem dX10_enter_16 : decode cX10_enter 16 = .ok (.iload_n 1, 1) := by decide +kernel
theorem dX10_enter_17 : decode cX10_enter 17 = .ok (.iconst (-1), 1) := by decide +kernel
theorem dX10_enter_18 : decode cX10_enter 18 = .ok (.iastore, 1) := by decide +kernel
theorem dX10_enter_19 : decode cX10_enter 19 = .ok (.aload_n 0, 1) := by decide +kernel
theorem dX10_enter_20 : decode cX10_enter 20 = .ok (.getfield 37, 3) := by decide +kernel
theorem dX10_enter_23 : decode cX10_enter 23 = .ok (.iload_n 1, 1) := by decide +kernel
theorem dX10_enter_24 : decode cX10_enter 24 = .ok (.aload_n 0, 1) := by decide +kernel
theorem dX10_enter_25 : decode cX10_enter 25 = .ok (.getfield 34, 3) := by decide +kernel
theorem dX10_enter_28 : decode cX10_enter 28 = .ok (.iload_n 3, 1) := by decide +kernel
theorem dX10_enter_29 : decode cX10_enter 29 = .ok (.iaload, 1) := by decide +kernel
theorem dX10_enter_3 : decode cX10_enter 3 = .ok (.irem, 1) := by decide +kernel
theorem dX10_enter_30 : decode cX10_enter 30 = .ok (.iastore, 1) := by decide +kernel
theorem dX10_enter_31 : decode cX10_enter 31 = .ok (.aload_n 0, 1) := by decide +kernel
theorem dX10_enter_32 : decode cX10_enter 32 = .ok (.getfield 34, 3) := by decide +kernel
theorem dX10_enter_35 : decode cX10_enter 35 = .ok (.iload_n 3, 1) := by decide +kernel
theorem dX10_enter_36 : decode cX10_enter 36 = .ok (.iaload, 1) := by decide +kernel
theorem dX10_enter_37 : decode cX10_enter 37 = .ok (.iconst (-1), 1) := by decide +kernel
theorem dX10_enter_38 : decode cX10_enter 38 = .ok (.if_icmp .eq 15, 3) := by decide +kernel
theorem dX10_enter_4 : decode cX10_enter 4 = .ok (.istore_n 3, 1) := by decide +kernel
theorem dX10_enter_5 : decode cX10_enter 5 = .ok (.aload_n 0, 1) := by decide +kernel
theorem dX10_enter_53 : decode cX10_enter 53 = .ok (.aload_n 0, 1) := by decide +kernel
theorem dX10_enter_54 : decode cX10_enter 54 = .ok (.getfield 34, 3) := by decide +kernel
theorem dX10_enter_57 : decode cX10_enter 57 = .ok (.iload_n 3, 1) := by decide +kernel
theorem dX10_enter_58 : decode cX10_enter 58 = .ok (.iload_n 1, 1) := by decide +kernel
theorem dX10_enter_59 : decode cX10_enter 59 = .ok (.iastore, 1) := by decide +kernel
theorem dX10_enter_6 : decode cX10_enter 6 = .ok (.getfield 31, 3) := by decide +kernel
theorem dX10_enter_60 : decode cX10_enter 60 = .ok (.aload_n 0, 1) := by decide +kernel
theorem dX10_enter_61 : decode cX10_enter 61 = .ok (.dup, 1) := by decide +kernel
theorem dX10_enter_62 : decode cX10_enter 62 = .ok (.getfield 43, 3) := by decide +kernel
theorem dX10_enter_65 : decode cX10_enter 65 = .ok (.iconst 1, 1) := by decide +kernel
theorem dX10_enter_66 : decode cX10_enter 66 = .ok (.iadd, 1) := by decide +kernel
theorem dX10_enter_67 : decode cX10_enter 67 = .ok (.putfield 43, 3) := by decide +kernel
theorem dX10_enter_70 : decode cX10_enter 70 = .ok (.return_, 1) := by decide +kernel
theorem dX10_enter_9 : decode cX10_enter 9 = .ok (.iload_n 1, 1) := by decide +kernel
theorem dX10_farTo_0 : decode cX10_farTo 0 = .ok (.aload_n 0, 1) := by decide +kernel
theorem dX10_farTo_1 : decode cX10_farTo 1 = .ok (.iload_n 1, 1) := by decide +kernel
theorem dX10_farTo_10 : decode cX10_farTo 10 = .ok (.iaload, 1) := by decide +kernel
theorem dX10_farTo_11 : decode cX10_farTo 11 = .ok (.ireturn, 1) := by decide +kernel
theorem dX10_farTo_2 : decode cX10_farTo 2 = .ok (.invokevirtual 67, 3) := by decide +kernel
theorem dX10_farTo_5 : decode cX10_farTo 5 = .ok (.aload_n 0, 1) := by decide +kernel
theorem dX10_farTo_6 : decode cX10_farTo 6 = .ok (.getfield 9, 3) := by decide +kernel
theorem dX10_farTo_9 : decode cX10_farTo 9 = .ok (.iload_n 2, 1) := by decide +kernel
theorem dX10_init_0 : decode cX10_init 0 = .ok (.aload_n 0, 1) := by decide +kernel
theorem dX10_init_1 : decode cX10_init 1 = .ok (.invokespecial 3, 3) := by decide +kernel
theorem dX10_init_10 : decode cX10_init 10 = .ok (.putfield 9, 3) := by decide +kernel
theorem dX10_init_100 : decode cX10_init 100 = .ok (.newarray .long, 2) := by decide +kernel
theorem dX10_init_102 : decode cX10_init 102 = .ok (.putfield 52, 3) := by decide +kernel
theorem dX10_init_105 : decode cX10_init 105 = .ok (.aload_n 0, 1) := by decide +kernel
theorem dX10_init_106 : decode cX10_init 106 = .ok (.sipush 1260, 3) := by decide +kernel
theorem dX10_init_109 : decode cX10_init 109 = .ok (.newarray .long, 2) := by decide +kernel
theorem dX10_init_111 : decode cX10_init 111 = .ok (.putfield 56, 3) := by decide +kernel
theorem dX10_init_114 : decode cX10_init 114 = .ok (.aload_n 0, 1) := by decide +kernel
theorem dX10_init_115 : decode cX10_init 115 = .ok (.aload_n 1, 1) := by decide +kernel
theorem dX10_init_116 : decode cX10_init 116 = .ok (.putfield 59, 3) := by decide +kernel
theorem dX10_init_119 : decode cX10_init 119 = .ok (.aload_n 0, 1) := by decide +kernel
theorem dX10_init_120 : decode cX10_init 120 = .ok (.aload_n 2, 1) := by decide +kernel
theorem dX10_init_121 : decode cX10_init 121 = .ok (.putfield 63, 3) := by decide +kernel
theorem dX10_init_124 : decode cX10_init 124 = .ok (.return_, 1) := by decide +kernel
theorem dX10_init_13 : decode cX10_init 13 = .ok (.aload_n 0, 1) := by decide +kernel
theorem dX10_init_14 : decode cX10_init 14 = .ok (.sipush 1260, 3) := by decide +kernel
theorem dX10_init_17 : decode cX10_init 17 = .ok (.newarray .int, 2) := by decide +kernel
theorem dX10_init_19 : decode cX10_init 19 = .ok (.putfield 15, 3) := by decide +kernel
theorem dX10_init_22 : decode cX10_init 22 = .ok (.aload_n 0, 1) := by decide +kernel
theorem dX10_init_23 : decode cX10_init 23 = .ok (.sipush 1260, 3) := by decide +kernel
theorem dX10_init_26 : decode cX10_init 26 = .ok (.newarray .int, 2) := by decide +kernel
theorem dX10_init_28 : decode cX10_init 28 = .ok (.putfield 18, 3) := by decide +kernel
theorem dX10_init_31 : decode cX10_init 31 = .ok (.aload_n 0, 1) := by decide +kernel
theorem dX10_init_32 : decode cX10_init 32 = .ok (.iconst 0, 1) := by decide +kernel
theorem dX10_init_33 : decode cX10_init 33 = .ok (.putfield 21, 3) := by decide +kernel
theorem dX10_init_36 : decode cX10_init 36 = .ok (.aload_n 0, 1) := by decide +kernel
theorem dX10_init_37 : decode cX10_init 37 = .ok (.iconst (-1), 1) := by decide +kernel
theorem dX10_init_38 : decode cX10_init 38 = .ok (.putfield 25, 3) := by decide +kernel
theorem dX10_init_4 : decode cX10_init 4 = .ok (.aload_n 0, 1) := by decide +kernel
theorem dX10_init_41 : decode cX10_init 41 = .ok (.aload_n 0, 1) := by decide +kernel
theorem dX10_init_42 : decode cX10_init 42 = .ok (.iconst (-1), 1) := by decide +kernel
theorem dX10_init_43 : decode cX10_init 43 = .ok (.putfield 28, 3) := by decide +kernel
theorem dX10_init_46 : decode cX10_init 46 = .ok (.aload_n 0, 1) := by decide +kernel
theorem dX10_init_47 : decode cX10_init 47 = .ok (.sipush 1260, 3) := by decide +kernel
theorem dX10_init_5 : decode cX10_init 5 = .ok (.sipush 1260, 3) := by decide +kernel
theorem dX10_init_50 : decode cX10_init 50 = .ok (.newarray .int, 2) := by decide +kernel
theorem dX10_init_52 : decode cX10_init 52 = .ok (.putfield 31, 3) := by decide +kernel
theorem dX10_init_55 : decode cX10_init 55 = .ok (.aload_n 0, 1) := by decide +kernel
theorem dX10_init_56 : decode cX10_init 56 = .ok (.bipush 100, 2) := by decide +kernel
theorem dX10_init_58 : decode cX10_init 58 = .ok (.newarray .int, 2) := by decide +kernel
theorem dX10_init_60 : decode cX10_init 60 = .ok (.putfield 34, 3) := by decide +kernel
theorem dX10_init_63 : decode cX10_init 63 = .ok (.aload_n 0, 1) := by decide +kernel
theorem dX10_init_64 : decode cX10_init 64 = .ok (.sipush 1260, 3) := by decide +kernel
theorem dX10_init_67 : decode cX10_init 67 = .ok (.newarray .int, 2) := by decide +kernel
theorem dX10_init_69 : decode cX10_init 69 = .ok (.putfield 37, 3) := by decide +kernel
theorem dX10_init_72 : decode cX10_init 72 = .ok (.aload_n 0, 1) := by decide +kernel
theorem dX10_init_73 : decode cX10_init 73 = .ok (.sipush 1260, 3) := by decide +kernel
theorem dX10_init_76 : decode cX10_init 76 = .ok (.newarray .int, 2) := by decide +kernel
theorem dX10_init_78 : decode cX10_init 78 = .ok (.putfield 40, 3) := by decide +kernel
theorem dX10_init_8 : decode cX10_init 8 = .ok (.newarray .int, 2) := by decide +kernel
theorem dX10_init_81 : decode cX10_init 81 = .ok (.aload_n 0, 1) := by decide +kernel
theorem dX10_init_82 : decode cX10_init 82 = .ok (.iconst 0, 1) := by decide +kernel
theorem dX10_init_83 : decode cX10_init 83 = .ok (.putfield 43, 3) := by decide +kernel
theorem dX10_init_86 : decode cX10_init 86 = .ok (.aload_n 0, 1) := by decide +kernel
theorem dX10_init_87 : decode cX10_init 87 = .ok (.iconst (-1), 1) := by decide +kernel
theorem dX10_init_88 : decode cX10_init 88 = .ok (.putfield 46, 3) := by decide +kernel
theorem dX10_init_91 : decode cX10_init 91 = .ok (.aload_n 0, 1) := by decide +kernel
theorem dX10_init_92 : decode cX10_init 92 = .ok (.iconst (-1), 1) := by decide +kernel
theorem dX10_init_93 : decode cX10_init 93 = .ok (.putfield 49, 3) := by decide +kernel
theorem dX10_init_96 : decode cX10_init 96 = .ok (.aload_n 0, 1) := by decide +kernel
theorem dX10_init_97 : decode cX10_init 97 = .ok (.sipush 1260, 3) := by decide +kernel
theorem dX10_leastTo_0 : decode cX10_leastTo 0 = .ok (.aload_n 0, 1) := by decide +kernel
theorem dX10_leastTo_1 : decode cX10_leastTo 1 = .ok (.iload_n 1, 1) := by decide +kernel
theorem dX10_leastTo_10 : decode cX10_leastTo 10 = .ok (.iaload, 1) := by decide +kernel
theorem dX10_leastTo_11 : decode cX10_leastTo 11 = .ok (.ireturn, 1) := by decide +kernel
theorem dX10_leastTo_2 : decode cX10_leastTo 2 = .ok (.invokevirtual 71, 3) := by decide +kernel
theorem dX10_leastTo_5 : decode cX10_leastTo 5 = .ok (.aload_n 0, 1) := by decide +kernel
theorem dX10_leastTo_6 : decode cX10_leastTo 6 = .ok (.getfield 31, 3) := by decide +kernel
theorem dX10_leastTo_9 : decode cX10_leastTo 9 = .ok (.iload_n 2, 1) := by decide +kernel
theorem dX10_leave_0 : decode cX10_leave 0 = .ok (.aload_n 0, 1) := by decide +kernel
theorem dX10_leave_1 : decode cX10_leave 1 = .ok (.getfield 63, 3) := by decide +kernel
theorem dX10_leave_10 : decode cX10_leave 10 = .ok (.getfield 9, 3) := by decide +kernel
theorem dX10_leave_13 : decode cX10_leave 13 = .ok (.iload_n 1, 1) := by decide +kernel
theorem dX10_leave_130 : decode cX10_leave 130 = .ok (.return_, 1) := by decide +kernel
theorem dX10_leave_14 : decode cX10_leave 14 = .ok (.iaload, 1) := by decide +kernel
theorem dX10_leave_15 : decode cX10_leave 15 = .ok (.iconst 1, 1) := by decide +kernel
theorem dX10_leave_16 : decode cX10_leave 16 = .ok (.iadd, 1) := by decide +kernel
theorem dX10_leave_17 : decode cX10_leave 17 = .ok (.istore_n 3, 1) := by decide +kernel
theorem dX10_leave_18 : decode cX10_leave 18 = .ok (.iconst 0, 1) := by decide +kernel
theorem dX10_leave_19 : decode cX10_leave 19 = .ok (.istore 4, 2) := by decide +kernel
theorem dX10_leave_21 : decode cX10_leave 21 = .ok (.iload 4, 2) := by decide +kernel
theorem dX10_leave_23 : decode cX10_leave 23 = .ok (.iload_n 2, 1) := by decide +kernel
theorem dX10_leave_24 : decode cX10_leave 24 = .ok (.if_icmp .ge 106, 3) := by decide +kernel
theorem dX10_leave_4 : decode cX10_leave 4 = .ok (.iload_n 1, 1) := by decide +kernel
theorem dX10_leave_5 : decode cX10_leave 5 = .ok (.invokevirtual 95, 3) := by decide +kernel
theorem dX10_leave_8 : decode cX10_leave 8 = .ok (.istore_n 2, 1) := by decide +kernel
theorem dX10_leave_9 : decode cX10_leave 9 = .ok (.aload_n 0, 1) := by decide +kernel
theorem dX10_lengthenRows_0 : decode cX10_lengthenRows 0 = .ok (.aload_n 0, 1) := by decide +kernel
theorem dX10_lengthenRows_1 : decode cX10_lengthenRows 1 = .ok (.getfield 56, 3) := by decide +kernel
theorem dX10_lengthenRows_10 : decode cX10_lengthenRows 10 = .ok (.iconst 0, 1) := by decide +kernel
theorem dX10_lengthenRows_100 : decode cX10_lengthenRows 100 = .ok (.aload_n 2, 1) := by decide +kernel
theorem dX10_lengthenRows_101 : decode cX10_lengthenRows 101 = .ok (.putfield 56, 3) := by decide +kernel
theorem dX10_lengthenRows_104 : decode cX10_lengthenRows 104 = .ok (.return_, 1) := by decide +kernel
theorem dX10_lengthenRows_11 : decode cX10_lengthenRows 11 = .ok (.istore_n 2, 1) := by decide +kernel
theorem dX10_lengthenRows_12 : decode cX10_lengthenRows 12 = .ok (.iload_n 2, 1) := by decide +kernel
theorem dX10_lengthenRows_13 : decode cX10_lengthenRows 13 = .ok (.iload_n 1, 1) := by decide +kernel
theorem dX10_lengthenRows_14 : decode cX10_lengthenRows 14 = .ok (.if_icmp .ge 72, 3) := by decide +kernel
theorem dX10_lengthenRows_17 : decode cX10_lengthenRows 17 = .ok (.aload_n 0, 1) := by decide +kernel
theorem dX10_lengthenRows_18 : decode cX10_lengthenRows 18 = .ok (.getfield 52, 3) := by decide +kernel
theorem dX10_lengthenRows_21 : decode cX10_lengthenRows 21 = .ok (.iload_n 2, 1) := by decide +kernel
theorem dX10_lengthenRows_22 : decode cX10_lengthenRows 22 = .ok (.laload, 1) := by decide +kernel
theorem dX10_lengthenRows_23 : decode cX10_lengthenRows 23 = .ok (.lconst 0, 1) := by decide +kernel
theorem dX10_lengthenRows_24 : decode cX10_lengthenRows 24 = .ok (.lcmp, 1) := by decide +kernel
theorem dX10_lengthenRows_25 : decode cX10_lengthenRows 25 = .ok (.ifCond .ne 7, 3) := by decide +kernel
theorem dX10_lengthenRows_28 : decode cX10_lengthenRows 28 = .ok (.iconst 0, 1) := by decide +kernel
theorem dX10_lengthenRows_29 : decode cX10_lengthenRows 29 = .ok (.goto 11, 3) := by decide +kernel
theorem dX10_lengthenRows_32 : decode cX10_lengthenRows 32 = .ok (.aload_n 0, 1) := by decide +kernel
theorem dX10_lengthenRows_33 : decode cX10_lengthenRows 33 = .ok (.getfield 63, 3) := by decide +kernel
theorem dX10_lengthenRows_36 : decode cX10_lengthenRows 36 = .ok (.iload_n 2, 1) := by decide +kernel
theorem dX10_lengthenRows_37 : decode cX10_lengthenRows 37 = .ok (.invokevirtual 95, 3) := by decide +kernel
theorem dX10_lengthenRows_4 : decode cX10_lengthenRows 4 = .ok (.iconst 0, 1) := by decide +kernel
theorem dX10_lengthenRows_40 : decode cX10_lengthenRows 40 = .ok (.istore_n 3, 1) := by decide +kernel
theorem dX10_lengthenRows_41 : decode cX10_lengthenRows 41 = .ok (.iconst 0, 1) := by decide +kernel
theorem dX10_lengthenRows_42 : decode cX10_lengthenRows 42 = .ok (.istore 4, 2) := by decide +kernel
theorem dX10_lengthenRows_44 : decode cX10_lengthenRows 44 = .ok (.iload 4, 2) := by decide +kernel
theorem dX10_lengthenRows_46 : decode cX10_lengthenRows 46 = .ok (.iload_n 3, 1) := by decide +kernel
theorem dX10_lengthenRows_47 : decode cX10_lengthenRows 47 = .ok (.if_icmp .ge 33, 3) := by decide +kernel
theorem dX10_lengthenRows_5 : decode cX10_lengthenRows 5 = .ok (.iload_n 1, 1) := by decide +kernel
theorem dX10_lengthenRows_6 : decode cX10_lengthenRows 6 = .ok (.lconst 0, 1) := by decide +kernel
theorem dX10_lengthenRows_7 : decode cX10_lengthenRows 7 = .ok (.invokestatic 127, 3) := by decide +kernel
theorem dX10_lengthenRows_80 : decode cX10_lengthenRows 80 = .ok (.iinc 2 1, 3) := by decide +kernel
theorem dX10_lengthenRows_83 : decode cX10_lengthenRows 83 = .ok (.goto (-71), 3) := by decide +kernel
theorem dX10_lengthenRows_86 : decode cX10_lengthenRows 86 = .ok (.aload_n 0, 1) := by decide +kernel
theorem dX10_lengthenRows_87 : decode cX10_lengthenRows 87 = .ok (.getfield 52, 3) := by decide +kernel
theorem dX10_lengthenRows_90 : decode cX10_lengthenRows 90 = .ok (.astore_n 2, 1) := by decide +kernel
theorem dX10_lengthenRows_91 : decode cX10_lengthenRows 91 = .ok (.aload_n 0, 1) := by decide +kernel
theorem dX10_lengthenRows_92 : decode cX10_lengthenRows 92 = .ok (.aload_n 0, 1) := by decide +kernel
theorem dX10_lengthenRows_93 : decode cX10_lengthenRows 93 = .ok (.getfield 56, 3) := by decide +kernel
theorem dX10_lengthenRows_96 : decode cX10_lengthenRows 96 = .ok (.putfield 52, 3) := by decide +kernel
theorem dX10_lengthenRows_99 : decode cX10_lengthenRows 99 = .ok (.aload_n 0, 1) := by decide +kernel
theorem dX10_onWay_0 : decode cX10_onWay 0 = .ok (.aload_n 0, 1) := by decide +kernel
theorem dX10_onWay_1 : decode cX10_onWay 1 = .ok (.iload_n 1, 1) := by decide +kernel
theorem dX10_onWay_10 : decode cX10_onWay 10 = .ok (.aload_n 0, 1) := by decide +kernel
theorem dX10_onWay_11 : decode cX10_onWay 11 = .ok (.getfield 9, 3) := by decide +kernel
theorem dX10_onWay_14 : decode cX10_onWay 14 = .ok (.iload_n 2, 1) := by decide +kernel
theorem dX10_onWay_15 : decode cX10_onWay 15 = .ok (.iaload, 1) := by decide +kernel
theorem dX10_onWay_16 : decode cX10_onWay 16 = .ok (.if_icmp .le 5, 3) := by decide +kernel
theorem dX10_onWay_19 : decode cX10_onWay 19 = .ok (.iconst (-1), 1) := by decide +kernel
theorem dX10_onWay_2 : decode cX10_onWay 2 = .ok (.invokevirtual 67, 3) := by decide +kernel
theorem dX10_onWay_20 : decode cX10_onWay 20 = .ok (.ireturn, 1) := by decide +kernel
theorem dX10_onWay_21 : decode cX10_onWay 21 = .ok (.aload_n 0, 1) := by decide +kernel
theorem dX10_onWay_22 : decode cX10_onWay 22 = .ok (.iload_n 2, 1) := by decide +kernel
theorem dX10_onWay_23 : decode cX10_onWay 23 = .ok (.invokevirtual 80, 3) := by decide +kernel
theorem dX10_onWay_26 : decode cX10_onWay 26 = .ok (.iload_n 1, 1) := by decide +kernel
theorem dX10_onWay_27 : decode cX10_onWay 27 = .ok (.istore 4, 2) := by decide +kernel
theorem dX10_onWay_29 : decode cX10_onWay 29 = .ok (.iconst 0, 1) := by decide +kernel
theorem dX10_onWay_30 : decode cX10_onWay 30 = .ok (.istore 5, 2) := by decide +kernel
theorem dX10_onWay_32 : decode cX10_onWay 32 = .ok (.iload 5, 2) := by decide +kernel
theorem dX10_onWay_34 : decode cX10_onWay 34 = .ok (.iload_n 3, 1) := by decide +kernel
theorem dX10_onWay_35 : decode cX10_onWay 35 = .ok (.if_icmp .ge 24, 3) := by decide +kernel
theorem dX10_onWay_5 : decode cX10_onWay 5 = .ok (.iload_n 3, 1) := by decide +kernel
theorem dX10_onWay_59 : decode cX10_onWay 59 = .ok (.iload 4, 2) := by decide +kernel
theorem dX10_onWay_6 : decode cX10_onWay 6 = .ok (.ifCond .lt 13, 3) := by decide +kernel
theorem dX10_onWay_61 : decode cX10_onWay 61 = .ok (.ireturn, 1) := by decide +kernel
theorem dX10_onWay_9 : decode cX10_onWay 9 = .ok (.iload_n 3, 1) := by decide +kernel
theorem dX10_pointTo_0 : decode cX10_pointTo 0 = .ok (.aload_n 0, 1) := by decide +kernel
theorem dX10_pointTo_1 : decode cX10_pointTo 1 = .ok (.getfield 37, 3) := by decide +kernel
theorem dX10_pointTo_12 : decode cX10_pointTo 12 = .ok (.iconst (-1), 1) := by decide +kernel
theorem dX10_pointTo_13 : decode cX10_pointTo 13 = .ok (.invokestatic 89, 3) := by decide +kernel
theorem dX10_pointTo_16 : decode cX10_pointTo 16 = .ok (.aload_n 0, 1) := by decide +kernel
theorem dX10_pointTo_163 : decode cX10_pointTo 163 = .ok (.iinc 2 (-1), 3) := by decide +kernel
theorem dX10_pointTo_166 : decode cX10_pointTo 166 = .ok (.goto (-143), 3) := by decide +kernel
theorem dX10_pointTo_169 : decode cX10_pointTo 169 = .ok (.return_, 1) := by decide +kernel
theorem dX10_pointTo_17 : decode cX10_pointTo 17 = .ok (.getfield 21, 3) := by decide +kernel
theorem dX10_pointTo_20 : decode cX10_pointTo 20 = .ok (.iconst 1, 1) := by decide +kernel
theorem dX10_pointTo_21 : decode cX10_pointTo 21 = .ok (.isub, 1) := by decide +kernel
theorem dX10_pointTo_22 : decode cX10_pointTo 22 = .ok (.istore_n 2, 1) := by decide +kernel
theorem dX10_pointTo_23 : decode cX10_pointTo 23 = .ok (.iload_n 2, 1) := by decide +kernel
theorem dX10_pointTo_24 : decode cX10_pointTo 24 = .ok (.ifCond .lt 145, 3) := by decide +kernel
theorem dX10_pointTo_27 : decode cX10_pointTo 27 = .ok (.aload_n 0, 1) := by decide +kernel
theorem dX10_pointTo_28 : decode cX10_pointTo 28 = .ok (.getfield 18, 3) := by decide +kernel
theorem dX10_pointTo_31 : decode cX10_pointTo 31 = .ok (.iload_n 2, 1) := by decide +kernel
theorem dX10_pointTo_32 : decode cX10_pointTo 32 = .ok (.iaload, 1) := by decide +kernel
theorem dX10_pointTo_33 : decode cX10_pointTo 33 = .ok (.istore_n 3, 1) := by decide +kernel
theorem dX10_pointTo_34 : decode cX10_pointTo 34 = .ok (.aload_n 0, 1) := by decide +kernel
theorem dX10_pointTo_35 : decode cX10_pointTo 35 = .ok (.getfield 63, 3) := by decide +kernel
theorem dX10_pointTo_38 : decode cX10_pointTo 38 = .ok (.iload_n 3, 1) := by decide +kernel
theorem dX10_pointTo_39 : decode cX10_pointTo 39 = .ok (.invokevirtual 95, 3) := by decide +kernel
theorem dX10_pointTo_4 : decode cX10_pointTo 4 = .ok (.iconst 0, 1) := by decide +kernel
theorem dX10_pointTo_42 : decode cX10_pointTo 42 = .ok (.istore 4, 2) := by decide +kernel
theorem dX10_pointTo_44 : decode cX10_pointTo 44 = .ok (.iconst 0, 1) := by decide +kernel
theorem dX10_pointTo_45 : decode cX10_pointTo 45 = .ok (.istore 5, 2) := by decide +kernel
theorem dX10_pointTo_47 : decode cX10_pointTo 47 = .ok (.iload 5, 2) := by decide +kernel
theorem dX10_pointTo_49 : decode cX10_pointTo 49 = .ok (.iload 4, 2) := by decide +kernel
theorem dX10_pointTo_5 : decode cX10_pointTo 5 = .ok (.aload_n 0, 1) := by decide +kernel
theorem dX10_pointTo_51 : decode cX10_pointTo 51 = .ok (.if_icmp .ge 112, 3) := by decide +kernel
theorem dX10_pointTo_6 : decode cX10_pointTo 6 = .ok (.getfield 59, 3) := by decide +kernel
theorem dX10_pointTo_9 : decode cX10_pointTo 9 = .ok (.invokevirtual 83, 3) := by decide +kernel
theorem dX10_reachOf_0 : decode cX10_reachOf 0 = .ok (.aload_n 0, 1) := by decide +kernel
theorem dX10_reachOf_1 : decode cX10_reachOf 1 = .ok (.iload_n 1, 1) := by decide +kernel
theorem dX10_reachOf_10 : decode cX10_reachOf 10 = .ok (.getfield 18, 3) := by decide +kernel
theorem dX10_reachOf_112 : decode cX10_reachOf 112 = .ok (.aload_n 0, 1) := by decide +kernel
theorem dX10_reachOf_113 : decode cX10_reachOf 113 = .ok (.getfield 21, 3) := by decide +kernel
theorem dX10_reachOf_116 : decode cX10_reachOf 116 = .ok (.ireturn, 1) := by decide +kernel
theorem dX10_reachOf_117 : decode cX10_reachOf 117 = .ok (.iload_n 3, 1) := by decide +kernel
theorem dX10_reachOf_118 : decode cX10_reachOf 118 = .ok (.ireturn, 1) := by decide +kernel
theorem dX10_reachOf_119 : decode cX10_reachOf 119 = .ok (.iload 4, 2) := by decide +kernel
theorem dX10_reachOf_121 : decode cX10_reachOf 121 = .ok (.ireturn, 1) := by decide +kernel
theorem dX10_reachOf_122 : decode cX10_reachOf 122 = .ok (.iload 5, 2) := by decide +kernel
theorem dX10_reachOf_124 : decode cX10_reachOf 124 = .ok (.ireturn, 1) := by decide +kernel
theorem dX10_reachOf_125 : decode cX10_reachOf 125 = .ok (.iconst (-1), 1) := by decide +kernel
theorem dX10_reachOf_126 : decode cX10_reachOf 126 = .ok (.ireturn, 1) := by decide +kernel
theorem dX10_reachOf_13 : decode cX10_reachOf 13 = .ok (.aload_n 0, 1) := by decide +kernel
theorem dX10_reachOf_14 : decode cX10_reachOf 14 = .ok (.getfield 21, 3) := by decide +kernel
theorem dX10_reachOf_17 : decode cX10_reachOf 17 = .ok (.iconst 1, 1) := by decide +kernel
theorem dX10_reachOf_18 : decode cX10_reachOf 18 = .ok (.isub, 1) := by decide +kernel
theorem dX10_reachOf_19 : decode cX10_reachOf 19 = .ok (.iaload, 1) := by decide +kernel
theorem dX10_reachOf_2 : decode cX10_reachOf 2 = .ok (.invokevirtual 67, 3) := by decide +kernel
theorem dX10_reachOf_20 : decode cX10_reachOf 20 = .ok (.iaload, 1) := by decide +kernel
theorem dX10_reachOf_21 : decode cX10_reachOf 21 = .ok (.istore_n 3, 1) := by decide +kernel
theorem dX10_reachOf_22 : decode cX10_reachOf 22 = .ok (.iconst 0, 1) := by decide +kernel
theorem dX10_reachOf_23 : decode cX10_reachOf 23 = .ok (.istore 4, 2) := by decide +kernel
theorem dX10_reachOf_25 : decode cX10_reachOf 25 = .ok (.sipush 1260, 3) := by decide +kernel
theorem dX10_reachOf_28 : decode cX10_reachOf 28 = .ok (.istore 5, 2) := by decide +kernel
theorem dX10_reachOf_30 : decode cX10_reachOf 30 = .ok (.aload_n 0, 1) := by decide +kernel
theorem dX10_reachOf_31 : decode cX10_reachOf 31 = .ok (.getfield 21, 3) := by decide +kernel
theorem dX10_reachOf_34 : decode cX10_reachOf 34 = .ok (.iconst 1, 1) := by decide +kernel
theorem dX10_reachOf_35 : decode cX10_reachOf 35 = .ok (.isub, 1) := by decide +kernel
theorem dX10_reachOf_36 : decode cX10_reachOf 36 = .ok (.istore 6, 2) := by decide +kernel
theorem dX10_reachOf_38 : decode cX10_reachOf 38 = .ok (.iload 6, 2) := by decide +kernel
theorem dX10_reachOf_40 : decode cX10_reachOf 40 = .ok (.ifCond .lt 42, 3) := by decide +kernel
theorem dX10_reachOf_43 : decode cX10_reachOf 43 = .ok (.aload_n 0, 1) := by decide +kernel
theorem dX10_reachOf_44 : decode cX10_reachOf 44 = .ok (.getfield 9, 3) := by decide +kernel
theorem dX10_reachOf_47 : decode cX10_reachOf 47 = .ok (.aload_n 0, 1) := by decide +kernel
theorem dX10_reachOf_48 : decode cX10_reachOf 48 = .ok (.getfield 18, 3) := by decide +kernel
theorem dX10_reachOf_5 : decode cX10_reachOf 5 = .ok (.aload_n 0, 1) := by decide +kernel
theorem dX10_reachOf_51 : decode cX10_reachOf 51 = .ok (.iload 6, 2) := by decide +kernel
theorem dX10_reachOf_53 : decode cX10_reachOf 53 = .ok (.iaload, 1) := by decide +kernel
theorem dX10_reachOf_54 : decode cX10_reachOf 54 = .ok (.iaload, 1) := by decide +kernel
theorem dX10_reachOf_55 : decode cX10_reachOf 55 = .ok (.iload_n 3, 1) := by decide +kernel
theorem dX10_reachOf_56 : decode cX10_reachOf 56 = .ok (.if_icmp .ne 26, 3) := by decide +kernel
theorem dX10_reachOf_59 : decode cX10_reachOf 59 = .ok (.iinc 4 1, 3) := by decide +kernel
theorem dX10_reachOf_6 : decode cX10_reachOf 6 = .ok (.getfield 9, 3) := by decide +kernel
theorem dX10_reachOf_62 : decode cX10_reachOf 62 = .ok (.iload 5, 2) := by decide +kernel
theorem dX10_reachOf_64 : decode cX10_reachOf 64 = .ok (.aload_n 0, 1) := by decide +kernel
theorem dX10_reachOf_65 : decode cX10_reachOf 65 = .ok (.getfield 18, 3) := by decide +kernel
theorem dX10_reachOf_68 : decode cX10_reachOf 68 = .ok (.iload 6, 2) := by decide +kernel
theorem dX10_reachOf_70 : decode cX10_reachOf 70 = .ok (.iaload, 1) := by decide +kernel
theorem dX10_reachOf_71 : decode cX10_reachOf 71 = .ok (.invokestatic 74, 3) := by decide +kernel
theorem dX10_reachOf_74 : decode cX10_reachOf 74 = .ok (.istore 5, 2) := by decide +kernel
theorem dX10_reachOf_76 : decode cX10_reachOf 76 = .ok (.iinc 6 (-1), 3) := by decide +kernel
theorem dX10_reachOf_79 : decode cX10_reachOf 79 = .ok (.goto (-41), 3) := by decide +kernel
theorem dX10_reachOf_82 : decode cX10_reachOf 82 = .ok (.iload_n 2, 1) := by decide +kernel
theorem dX10_reachOf_83 : decode cX10_reachOf 83 = .ok (.tableswitch 42 0 3 #[29, 34, 36, 39], 29) := by decide +kernel
theorem dX10_reachOf_9 : decode cX10_reachOf 9 = .ok (.aload_n 0, 1) := by decide +kernel
theorem dX10_remove_0 : decode cX10_remove 0 = .ok (.aload_n 0, 1) := by decide +kernel
theorem dX10_remove_1 : decode cX10_remove 1 = .ok (.getfield 40, 3) := by decide +kernel
theorem dX10_remove_10 : decode cX10_remove 10 = .ok (.aload_n 0, 1) := by decide +kernel
theorem dX10_remove_11 : decode cX10_remove 11 = .ok (.getfield 34, 3) := by decide +kernel
theorem dX10_remove_14 : decode cX10_remove 14 = .ok (.aload_n 0, 1) := by decide +kernel
theorem dX10_remove_15 : decode cX10_remove 15 = .ok (.getfield 31, 3) := by decide +kernel
theorem dX10_remove_18 : decode cX10_remove 18 = .ok (.iload_n 1, 1) := by decide +kernel
theorem dX10_remove_19 : decode cX10_remove 19 = .ok (.iaload, 1) := by decide +kernel
theorem dX10_remove_20 : decode cX10_remove 20 = .ok (.bipush 100, 2) := by decide +kernel
theorem dX10_remove_22 : decode cX10_remove 22 = .ok (.irem, 1) := by decide +kernel
theorem dX10_remove_23 : decode cX10_remove 23 = .ok (.aload_n 0, 1) := by decide +kernel
theorem dX10_remove_24 : decode cX10_remove 24 = .ok (.getfield 37, 3) := by decide +kernel
theorem dX10_remove_27 : decode cX10_remove 27 = .ok (.iload_n 1, 1) := by decide +kernel
theorem dX10_remove_28 : decode cX10_remove 28 = .ok (.iaload, 1) := by decide +kernel
theorem dX10_remove_29 : decode cX10_remove 29 = .ok (.iastore, 1) := by decide +kernel
theorem dX10_remove_30 : decode cX10_remove 30 = .ok (.goto 20, 3) := by decide +kernel
theorem dX10_remove_4 : decode cX10_remove 4 = .ok (.iload_n 1, 1) := by decide +kernel
theorem dX10_remove_5 : decode cX10_remove 5 = .ok (.iaload, 1) := by decide +kernel
theorem dX10_remove_50 : decode cX10_remove 50 = .ok (.aload_n 0, 1) := by decide +kernel
theorem dX10_remove_51 : decode cX10_remove 51 = .ok (.getfield 37, 3) := by decide +kernel
theorem dX10_remove_54 : decode cX10_remove 54 = .ok (.iload_n 1, 1) := by decide +kernel
theorem dX10_remove_55 : decode cX10_remove 55 = .ok (.iaload, 1) := by decide +kernel
theorem dX10_remove_56 : decode cX10_remove 56 = .ok (.iconst (-1), 1) := by decide +kernel
theorem dX10_remove_57 : decode cX10_remove 57 = .ok (.if_icmp .eq 20, 3) := by decide +kernel
theorem dX10_remove_6 : decode cX10_remove 6 = .ok (.iconst (-1), 1) := by decide +kernel
theorem dX10_remove_7 : decode cX10_remove 7 = .ok (.if_icmp .ne 26, 3) := by decide +kernel
theorem dX10_remove_77 : decode cX10_remove 77 = .ok (.aload_n 0, 1) := by decide +kernel
theorem dX10_remove_78 : decode cX10_remove 78 = .ok (.dup, 1) := by decide +kernel
theorem dX10_remove_79 : decode cX10_remove 79 = .ok (.getfield 43, 3) := by decide +kernel
theorem dX10_remove_82 : decode cX10_remove 82 = .ok (.iconst 1, 1) := by decide +kernel
theorem dX10_remove_83 : decode cX10_remove 83 = .ok (.isub, 1) := by decide +kernel
theorem dX10_remove_84 : decode cX10_remove 84 = .ok (.putfield 43, 3) := by decide +kernel
theorem dX10_remove_87 : decode cX10_remove 87 = .ok (.return_, 1) := by decide +kernel
theorem dX10_rowsTo_0 : decode cX10_rowsTo 0 = .ok (.aload_n 0, 1) := by decide +kernel
theorem dX10_rowsTo_1 : decode cX10_rowsTo 1 = .ok (.getfield 59, 3) := by decide +kernel
theorem dX10_rowsTo_10 : decode cX10_rowsTo 10 = .ok (.getfield 52, 3) := by decide +kernel
theorem dX10_rowsTo_13 : decode cX10_rowsTo 13 = .ok (.iconst 0, 1) := by decide +kernel
theorem dX10_rowsTo_14 : decode cX10_rowsTo 14 = .ok (.iload 4, 2) := by decide +kernel
theorem dX10_rowsTo_16 : decode cX10_rowsTo 16 = .ok (.lconst 0, 1) := by decide +kernel
theorem dX10_rowsTo_17 : decode cX10_rowsTo 17 = .ok (.invokestatic 127, 3) := by decide +kernel
theorem dX10_rowsTo_20 : decode cX10_rowsTo 20 = .ok (.aload_n 0, 1) := by decide +kernel
theorem dX10_rowsTo_21 : decode cX10_rowsTo 21 = .ok (.getfield 52, 3) := by decide +kernel
theorem dX10_rowsTo_24 : decode cX10_rowsTo 24 = .ok (.iload_n 1, 1) := by decide +kernel
theorem dX10_rowsTo_25 : decode cX10_rowsTo 25 = .ok (.lconst 1, 1) := by decide +kernel
theorem dX10_rowsTo_26 : decode cX10_rowsTo 26 = .ok (.lastore, 1) := by decide +kernel
theorem dX10_rowsTo_27 : decode cX10_rowsTo 27 = .ok (.iconst 0, 1) := by decide +kernel
theorem dX10_rowsTo_28 : decode cX10_rowsTo 28 = .ok (.istore 5, 2) := by decide +kernel
theorem dX10_rowsTo_30 : decode cX10_rowsTo 30 = .ok (.iload 5, 2) := by decide +kernel
theorem dX10_rowsTo_32 : decode cX10_rowsTo 32 = .ok (.iload_n 3, 1) := by decide +kernel
theorem dX10_rowsTo_33 : decode cX10_rowsTo 33 = .ok (.if_icmp .ge 15, 3) := by decide +kernel
theorem dX10_rowsTo_36 : decode cX10_rowsTo 36 = .ok (.aload_n 0, 1) := by decide +kernel
theorem dX10_rowsTo_37 : decode cX10_rowsTo 37 = .ok (.iload 4, 2) := by decide +kernel
theorem dX10_rowsTo_39 : decode cX10_rowsTo 39 = .ok (.invokevirtual 130, 3) := by decide +kernel
theorem dX10_rowsTo_4 : decode cX10_rowsTo 4 = .ok (.invokevirtual 83, 3) := by decide +kernel
theorem dX10_rowsTo_42 : decode cX10_rowsTo 42 = .ok (.iinc 5 1, 3) := by decide +kernel
theorem dX10_rowsTo_45 : decode cX10_rowsTo 45 = .ok (.goto (-15), 3) := by decide +kernel
theorem dX10_rowsTo_48 : decode cX10_rowsTo 48 = .ok (.iload_n 2, 1) := by decide +kernel
theorem dX10_rowsTo_49 : decode cX10_rowsTo 49 = .ok (.iconst (-1), 1) := by decide +kernel
theorem dX10_rowsTo_50 : decode cX10_rowsTo 50 = .ok (.if_icmp .eq 10, 3) := by decide +kernel
theorem dX10_rowsTo_53 : decode cX10_rowsTo 53 = .ok (.aload_n 0, 1) := by decide +kernel
theorem dX10_rowsTo_54 : decode cX10_rowsTo 54 = .ok (.getfield 52, 3) := by decide +kernel
theorem dX10_rowsTo_57 : decode cX10_rowsTo 57 = .ok (.iload_n 2, 1) := by decide +kernel
theorem dX10_rowsTo_58 : decode cX10_rowsTo 58 = .ok (.laload, 1) := by decide +kernel
theorem dX10_rowsTo_59 : decode cX10_rowsTo 59 = .ok (.lreturn, 1) := by decide +kernel
theorem dX10_rowsTo_60 : decode cX10_rowsTo 60 = .ok (.lconst 0, 1) := by decide +kernel
theorem dX10_rowsTo_61 : decode cX10_rowsTo 61 = .ok (.lstore 5, 2) := by decide +kernel
theorem dX10_rowsTo_63 : decode cX10_rowsTo 63 = .ok (.iconst 0, 1) := by decide +kernel
theorem dX10_rowsTo_64 : decode cX10_rowsTo 64 = .ok (.istore 7, 2) := by decide +kernel
theorem dX10_rowsTo_66 : decode cX10_rowsTo 66 = .ok (.iload 7, 2) := by decide +kernel
theorem dX10_rowsTo_68 : decode cX10_rowsTo 68 = .ok (.iload 4, 2) := by decide +kernel
theorem dX10_rowsTo_7 : decode cX10_rowsTo 7 = .ok (.istore 4, 2) := by decide +kernel
theorem dX10_rowsTo_70 : decode cX10_rowsTo 70 = .ok (.if_icmp .ge 21, 3) := by decide +kernel
theorem dX10_rowsTo_73 : decode cX10_rowsTo 73 = .ok (.lload 5, 2) := by decide +kernel
theorem dX10_rowsTo_75 : decode cX10_rowsTo 75 = .ok (.aload_n 0, 1) := by decide +kernel
theorem dX10_rowsTo_76 : decode cX10_rowsTo 76 = .ok (.getfield 52, 3) := by decide +kernel
theorem dX10_rowsTo_79 : decode cX10_rowsTo 79 = .ok (.iload 7, 2) := by decide +kernel
theorem dX10_rowsTo_81 : decode cX10_rowsTo 81 = .ok (.laload, 1) := by decide +kernel
theorem dX10_rowsTo_82 : decode cX10_rowsTo 82 = .ok (.ladd, 1) := by decide +kernel
theorem dX10_rowsTo_83 : decode cX10_rowsTo 83 = .ok (.lstore 5, 2) := by decide +kernel
theorem dX10_rowsTo_85 : decode cX10_rowsTo 85 = .ok (.iinc 7 1, 3) := by decide +kernel
theorem dX10_rowsTo_88 : decode cX10_rowsTo 88 = .ok (.goto (-22), 3) := by decide +kernel
theorem dX10_rowsTo_9 : decode cX10_rowsTo 9 = .ok (.aload_n 0, 1) := by decide +kernel
theorem dX10_rowsTo_91 : decode cX10_rowsTo 91 = .ok (.lload 5, 2) := by decide +kernel
theorem dX10_rowsTo_93 : decode cX10_rowsTo 93 = .ok (.lreturn, 1) := by decide +kernel
theorem dX10_walkFrom_0 : decode cX10_walkFrom 0 = .ok (.aload_n 0, 1) := by decide +kernel
theorem dX10_walkFrom_1 : decode cX10_walkFrom 1 = .ok (.getfield 25, 3) := by decide +kernel
theorem dX10_walkFrom_100 : decode cX10_walkFrom 100 = .ok (.getfield 18, 3) := by decide +kernel
theorem dX10_walkFrom_103 : decode cX10_walkFrom 103 = .ok (.iload_n 2, 1) := by decide +kernel
theorem dX10_walkFrom_104 : decode cX10_walkFrom 104 = .ok (.iaload, 1) := by decide +kernel
theorem dX10_walkFrom_105 : decode cX10_walkFrom 105 = .ok (.invokevirtual 106, 3) := by decide +kernel
theorem dX10_walkFrom_108 : decode cX10_walkFrom 108 = .ok (.iinc 2 1, 3) := by decide +kernel
theorem dX10_walkFrom_111 : decode cX10_walkFrom 111 = .ok (.goto (-28), 3) := by decide +kernel
theorem dX10_walkFrom_114 : decode cX10_walkFrom 114 = .ok (.return_, 1) := by decide +kernel
theorem dX10_walkFrom_23 : decode cX10_walkFrom 23 = .ok (.aload_n 0, 1) := by decide +kernel
theorem dX10_walkFrom_24 : decode cX10_walkFrom 24 = .ok (.iload_n 1, 1) := by decide +kernel
theorem dX10_walkFrom_25 : decode cX10_walkFrom 25 = .ok (.putfield 25, 3) := by decide +kernel
theorem dX10_walkFrom_28 : decode cX10_walkFrom 28 = .ok (.aload_n 0, 1) := by decide +kernel
theorem dX10_walkFrom_29 : decode cX10_walkFrom 29 = .ok (.aload_n 0, 1) := by decide +kernel
theorem dX10_walkFrom_30 : decode cX10_walkFrom 30 = .ok (.getfield 63, 3) := by decide +kernel
theorem dX10_walkFrom_33 : decode cX10_walkFrom 33 = .ok (.invokevirtual 104, 3) := by decide +kernel
theorem dX10_walkFrom_36 : decode cX10_walkFrom 36 = .ok (.putfield 28, 3) := by decide +kernel
theorem dX10_walkFrom_39 : decode cX10_walkFrom 39 = .ok (.aload_n 0, 1) := by decide +kernel
theorem dX10_walkFrom_4 : decode cX10_walkFrom 4 = .ok (.iload_n 1, 1) := by decide +kernel
theorem dX10_walkFrom_40 : decode cX10_walkFrom 40 = .ok (.getfield 9, 3) := by decide +kernel
theorem dX10_walkFrom_43 : decode cX10_walkFrom 43 = .ok (.iconst 0, 1) := by decide +kernel
theorem dX10_walkFrom_44 : decode cX10_walkFrom 44 = .ok (.aload_n 0, 1) := by decide +kernel
theorem dX10_walkFrom_45 : decode cX10_walkFrom 45 = .ok (.getfield 59, 3) := by decide +kernel
theorem dX10_walkFrom_48 : decode cX10_walkFrom 48 = .ok (.invokevirtual 83, 3) := by decide +kernel
theorem dX10_walkFrom_5 : decode cX10_walkFrom 5 = .ok (.if_icmp .ne 18, 3) := by decide +kernel
theorem dX10_walkFrom_51 : decode cX10_walkFrom 51 = .ok (.iconst (-1), 1) := by decide +kernel
theorem dX10_walkFrom_52 : decode cX10_walkFrom 52 = .ok (.invokestatic 89, 3) := by decide +kernel
theorem dX10_walkFrom_55 : decode cX10_walkFrom 55 = .ok (.aload_n 0, 1) := by decide +kernel
theorem dX10_walkFrom_56 : decode cX10_walkFrom 56 = .ok (.getfield 9, 3) := by decide +kernel
theorem dX10_walkFrom_59 : decode cX10_walkFrom 59 = .ok (.iload_n 1, 1) := by decide +kernel
theorem dX10_walkFrom_60 : decode cX10_walkFrom 60 = .ok (.iconst 0, 1) := by decide +kernel
theorem dX10_walkFrom_61 : decode cX10_walkFrom 61 = .ok (.iastore, 1) := by decide +kernel
theorem dX10_walkFrom_62 : decode cX10_walkFrom 62 = .ok (.aload_n 0, 1) := by decide +kernel
