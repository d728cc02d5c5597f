/-! decode rows -/
theorem dX12_drunk_12 : decode cX12_drunk 12 = .ok (.sipush 500, 3) := by decide +kernel
theorem dX12_drunk_142 : decode cX12_drunk 142 = .ok (.aload_n 0, 1) := by decide +kernel
theorem dX12_drunk_143 : decode cX12_drunk 143 = .ok (.getfield 135, 3) := by decide +kernel
theorem dX12_drunk_146 : decode cX12_drunk 146 = .ok (.iload 4, 2) := by decide +kernel
theorem dX12_drunk_148 : decode cX12_drunk 148 = .ok (.dup2, 1) := by decide +kernel
theorem dX12_drunk_149 : decode cX12_drunk 149 = .ok (.iaload, 1) := by decide +kernel
theorem dX12_drunk_15 : decode cX12_drunk 15 = .ok (.invokestatic 138, 3) := by decide +kernel
theorem dX12_drunk_150 : decode cX12_drunk 150 = .ok (.iconst 1, 1) := by decide +kernel
theorem dX12_drunk_151 : decode cX12_drunk 151 = .ok (.iadd, 1) := by decide +kernel
theorem dX12_drunk_152 : decode cX12_drunk 152 = .ok (.iastore, 1) := by decide +kernel
theorem dX12_drunk_153 : decode cX12_drunk 153 = .ok (.iinc 5 1, 3) := by decide +kernel
theorem dX12_drunk_156 : decode cX12_drunk 156 = .ok (.goto (-54), 3) := by decide +kernel
theorem dX12_drunk_159 : decode cX12_drunk 159 = .ok (.aload_n 0, 1) := by decide +kernel
theorem dX12_drunk_160 : decode cX12_drunk 160 = .ok (.iload 4, 2) := by decide +kernel
theorem dX12_drunk_162 : decode cX12_drunk 162 = .ok (.invokevirtual 146, 3) := by decide +kernel
theorem dX12_drunk_165 : decode cX12_drunk 165 = .ok (.ireturn, 1) := by decide +kernel
theorem dX12_drunk_18 : decode cX12_drunk 18 = .ok (.ifCond .ne 9, 3) := by decide +kernel
theorem dX12_drunk_2 : decode cX12_drunk 2 = .ok (.ldc 179, 2) := by decide +kernel
theorem dX12_drunk_21 : decode cX12_drunk 21 = .ok (.aload_n 0, 1) := by decide +kernel
theorem dX12_drunk_22 : decode cX12_drunk 22 = .ok (.iconst (-1), 1) := by decide +kernel
theorem dX12_drunk_23 : decode cX12_drunk 23 = .ok (.invokevirtual 142, 3) := by decide +kernel
theorem dX12_drunk_26 : decode cX12_drunk 26 = .ok (.ireturn, 1) := by decide +kernel
theorem dX12_drunk_27 : decode cX12_drunk 27 = .ok (.aload_n 0, 1) := by decide +kernel
theorem dX12_drunk_28 : decode cX12_drunk 28 = .ok (.iload_n 2, 1) := by decide +kernel
theorem dX12_drunk_29 : decode cX12_drunk 29 = .ok (.invokevirtual 325, 3) := by decide +kernel
theorem dX12_drunk_32 : decode cX12_drunk 32 = .ok (.ifCond .ne 10, 3) := by decide +kernel
theorem dX12_drunk_35 : decode cX12_drunk 35 = .ok (.aload_n 0, 1) := by decide +kernel
theorem dX12_drunk_36 : decode cX12_drunk 36 = .ok (.bipush (-2), 2) := by decide +kernel
theorem dX12_drunk_38 : decode cX12_drunk 38 = .ok (.invokevirtual 142, 3) := by decide +kernel
theorem dX12_drunk_4 : decode cX12_drunk 4 = .ok (.invokestatic 138, 3) := by decide +kernel
theorem dX12_drunk_41 : decode cX12_drunk 41 = .ok (.ireturn, 1) := by decide +kernel
theorem dX12_drunk_42 : decode cX12_drunk 42 = .ok (.aload_n 0, 1) := by decide +kernel
theorem dX12_drunk_43 : decode cX12_drunk 43 = .ok (.invokevirtual 328, 3) := by decide +kernel
theorem dX12_drunk_46 : decode cX12_drunk 46 = .ok (.aload_n 0, 1) := by decide +kernel
theorem dX12_drunk_47 : decode cX12_drunk 47 = .ok (.iload_n 1, 1) := by decide +kernel
theorem dX12_drunk_48 : decode cX12_drunk 48 = .ok (.putfield 368, 3) := by decide +kernel
theorem dX12_drunk_51 : decode cX12_drunk 51 = .ok (.aload_n 0, 1) := by decide +kernel
theorem dX12_drunk_52 : decode cX12_drunk 52 = .ok (.aload_n 0, 1) := by decide +kernel
theorem dX12_drunk_53 : decode cX12_drunk 53 = .ok (.getfield 298, 3) := by decide +kernel
theorem dX12_drunk_56 : decode cX12_drunk 56 = .ok (.putfield 375, 3) := by decide +kernel
theorem dX12_drunk_59 : decode cX12_drunk 59 = .ok (.iconst 0, 1) := by decide +kernel
theorem dX12_drunk_60 : decode cX12_drunk 60 = .ok (.istore 4, 2) := by decide +kernel
theorem dX12_drunk_62 : decode cX12_drunk 62 = .ok (.iload 4, 2) := by decide +kernel
theorem dX12_drunk_64 : decode cX12_drunk 64 = .ok (.aload_n 0, 1) := by decide +kernel
theorem dX12_drunk_65 : decode cX12_drunk 65 = .ok (.getfield 298, 3) := by decide +kernel
theorem dX12_drunk_68 : decode cX12_drunk 68 = .ok (.if_icmp .ge 17, 3) := by decide +kernel
theorem dX12_drunk_7 : decode cX12_drunk 7 = .ok (.ifCond .eq 14, 3) := by decide +kernel
theorem dX12_drunk_71 : decode cX12_drunk 71 = .ok (.aload_n 0, 1) := by decide +kernel
theorem dX12_drunk_72 : decode cX12_drunk 72 = .ok (.getfield 135, 3) := by decide +kernel
theorem dX12_drunk_75 : decode cX12_drunk 75 = .ok (.iload 4, 2) := by decide +kernel
theorem dX12_drunk_77 : decode cX12_drunk 77 = .ok (.iconst 0, 1) := by decide +kernel
theorem dX12_drunk_78 : decode cX12_drunk 78 = .ok (.iastore, 1) := by decide +kernel
theorem dX12_drunk_79 : decode cX12_drunk 79 = .ok (.iinc 4 1, 3) := by decide +kernel
theorem dX12_drunk_82 : decode cX12_drunk 82 = .ok (.goto (-20), 3) := by decide +kernel
theorem dX12_drunk_85 : decode cX12_drunk 85 = .ok (.iload_n 2, 1) := by decide +kernel
theorem dX12_drunk_86 : decode cX12_drunk 86 = .ok (.istore 4, 2) := by decide +kernel
theorem dX12_drunk_88 : decode cX12_drunk 88 = .ok (.aload_n 0, 1) := by decide +kernel
theorem dX12_drunk_89 : decode cX12_drunk 89 = .ok (.getfield 135, 3) := by decide +kernel
theorem dX12_drunk_92 : decode cX12_drunk 92 = .ok (.iload 4, 2) := by decide +kernel
theorem dX12_drunk_94 : decode cX12_drunk 94 = .ok (.dup2, 1) := by decide +kernel
theorem dX12_drunk_95 : decode cX12_drunk 95 = .ok (.iaload, 1) := by decide +kernel
theorem dX12_drunk_96 : decode cX12_drunk 96 = .ok (.iconst 1, 1) := by decide +kernel
theorem dX12_drunk_97 : decode cX12_drunk 97 = .ok (.iadd, 1) := by decide +kernel
theorem dX12_drunk_98 : decode cX12_drunk 98 = .ok (.iastore, 1) := by decide +kernel
theorem dX12_drunk_99 : decode cX12_drunk 99 = .ok (.iconst 0, 1) := by decide +kernel
theorem dX12_end_0 : decode cX12_end 0 = .ok (.iload_n 1, 1) := by decide +kernel
theorem dX12_end_1 : decode cX12_end 1 = .ok (.iconst 0, 1) := by decide +kernel
theorem dX12_end_12 : decode cX12_end 12 = .ok (.iconst (-1), 1) := by decide +kernel
theorem dX12_end_13 : decode cX12_end 13 = .ok (.ireturn, 1) := by decide +kernel
theorem dX12_end_14 : decode cX12_end 14 = .ok (.aload_n 0, 1) := by decide +kernel
theorem dX12_end_15 : decode cX12_end 15 = .ok (.iload_n 1, 1) := by decide +kernel
theorem dX12_end_16 : decode cX12_end 16 = .ok (.putfield 156, 3) := by decide +kernel
theorem dX12_end_19 : decode cX12_end 19 = .ok (.iload_n 1, 1) := by decide +kernel
theorem dX12_end_2 : decode cX12_end 2 = .ok (.aload_n 0, 1) := by decide +kernel
theorem dX12_end_20 : decode cX12_end 20 = .ok (.ireturn, 1) := by decide +kernel
theorem dX12_end_3 : decode cX12_end 3 = .ok (.getfield 156, 3) := by decide +kernel
theorem dX12_end_6 : decode cX12_end 6 = .ok (.invokestatic 138, 3) := by decide +kernel
theorem dX12_end_9 : decode cX12_end 9 = .ok (.ifCond .ne 5, 3) := by decide +kernel
theorem dX12_endsBy_0 : decode cX12_endsBy 0 = .ok (.iload_n 1, 1) := by decide +kernel
theorem dX12_endsBy_1 : decode cX12_endsBy 1 = .ok (.iload_n 3, 1) := by decide +kernel
theorem dX12_endsBy_11 : decode cX12_endsBy 11 = .ok (.iconst (-1), 1) := by decide +kernel
theorem dX12_endsBy_12 : decode cX12_endsBy 12 = .ok (.if_icmp .eq 7, 3) := by decide +kernel
theorem dX12_endsBy_19 : decode cX12_endsBy 19 = .ok (.iconst 0, 1) := by decide +kernel
theorem dX12_endsBy_2 : decode cX12_endsBy 2 = .ok (.if_icmp .ne 19, 3) := by decide +kernel
theorem dX12_endsBy_20 : decode cX12_endsBy 20 = .ok (.ireturn, 1) := by decide +kernel
theorem dX12_endsBy_5 : decode cX12_endsBy 5 = .ok (.aload_n 0, 1) := by decide +kernel
theorem dX12_endsBy_6 : decode cX12_endsBy 6 = .ok (.iload_n 2, 1) := by decide +kernel
theorem dX12_endsBy_7 : decode cX12_endsBy 7 = .ok (.iconst 0, 1) := by decide +kernel
theorem dX12_endsBy_8 : decode cX12_endsBy 8 = .ok (.invokevirtual 340, 3) := by decide +kernel
theorem dX12_far_0 : decode cX12_far 0 = .ok (.aload_n 0, 1) := by decide +kernel
theorem dX12_far_1 : decode cX12_far 1 = .ok (.iload_n 1, 1) := by decide +kernel
theorem dX12_far_10 : decode cX12_far 10 = .ok (.invokevirtual 325, 3) := by decide +kernel
theorem dX12_far_13 : decode cX12_far 13 = .ok (.ifCond .eq 12, 3) := by decide +kernel
theorem dX12_far_16 : decode cX12_far 16 = .ok (.iload_n 3, 1) := by decide +kernel
theorem dX12_far_17 : decode cX12_far 17 = .ok (.iconst 0, 1) := by decide +kernel
theorem dX12_far_18 : decode cX12_far 18 = .ok (.iconst 2, 1) := by decide +kernel
theorem dX12_far_19 : decode cX12_far 19 = .ok (.invokestatic 138, 3) := by decide +kernel
theorem dX12_far_2 : decode cX12_far 2 = .ok (.invokevirtual 325, 3) := by decide +kernel
theorem dX12_far_22 : decode cX12_far 22 = .ok (.ifCond .ne 5, 3) := by decide +kernel
theorem dX12_far_25 : decode cX12_far 25 = .ok (.iconst (-1), 1) := by decide +kernel
theorem dX12_far_26 : decode cX12_far 26 = .ok (.ireturn, 1) := by decide +kernel
theorem dX12_far_27 : decode cX12_far 27 = .ok (.aload_n 0, 1) := by decide +kernel
theorem dX12_far_28 : decode cX12_far 28 = .ok (.invokevirtual 328, 3) := by decide +kernel
theorem dX12_far_31 : decode cX12_far 31 = .ok (.iload_n 3, 1) := by decide +kernel
theorem dX12_far_32 : decode cX12_far 32 = .ok (.iconst 2, 1) := by decide +kernel
theorem dX12_far_33 : decode cX12_far 33 = .ok (.if_icmp .ne 10, 3) := by decide +kernel
theorem dX12_far_36 : decode cX12_far 36 = .ok (.aload_n 0, 1) := by decide +kernel
theorem dX12_far_37 : decode cX12_far 37 = .ok (.iload_n 1, 1) := by decide +kernel
theorem dX12_far_38 : decode cX12_far 38 = .ok (.iload_n 2, 1) := by decide +kernel
theorem dX12_far_39 : decode cX12_far 39 = .ok (.invokevirtual 331, 3) := by decide +kernel
theorem dX12_far_42 : decode cX12_far 42 = .ok (.ireturn, 1) := by decide +kernel
theorem dX12_far_43 : decode cX12_far 43 = .ok (.aload_n 0, 1) := by decide +kernel
theorem dX12_far_44 : decode cX12_far 44 = .ok (.iload_n 1, 1) := by decide +kernel
theorem dX12_far_45 : decode cX12_far 45 = .ok (.invokevirtual 334, 3) := by decide +kernel
theorem dX12_far_48 : decode cX12_far 48 = .ok (.pop, 1) := by decide +kernel
theorem dX12_far_49 : decode cX12_far 49 = .ok (.iload_n 3, 1) := by decide +kernel
theorem dX12_far_5 : decode cX12_far 5 = .ok (.ifCond .eq 20, 3) := by decide +kernel
theorem dX12_far_50 : decode cX12_far 50 = .ok (.ifCond .ne 12, 3) := by decide +kernel
theorem dX12_far_53 : decode cX12_far 53 = .ok (.aload_n 0, 1) := by decide +kernel
theorem dX12_far_54 : decode cX12_far 54 = .ok (.getfield 85, 3) := by decide +kernel
theorem dX12_far_57 : decode cX12_far 57 = .ok (.iload_n 2, 1) := by decide +kernel
theorem dX12_far_58 : decode cX12_far 58 = .ok (.iaload, 1) := by decide +kernel
theorem dX12_far_59 : decode cX12_far 59 = .ok (.goto 10, 3) := by decide +kernel
theorem dX12_far_62 : decode cX12_far 62 = .ok (.aload_n 0, 1) := by decide +kernel
theorem dX12_far_63 : decode cX12_far 63 = .ok (.getfield 88, 3) := by decide +kernel
theorem dX12_far_66 : decode cX12_far 66 = .ok (.iload_n 2, 1) := by decide +kernel
theorem dX12_far_67 : decode cX12_far 67 = .ok (.laload, 1) := by decide +kernel
theorem dX12_far_68 : decode cX12_far 68 = .ok (.l2i, 1) := by decide +kernel
theorem dX12_far_69 : decode cX12_far 69 = .ok (.ireturn, 1) := by decide +kernel
theorem dX12_far_8 : decode cX12_far 8 = .ok (.aload_n 0, 1) := by decide +kernel
theorem dX12_far_9 : decode cX12_far 9 = .ok (.iload_n 2, 1) := by decide +kernel
theorem dX12_fault_0 : decode cX12_fault 0 = .ok (.aload_n 0, 1) := by decide +kernel
theorem dX12_fault_1 : decode cX12_fault 1 = .ok (.getfield 40, 3) := by decide +kernel
theorem dX12_fault_4 : decode cX12_fault 4 = .ok (.ireturn, 1) := by decide +kernel
theorem dX12_faults_0 : decode cX12_faults 0 = .ok (.aload_n 0, 1) := by decide +kernel
theorem dX12_faults_1 : decode cX12_faults 1 = .ok (.invokevirtual 183, 3) := by decide +kernel
theorem dX12_faults_12 : decode cX12_faults 12 = .ok (.aload_n 0, 1) := by decide +kernel
theorem dX12_faults_13 : decode cX12_faults 13 = .ok (.getfield 187, 3) := by decide +kernel
theorem dX12_faults_16 : decode cX12_faults 16 = .ok (.iaload, 1) := by decide +kernel
theorem dX12_faults_17 : decode cX12_faults 17 = .ok (.putfield 180, 3) := by decide +kernel
theorem dX12_faults_20 : decode cX12_faults 20 = .ok (.return_, 1) := by decide +kernel
theorem dX12_faults_4 : decode cX12_faults 4 = .ok (.ifCond .eq 16, 3) := by decide +kernel
theorem dX12_faults_7 : decode cX12_faults 7 = .ok (.aload_n 0, 1) := by decide +kernel
theorem dX12_faults_8 : decode cX12_faults 8 = .ok (.aload_n 0, 1) := by decide +kernel
theorem dX12_faults_9 : decode cX12_faults 9 = .ok (.getfield 49, 3) := by decide +kernel
theorem dX12_feed_0 : decode cX12_feed 0 = .ok (.aload_n 0, 1) := by decide +kernel
theorem dX12_feed_1 : decode cX12_feed 1 = .ok (.getfield 156, 3) := by decide +kernel
theorem dX12_feed_10 : decode cX12_feed 10 = .ok (.if_icmp .le 5, 3) := by decide +kernel
theorem dX12_feed_101 : decode cX12_feed 101 = .ok (.aload_n 0, 1) := by decide +kernel
theorem dX12_feed_102 : decode cX12_feed 102 = .ok (.dup, 1) := by decide +kernel
theorem dX12_feed_103 : decode cX12_feed 103 = .ok (.getfield 156, 3) := by decide +kernel
theorem dX12_feed_106 : decode cX12_feed 106 = .ok (.bipush 20, 2) := by decide +kernel
theorem dX12_feed_108 : decode cX12_feed 108 = .ok (.iadd, 1) := by decide +kernel
theorem dX12_feed_109 : decode cX12_feed 109 = .ok (.putfield 156, 3) := by decide +kernel
theorem dX12_feed_112 : decode cX12_feed 112 = .ok (.aload_n 0, 1) := by decide +kernel
theorem dX12_feed_113 : decode cX12_feed 113 = .ok (.getfield 156, 3) := by decide +kernel
theorem dX12_feed_116 : decode cX12_feed 116 = .ok (.ireturn, 1) := by decide +kernel
theorem dX12_feed_15 : decode cX12_feed 15 = .ok (.aload_n 0, 1) := by decide +kernel
theorem dX12_feed_16 : decode cX12_feed 16 = .ok (.getfield 37, 3) := by decide +kernel
theorem dX12_feed_19 : decode cX12_feed 19 = .ok (.iconst 0, 1) := by decide +kernel
theorem dX12_feed_20 : decode cX12_feed 20 = .ok (.iload_n 1, 1) := by decide +kernel
theorem dX12_feed_21 : decode cX12_feed 21 = .ok (.iastore, 1) := by decide +kernel
theorem dX12_feed_22 : decode cX12_feed 22 = .ok (.aload_n 0, 1) := by decide +kernel
theorem dX12_feed_23 : decode cX12_feed 23 = .ok (.getfield 37, 3) := by decide +kernel
theorem dX12_feed_26 : decode cX12_feed 26 = .ok (.iconst 1, 1) := by decide +kernel
theorem dX12_feed_27 : decode cX12_feed 27 = .ok (.iload_n 2, 1) := by decide +kernel
theorem dX12_feed_28 : decode cX12_feed 28 = .ok (.iastore, 1) := by decide +kernel
theorem dX12_feed_29 : decode cX12_feed 29 = .ok (.aload_n 0, 1) := by decide +kernel
theorem dX12_feed_30 : decode cX12_feed 30 = .ok (.getfield 37, 3) := by decide +kernel
theorem dX12_feed_33 : decode cX12_feed 33 = .ok (.iconst 2, 1) := by decide +kernel
theorem dX12_feed_34 : decode cX12_feed 34 = .ok (.iload_n 3, 1) := by decide +kernel
theorem dX12_feed_35 : decode cX12_feed 35 = .ok (.iastore, 1) := by decide +kernel
theorem dX12_feed_36 : decode cX12_feed 36 = .ok (.aload_n 0, 1) := by decide +kernel
theorem dX12_feed_37 : decode cX12_feed 37 = .ok (.getfield 37, 3) := by decide +kernel
theorem dX12_feed_4 : decode cX12_feed 4 = .ok (.bipush 20, 2) := by decide +kernel
theorem dX12_feed_40 : decode cX12_feed 40 = .ok (.iconst 3, 1) := by decide +kernel
theorem dX12_feed_41 : decode cX12_feed 41 = .ok (.iload 4, 2) := by decide +kernel
theorem dX12_feed_43 : decode cX12_feed 43 = .ok (.iastore, 1) := by decide +kernel
theorem dX12_feed_44 : decode cX12_feed 44 = .ok (.aload_n 0, 1) := by decide +kernel
theorem dX12_feed_45 : decode cX12_feed 45 = .ok (.getfield 37, 3) := by decide +kernel
theorem dX12_feed_48 : decode cX12_feed 48 = .ok (.iconst 4, 1) := by decide +kernel
theorem dX12_feed_49 : decode cX12_feed 49 = .ok (.iload 5, 2) := by decide +kernel
theorem dX12_feed_51 : decode cX12_feed 51 = .ok (.iastore, 1) := by decide +kernel
theorem dX12_feed_52 : decode cX12_feed 52 = .ok (.iconst 0, 1) := by decide +kernel
theorem dX12_feed_53 : decode cX12_feed 53 = .ok (.istore 6, 2) := by decide +kernel
theorem dX12_feed_55 : decode cX12_feed 55 = .ok (.iload 6, 2) := by decide +kernel
theorem dX12_feed_57 : decode cX12_feed 57 = .ok (.bipush 20, 2) := by decide +kernel
theorem dX12_feed_59 : decode cX12_feed 59 = .ok (.if_icmp .ge 42, 3) := by decide +kernel
theorem dX12_feed_6 : decode cX12_feed 6 = .ok (.iadd, 1) := by decide +kernel
theorem dX12_feed_62 : decode cX12_feed 62 = .ok (.aload_n 0, 1) := by decide +kernel
theorem dX12_feed_63 : decode cX12_feed 63 = .ok (.getfield 34, 3) := by decide +kernel
theorem dX12_feed_66 : decode cX12_feed 66 = .ok (.aload_n 0, 1) := by decide +kernel
theorem dX12_feed_67 : decode cX12_feed 67 = .ok (.getfield 156, 3) := by decide +kernel
theorem dX12_feed_7 : decode cX12_feed 7 = .ok (.sipush 400, 3) := by decide +kernel
theorem dX12_feed_70 : decode cX12_feed 70 = .ok (.iload 6, 2) := by decide +kernel
theorem dX12_feed_72 : decode cX12_feed 72 = .ok (.iadd, 1) := by decide +kernel
theorem dX12_feed_73 : decode cX12_feed 73 = .ok (.aload_n 0, 1) := by decide +kernel
theorem dX12_feed_74 : decode cX12_feed 74 = .ok (.getfield 37, 3) := by decide +kernel
theorem dX12_feed_77 : decode cX12_feed 77 = .ok (.iload 6, 2) := by decide +kernel
theorem dX12_feed_79 : decode cX12_feed 79 = .ok (.iconst 4, 1) := by decide +kernel
theorem dX12_feed_80 : decode cX12_feed 80 = .ok (.idiv, 1) := by decide +kernel
theorem dX12_feed_81 : decode cX12_feed 81 = .ok (.iaload, 1) := by decide +kernel
theorem dX12_feed_82 : decode cX12_feed 82 = .ok (.bipush 24, 2) := by decide +kernel
theorem dX12_feed_84 : decode cX12_feed 84 = .ok (.bipush 8, 2) := by decide +kernel
theorem dX12_feed_86 : decode cX12_feed 86 = .ok (.iload 6, 2) := by decide +kernel
theorem dX12_feed_88 : decode cX12_feed 88 = .ok (.iconst 4, 1) := by decide +kernel
theorem dX12_feed_89 : decode cX12_feed 89 = .ok (.irem, 1) := by decide +kernel
theorem dX12_feed_90 : decode cX12_feed 90 = .ok (.imul, 1) := by decide +kernel
theorem dX12_feed_91 : decode cX12_feed 91 = .ok (.isub, 1) := by decide +kernel
theorem dX12_feed_92 : decode cX12_feed 92 = .ok (.ishr, 1) := by decide +kernel
theorem dX12_feed_93 : decode cX12_feed 93 = .ok (.i2b, 1) := by decide +kernel
theorem dX12_feed_94 : decode cX12_feed 94 = .ok (.bastore, 1) := by decide +kernel
theorem dX12_feed_95 : decode cX12_feed 95 = .ok (.iinc 6 1, 3) := by decide +kernel
theorem dX12_feed_98 : decode cX12_feed 98 = .ok (.goto (-43), 3) := by decide +kernel
theorem dX12_findsFits_0 : decode cX12_findsFits 0 = .ok (.aload_n 0, 1) := by decide +kernel
theorem dX12_findsFits_1 : decode cX12_findsFits 1 = .ok (.invokevirtual 328, 3) := by decide +kernel
theorem dX12_findsFits_11 : decode cX12_findsFits 11 = .ok (.if_icmp .ge 16, 3) := by decide +kernel
theorem dX12_findsFits_120 : decode cX12_findsFits 120 = .ok (.iconst 0, 1) := by decide +kernel
theorem dX12_findsFits_121 : decode cX12_findsFits 121 = .ok (.istore_n 1, 1) := by decide +kernel
theorem dX12_findsFits_122 : decode cX12_findsFits 122 = .ok (.iconst 0, 1) := by decide +kernel
theorem dX12_findsFits_123 : decode cX12_findsFits 123 = .ok (.istore_n 2, 1) := by decide +kernel
theorem dX12_findsFits_124 : decode cX12_findsFits 124 = .ok (.iload_n 2, 1) := by decide +kernel
theorem dX12_findsFits_125 : decode cX12_findsFits 125 = .ok (.aload_n 0, 1) := by decide +kernel
theorem dX12_findsFits_126 : decode cX12_findsFits 126 = .ok (.getfield 298, 3) := by decide +kernel
theorem dX12_findsFits_129 : decode cX12_findsFits 129 = .ok (.if_icmp .ge 26, 3) := by decide +kernel
theorem dX12_findsFits_132 : decode cX12_findsFits 132 = .ok (.iload_n 1, 1) := by decide +kernel
theorem dX12_findsFits_133 : decode cX12_findsFits 133 = .ok (.aload_n 0, 1) := by decide +kernel
theorem dX12_findsFits_134 : decode cX12_findsFits 134 = .ok (.getfield 123, 3) := by decide +kernel
theorem dX12_findsFits_137 : decode cX12_findsFits 137 = .ok (.iload_n 2, 1) := by decide +kernel
theorem dX12_findsFits_138 : decode cX12_findsFits 138 = .ok (.baload, 1) := by decide +kernel
theorem dX12_findsFits_139 : decode cX12_findsFits 139 = .ok (.ifCond .eq 7, 3) := by decide +kernel
theorem dX12_findsFits_14 : decode cX12_findsFits 14 = .ok (.aload_n 0, 1) := by decide +kernel
theorem dX12_findsFits_142 : decode cX12_findsFits 142 = .ok (.iconst 1, 1) := by decide +kernel
theorem dX12_findsFits_143 : decode cX12_findsFits 143 = .ok (.goto 4, 3) := by decide +kernel
theorem dX12_findsFits_147 : decode cX12_findsFits 147 = .ok (.iadd, 1) := by decide +kernel
theorem dX12_findsFits_148 : decode cX12_findsFits 148 = .ok (.istore_n 1, 1) := by decide +kernel
theorem dX12_findsFits_149 : decode cX12_findsFits 149 = .ok (.iinc 2 1, 3) := by decide +kernel
theorem dX12_findsFits_15 : decode cX12_findsFits 15 = .ok (.getfield 123, 3) := by decide +kernel
theorem dX12_findsFits_152 : decode cX12_findsFits 152 = .ok (.goto (-28), 3) := by decide +kernel
theorem dX12_findsFits_155 : decode cX12_findsFits 155 = .ok (.iload_n 1, 1) := by decide +kernel
theorem dX12_findsFits_156 : decode cX12_findsFits 156 = .ok (.ireturn, 1) := by decide +kernel
theorem dX12_findsFits_18 : decode cX12_findsFits 18 = .ok (.iload_n 1, 1) := by decide +kernel
theorem dX12_findsFits_19 : decode cX12_findsFits 19 = .ok (.iconst 1, 1) := by decide +kernel
theorem dX12_findsFits_20 : decode cX12_findsFits 20 = .ok (.bastore, 1) := by decide +kernel
theorem dX12_findsFits_21 : decode cX12_findsFits 21 = .ok (.iinc 1 1, 3) := by decide +kernel
theorem dX12_findsFits_24 : decode cX12_findsFits 24 = .ok (.goto (-18), 3) := by decide +kernel
theorem dX12_findsFits_27 : decode cX12_findsFits 27 = .ok (.iconst 0, 1) := by decide +kernel
theorem dX12_findsFits_28 : decode cX12_findsFits 28 = .ok (.istore_n 1, 1) := by decide +kernel
theorem dX12_findsFits_29 : decode cX12_findsFits 29 = .ok (.iload_n 1, 1) := by decide +kernel
theorem dX12_findsFits_30 : decode cX12_findsFits 30 = .ok (.aload_n 0, 1) := by decide +kernel
theorem dX12_findsFits_31 : decode cX12_findsFits 31 = .ok (.getfield 20, 3) := by decide +kernel
theorem dX12_findsFits_34 : decode cX12_findsFits 34 = .ok (.bipush 61, 2) := by decide +kernel
theorem dX12_findsFits_36 : decode cX12_findsFits 36 = .ok (.iaload, 1) := by decide +kernel
theorem dX12_findsFits_37 : decode cX12_findsFits 37 = .ok (.if_icmp .ge 83, 3) := by decide +kernel
theorem dX12_findsFits_4 : decode cX12_findsFits 4 = .ok (.iconst 0, 1) := by decide +kernel
theorem dX12_findsFits_5 : decode cX12_findsFits 5 = .ok (.istore_n 1, 1) := by decide +kernel
theorem dX12_findsFits_6 : decode cX12_findsFits 6 = .ok (.iload_n 1, 1) := by decide +kernel
theorem dX12_findsFits_7 : decode cX12_findsFits 7 = .ok (.aload_n 0, 1) := by decide +kernel
theorem dX12_findsFits_8 : decode cX12_findsFits 8 = .ok (.getfield 298, 3) := by decide +kernel
theorem dX12_findsRound_0 : decode cX12_findsRound 0 = .ok (.iconst 1, 1) := by decide +kernel
theorem dX12_findsRound_1 : decode cX12_findsRound 1 = .ok (.aload_n 0, 1) := by decide +kernel
theorem dX12_findsRound_10 : decode cX12_findsRound 10 = .ok (.istore_n 2, 1) := by decide +kernel
theorem dX12_findsRound_11 : decode cX12_findsRound 11 = .ok (.iload_n 2, 1) := by decide +kernel
theorem dX12_findsRound_12 : decode cX12_findsRound 12 = .ok (.ifCond .le 60, 3) := by decide +kernel
theorem dX12_findsRound_15 : decode cX12_findsRound 15 = .ok (.iconst 0, 1) := by decide +kernel
theorem dX12_findsRound_16 : decode cX12_findsRound 16 = .ok (.istore_n 3, 1) := by decide +kernel
theorem dX12_findsRound_17 : decode cX12_findsRound 17 = .ok (.iload_n 3, 1) := by decide +kernel
theorem dX12_findsRound_18 : decode cX12_findsRound 18 = .ok (.aload_n 0, 1) := by decide +kernel
theorem dX12_findsRound_19 : decode cX12_findsRound 19 = .ok (.getfield 298, 3) := by decide +kernel
theorem dX12_findsRound_2 : decode cX12_findsRound 2 = .ok (.getfield 298, 3) := by decide +kernel
theorem dX12_findsRound_22 : decode cX12_findsRound 22 = .ok (.if_icmp .ge 44, 3) := by decide +kernel
theorem dX12_findsRound_25 : decode cX12_findsRound 25 = .ok (.aload_n 0, 1) := by decide +kernel
theorem dX12_findsRound_26 : decode cX12_findsRound 26 = .ok (.getfield 120, 3) := by decide +kernel
theorem dX12_findsRound_29 : decode cX12_findsRound 29 = .ok (.iload_n 2, 1) := by decide +kernel
theorem dX12_findsRound_30 : decode cX12_findsRound 30 = .ok (.bipush 14, 2) := by decide +kernel
theorem dX12_findsRound_32 : decode cX12_findsRound 32 = .ok (.imul, 1) := by decide +kernel
theorem dX12_findsRound_33 : decode cX12_findsRound 33 = .ok (.iload_n 3, 1) := by decide +kernel
theorem dX12_findsRound_34 : decode cX12_findsRound 34 = .ok (.iadd, 1) := by decide +kernel
theorem dX12_findsRound_35 : decode cX12_findsRound 35 = .ok (.iload_n 2, 1) := by decide +kernel
theorem dX12_findsRound_36 : decode cX12_findsRound 36 = .ok (.iload_n 3, 1) := by decide +kernel
theorem dX12_findsRound_37 : decode cX12_findsRound 37 = .ok (.ishr, 1) := by decide +kernel
theorem dX12_findsRound_38 : decode cX12_findsRound 38 = .ok (.iconst 1, 1) := by decide +kernel
theorem dX12_findsRound_39 : decode cX12_findsRound 39 = .ok (.iand, 1) := by decide +kernel
theorem dX12_findsRound_40 : decode cX12_findsRound 40 = .ok (.iconst 1, 1) := by decide +kernel
theorem dX12_findsRound_41 : decode cX12_findsRound 41 = .ok (.if_icmp .ne 17, 3) := by decide +kernel
theorem dX12_findsRound_44 : decode cX12_findsRound 44 = .ok (.aload_n 0, 1) := by decide +kernel
theorem dX12_findsRound_45 : decode cX12_findsRound 45 = .ok (.iload_n 2, 1) := by decide +kernel
theorem dX12_findsRound_46 : decode cX12_findsRound 46 = .ok (.iload_n 3, 1) := by decide +kernel
theorem dX12_findsRound_47 : decode cX12_findsRound 47 = .ok (.iload_n 1, 1) := by decide +kernel
theorem dX12_findsRound_48 : decode cX12_findsRound 48 = .ok (.invokevirtual 348, 3) := by decide +kernel
theorem dX12_findsRound_5 : decode cX12_findsRound 5 = .ok (.ishl, 1) := by decide +kernel
theorem dX12_findsRound_51 : decode cX12_findsRound 51 = .ok (.ifCond .eq 7, 3) := by decide +kernel
theorem dX12_findsRound_58 : decode cX12_findsRound 58 = .ok (.iconst 0, 1) := by decide +kernel
theorem dX12_findsRound_59 : decode cX12_findsRound 59 = .ok (.bastore, 1) := by decide +kernel
theorem dX12_findsRound_6 : decode cX12_findsRound 6 = .ok (.iconst 1, 1) := by decide +kernel
theorem dX12_findsRound_60 : decode cX12_findsRound 60 = .ok (.iinc 3 1, 3) := by decide +kernel
theorem dX12_findsRound_63 : decode cX12_findsRound 63 = .ok (.goto (-46), 3) := by decide +kernel
theorem dX12_findsRound_66 : decode cX12_findsRound 66 = .ok (.iinc 2 (-1), 3) := by decide +kernel
theorem dX12_findsRound_69 : decode cX12_findsRound 69 = .ok (.goto (-58), 3) := by decide +kernel
theorem dX12_findsRound_7 : decode cX12_findsRound 7 = .ok (.isub, 1) := by decide +kernel
theorem dX12_findsRound_72 : decode cX12_findsRound 72 = .ok (.aload_n 0, 1) := by decide +kernel
theorem dX12_findsRound_73 : decode cX12_findsRound 73 = .ok (.getfield 298, 3) := by decide +kernel
theorem dX12_findsRound_76 : decode cX12_findsRound 76 = .ok (.iconst 1, 1) := by decide +kernel
theorem dX12_findsRound_77 : decode cX12_findsRound 77 = .ok (.if_icmp .le 17, 3) := by decide +kernel
theorem dX12_findsRound_8 : decode cX12_findsRound 8 = .ok (.istore_n 1, 1) := by decide +kernel
theorem dX12_findsRound_9 : decode cX12_findsRound 9 = .ok (.iload_n 1, 1) := by decide +kernel
theorem dX12_findsRound_94 : decode cX12_findsRound 94 = .ok (.iconst 0, 1) := by decide +kernel
theorem dX12_findsRound_95 : decode cX12_findsRound 95 = .ok (.ireturn, 1) := by decide +kernel
theorem dX12_fine_0 : decode cX12_fine 0 = .ok (.aload_n 0, 1) := by decide +kernel
theorem dX12_fine_1 : decode cX12_fine 1 = .ok (.getfield 180, 3) := by decide +kernel
theorem dX12_fine_12 : decode cX12_fine 12 = .ok (.iconst 0, 1) := by decide +kernel
theorem dX12_fine_13 : decode cX12_fine 13 = .ok (.ireturn, 1) := by decide +kernel
theorem dX12_fine_4 : decode cX12_fine 4 = .ok (.iconst (-1), 1) := by decide +kernel
theorem dX12_fine_5 : decode cX12_fine 5 = .ok (.if_icmp .ne 7, 3) := by decide +kernel
theorem dX12_fine_8 : decode cX12_fine 8 = .ok (.iconst 1, 1) := by decide +kernel
theorem dX12_fine_9 : decode cX12_fine 9 = .ok (.goto 4, 3) := by decide +kernel
theorem dX12_fits_0 : decode cX12_fits 0 = .ok (.aload_n 0, 1) := by decide +kernel
theorem dX12_fits_1 : decode cX12_fits 1 = .ok (.invokevirtual 363, 3) := by decide +kernel
theorem dX12_fits_10 : decode cX12_fits 10 = .ok (.iload_n 2, 1) := by decide +kernel
theorem dX12_fits_11 : decode cX12_fits 11 = .ok (.ireturn, 1) := by decide +kernel
theorem dX12_fits_12 : decode cX12_fits 12 = .ok (.iload_n 1, 1) := by decide +kernel
theorem dX12_fits_13 : decode cX12_fits 13 = .ok (.iconst 0, 1) := by decide +kernel
theorem dX12_fits_14 : decode cX12_fits 14 = .ok (.iload_n 2, 1) := by decide +kernel
theorem dX12_fits_15 : decode cX12_fits 15 = .ok (.iconst 1, 1) := by decide +kernel
theorem dX12_fits_16 : decode cX12_fits 16 = .ok (.isub, 1) := by decide +kernel
theorem dX12_fits_17 : decode cX12_fits 17 = .ok (.invokestatic 138, 3) := by decide +kernel
theorem dX12_fits_20 : decode cX12_fits 20 = .ok (.ifCond .ne 5, 3) := by decide +kernel
theorem dX12_fits_23 : decode cX12_fits 23 = .ok (.iconst (-1), 1) := by decide +kernel
theorem dX12_fits_24 : decode cX12_fits 24 = .ok (.ireturn, 1) := by decide +kernel
theorem dX12_fits_25 : decode cX12_fits 25 = .ok (.iload_n 1, 1) := by decide +kernel
theorem dX12_fits_26 : decode cX12_fits 26 = .ok (.istore_n 3, 1) := by decide +kernel
theorem dX12_fits_27 : decode cX12_fits 27 = .ok (.iconst 0, 1) := by decide +kernel
theorem dX12_fits_28 : decode cX12_fits 28 = .ok (.istore 4, 2) := by decide +kernel
theorem dX12_fits_30 : decode cX12_fits 30 = .ok (.iload 4, 2) := by decide +kernel
theorem dX12_fits_32 : decode cX12_fits 32 = .ok (.aload_n 0, 1) := by decide +kernel
theorem dX12_fits_33 : decode cX12_fits 33 = .ok (.getfield 298, 3) := by decide +kernel
theorem dX12_fits_36 : decode cX12_fits 36 = .ok (.if_icmp .ge 32, 3) := by decide +kernel
theorem dX12_fits_39 : decode cX12_fits 39 = .ok (.aload_n 0, 1) := by decide +kernel
theorem dX12_fits_4 : decode cX12_fits 4 = .ok (.istore_n 2, 1) := by decide +kernel
theorem dX12_fits_40 : decode cX12_fits 40 = .ok (.getfield 123, 3) := by decide +kernel
theorem dX12_fits_43 : decode cX12_fits 43 = .ok (.iload 4, 2) := by decide +kernel
theorem dX12_fits_45 : decode cX12_fits 45 = .ok (.baload, 1) := by decide +kernel
theorem dX12_fits_46 : decode cX12_fits 46 = .ok (.ifCond .ne 6, 3) := by decide +kernel
theorem dX12_fits_5 : decode cX12_fits 5 = .ok (.iload_n 1, 1) := by decide +kernel
theorem dX12_fits_52 : decode cX12_fits 52 = .ok (.iload_n 3, 1) := by decide +kernel
theorem dX12_fits_53 : decode cX12_fits 53 = .ok (.ifCond .ne 6, 3) := by decide +kernel
theorem dX12_fits_56 : decode cX12_fits 56 = .ok (.iload 4, 2) := by decide +kernel
theorem dX12_fits_58 : decode cX12_fits 58 = .ok (.ireturn, 1) := by decide +kernel
theorem dX12_fits_6 : decode cX12_fits 6 = .ok (.iconst (-1), 1) := by decide +kernel
theorem dX12_fits_7 : decode cX12_fits 7 = .ok (.if_icmp .ne 5, 3) := by decide +kernel
theorem dX12_force_0 : decode cX12_force 0 = .ok (.iload_n 1, 1) := by decide +kernel
theorem dX12_force_1 : decode cX12_force 1 = .ok (.iconst (-1), 1) := by decide +kernel
theorem dX12_force_10 : decode cX12_force 10 = .ok (.isub, 1) := by decide +kernel
theorem dX12_force_11 : decode cX12_force 11 = .ok (.invokestatic 138, 3) := by decide +kernel
theorem dX12_force_14 : decode cX12_force 14 = .ok (.ifCond .ne 10, 3) := by decide +kernel
theorem dX12_force_17 : decode cX12_force 17 = .ok (.aload_n 0, 1) := by decide +kernel
theorem dX12_force_18 : decode cX12_force 18 = .ok (.bipush (-2), 2) := by decide +kernel
theorem dX12_force_2 : decode cX12_force 2 = .ok (.aload_n 0, 1) := by decide +kernel
theorem dX12_force_20 : decode cX12_force 20 = .ok (.invokevirtual 142, 3) := by decide +kernel
theorem dX12_force_23 : decode cX12_force 23 = .ok (.ireturn, 1) := by decide +kernel
theorem dX12_force_24 : decode cX12_force 24 = .ok (.aload_n 0, 1) := by decide +kernel
theorem dX12_force_25 : decode cX12_force 25 = .ok (.getfield 20, 3) := by decide +kernel
theorem dX12_force_28 : decode cX12_force 28 = .ok (.bipush 63, 2) := by decide +kernel
theorem dX12_force_3 : decode cX12_force 3 = .ok (.getfield 20, 3) := by decide +kernel
theorem dX12_force_30 : decode cX12_force 30 = .ok (.iaload, 1) := by decide +kernel
theorem dX12_force_31 : decode cX12_force 31 = .ok (.istore_n 2, 1) := by decide +kernel
theorem dX12_force_32 : decode cX12_force 32 = .ok (.aload_n 0, 1) := by decide +kernel
theorem dX12_force_33 : decode cX12_force 33 = .ok (.getfield 20, 3) := by decide +kernel
theorem dX12_force_36 : decode cX12_force 36 = .ok (.bipush 63, 2) := by decide +kernel
theorem dX12_force_38 : decode cX12_force 38 = .ok (.iload_n 1, 1) := by decide +kernel
theorem dX12_force_39 : decode cX12_force 39 = .ok (.iastore, 1) := by decide +kernel
theorem dX12_force_40 : decode cX12_force 40 = .ok (.aload_n 0, 1) := by decide +kernel
theorem dX12_force_41 : decode cX12_force 41 = .ok (.iload_n 2, 1) := by decide +kernel
theorem dX12_force_42 : decode cX12_force 42 = .ok (.invokevirtual 146, 3) := by decide +kernel
theorem dX12_force_45 : decode cX12_force 45 = .ok (.ireturn, 1) := by decide +kernel
theorem dX12_force_6 : decode cX12_force 6 = .ok (.bipush 62, 2) := by decide +kernel
theorem dX12_force_8 : decode cX12_force 8 = .ok (.iaload, 1) := by decide +kernel
theorem dX12_force_9 : decode cX12_force 9 = .ok (.iconst 1, 1) := by decide +kernel
theorem dX12_forget_0 : decode cX12_forget 0 = .ok (.aload_n 0, 1) := by decide +kernel
theorem dX12_forget_1 : decode cX12_forget 1 = .ok (.getfield 20, 3) := by decide +kernel
theorem dX12_forget_12 : decode cX12_forget 12 = .ok (.bipush 61, 2) := by decide +kernel
theorem dX12_forget_14 : decode cX12_forget 14 = .ok (.iconst 0, 1) := by decide +kernel
theorem dX12_forget_15 : decode cX12_forget 15 = .ok (.iastore, 1) := by decide +kernel
theorem dX12_forget_16 : decode cX12_forget 16 = .ok (.aload_n 0, 1) := by decide +kernel
theorem dX12_forget_17 : decode cX12_forget 17 = .ok (.dup, 1) := by decide +kernel
theorem dX12_forget_18 : decode cX12_forget 18 = .ok (.getfield 11, 3) := by decide +kernel
theorem dX12_forget_21 : decode cX12_forget 21 = .ok (.iconst 1, 1) := by decide +kernel
theorem dX12_forget_22 : decode cX12_forget 22 = .ok (.iadd, 1) := by decide +kernel
theorem dX12_forget_23 : decode cX12_forget 23 = .ok (.putfield 11, 3) := by decide +kernel
theorem dX12_forget_26 : decode cX12_forget 26 = .ok (.iload_n 1, 1) := by decide +kernel
theorem dX12_forget_27 : decode cX12_forget 27 = .ok (.ireturn, 1) := by decide +kernel
theorem dX12_forget_4 : decode cX12_forget 4 = .ok (.bipush 61, 2) := by decide +kernel
theorem dX12_forget_6 : decode cX12_forget 6 = .ok (.iaload, 1) := by decide +kernel
theorem dX12_forget_7 : decode cX12_forget 7 = .ok (.istore_n 1, 1) := by decide +kernel
theorem dX12_forget_8 : decode cX12_forget 8 = .ok (.aload_n 0, 1) := by decide +kernel
theorem dX12_forget_9 : decode cX12_forget 9 = .ok (.getfield 20, 3) := by decide +kernel
theorem dX12_goesThrough_0 : decode cX12_goesThrough 0 = .ok (.aload_n 0, 1) := by decide +kernel
theorem dX12_goesThrough_1 : decode cX12_goesThrough 1 = .ok (.iload_n 1, 1) := by decide +kernel
theorem dX12_goesThrough_10 : decode cX12_goesThrough 10 = .ok (.iload_n 2, 1) := by decide +kernel
theorem dX12_goesThrough_11 : decode cX12_goesThrough 11 = .ok (.if_icmp .ge 70, 3) := by decide +kernel
theorem dX12_goesThrough_2 : decode cX12_goesThrough 2 = .ok (.invokevirtual 316, 3) := by decide +kernel
theorem dX12_goesThrough_5 : decode cX12_goesThrough 5 = .ok (.iconst 0, 1) := by decide +kernel
theorem dX12_goesThrough_6 : decode cX12_goesThrough 6 = .ok (.istore 4, 2) := by decide +kernel
theorem dX12_goesThrough_8 : decode cX12_goesThrough 8 = .ok (.iload 4, 2) := by decide +kernel
theorem dX12_goesThrough_81 : decode cX12_goesThrough 81 = .ok (.return_, 1) := by decide +kernel
theorem dX12_good_0 : decode cX12_good 0 = .ok (.aload_n 0, 1) := by decide +kernel
theorem dX12_good_1 : decode cX12_good 1 = .ok (.iconst 0, 1) := by decide +kernel
theorem dX12_good_10 : decode cX12_good 10 = .ok (.iconst 1, 1) := by decide +kernel
theorem dX12_good_11 : decode cX12_good 11 = .ok (.iadd, 1) := by decide +kernel
theorem dX12_good_12 : decode cX12_good 12 = .ok (.putfield 11, 3) := by decide +kernel
theorem dX12_good_15 : decode cX12_good 15 = .ok (.iload_n 1, 1) := by decide +kernel
theorem dX12_good_16 : decode cX12_good 16 = .ok (.ireturn, 1) := by decide +kernel
theorem dX12_good_2 : decode cX12_good 2 = .ok (.putfield 3, 3) := by decide +kernel
theorem dX12_good_5 : decode cX12_good 5 = .ok (.aload_n 0, 1) := by decide +kernel
theorem dX12_good_6 : decode cX12_good 6 = .ok (.dup, 1) := by decide +kernel
theorem dX12_good_7 : decode cX12_good 7 = .ok (.getfield 11, 3) := by decide +kernel
theorem dX12_houseOf_0 : decode cX12_houseOf 0 = .ok (.iconst 0, 1) := by decide +kernel
theorem dX12_houseOf_1 : decode cX12_houseOf 1 = .ok (.istore_n 2, 1) := by decide +kernel
theorem dX12_houseOf_10 : decode cX12_houseOf 10 = .ok (.iload_n 3, 1) := by decide +kernel
theorem dX12_houseOf_11 : decode cX12_houseOf 11 = .ok (.if_icmp .ge 35, 3) := by decide +kernel
theorem dX12_houseOf_2 : decode cX12_houseOf 2 = .ok (.aload_n 0, 1) := by decide +kernel
theorem dX12_houseOf_3 : decode cX12_houseOf 3 = .ok (.getfield 298, 3) := by decide +kernel
theorem dX12_houseOf_46 : decode cX12_houseOf 46 = .ok (.aload_n 0, 1) := by decide +kernel
theorem dX12_houseOf_47 : decode cX12_houseOf 47 = .ok (.getfield 58, 3) := by decide +kernel
theorem dX12_houseOf_50 : decode cX12_houseOf 50 = .ok (.iload_n 2, 1) := by decide +kernel
theorem dX12_houseOf_51 : decode cX12_houseOf 51 = .ok (.iaload, 1) := by decide +kernel
theorem dX12_houseOf_52 : decode cX12_houseOf 52 = .ok (.iload_n 1, 1) := by decide +kernel
theorem dX12_houseOf_53 : decode cX12_houseOf 53 = .ok (.if_icmp .ne 7, 3) := by decide +kernel
theorem dX12_houseOf_56 : decode cX12_houseOf 56 = .ok (.iload_n 2, 1) := by decide +kernel
theorem dX12_houseOf_57 : decode cX12_houseOf 57 = .ok (.goto 4, 3) := by decide +kernel
theorem dX12_houseOf_6 : decode cX12_houseOf 6 = .ok (.iconst 1, 1) := by decide +kernel
theorem dX12_houseOf_60 : decode cX12_houseOf 60 = .ok (.iconst (-1), 1) := by decide +kernel
theorem dX12_houseOf_61 : decode cX12_houseOf 61 = .ok (.ireturn, 1) := by decide +kernel
theorem dX12_houseOf_7 : decode cX12_houseOf 7 = .ok (.isub, 1) := by decide +kernel
theorem dX12_houseOf_8 : decode cX12_houseOf 8 = .ok (.istore_n 3, 1) := by decide +kernel
theorem dX12_houseOf_9 : decode cX12_houseOf 9 = .ok (.iload_n 2, 1) := by decide +kernel
theorem dX12_house_0 : decode cX12_house 0 = .ok (.aload_n 0, 1) := by decide +kernel
theorem dX12_house_1 : decode cX12_house 1 = .ok (.invokevirtual 159, 3) := by decide +kernel
theorem dX12_house_4 : decode cX12_house 4 = .ok (.aload_n 0, 1) := by decide +kernel
theorem dX12_house_5 : decode cX12_house 5 = .ok (.iload_n 1, 1) := by decide +kernel
theorem dX12_house_6 : decode cX12_house 6 = .ok (.invokevirtual 162, 3) := by decide +kernel
theorem dX12_house_9 : decode cX12_house 9 = .ok (.ireturn, 1) := by decide +kernel
theorem dX12_houses_0 : decode cX12_houses 0 = .ok (.aload_n 0, 1) := by decide +kernel
theorem dX12_houses_1 : decode cX12_houses 1 = .ok (.invokevirtual 159, 3) := by decide +kernel
theorem dX12_houses_4 : decode cX12_houses 4 = .ok (.aload_n 0, 1) := by decide +kernel
theorem dX12_houses_5 : decode cX12_houses 5 = .ok (.getfield 298, 3) := by decide +kernel
theorem dX12_houses_8 : decode cX12_houses 8 = .ok (.ireturn, 1) := by decide +kernel
theorem dX12_image_0 : decode cX12_image 0 = .ok (.iload_n 1, 1) := by decide +kernel
theorem dX12_image_1 : decode cX12_image 1 = .ok (.iconst 0, 1) := by decide +kernel
theorem dX12_image_10 : decode cX12_image 10 = .ok (.iconst (-1), 1) := by decide +kernel
theorem dX12_image_11 : decode cX12_image 11 = .ok (.invokevirtual 142, 3) := by decide +kernel
theorem dX12_image_14 : decode cX12_image 14 = .ok (.ireturn, 1) := by decide +kernel
theorem dX12_image_15 : decode cX12_image 15 = .ok (.iconst 0, 1) := by decide +kernel
theorem dX12_image_16 : decode cX12_image 16 = .ok (.istore_n 2, 1) := by decide +kernel
theorem dX12_image_17 : decode cX12_image 17 = .ok (.iload_n 2, 1) := by decide +kernel
theorem dX12_image_18 : decode cX12_image 18 = .ok (.sipush 4870, 3) := by decide +kernel
theorem dX12_image_2 : decode cX12_image 2 = .ok (.iconst 1, 1) := by decide +kernel
theorem dX12_image_21 : decode cX12_image 21 = .ok (.if_icmp .ge 27, 3) := by decide +kernel
theorem dX12_image_24 : decode cX12_image 24 = .ok (.aload_n 0, 1) := by decide +kernel
theorem dX12_image_25 : decode cX12_image 25 = .ok (.getfield 23, 3) := by decide +kernel
theorem dX12_image_28 : decode cX12_image 28 = .ok (.sipush 4870, 3) := by decide +kernel
theorem dX12_image_3 : decode cX12_image 3 = .ok (.invokestatic 138, 3) := by decide +kernel
theorem dX12_image_31 : decode cX12_image 31 = .ok (.iload_n 1, 1) := by decide +kernel
theorem dX12_image_32 : decode cX12_image 32 = .ok (.imul, 1) := by decide +kernel
theorem dX12_image_33 : decode cX12_image 33 = .ok (.iload_n 2, 1) := by decide +kernel
theorem dX12_image_34 : decode cX12_image 34 = .ok (.iadd, 1) := by decide +kernel
theorem dX12_image_35 : decode cX12_image 35 = .ok (.aload_n 0, 1) := by decide +kernel
theorem dX12_image_36 : decode cX12_image 36 = .ok (.getfield 20, 3) := by decide +kernel
theorem dX12_image_39 : decode cX12_image 39 = .ok (.iload_n 2, 1) := by decide +kernel
theorem dX12_image_40 : decode cX12_image 40 = .ok (.iaload, 1) := by decide +kernel
theorem dX12_image_41 : decode cX12_image 41 = .ok (.iastore, 1) := by decide +kernel
theorem dX12_image_42 : decode cX12_image 42 = .ok (.iinc 2 1, 3) := by decide +kernel
theorem dX12_image_45 : decode cX12_image 45 = .ok (.goto (-28), 3) := by decide +kernel
theorem dX12_image_48 : decode cX12_image 48 = .ok (.aload_n 0, 1) := by decide +kernel
theorem dX12_image_49 : decode cX12_image 49 = .ok (.getfield 26, 3) := by decide +kernel
theorem dX12_image_52 : decode cX12_image 52 = .ok (.iload_n 1, 1) := by decide +kernel
theorem dX12_image_53 : decode cX12_image 53 = .ok (.iconst 1, 1) := by decide +kernel
theorem dX12_image_54 : decode cX12_image 54 = .ok (.bastore, 1) := by decide +kernel
theorem dX12_image_55 : decode cX12_image 55 = .ok (.aload_n 0, 1) := by decide +kernel
theorem dX12_image_56 : decode cX12_image 56 = .ok (.iconst 0, 1) := by decide +kernel
theorem dX12_image_57 : decode cX12_image 57 = .ok (.invokevirtual 146, 3) := by decide +kernel
theorem dX12_image_6 : decode cX12_image 6 = .ok (.ifCond .ne 9, 3) := by decide +kernel
theorem dX12_image_60 : decode cX12_image 60 = .ok (.ireturn, 1) := by decide +kernel
theorem dX12_image_9 : decode cX12_image 9 = .ok (.aload_n 0, 1) := by decide +kernel
theorem dX12_init_0 : decode cX12_init 0 = .ok (.aload_n 0, 1) := by decide +kernel
theorem dX12_init_1 : decode cX12_init 1 = .ok (.invokespecial 14, 3) := by decide +kernel
theorem dX12_init_101 : decode cX12_init 101 = .ok (.bastore, 1) := by decide +kernel
theorem dX12_init_102 : decode cX12_init 102 = .ok (.dup, 1) := by decide +kernel
theorem dX12_init_103 : decode cX12_init 103 = .ok (.bipush 11, 2) := by decide +kernel
theorem dX12_init_105 : decode cX12_init 105 = .ok (.bipush 98, 2) := by decide +kernel
theorem dX12_init_107 : decode cX12_init 107 = .ok (.bastore, 1) := by decide +kernel
theorem dX12_init_108 : decode cX12_init 108 = .ok (.dup, 1) := by decide +kernel
theorem dX12_init_109 : decode cX12_init 109 = .ok (.bipush 12, 2) := by decide +kernel
theorem dX12_init_111 : decode cX12_init 111 = .ok (.bipush 97, 2) := by decide +kernel
theorem dX12_init_113 : decode cX12_init 113 = .ok (.bastore, 1) := by decide +kernel
theorem dX12_init_114 : decode cX12_init 114 = .ok (.dup, 1) := by decide +kernel
theorem dX12_init_115 : decode cX12_init 115 = .ok (.bipush 13, 2) := by decide +kernel
theorem dX12_init_117 : decode cX12_init 117 = .ok (.bipush 114, 2) := by decide +kernel
theorem dX12_init_119 : decode cX12_init 119 = .ok (.bastore, 1) := by decide +kernel
theorem dX12_init_12 : decode cX12_init 12 = .ok (.aload_n 0, 1) := by decide +kernel
