/-! decode rows -/
theorem dX10_walkFrom_63 : decode cX10_walkFrom 63 = .ok (.getfield 15, 3) := by decide +kernel
theorem dX10_walkFrom_66 : decode cX10_walkFrom 66 = .ok (.iload_n 1, 1) := by decide +kernel
theorem dX10_walkFrom_67 : decode cX10_walkFrom 67 = .ok (.iconst 1, 1) := by decide +kernel
theorem dX10_walkFrom_68 : decode cX10_walkFrom 68 = .ok (.iastore, 1) := by decide +kernel
theorem dX10_walkFrom_69 : decode cX10_walkFrom 69 = .ok (.aload_n 0, 1) := by decide +kernel
theorem dX10_walkFrom_70 : decode cX10_walkFrom 70 = .ok (.getfield 18, 3) := by decide +kernel
theorem dX10_walkFrom_73 : decode cX10_walkFrom 73 = .ok (.iconst 0, 1) := by decide +kernel
theorem dX10_walkFrom_74 : decode cX10_walkFrom 74 = .ok (.iload_n 1, 1) := by decide +kernel
theorem dX10_walkFrom_75 : decode cX10_walkFrom 75 = .ok (.iastore, 1) := by decide +kernel
theorem dX10_walkFrom_76 : decode cX10_walkFrom 76 = .ok (.aload_n 0, 1) := by decide +kernel
theorem dX10_walkFrom_77 : decode cX10_walkFrom 77 = .ok (.iconst 1, 1) := by decide +kernel
theorem dX10_walkFrom_78 : decode cX10_walkFrom 78 = .ok (.putfield 21, 3) := by decide +kernel
theorem dX10_walkFrom_81 : decode cX10_walkFrom 81 = .ok (.iconst 0, 1) := by decide +kernel
theorem dX10_walkFrom_82 : decode cX10_walkFrom 82 = .ok (.istore_n 2, 1) := by decide +kernel
theorem dX10_walkFrom_83 : decode cX10_walkFrom 83 = .ok (.iload_n 2, 1) := by decide +kernel
theorem dX10_walkFrom_84 : decode cX10_walkFrom 84 = .ok (.aload_n 0, 1) := by decide +kernel
theorem dX10_walkFrom_85 : decode cX10_walkFrom 85 = .ok (.getfield 21, 3) := by decide +kernel
theorem dX10_walkFrom_88 : decode cX10_walkFrom 88 = .ok (.if_icmp .ge 26, 3) := by decide +kernel
theorem dX10_walkFrom_91 : decode cX10_walkFrom 91 = .ok (.iload_n 2, 1) := by decide +kernel
theorem dX10_walkFrom_92 : decode cX10_walkFrom 92 = .ok (.sipush 1260, 3) := by decide +kernel
theorem dX10_walkFrom_95 : decode cX10_walkFrom 95 = .ok (.if_icmp .ge 19, 3) := by decide +kernel
theorem dX10_walkFrom_98 : decode cX10_walkFrom 98 = .ok (.aload_n 0, 1) := by decide +kernel
theorem dX10_walkFrom_99 : decode cX10_walkFrom 99 = .ok (.aload_n 0, 1) := by decide +kernel
theorem dX10_waysTo_0 : decode cX10_waysTo 0 = .ok (.aload_n 0, 1) := by decide +kernel
theorem dX10_waysTo_1 : decode cX10_waysTo 1 = .ok (.iload_n 1, 1) := by decide +kernel
theorem dX10_waysTo_10 : decode cX10_waysTo 10 = .ok (.iaload, 1) := by decide +kernel
theorem dX10_waysTo_11 : decode cX10_waysTo 11 = .ok (.iconst (-1), 1) := by decide +kernel
theorem dX10_waysTo_12 : decode cX10_waysTo 12 = .ok (.if_icmp .ne 7, 3) := by decide +kernel
theorem dX10_waysTo_19 : decode cX10_waysTo 19 = .ok (.aload_n 0, 1) := by decide +kernel
theorem dX10_waysTo_2 : decode cX10_waysTo 2 = .ok (.invokevirtual 67, 3) := by decide +kernel
theorem dX10_waysTo_20 : decode cX10_waysTo 20 = .ok (.getfield 15, 3) := by decide +kernel
theorem dX10_waysTo_23 : decode cX10_waysTo 23 = .ok (.iload_n 2, 1) := by decide +kernel
theorem dX10_waysTo_24 : decode cX10_waysTo 24 = .ok (.iaload, 1) := by decide +kernel
theorem dX10_waysTo_25 : decode cX10_waysTo 25 = .ok (.ireturn, 1) := by decide +kernel
theorem dX10_waysTo_5 : decode cX10_waysTo 5 = .ok (.aload_n 0, 1) := by decide +kernel
theorem dX10_waysTo_6 : decode cX10_waysTo 6 = .ok (.getfield 9, 3) := by decide +kernel
theorem dX10_waysTo_9 : decode cX10_waysTo 9 = .ok (.iload_n 2, 1) := by decide +kernel
theorem dX10_weighFrom_0 : decode cX10_weighFrom 0 = .ok (.aload_n 0, 1) := by decide +kernel
theorem dX10_weighFrom_1 : decode cX10_weighFrom 1 = .ok (.getfield 46, 3) := by decide +kernel
theorem dX10_weighFrom_100 : decode cX10_weighFrom 100 = .ok (.iload 5, 2) := by decide +kernel
theorem dX10_weighFrom_102 : decode cX10_weighFrom 102 = .ok (.sipush 1260, 3) := by decide +kernel
theorem dX10_weighFrom_105 : decode cX10_weighFrom 105 = .ok (.if_icmp .ge 41, 3) := by decide +kernel
theorem dX10_weighFrom_108 : decode cX10_weighFrom 108 = .ok (.aload_n 0, 1) := by decide +kernel
theorem dX10_weighFrom_109 : decode cX10_weighFrom 109 = .ok (.getfield 34, 3) := by decide +kernel
theorem dX10_weighFrom_112 : decode cX10_weighFrom 112 = .ok (.iload 4, 2) := by decide +kernel
theorem dX10_weighFrom_114 : decode cX10_weighFrom 114 = .ok (.iaload, 1) := by decide +kernel
theorem dX10_weighFrom_115 : decode cX10_weighFrom 115 = .ok (.iconst (-1), 1) := by decide +kernel
theorem dX10_weighFrom_116 : decode cX10_weighFrom 116 = .ok (.if_icmp .eq 30, 3) := by decide +kernel
theorem dX10_weighFrom_119 : decode cX10_weighFrom 119 = .ok (.aload_n 0, 1) := by decide +kernel
theorem dX10_weighFrom_120 : decode cX10_weighFrom 120 = .ok (.getfield 34, 3) := by decide +kernel
theorem dX10_weighFrom_123 : decode cX10_weighFrom 123 = .ok (.iload 4, 2) := by decide +kernel
theorem dX10_weighFrom_125 : decode cX10_weighFrom 125 = .ok (.iaload, 1) := by decide +kernel
theorem dX10_weighFrom_126 : decode cX10_weighFrom 126 = .ok (.istore 6, 2) := by decide +kernel
theorem dX10_weighFrom_128 : decode cX10_weighFrom 128 = .ok (.aload_n 0, 1) := by decide +kernel
theorem dX10_weighFrom_129 : decode cX10_weighFrom 129 = .ok (.iload 6, 2) := by decide +kernel
theorem dX10_weighFrom_131 : decode cX10_weighFrom 131 = .ok (.invokevirtual 118, 3) := by decide +kernel
theorem dX10_weighFrom_134 : decode cX10_weighFrom 134 = .ok (.aload_n 0, 1) := by decide +kernel
theorem dX10_weighFrom_135 : decode cX10_weighFrom 135 = .ok (.iload 6, 2) := by decide +kernel
theorem dX10_weighFrom_137 : decode cX10_weighFrom 137 = .ok (.invokevirtual 121, 3) := by decide +kernel
theorem dX10_weighFrom_140 : decode cX10_weighFrom 140 = .ok (.iinc 5 1, 3) := by decide +kernel
theorem dX10_weighFrom_143 : decode cX10_weighFrom 143 = .ok (.goto (-43), 3) := by decide +kernel
theorem dX10_weighFrom_146 : decode cX10_weighFrom 146 = .ok (.iinc 3 1, 3) := by decide +kernel
theorem dX10_weighFrom_149 : decode cX10_weighFrom 149 = .ok (.goto (-70), 3) := by decide +kernel
theorem dX10_weighFrom_152 : decode cX10_weighFrom 152 = .ok (.return_, 1) := by decide +kernel
theorem dX10_weighFrom_23 : decode cX10_weighFrom 23 = .ok (.aload_n 0, 1) := by decide +kernel
theorem dX10_weighFrom_24 : decode cX10_weighFrom 24 = .ok (.iload_n 1, 1) := by decide +kernel
theorem dX10_weighFrom_25 : decode cX10_weighFrom 25 = .ok (.putfield 46, 3) := by decide +kernel
theorem dX10_weighFrom_28 : decode cX10_weighFrom 28 = .ok (.aload_n 0, 1) := by decide +kernel
theorem dX10_weighFrom_29 : decode cX10_weighFrom 29 = .ok (.aload_n 0, 1) := by decide +kernel
theorem dX10_weighFrom_30 : decode cX10_weighFrom 30 = .ok (.getfield 63, 3) := by decide +kernel
theorem dX10_weighFrom_33 : decode cX10_weighFrom 33 = .ok (.invokevirtual 104, 3) := by decide +kernel
theorem dX10_weighFrom_36 : decode cX10_weighFrom 36 = .ok (.putfield 49, 3) := by decide +kernel
theorem dX10_weighFrom_39 : decode cX10_weighFrom 39 = .ok (.aload_n 0, 1) := by decide +kernel
theorem dX10_weighFrom_4 : decode cX10_weighFrom 4 = .ok (.iload_n 1, 1) := by decide +kernel
theorem dX10_weighFrom_40 : decode cX10_weighFrom 40 = .ok (.getfield 31, 3) := by decide +kernel
theorem dX10_weighFrom_43 : decode cX10_weighFrom 43 = .ok (.iconst 0, 1) := by decide +kernel
theorem dX10_weighFrom_44 : decode cX10_weighFrom 44 = .ok (.aload_n 0, 1) := by decide +kernel
theorem dX10_weighFrom_45 : decode cX10_weighFrom 45 = .ok (.getfield 59, 3) := by decide +kernel
theorem dX10_weighFrom_48 : decode cX10_weighFrom 48 = .ok (.invokevirtual 83, 3) := by decide +kernel
theorem dX10_weighFrom_5 : decode cX10_weighFrom 5 = .ok (.if_icmp .ne 18, 3) := by decide +kernel
theorem dX10_weighFrom_51 : decode cX10_weighFrom 51 = .ok (.iconst (-1), 1) := by decide +kernel
theorem dX10_weighFrom_52 : decode cX10_weighFrom 52 = .ok (.invokestatic 89, 3) := by decide +kernel
theorem dX10_weighFrom_55 : decode cX10_weighFrom 55 = .ok (.aload_n 0, 1) := by decide +kernel
theorem dX10_weighFrom_56 : decode cX10_weighFrom 56 = .ok (.getfield 34, 3) := by decide +kernel
theorem dX10_weighFrom_59 : decode cX10_weighFrom 59 = .ok (.iconst (-1), 1) := by decide +kernel
theorem dX10_weighFrom_60 : decode cX10_weighFrom 60 = .ok (.invokestatic 110, 3) := by decide +kernel
theorem dX10_weighFrom_63 : decode cX10_weighFrom 63 = .ok (.aload_n 0, 1) := by decide +kernel
theorem dX10_weighFrom_64 : decode cX10_weighFrom 64 = .ok (.iconst 0, 1) := by decide +kernel
theorem dX10_weighFrom_65 : decode cX10_weighFrom 65 = .ok (.putfield 43, 3) := by decide +kernel
theorem dX10_weighFrom_68 : decode cX10_weighFrom 68 = .ok (.aload_n 0, 1) := by decide +kernel
theorem dX10_weighFrom_69 : decode cX10_weighFrom 69 = .ok (.iload_n 1, 1) := by decide +kernel
theorem dX10_weighFrom_70 : decode cX10_weighFrom 70 = .ok (.iconst 0, 1) := by decide +kernel
theorem dX10_weighFrom_71 : decode cX10_weighFrom 71 = .ok (.invokevirtual 113, 3) := by decide +kernel
theorem dX10_weighFrom_74 : decode cX10_weighFrom 74 = .ok (.ldc 117, 2) := by decide +kernel
theorem dX10_weighFrom_76 : decode cX10_weighFrom 76 = .ok (.istore_n 2, 1) := by decide +kernel
theorem dX10_weighFrom_77 : decode cX10_weighFrom 77 = .ok (.iconst 0, 1) := by decide +kernel
theorem dX10_weighFrom_78 : decode cX10_weighFrom 78 = .ok (.istore_n 3, 1) := by decide +kernel
theorem dX10_weighFrom_79 : decode cX10_weighFrom 79 = .ok (.iload_n 3, 1) := by decide +kernel
theorem dX10_weighFrom_80 : decode cX10_weighFrom 80 = .ok (.iload_n 2, 1) := by decide +kernel
theorem dX10_weighFrom_81 : decode cX10_weighFrom 81 = .ok (.if_icmp .gt 71, 3) := by decide +kernel
theorem dX10_weighFrom_84 : decode cX10_weighFrom 84 = .ok (.aload_n 0, 1) := by decide +kernel
theorem dX10_weighFrom_85 : decode cX10_weighFrom 85 = .ok (.getfield 43, 3) := by decide +kernel
theorem dX10_weighFrom_88 : decode cX10_weighFrom 88 = .ok (.ifCond .le 64, 3) := by decide +kernel
theorem dX10_weighFrom_91 : decode cX10_weighFrom 91 = .ok (.iload_n 3, 1) := by decide +kernel
theorem dX10_weighFrom_92 : decode cX10_weighFrom 92 = .ok (.bipush 100, 2) := by decide +kernel
theorem dX10_weighFrom_94 : decode cX10_weighFrom 94 = .ok (.irem, 1) := by decide +kernel
theorem dX10_weighFrom_95 : decode cX10_weighFrom 95 = .ok (.istore 4, 2) := by decide +kernel
theorem dX10_weighFrom_97 : decode cX10_weighFrom 97 = .ok (.iconst 0, 1) := by decide +kernel
theorem dX10_weighFrom_98 : decode cX10_weighFrom 98 = .ok (.istore 5, 2) := by decide +kernel
theorem dX10_weighSteps_0 : decode cX10_weighSteps 0 = .ok (.aload_n 0, 1) := by decide +kernel
theorem dX10_weighSteps_1 : decode cX10_weighSteps 1 = .ok (.getfield 63, 3) := by decide +kernel
theorem dX10_weighSteps_10 : decode cX10_weighSteps 10 = .ok (.istore_n 3, 1) := by decide +kernel
theorem dX10_weighSteps_11 : decode cX10_weighSteps 11 = .ok (.iload_n 3, 1) := by decide +kernel
theorem dX10_weighSteps_12 : decode cX10_weighSteps 12 = .ok (.iload_n 2, 1) := by decide +kernel
theorem dX10_weighSteps_13 : decode cX10_weighSteps 13 = .ok (.if_icmp .ge 86, 3) := by decide +kernel
theorem dX10_weighSteps_4 : decode cX10_weighSteps 4 = .ok (.iload_n 1, 1) := by decide +kernel
theorem dX10_weighSteps_5 : decode cX10_weighSteps 5 = .ok (.invokevirtual 95, 3) := by decide +kernel
theorem dX10_weighSteps_8 : decode cX10_weighSteps 8 = .ok (.istore_n 2, 1) := by decide +kernel
theorem dX10_weighSteps_9 : decode cX10_weighSteps 9 = .ok (.iconst 0, 1) := by decide +kernel
theorem dX10_weighSteps_99 : decode cX10_weighSteps 99 = .ok (.return_, 1) := by decide +kernel
theorem dX11_accept_0 : decode cX11_accept 0 = .ok (.aload_n 0, 1) := by decide +kernel
theorem dX11_accept_1 : decode cX11_accept 1 = .ok (.iconst 0, 1) := by decide +kernel
theorem dX11_accept_2 : decode cX11_accept 2 = .ok (.putfield 97, 3) := by decide +kernel
theorem dX11_accept_5 : decode cX11_accept 5 = .ok (.iload_n 1, 1) := by decide +kernel
theorem dX11_accept_6 : decode cX11_accept 6 = .ok (.ireturn, 1) := by decide +kernel
theorem dX11_ask_0 : decode cX11_ask 0 = .ok (.aload_n 0, 1) := by decide +kernel
theorem dX11_ask_1 : decode cX11_ask 1 = .ok (.getfield 43, 3) := by decide +kernel
theorem dX11_ask_11 : decode cX11_ask 11 = .ok (.invokevirtual 295, 3) := by decide +kernel
theorem dX11_ask_14 : decode cX11_ask 14 = .ok (.aload_n 0, 1) := by decide +kernel
theorem dX11_ask_15 : decode cX11_ask 15 = .ok (.getfield 82, 3) := by decide +kernel
theorem dX11_ask_18 : decode cX11_ask 18 = .ok (.invokevirtual 298, 3) := by decide +kernel
theorem dX11_ask_21 : decode cX11_ask 21 = .ok (.ifCond .eq 12, 3) := by decide +kernel
theorem dX11_ask_24 : decode cX11_ask 24 = .ok (.iload_n 1, 1) := by decide +kernel
theorem dX11_ask_25 : decode cX11_ask 25 = .ok (.ifCond .lt 8, 3) := by decide +kernel
theorem dX11_ask_28 : decode cX11_ask 28 = .ok (.iload_n 1, 1) := by decide +kernel
theorem dX11_ask_29 : decode cX11_ask 29 = .ok (.iconst 1, 1) := by decide +kernel
theorem dX11_ask_30 : decode cX11_ask 30 = .ok (.if_icmp .le 5, 3) := by decide +kernel
theorem dX11_ask_33 : decode cX11_ask 33 = .ok (.iconst (-1), 1) := by decide +kernel
theorem dX11_ask_34 : decode cX11_ask 34 = .ok (.ireturn, 1) := by decide +kernel
theorem dX11_ask_35 : decode cX11_ask 35 = .ok (.aload_n 0, 1) := by decide +kernel
theorem dX11_ask_36 : decode cX11_ask 36 = .ok (.getfield 82, 3) := by decide +kernel
theorem dX11_ask_39 : decode cX11_ask 39 = .ok (.invokevirtual 300, 3) := by decide +kernel
theorem dX11_ask_4 : decode cX11_ask 4 = .ok (.invokevirtual 217, 3) := by decide +kernel
theorem dX11_ask_42 : decode cX11_ask 42 = .ok (.iload_n 1, 1) := by decide +kernel
theorem dX11_ask_43 : decode cX11_ask 43 = .ok (.ifCond .ne 13, 3) := by decide +kernel
theorem dX11_ask_46 : decode cX11_ask 46 = .ok (.aload_n 0, 1) := by decide +kernel
theorem dX11_ask_47 : decode cX11_ask 47 = .ok (.getfield 82, 3) := by decide +kernel
theorem dX11_ask_50 : decode cX11_ask 50 = .ok (.invokevirtual 303, 3) := by decide +kernel
theorem dX11_ask_53 : decode cX11_ask 53 = .ok (.goto 10, 3) := by decide +kernel
theorem dX11_ask_56 : decode cX11_ask 56 = .ok (.aload_n 0, 1) := by decide +kernel
theorem dX11_ask_57 : decode cX11_ask 57 = .ok (.getfield 82, 3) := by decide +kernel
theorem dX11_ask_60 : decode cX11_ask 60 = .ok (.invokevirtual 306, 3) := by decide +kernel
theorem dX11_ask_63 : decode cX11_ask 63 = .ok (.ireturn, 1) := by decide +kernel
theorem dX11_ask_7 : decode cX11_ask 7 = .ok (.aload_n 0, 1) := by decide +kernel
theorem dX11_ask_8 : decode cX11_ask 8 = .ok (.getfield 82, 3) := by decide +kernel
theorem dX11_back_0 : decode cX11_back 0 = .ok (.iload_n 1, 1) := by decide +kernel
theorem dX11_back_1 : decode cX11_back 1 = .ok (.ifCond .lt 8, 3) := by decide +kernel
theorem dX11_back_10 : decode cX11_back 10 = .ok (.iconst (-1), 1) := by decide +kernel
theorem dX11_back_11 : decode cX11_back 11 = .ok (.invokevirtual 118, 3) := by decide +kernel
theorem dX11_back_14 : decode cX11_back 14 = .ok (.ireturn, 1) := by decide +kernel
theorem dX11_back_15 : decode cX11_back 15 = .ok (.aload_n 0, 1) := by decide +kernel
theorem dX11_back_16 : decode cX11_back 16 = .ok (.getfield 20, 3) := by decide +kernel
theorem dX11_back_19 : decode cX11_back 19 = .ok (.iload_n 1, 1) := by decide +kernel
theorem dX11_back_20 : decode cX11_back 20 = .ok (.baload, 1) := by decide +kernel
theorem dX11_back_21 : decode cX11_back 21 = .ok (.ifCond .ne 10, 3) := by decide +kernel
theorem dX11_back_24 : decode cX11_back 24 = .ok (.aload_n 0, 1) := by decide +kernel
theorem dX11_back_25 : decode cX11_back 25 = .ok (.bipush (-2), 2) := by decide +kernel
theorem dX11_back_27 : decode cX11_back 27 = .ok (.invokevirtual 118, 3) := by decide +kernel
theorem dX11_back_30 : decode cX11_back 30 = .ok (.ireturn, 1) := by decide +kernel
theorem dX11_back_4 : decode cX11_back 4 = .ok (.iload_n 1, 1) := by decide +kernel
theorem dX11_back_5 : decode cX11_back 5 = .ok (.iconst 2, 1) := by decide +kernel
theorem dX11_back_6 : decode cX11_back 6 = .ok (.if_icmp .lt 9, 3) := by decide +kernel
theorem dX11_back_9 : decode cX11_back 9 = .ok (.aload_n 0, 1) := by decide +kernel
theorem dX11_beans_0 : decode cX11_beans 0 = .ok (.iload_n 1, 1) := by decide +kernel
theorem dX11_beans_1 : decode cX11_beans 1 = .ok (.ifCond .lt 18, 3) := by decide +kernel
theorem dX11_beans_10 : decode cX11_beans 10 = .ok (.ifCond .lt 9, 3) := by decide +kernel
theorem dX11_beans_13 : decode cX11_beans 13 = .ok (.iload_n 2, 1) := by decide +kernel
theorem dX11_beans_14 : decode cX11_beans 14 = .ok (.bipush 7, 2) := by decide +kernel
theorem dX11_beans_16 : decode cX11_beans 16 = .ok (.if_icmp .le 9, 3) := by decide +kernel
theorem dX11_beans_19 : decode cX11_beans 19 = .ok (.aload_n 0, 1) := by decide +kernel
theorem dX11_beans_20 : decode cX11_beans 20 = .ok (.iconst (-1), 1) := by decide +kernel
theorem dX11_beans_21 : decode cX11_beans 21 = .ok (.invokevirtual 118, 3) := by decide +kernel
theorem dX11_beans_24 : decode cX11_beans 24 = .ok (.ireturn, 1) := by decide +kernel
theorem dX11_beans_25 : decode cX11_beans 25 = .ok (.aload_n 0, 1) := by decide +kernel
theorem dX11_beans_26 : decode cX11_beans 26 = .ok (.getfield 10, 3) := by decide +kernel
theorem dX11_beans_29 : decode cX11_beans 29 = .ok (.getfield 111, 3) := by decide +kernel
theorem dX11_beans_32 : decode cX11_beans 32 = .ok (.iload_n 1, 1) := by decide +kernel
theorem dX11_beans_33 : decode cX11_beans 33 = .ok (.iaload, 1) := by decide +kernel
theorem dX11_beans_34 : decode cX11_beans 34 = .ok (.istore_n 3, 1) := by decide +kernel
theorem dX11_beans_35 : decode cX11_beans 35 = .ok (.aload_n 0, 1) := by decide +kernel
theorem dX11_beans_36 : decode cX11_beans 36 = .ok (.getfield 27, 3) := by decide +kernel
theorem dX11_beans_39 : decode cX11_beans 39 = .ok (.invokevirtual 122, 3) := by decide +kernel
theorem dX11_beans_4 : decode cX11_beans 4 = .ok (.iload_n 1, 1) := by decide +kernel
theorem dX11_beans_42 : decode cX11_beans 42 = .ok (.iload_n 3, 1) := by decide +kernel
theorem dX11_beans_43 : decode cX11_beans 43 = .ok (.isub, 1) := by decide +kernel
theorem dX11_beans_44 : decode cX11_beans 44 = .ok (.iload_n 2, 1) := by decide +kernel
theorem dX11_beans_45 : decode cX11_beans 45 = .ok (.iadd, 1) := by decide +kernel
theorem dX11_beans_46 : decode cX11_beans 46 = .ok (.bipush 7, 2) := by decide +kernel
theorem dX11_beans_48 : decode cX11_beans 48 = .ok (.if_icmp .le 9, 3) := by decide +kernel
theorem dX11_beans_5 : decode cX11_beans 5 = .ok (.iconst 5, 1) := by decide +kernel
theorem dX11_beans_57 : decode cX11_beans 57 = .ok (.aload_n 0, 1) := by decide +kernel
theorem dX11_beans_58 : decode cX11_beans 58 = .ok (.getfield 10, 3) := by decide +kernel
theorem dX11_beans_6 : decode cX11_beans 6 = .ok (.if_icmp .ge 13, 3) := by decide +kernel
theorem dX11_beans_61 : decode cX11_beans 61 = .ok (.getfield 111, 3) := by decide +kernel
theorem dX11_beans_64 : decode cX11_beans 64 = .ok (.iload_n 1, 1) := by decide +kernel
theorem dX11_beans_65 : decode cX11_beans 65 = .ok (.iload_n 2, 1) := by decide +kernel
theorem dX11_beans_66 : decode cX11_beans 66 = .ok (.iastore, 1) := by decide +kernel
theorem dX11_beans_67 : decode cX11_beans 67 = .ok (.aload_n 0, 1) := by decide +kernel
theorem dX11_beans_68 : decode cX11_beans 68 = .ok (.invokevirtual 126, 3) := by decide +kernel
theorem dX11_beans_71 : decode cX11_beans 71 = .ok (.aload_n 0, 1) := by decide +kernel
theorem dX11_beans_72 : decode cX11_beans 72 = .ok (.iload_n 3, 1) := by decide +kernel
theorem dX11_beans_73 : decode cX11_beans 73 = .ok (.invokevirtual 129, 3) := by decide +kernel
theorem dX11_beans_76 : decode cX11_beans 76 = .ok (.ireturn, 1) := by decide +kernel
theorem dX11_beans_9 : decode cX11_beans 9 = .ok (.iload_n 2, 1) := by decide +kernel
theorem dX11_breach_0 : decode cX11_breach 0 = .ok (.aload_n 0, 1) := by decide +kernel
theorem dX11_breach_1 : decode cX11_breach 1 = .ok (.getfield 27, 3) := by decide +kernel
theorem dX11_breach_11 : decode cX11_breach 11 = .ok (.aload_n 0, 1) := by decide +kernel
theorem dX11_breach_12 : decode cX11_breach 12 = .ok (.getfield 27, 3) := by decide +kernel
theorem dX11_breach_15 : decode cX11_breach 15 = .ok (.iload_n 2, 1) := by decide +kernel
theorem dX11_breach_16 : decode cX11_breach 16 = .ok (.invokevirtual 135, 3) := by decide +kernel
theorem dX11_breach_19 : decode cX11_breach 19 = .ok (.ifCond .ne 10, 3) := by decide +kernel
theorem dX11_breach_22 : decode cX11_breach 22 = .ok (.aload_n 0, 1) := by decide +kernel
theorem dX11_breach_23 : decode cX11_breach 23 = .ok (.bipush (-2), 2) := by decide +kernel
theorem dX11_breach_25 : decode cX11_breach 25 = .ok (.invokevirtual 118, 3) := by decide +kernel
theorem dX11_breach_28 : decode cX11_breach 28 = .ok (.ireturn, 1) := by decide +kernel
theorem dX11_breach_29 : decode cX11_breach 29 = .ok (.aload_n 0, 1) := by decide +kernel
theorem dX11_breach_30 : decode cX11_breach 30 = .ok (.getfield 10, 3) := by decide +kernel
theorem dX11_breach_33 : decode cX11_breach 33 = .ok (.iload_n 1, 1) := by decide +kernel
theorem dX11_breach_34 : decode cX11_breach 34 = .ok (.iload_n 2, 1) := by decide +kernel
theorem dX11_breach_35 : decode cX11_breach 35 = .ok (.invokevirtual 201, 3) := by decide +kernel
theorem dX11_breach_38 : decode cX11_breach 38 = .ok (.istore_n 3, 1) := by decide +kernel
theorem dX11_breach_39 : decode cX11_breach 39 = .ok (.iload_n 3, 1) := by decide +kernel
theorem dX11_breach_4 : decode cX11_breach 4 = .ok (.iload_n 1, 1) := by decide +kernel
theorem dX11_breach_40 : decode cX11_breach 40 = .ok (.iconst (-1), 1) := by decide +kernel
theorem dX11_breach_41 : decode cX11_breach 41 = .ok (.if_icmp .ne 10, 3) := by decide +kernel
theorem dX11_breach_44 : decode cX11_breach 44 = .ok (.aload_n 0, 1) := by decide +kernel
theorem dX11_breach_45 : decode cX11_breach 45 = .ok (.bipush (-3), 2) := by decide +kernel
theorem dX11_breach_47 : decode cX11_breach 47 = .ok (.invokevirtual 118, 3) := by decide +kernel
theorem dX11_breach_5 : decode cX11_breach 5 = .ok (.invokevirtual 135, 3) := by decide +kernel
theorem dX11_breach_50 : decode cX11_breach 50 = .ok (.ireturn, 1) := by decide +kernel
theorem dX11_breach_8 : decode cX11_breach 8 = .ok (.ifCond .eq 14, 3) := by decide +kernel
theorem dX11_clue_0 : decode cX11_clue 0 = .ok (.iload_n 2, 1) := by decide +kernel
theorem dX11_clue_1 : decode cX11_clue 1 = .ok (.iconst (-1), 1) := by decide +kernel
theorem dX11_clue_10 : decode cX11_clue 10 = .ok (.ireturn, 1) := by decide +kernel
theorem dX11_clue_11 : decode cX11_clue 11 = .ok (.aload_n 0, 1) := by decide +kernel
theorem dX11_clue_12 : decode cX11_clue 12 = .ok (.getfield 27, 3) := by decide +kernel
theorem dX11_clue_15 : decode cX11_clue 15 = .ok (.iload_n 1, 1) := by decide +kernel
theorem dX11_clue_16 : decode cX11_clue 16 = .ok (.invokevirtual 135, 3) := by decide +kernel
theorem dX11_clue_19 : decode cX11_clue 19 = .ok (.ifCond .ne 10, 3) := by decide +kernel
theorem dX11_clue_2 : decode cX11_clue 2 = .ok (.if_icmp .ge 9, 3) := by decide +kernel
theorem dX11_clue_22 : decode cX11_clue 22 = .ok (.aload_n 0, 1) := by decide +kernel
theorem dX11_clue_23 : decode cX11_clue 23 = .ok (.bipush (-2), 2) := by decide +kernel
theorem dX11_clue_25 : decode cX11_clue 25 = .ok (.invokevirtual 118, 3) := by decide +kernel
theorem dX11_clue_28 : decode cX11_clue 28 = .ok (.ireturn, 1) := by decide +kernel
theorem dX11_clue_29 : decode cX11_clue 29 = .ok (.aload_n 0, 1) := by decide +kernel
theorem dX11_clue_30 : decode cX11_clue 30 = .ok (.getfield 10, 3) := by decide +kernel
theorem dX11_clue_33 : decode cX11_clue 33 = .ok (.getfield 286, 3) := by decide +kernel
theorem dX11_clue_36 : decode cX11_clue 36 = .ok (.bipush 6, 2) := by decide +kernel
theorem dX11_clue_38 : decode cX11_clue 38 = .ok (.if_icmp .lt 10, 3) := by decide +kernel
theorem dX11_clue_48 : decode cX11_clue 48 = .ok (.aload_n 0, 1) := by decide +kernel
theorem dX11_clue_49 : decode cX11_clue 49 = .ok (.getfield 10, 3) := by decide +kernel
theorem dX11_clue_5 : decode cX11_clue 5 = .ok (.aload_n 0, 1) := by decide +kernel
theorem dX11_clue_52 : decode cX11_clue 52 = .ok (.iload_n 1, 1) := by decide +kernel
theorem dX11_clue_53 : decode cX11_clue 53 = .ok (.iload_n 2, 1) := by decide +kernel
theorem dX11_clue_54 : decode cX11_clue 54 = .ok (.invokevirtual 289, 3) := by decide +kernel
theorem dX11_clue_57 : decode cX11_clue 57 = .ok (.aload_n 0, 1) := by decide +kernel
theorem dX11_clue_58 : decode cX11_clue 58 = .ok (.getfield 82, 3) := by decide +kernel
theorem dX11_clue_6 : decode cX11_clue 6 = .ok (.iconst (-1), 1) := by decide +kernel
theorem dX11_clue_61 : decode cX11_clue 61 = .ok (.invokevirtual 292, 3) := by decide +kernel
theorem dX11_clue_64 : decode cX11_clue 64 = .ok (.aload_n 0, 1) := by decide +kernel
theorem dX11_clue_65 : decode cX11_clue 65 = .ok (.aload_n 0, 1) := by decide +kernel
theorem dX11_clue_66 : decode cX11_clue 66 = .ok (.getfield 10, 3) := by decide +kernel
theorem dX11_clue_69 : decode cX11_clue 69 = .ok (.getfield 286, 3) := by decide +kernel
theorem dX11_clue_7 : decode cX11_clue 7 = .ok (.invokevirtual 118, 3) := by decide +kernel
theorem dX11_clue_72 : decode cX11_clue 72 = .ok (.invokevirtual 129, 3) := by decide +kernel
theorem dX11_clue_75 : decode cX11_clue 75 = .ok (.ireturn, 1) := by decide +kernel
theorem dX11_code_0 : decode cX11_code 0 = .ok (.aload_n 0, 1) := by decide +kernel
theorem dX11_code_1 : decode cX11_code 1 = .ok (.getfield 27, 3) := by decide +kernel
theorem dX11_code_11 : decode cX11_code 11 = .ok (.aload_n 0, 1) := by decide +kernel
theorem dX11_code_12 : decode cX11_code 12 = .ok (.getfield 27, 3) := by decide +kernel
theorem dX11_code_15 : decode cX11_code 15 = .ok (.iload_n 1, 1) := by decide +kernel
theorem dX11_code_16 : decode cX11_code 16 = .ok (.invokevirtual 139, 3) := by decide +kernel
theorem dX11_code_19 : decode cX11_code 19 = .ok (.goto 4, 3) := by decide +kernel
theorem dX11_code_22 : decode cX11_code 22 = .ok (.iconst (-1), 1) := by decide +kernel
theorem dX11_code_23 : decode cX11_code 23 = .ok (.ireturn, 1) := by decide +kernel
theorem dX11_code_4 : decode cX11_code 4 = .ok (.iload_n 1, 1) := by decide +kernel
theorem dX11_code_5 : decode cX11_code 5 = .ok (.invokevirtual 135, 3) := by decide +kernel
theorem dX11_code_8 : decode cX11_code 8 = .ok (.ifCond .eq 14, 3) := by decide +kernel
theorem dX11_count_0 : decode cX11_count 0 = .ok (.iload_n 1, 1) := by decide +kernel
theorem dX11_count_1 : decode cX11_count 1 = .ok (.iconst 1, 1) := by decide +kernel
theorem dX11_count_10 : decode cX11_count 10 = .ok (.aload_n 0, 1) := by decide +kernel
theorem dX11_count_11 : decode cX11_count 11 = .ok (.getfield 10, 3) := by decide +kernel
theorem dX11_count_136 : decode cX11_count 136 = .ok (.aload_n 0, 1) := by decide +kernel
theorem dX11_count_137 : decode cX11_count 137 = .ok (.getfield 27, 3) := by decide +kernel
theorem dX11_count_14 : decode cX11_count 14 = .ok (.getfield 111, 3) := by decide +kernel
theorem dX11_count_140 : decode cX11_count 140 = .ok (.invokevirtual 122, 3) := by decide +kernel
theorem dX11_count_143 : decode cX11_count 143 = .ok (.ireturn, 1) := by decide +kernel
theorem dX11_count_144 : decode cX11_count 144 = .ok (.aload_n 0, 1) := by decide +kernel
theorem dX11_count_145 : decode cX11_count 145 = .ok (.getfield 10, 3) := by decide +kernel
theorem dX11_count_148 : decode cX11_count 148 = .ok (.getfield 184, 3) := by decide +kernel
theorem dX11_count_151 : decode cX11_count 151 = .ok (.ireturn, 1) := by decide +kernel
theorem dX11_count_152 : decode cX11_count 152 = .ok (.aload_n 0, 1) := by decide +kernel
theorem dX11_count_153 : decode cX11_count 153 = .ok (.getfield 10, 3) := by decide +kernel
theorem dX11_count_156 : decode cX11_count 156 = .ok (.getfield 204, 3) := by decide +kernel
theorem dX11_count_159 : decode cX11_count 159 = .ok (.ireturn, 1) := by decide +kernel
theorem dX11_count_160 : decode cX11_count 160 = .ok (.aload_n 0, 1) := by decide +kernel
theorem dX11_count_161 : decode cX11_count 161 = .ok (.getfield 10, 3) := by decide +kernel
theorem dX11_count_164 : decode cX11_count 164 = .ok (.getfield 286, 3) := by decide +kernel
theorem dX11_count_167 : decode cX11_count 167 = .ok (.ireturn, 1) := by decide +kernel
theorem dX11_count_168 : decode cX11_count 168 = .ok (.aload_n 0, 1) := by decide +kernel
theorem dX11_count_169 : decode cX11_count 169 = .ok (.getfield 10, 3) := by decide +kernel
theorem dX11_count_17 : decode cX11_count 17 = .ok (.iload_n 1, 1) := by decide +kernel
theorem dX11_count_172 : decode cX11_count 172 = .ok (.getfield 264, 3) := by decide +kernel
theorem dX11_count_175 : decode cX11_count 175 = .ok (.ireturn, 1) := by decide +kernel
theorem dX11_count_176 : decode cX11_count 176 = .ok (.aload_n 0, 1) := by decide +kernel
theorem dX11_count_177 : decode cX11_count 177 = .ok (.getfield 34, 3) := by decide +kernel
theorem dX11_count_18 : decode cX11_count 18 = .ok (.iconst 1, 1) := by decide +kernel
theorem dX11_count_180 : decode cX11_count 180 = .ok (.invokevirtual 158, 3) := by decide +kernel
theorem dX11_count_183 : decode cX11_count 183 = .ok (.ireturn, 1) := by decide +kernel
theorem dX11_count_184 : decode cX11_count 184 = .ok (.aload_n 0, 1) := by decide +kernel
theorem dX11_count_185 : decode cX11_count 185 = .ok (.getfield 10, 3) := by decide +kernel
theorem dX11_count_188 : decode cX11_count 188 = .ok (.getfield 198, 3) := by decide +kernel
theorem dX11_count_19 : decode cX11_count 19 = .ok (.isub, 1) := by decide +kernel
theorem dX11_count_191 : decode cX11_count 191 = .ok (.ireturn, 1) := by decide +kernel
theorem dX11_count_192 : decode cX11_count 192 = .ok (.aload_n 0, 1) := by decide +kernel
theorem dX11_count_193 : decode cX11_count 193 = .ok (.getfield 10, 3) := by decide +kernel
theorem dX11_count_196 : decode cX11_count 196 = .ok (.getfield 145, 3) := by decide +kernel
theorem dX11_count_199 : decode cX11_count 199 = .ok (.iconst 0, 1) := by decide +kernel
theorem dX11_count_2 : decode cX11_count 2 = .ok (.if_icmp .lt 20, 3) := by decide +kernel
theorem dX11_count_20 : decode cX11_count 20 = .ok (.iaload, 1) := by decide +kernel
theorem dX11_count_200 : decode cX11_count 200 = .ok (.iaload, 1) := by decide +kernel
theorem dX11_count_201 : decode cX11_count 201 = .ok (.ireturn, 1) := by decide +kernel
theorem dX11_count_202 : decode cX11_count 202 = .ok (.aload_n 0, 1) := by decide +kernel
theorem dX11_count_203 : decode cX11_count 203 = .ok (.getfield 10, 3) := by decide +kernel
theorem dX11_count_206 : decode cX11_count 206 = .ok (.getfield 145, 3) := by decide +kernel
theorem dX11_count_209 : decode cX11_count 209 = .ok (.iconst 1, 1) := by decide +kernel
theorem dX11_count_21 : decode cX11_count 21 = .ok (.ireturn, 1) := by decide +kernel
theorem dX11_count_210 : decode cX11_count 210 = .ok (.iaload, 1) := by decide +kernel
theorem dX11_count_211 : decode cX11_count 211 = .ok (.ireturn, 1) := by decide +kernel
theorem dX11_count_212 : decode cX11_count 212 = .ok (.iconst (-1), 1) := by decide +kernel
theorem dX11_count_213 : decode cX11_count 213 = .ok (.ireturn, 1) := by decide +kernel
theorem dX11_count_22 : decode cX11_count 22 = .ok (.iload_n 1, 1) := by decide +kernel
theorem dX11_count_23 : decode cX11_count 23 = .ok (.bipush 11, 2) := by decide +kernel
theorem dX11_count_25 : decode cX11_count 25 = .ok (.if_icmp .lt 19, 3) := by decide +kernel
theorem dX11_count_28 : decode cX11_count 28 = .ok (.iload_n 1, 1) := by decide +kernel
theorem dX11_count_29 : decode cX11_count 29 = .ok (.bipush 15, 2) := by decide +kernel
theorem dX11_count_31 : decode cX11_count 31 = .ok (.if_icmp .gt 13, 3) := by decide +kernel
theorem dX11_count_34 : decode cX11_count 34 = .ok (.aload_n 0, 1) := by decide +kernel
theorem dX11_count_35 : decode cX11_count 35 = .ok (.getfield 93, 3) := by decide +kernel
theorem dX11_count_38 : decode cX11_count 38 = .ok (.iload_n 1, 1) := by decide +kernel
theorem dX11_count_39 : decode cX11_count 39 = .ok (.bipush 11, 2) := by decide +kernel
theorem dX11_count_41 : decode cX11_count 41 = .ok (.isub, 1) := by decide +kernel
theorem dX11_count_42 : decode cX11_count 42 = .ok (.iaload, 1) := by decide +kernel
theorem dX11_count_43 : decode cX11_count 43 = .ok (.ireturn, 1) := by decide +kernel
theorem dX11_count_44 : decode cX11_count 44 = .ok (.iload_n 1, 1) := by decide +kernel
theorem dX11_count_45 : decode cX11_count 45 = .ok (.tableswitch 167 0 18 #[91, 167, 167, 167, 167, 167, 99, 107, 115, 123, 131, 167, 167, 167, 167, 167, 139, 147, 157], 91) := by decide +kernel
theorem dX11_count_5 : decode cX11_count 5 = .ok (.iload_n 1, 1) := by decide +kernel
theorem dX11_count_6 : decode cX11_count 6 = .ok (.iconst 5, 1) := by decide +kernel
theorem dX11_count_7 : decode cX11_count 7 = .ok (.if_icmp .gt 15, 3) := by decide +kernel
theorem dX11_drawn_0 : decode cX11_drawn 0 = .ok (.aload_n 0, 1) := by decide +kernel
theorem dX11_drawn_1 : decode cX11_drawn 1 = .ok (.getfield 107, 3) := by decide +kernel
theorem dX11_drawn_27 : decode cX11_drawn 27 = .ok (.iconst (-1), 1) := by decide +kernel
theorem dX11_drawn_28 : decode cX11_drawn 28 = .ok (.ireturn, 1) := by decide +kernel
theorem dX11_drawn_4 : decode cX11_drawn 4 = .ok (.ifCond .eq 23, 3) := by decide +kernel
theorem dX11_drunk_0 : decode cX11_drunk 0 = .ok (.iload_n 1, 1) := by decide +kernel
theorem dX11_drunk_1 : decode cX11_drunk 1 = .ok (.ifCond .lt 21, 3) := by decide +kernel
theorem dX11_drunk_100 : decode cX11_drunk 100 = .ok (.ifCond .le 35, 3) := by decide +kernel
theorem dX11_drunk_11 : decode cX11_drunk 11 = .ok (.iload_n 3, 1) := by decide +kernel
theorem dX11_drunk_12 : decode cX11_drunk 12 = .ok (.ifCond .lt 10, 3) := by decide +kernel
theorem dX11_drunk_135 : decode cX11_drunk 135 = .ok (.aload_n 0, 1) := by decide +kernel
theorem dX11_drunk_136 : decode cX11_drunk 136 = .ok (.getfield 104, 3) := by decide +kernel
theorem dX11_drunk_139 : decode cX11_drunk 139 = .ok (.iload 5, 2) := by decide +kernel
theorem dX11_drunk_141 : decode cX11_drunk 141 = .ok (.dup2, 1) := by decide +kernel
theorem dX11_drunk_142 : decode cX11_drunk 142 = .ok (.iaload, 1) := by decide +kernel
theorem dX11_drunk_143 : decode cX11_drunk 143 = .ok (.iconst 1, 1) := by decide +kernel
theorem dX11_drunk_144 : decode cX11_drunk 144 = .ok (.iadd, 1) := by decide +kernel
theorem dX11_drunk_145 : decode cX11_drunk 145 = .ok (.iastore, 1) := by decide +kernel
theorem dX11_drunk_146 : decode cX11_drunk 146 = .ok (.iinc 6 1, 3) := by decide +kernel
theorem dX11_drunk_149 : decode cX11_drunk 149 = .ok (.goto (-68), 3) := by decide +kernel
theorem dX11_drunk_15 : decode cX11_drunk 15 = .ok (.iload_n 3, 1) := by decide +kernel
theorem dX11_drunk_152 : decode cX11_drunk 152 = .ok (.aload_n 0, 1) := by decide +kernel
theorem dX11_drunk_153 : decode cX11_drunk 153 = .ok (.iconst 1, 1) := by decide +kernel
theorem dX11_drunk_154 : decode cX11_drunk 154 = .ok (.putfield 107, 3) := by decide +kernel
theorem dX11_drunk_157 : decode cX11_drunk 157 = .ok (.aload_n 0, 1) := by decide +kernel
theorem dX11_drunk_158 : decode cX11_drunk 158 = .ok (.iload 5, 2) := by decide +kernel
theorem dX11_drunk_16 : decode cX11_drunk 16 = .ok (.sipush 500, 3) := by decide +kernel
theorem dX11_drunk_160 : decode cX11_drunk 160 = .ok (.invokevirtual 129, 3) := by decide +kernel
theorem dX11_drunk_163 : decode cX11_drunk 163 = .ok (.ireturn, 1) := by decide +kernel
theorem dX11_drunk_19 : decode cX11_drunk 19 = .ok (.if_icmp .le 9, 3) := by decide +kernel
theorem dX11_drunk_22 : decode cX11_drunk 22 = .ok (.aload_n 0, 1) := by decide +kernel
theorem dX11_drunk_23 : decode cX11_drunk 23 = .ok (.iconst (-1), 1) := by decide +kernel
theorem dX11_drunk_24 : decode cX11_drunk 24 = .ok (.invokevirtual 118, 3) := by decide +kernel
theorem dX11_drunk_27 : decode cX11_drunk 27 = .ok (.ireturn, 1) := by decide +kernel
theorem dX11_drunk_28 : decode cX11_drunk 28 = .ok (.aload_n 0, 1) := by decide +kernel
theorem dX11_drunk_29 : decode cX11_drunk 29 = .ok (.getfield 27, 3) := by decide +kernel
theorem dX11_drunk_32 : decode cX11_drunk 32 = .ok (.iload_n 2, 1) := by decide +kernel
theorem dX11_drunk_33 : decode cX11_drunk 33 = .ok (.invokevirtual 135, 3) := by decide +kernel
theorem dX11_drunk_36 : decode cX11_drunk 36 = .ok (.ifCond .ne 10, 3) := by decide +kernel
theorem dX11_drunk_39 : decode cX11_drunk 39 = .ok (.aload_n 0, 1) := by decide +kernel
theorem dX11_drunk_4 : decode cX11_drunk 4 = .ok (.iload_n 1, 1) := by decide +kernel
theorem dX11_drunk_40 : decode cX11_drunk 40 = .ok (.bipush (-2), 2) := by decide +kernel
theorem dX11_drunk_42 : decode cX11_drunk 42 = .ok (.invokevirtual 118, 3) := by decide +kernel
theorem dX11_drunk_45 : decode cX11_drunk 45 = .ok (.ireturn, 1) := by decide +kernel
theorem dX11_drunk_46 : decode cX11_drunk 46 = .ok (.aload_n 0, 1) := by decide +kernel
theorem dX11_drunk_47 : decode cX11_drunk 47 = .ok (.getfield 43, 3) := by decide +kernel
theorem dX11_drunk_5 : decode cX11_drunk 5 = .ok (.ldc_w 312, 3) := by decide +kernel
theorem dX11_drunk_50 : decode cX11_drunk 50 = .ok (.invokevirtual 217, 3) := by decide +kernel
theorem dX11_drunk_53 : decode cX11_drunk 53 = .ok (.aload_n 0, 1) := by decide +kernel
theorem dX11_drunk_54 : decode cX11_drunk 54 = .ok (.getfield 104, 3) := by decide +kernel
theorem dX11_drunk_57 : decode cX11_drunk 57 = .ok (.iconst 0, 1) := by decide +kernel
theorem dX11_drunk_58 : decode cX11_drunk 58 = .ok (.invokestatic 168, 3) := by decide +kernel
theorem dX11_drunk_61 : decode cX11_drunk 61 = .ok (.iload_n 1, 1) := by decide +kernel
theorem dX11_drunk_62 : decode cX11_drunk 62 = .ok (.istore 4, 2) := by decide +kernel
theorem dX11_drunk_64 : decode cX11_drunk 64 = .ok (.iload_n 2, 1) := by decide +kernel
theorem dX11_drunk_65 : decode cX11_drunk 65 = .ok (.istore 5, 2) := by decide +kernel
theorem dX11_drunk_67 : decode cX11_drunk 67 = .ok (.aload_n 0, 1) := by decide +kernel
theorem dX11_drunk_68 : decode cX11_drunk 68 = .ok (.getfield 104, 3) := by decide +kernel
theorem dX11_drunk_71 : decode cX11_drunk 71 = .ok (.iload 5, 2) := by decide +kernel
theorem dX11_drunk_73 : decode cX11_drunk 73 = .ok (.dup2, 1) := by decide +kernel
theorem dX11_drunk_74 : decode cX11_drunk 74 = .ok (.iaload, 1) := by decide +kernel
theorem dX11_drunk_75 : decode cX11_drunk 75 = .ok (.iconst 1, 1) := by decide +kernel
theorem dX11_drunk_76 : decode cX11_drunk 76 = .ok (.iadd, 1) := by decide +kernel
theorem dX11_drunk_77 : decode cX11_drunk 77 = .ok (.iastore, 1) := by decide +kernel
theorem dX11_drunk_78 : decode cX11_drunk 78 = .ok (.iconst 0, 1) := by decide +kernel
theorem dX11_drunk_79 : decode cX11_drunk 79 = .ok (.istore 6, 2) := by decide +kernel
theorem dX11_drunk_8 : decode cX11_drunk 8 = .ok (.if_icmp .gt 14, 3) := by decide +kernel
theorem dX11_drunk_81 : decode cX11_drunk 81 = .ok (.iload 6, 2) := by decide +kernel
theorem dX11_drunk_83 : decode cX11_drunk 83 = .ok (.iload_n 3, 1) := by decide +kernel
theorem dX11_drunk_84 : decode cX11_drunk 84 = .ok (.if_icmp .ge 68, 3) := by decide +kernel
theorem dX11_drunk_87 : decode cX11_drunk 87 = .ok (.aload_n 0, 1) := by decide +kernel
theorem dX11_drunk_88 : decode cX11_drunk 88 = .ok (.getfield 43, 3) := by decide +kernel
theorem dX11_drunk_91 : decode cX11_drunk 91 = .ok (.iload 5, 2) := by decide +kernel
theorem dX11_drunk_93 : decode cX11_drunk 93 = .ok (.invokevirtual 220, 3) := by decide +kernel
theorem dX11_drunk_96 : decode cX11_drunk 96 = .ok (.istore 7, 2) := by decide +kernel
theorem dX11_drunk_98 : decode cX11_drunk 98 = .ok (.iload 7, 2) := by decide +kernel
theorem dX11_end_0 : decode cX11_end 0 = .ok (.aload_n 0, 1) := by decide +kernel
theorem dX11_end_1 : decode cX11_end 1 = .ok (.getfield 34, 3) := by decide +kernel
theorem dX11_end_11 : decode cX11_end 11 = .ok (.iload_n 1, 1) := by decide +kernel
theorem dX11_end_12 : decode cX11_end 12 = .ok (.goto 4, 3) := by decide +kernel
theorem dX11_end_15 : decode cX11_end 15 = .ok (.iconst (-1), 1) := by decide +kernel
theorem dX11_end_16 : decode cX11_end 16 = .ok (.ireturn, 1) := by decide +kernel
theorem dX11_end_4 : decode cX11_end 4 = .ok (.iload_n 1, 1) := by decide +kernel
theorem dX11_end_5 : decode cX11_end 5 = .ok (.invokevirtual 161, 3) := by decide +kernel
theorem dX11_end_8 : decode cX11_end 8 = .ok (.ifCond .eq 7, 3) := by decide +kernel
theorem dX11_far_0 : decode cX11_far 0 = .ok (.aload_n 0, 1) := by decide +kernel
theorem dX11_far_1 : decode cX11_far 1 = .ok (.getfield 27, 3) := by decide +kernel
theorem dX11_far_11 : decode cX11_far 11 = .ok (.aload_n 0, 1) := by decide +kernel
theorem dX11_far_12 : decode cX11_far 12 = .ok (.getfield 27, 3) := by decide +kernel
theorem dX11_far_15 : decode cX11_far 15 = .ok (.iload_n 2, 1) := by decide +kernel
theorem dX11_far_16 : decode cX11_far 16 = .ok (.invokevirtual 135, 3) := by decide +kernel
theorem dX11_far_19 : decode cX11_far 19 = .ok (.ifCond .ne 5, 3) := by decide +kernel
theorem dX11_far_22 : decode cX11_far 22 = .ok (.iconst (-1), 1) := by decide +kernel
theorem dX11_far_23 : decode cX11_far 23 = .ok (.ireturn, 1) := by decide +kernel
theorem dX11_far_24 : decode cX11_far 24 = .ok (.aload_n 0, 1) := by decide +kernel
theorem dX11_far_25 : decode cX11_far 25 = .ok (.getfield 43, 3) := by decide +kernel
theorem dX11_far_28 : decode cX11_far 28 = .ok (.invokevirtual 217, 3) := by decide +kernel
theorem dX11_far_31 : decode cX11_far 31 = .ok (.iload_n 3, 1) := by decide +kernel
theorem dX11_far_32 : decode cX11_far 32 = .ok (.tableswitch 58 0 2 #[28, 38, 48], 28) := by decide +kernel
theorem dX11_far_4 : decode cX11_far 4 = .ok (.iload_n 1, 1) := by decide +kernel
theorem dX11_far_5 : decode cX11_far 5 = .ok (.invokevirtual 135, 3) := by decide +kernel
theorem dX11_far_60 : decode cX11_far 60 = .ok (.aload_n 0, 1) := by decide +kernel
theorem dX11_far_61 : decode cX11_far 61 = .ok (.getfield 52, 3) := by decide +kernel
theorem dX11_far_64 : decode cX11_far 64 = .ok (.iload_n 1, 1) := by decide +kernel
theorem dX11_far_65 : decode cX11_far 65 = .ok (.iload_n 2, 1) := by decide +kernel
theorem dX11_far_66 : decode cX11_far 66 = .ok (.invokevirtual 229, 3) := by decide +kernel
theorem dX11_far_69 : decode cX11_far 69 = .ok (.ireturn, 1) := by decide +kernel
theorem dX11_far_70 : decode cX11_far 70 = .ok (.aload_n 0, 1) := by decide +kernel
theorem dX11_far_71 : decode cX11_far 71 = .ok (.getfield 52, 3) := by decide +kernel
theorem dX11_far_74 : decode cX11_far 74 = .ok (.iload_n 1, 1) := by decide +kernel
theorem dX11_far_75 : decode cX11_far 75 = .ok (.iload_n 2, 1) := by decide +kernel
theorem dX11_far_76 : decode cX11_far 76 = .ok (.invokevirtual 232, 3) := by decide +kernel
theorem dX11_far_79 : decode cX11_far 79 = .ok (.ireturn, 1) := by decide +kernel
theorem dX11_far_8 : decode cX11_far 8 = .ok (.ifCond .eq 14, 3) := by decide +kernel
theorem dX11_far_80 : decode cX11_far 80 = .ok (.aload_n 0, 1) := by decide +kernel
theorem dX11_far_81 : decode cX11_far 81 = .ok (.getfield 52, 3) := by decide +kernel
theorem dX11_far_84 : decode cX11_far 84 = .ok (.iload_n 1, 1) := by decide +kernel
theorem dX11_far_85 : decode cX11_far 85 = .ok (.iload_n 2, 1) := by decide +kernel
theorem dX11_far_86 : decode cX11_far 86 = .ok (.invokevirtual 235, 3) := by decide +kernel
theorem dX11_far_89 : decode cX11_far 89 = .ok (.ireturn, 1) := by decide +kernel
theorem dX11_far_90 : decode cX11_far 90 = .ok (.iconst (-1), 1) := by decide +kernel
theorem dX11_far_91 : decode cX11_far 91 = .ok (.ireturn, 1) := by decide +kernel
theorem dX11_fault_0 : decode cX11_fault 0 = .ok (.aload_n 0, 1) := by decide +kernel
theorem dX11_fault_1 : decode cX11_fault 1 = .ok (.getfield 101, 3) := by decide +kernel
theorem dX11_fault_4 : decode cX11_fault 4 = .ok (.ireturn, 1) := by decide +kernel
theorem dX11_feed_0 : decode cX11_feed 0 = .ok (.aload_n 0, 1) := by decide +kernel
theorem dX11_feed_1 : decode cX11_feed 1 = .ok (.getfield 34, 3) := by decide +kernel
theorem dX11_feed_14 : decode cX11_feed 14 = .ok (.aload_n 0, 1) := by decide +kernel
theorem dX11_feed_15 : decode cX11_feed 15 = .ok (.getfield 34, 3) := by decide +kernel
theorem dX11_feed_18 : decode cX11_feed 18 = .ok (.iload_n 1, 1) := by decide +kernel
theorem dX11_feed_19 : decode cX11_feed 19 = .ok (.invokevirtual 154, 3) := by decide +kernel
theorem dX11_feed_22 : decode cX11_feed 22 = .ok (.aload_n 0, 1) := by decide +kernel
theorem dX11_feed_23 : decode cX11_feed 23 = .ok (.getfield 34, 3) := by decide +kernel
theorem dX11_feed_26 : decode cX11_feed 26 = .ok (.iload_n 2, 1) := by decide +kernel
theorem dX11_feed_27 : decode cX11_feed 27 = .ok (.invokevirtual 154, 3) := by decide +kernel
theorem dX11_feed_30 : decode cX11_feed 30 = .ok (.aload_n 0, 1) := by decide +kernel
theorem dX11_feed_31 : decode cX11_feed 31 = .ok (.getfield 34, 3) := by decide +kernel
theorem dX11_feed_34 : decode cX11_feed 34 = .ok (.iload_n 3, 1) := by decide +kernel
theorem dX11_feed_35 : decode cX11_feed 35 = .ok (.invokevirtual 154, 3) := by decide +kernel
theorem dX11_feed_38 : decode cX11_feed 38 = .ok (.aload_n 0, 1) := by decide +kernel
theorem dX11_feed_39 : decode cX11_feed 39 = .ok (.getfield 34, 3) := by decide +kernel
