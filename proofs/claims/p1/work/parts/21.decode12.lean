/-! decode rows -/
theorem dX9_init_67 : decode cX9_init 67 = .ok (.aload_n 0, 1) := by decide +kernel
theorem dX9_init_68 : decode cX9_init 68 = .ok (.aload_n 2, 1) := by decide +kernel
theorem dX9_init_69 : decode cX9_init 69 = .ok (.putfield 46, 3) := by decide +kernel
theorem dX9_init_72 : decode cX9_init 72 = .ok (.return_, 1) := by decide +kernel
theorem dX9_init_8 : decode cX9_init 8 = .ok (.dup, 1) := by decide +kernel
theorem dX9_init_9 : decode cX9_init 9 = .ok (.invokespecial 11, 3) := by decide +kernel
theorem dX9_judgeAll_0 : decode cX9_judgeAll 0 = .ok (.aload_n 0, 1) := by decide +kernel
theorem dX9_judgeAll_1 : decode cX9_judgeAll 1 = .ok (.getfield 12, 3) := by decide +kernel
theorem dX9_judgeAll_11 : decode cX9_judgeAll 11 = .ok (.aload_n 0, 1) := by decide +kernel
theorem dX9_judgeAll_114 : decode cX9_judgeAll 114 = .ok (.return_, 1) := by decide +kernel
theorem dX9_judgeAll_12 : decode cX9_judgeAll 12 = .ok (.getfield 42, 3) := by decide +kernel
theorem dX9_judgeAll_15 : decode cX9_judgeAll 15 = .ok (.getfield 79, 3) := by decide +kernel
theorem dX9_judgeAll_18 : decode cX9_judgeAll 18 = .ok (.iconst 1, 1) := by decide +kernel
theorem dX9_judgeAll_19 : decode cX9_judgeAll 19 = .ok (.iaload, 1) := by decide +kernel
theorem dX9_judgeAll_20 : decode cX9_judgeAll 20 = .ok (.invokevirtual 84, 3) := by decide +kernel
theorem dX9_judgeAll_23 : decode cX9_judgeAll 23 = .ok (.iconst 0, 1) := by decide +kernel
theorem dX9_judgeAll_24 : decode cX9_judgeAll 24 = .ok (.istore_n 1, 1) := by decide +kernel
theorem dX9_judgeAll_25 : decode cX9_judgeAll 25 = .ok (.iconst 0, 1) := by decide +kernel
theorem dX9_judgeAll_26 : decode cX9_judgeAll 26 = .ok (.istore_n 2, 1) := by decide +kernel
theorem dX9_judgeAll_27 : decode cX9_judgeAll 27 = .ok (.iload_n 2, 1) := by decide +kernel
theorem dX9_judgeAll_28 : decode cX9_judgeAll 28 = .ok (.aload_n 0, 1) := by decide +kernel
theorem dX9_judgeAll_29 : decode cX9_judgeAll 29 = .ok (.getfield 46, 3) := by decide +kernel
theorem dX9_judgeAll_32 : decode cX9_judgeAll 32 = .ok (.invokevirtual 76, 3) := by decide +kernel
theorem dX9_judgeAll_35 : decode cX9_judgeAll 35 = .ok (.if_icmp .ge 79, 3) := by decide +kernel
theorem dX9_judgeAll_4 : decode cX9_judgeAll 4 = .ok (.aload_n 0, 1) := by decide +kernel
theorem dX9_judgeAll_5 : decode cX9_judgeAll 5 = .ok (.getfield 46, 3) := by decide +kernel
theorem dX9_judgeAll_8 : decode cX9_judgeAll 8 = .ok (.invokevirtual 76, 3) := by decide +kernel
theorem dX9_prepare_0 : decode cX9_prepare 0 = .ok (.aload_n 0, 1) := by decide +kernel
theorem dX9_prepare_1 : decode cX9_prepare 1 = .ok (.getfield 39, 3) := by decide +kernel
theorem dX9_prepare_11 : decode cX9_prepare 11 = .ok (.aload_n 0, 1) := by decide +kernel
theorem dX9_prepare_12 : decode cX9_prepare 12 = .ok (.iconst 0, 1) := by decide +kernel
theorem dX9_prepare_13 : decode cX9_prepare 13 = .ok (.putfield 39, 3) := by decide +kernel
theorem dX9_prepare_16 : decode cX9_prepare 16 = .ok (.aload_n 0, 1) := by decide +kernel
theorem dX9_prepare_17 : decode cX9_prepare 17 = .ok (.getfield 35, 3) := by decide +kernel
theorem dX9_prepare_20 : decode cX9_prepare 20 = .ok (.ifCond .eq 41, 3) := by decide +kernel
theorem dX9_prepare_23 : decode cX9_prepare 23 = .ok (.aload_n 0, 1) := by decide +kernel
theorem dX9_prepare_24 : decode cX9_prepare 24 = .ok (.getfield 46, 3) := by decide +kernel
theorem dX9_prepare_27 : decode cX9_prepare 27 = .ok (.invokevirtual 56, 3) := by decide +kernel
theorem dX9_prepare_30 : decode cX9_prepare 30 = .ok (.istore_n 1, 1) := by decide +kernel
theorem dX9_prepare_31 : decode cX9_prepare 31 = .ok (.aload_n 0, 1) := by decide +kernel
theorem dX9_prepare_32 : decode cX9_prepare 32 = .ok (.aload_n 0, 1) := by decide +kernel
theorem dX9_prepare_33 : decode cX9_prepare 33 = .ok (.getfield 25, 3) := by decide +kernel
theorem dX9_prepare_36 : decode cX9_prepare 36 = .ok (.iload_n 1, 1) := by decide +kernel
theorem dX9_prepare_37 : decode cX9_prepare 37 = .ok (.bipush 22, 2) := by decide +kernel
theorem dX9_prepare_39 : decode cX9_prepare 39 = .ok (.imul, 1) := by decide +kernel
theorem dX9_prepare_4 : decode cX9_prepare 4 = .ok (.ifCond .eq 12, 3) := by decide +kernel
theorem dX9_prepare_40 : decode cX9_prepare 40 = .ok (.invokestatic 62, 3) := by decide +kernel
theorem dX9_prepare_43 : decode cX9_prepare 43 = .ok (.putfield 25, 3) := by decide +kernel
theorem dX9_prepare_46 : decode cX9_prepare 46 = .ok (.aload_n 0, 1) := by decide +kernel
theorem dX9_prepare_47 : decode cX9_prepare 47 = .ok (.getfield 22, 3) := by decide +kernel
theorem dX9_prepare_50 : decode cX9_prepare 50 = .ok (.iconst 0, 1) := by decide +kernel
theorem dX9_prepare_51 : decode cX9_prepare 51 = .ok (.iload_n 1, 1) := by decide +kernel
theorem dX9_prepare_52 : decode cX9_prepare 52 = .ok (.iconst (-1), 1) := by decide +kernel
theorem dX9_prepare_53 : decode cX9_prepare 53 = .ok (.invokestatic 66, 3) := by decide +kernel
theorem dX9_prepare_56 : decode cX9_prepare 56 = .ok (.aload_n 0, 1) := by decide +kernel
theorem dX9_prepare_57 : decode cX9_prepare 57 = .ok (.iconst 0, 1) := by decide +kernel
theorem dX9_prepare_58 : decode cX9_prepare 58 = .ok (.putfield 35, 3) := by decide +kernel
theorem dX9_prepare_61 : decode cX9_prepare 61 = .ok (.return_, 1) := by decide +kernel
theorem dX9_prepare_7 : decode cX9_prepare 7 = .ok (.aload_n 0, 1) := by decide +kernel
theorem dX9_prepare_8 : decode cX9_prepare 8 = .ok (.invokevirtual 53, 3) := by decide +kernel
theorem dX9_version_0 : decode cX9_version 0 = .ok (.aload_n 0, 1) := by decide +kernel
theorem dX9_version_1 : decode cX9_version 1 = .ok (.getfield 31, 3) := by decide +kernel
theorem dX9_version_4 : decode cX9_version 4 = .ok (.ireturn, 1) := by decide +kernel
