abbrev MX12_newBeans : jM := (RX12, cX12_newBeans, 3, none, false)
abbrev MX12_beans : jM := (RX12, cX12_beans, 4, some .int, false)
theorem cv_X12_153 : jCV RX12 153 12 yX12_newBeans MX12_newBeans 0 := ⟨_, _, rfl, (jt7 33 rfl rfl), (jt7 32 rfl rfl), (jtp (q := (⟨"BeanStreetModel", "newBeans", "()V"⟩, 56)) (List.mem_of_getElem? (i := 57) rfl)), (jt1 13 rfl rfl), ⟨by decide, by decide, by decide +kernel⟩, Or.inl (jt7 30 rfl rfl)⟩
abbrev MX12_terms : jM := (RX12, cX12_terms, 4, some .int, false)
abbrev MX12_force : jM := (RX12, cX12_force, 3, some .int, false)
abbrev MX12_keep : jM := (RX12, cX12_keep, 3, some .int, false)
abbrev MX12_forget : jM := (RX12, cX12_forget, 2, some .int, false)
abbrev MX12_swapIf : jM := (RX12, cX12_swapIf, 4, some .int, false)
abbrev MX12_clue : jM := (RX12, cX12_clue, 4, some .int, false)
abbrev MX12_wall : jM := (RX12, cX12_wall, 4, some .int, false)
abbrev MX12_breach : jM := (RX12, cX12_breach, 7, some .int, false)
abbrev MX12_end : jM := (RX12, cX12_end, 2, some .int, false)
abbrev MX12_feed : jM := (RX12, cX12_feed, 7, some .int, false)
theorem fl_X12_37 : jFL RX12 37 12 8 := ⟨_, _, _, rfl, iX12, by decide, Or.inl (jt6 82 rfl rfl)⟩
abbrev MX12_row : jM := (RX12, cX12_row, 5, some .int, false)
abbrev MX12_image : jM := (RX12, cX12_image, 3, some .int, false)
theorem fl_X12_26 : jFL RX12 26 12 5 := ⟨_, _, _, rfl, iX12, by decide, Or.inl (jt6 79 rfl rfl)⟩
theorem fl_X12_23 : jFL RX12 23 12 4 := ⟨_, _, _, rfl, iX12, by decide, Or.inl (jt6 78 rfl rfl)⟩
abbrev MX12_back : jM := (RX12, cX12_back, 3, some .int, false)
theorem dX12_newBeans_0 : decode cX12_newBeans 0 = .ok (.aload_n 0, 1) := by decide +kernel
theorem dX12_newBeans_1 : decode cX12_newBeans 1 = .ok (.getfield 20, 3) := by decide +kernel
theorem dX12_newBeans_4 : decode cX12_newBeans 4 = .ok (.bipush 59, 2) := by decide +kernel
theorem dX12_newBeans_6 : decode cX12_newBeans 6 = .ok (.iconst 0, 1) := by decide +kernel
theorem dX12_newBeans_7 : decode cX12_newBeans 7 = .ok (.iastore, 1) := by decide +kernel
theorem dX12_newBeans_8 : decode cX12_newBeans 8 = .ok (.aload_n 0, 1) := by decide +kernel
theorem dX12_newBeans_9 : decode cX12_newBeans 9 = .ok (.getfield 20, 3) := by decide +kernel
theorem dX12_newBeans_12 : decode cX12_newBeans 12 = .ok (.bipush 61, 2) := by decide +kernel
theorem dX12_newBeans_14 : decode cX12_newBeans 14 = .ok (.iconst 0, 1) := by decide +kernel
theorem dX12_newBeans_15 : decode cX12_newBeans 15 = .ok (.iastore, 1) := by decide +kernel
theorem dX12_newBeans_16 : decode cX12_newBeans 16 = .ok (.iconst 0, 1) := by decide +kernel
theorem dX12_newBeans_17 : decode cX12_newBeans 17 = .ok (.istore_n 1, 1) := by decide +kernel
theorem dX12_newBeans_18 : decode cX12_newBeans 18 = .ok (.iconst 0, 1) := by decide +kernel
theorem dX12_newBeans_19 : decode cX12_newBeans 19 = .ok (.istore_n 2, 1) := by decide +kernel
theorem dX12_newBeans_20 : decode cX12_newBeans 20 = .ok (.iload_n 2, 1) := by decide +kernel
theorem dX12_newBeans_21 : decode cX12_newBeans 21 = .ok (.aload_n 0, 1) := by decide +kernel
theorem dX12_newBeans_22 : decode cX12_newBeans 22 = .ok (.getfield 20, 3) := by decide +kernel
theorem dX12_newBeans_25 : decode cX12_newBeans 25 = .ok (.bipush 60, 2) := by decide +kernel
theorem dX12_newBeans_27 : decode cX12_newBeans 27 = .ok (.iaload, 1) := by decide +kernel
theorem dX12_newBeans_28 : decode cX12_newBeans 28 = .ok (.if_icmp .ge 83, 3) := by decide +kernel
theorem dX12_newBeans_111 : decode cX12_newBeans 111 = .ok (.aload_n 0, 1) := by decide +kernel
theorem dX12_newBeans_112 : decode cX12_newBeans 112 = .ok (.getfield 20, 3) := by decide +kernel
theorem dX12_newBeans_115 : decode cX12_newBeans 115 = .ok (.bipush 60, 2) := by decide +kernel
theorem dX12_newBeans_117 : decode cX12_newBeans 117 = .ok (.iload_n 1, 1) := by decide +kernel
theorem dX12_newBeans_118 : decode cX12_newBeans 118 = .ok (.iastore, 1) := by decide +kernel
theorem dX12_newBeans_119 : decode cX12_newBeans 119 = .ok (.return_, 1) := by decide +kernel
theorem dX12_newBeans_31 : decode cX12_newBeans 31 = .ok (.aload_n 0, 1) := by decide +kernel
theorem dX12_newBeans_32 : decode cX12_newBeans 32 = .ok (.getfield 20, 3) := by decide +kernel
theorem dX12_newBeans_35 : decode cX12_newBeans 35 = .ok (.bipush 23, 2) := by decide +kernel
theorem dX12_newBeans_37 : decode cX12_newBeans 37 = .ok (.iconst 2, 1) := by decide +kernel
theorem dX12_newBeans_38 : decode cX12_newBeans 38 = .ok (.iload_n 2, 1) := by decide +kernel
theorem dX12_newBeans_39 : decode cX12_newBeans 39 = .ok (.imul, 1) := by decide +kernel
theorem dX12_newBeans_40 : decode cX12_newBeans 40 = .ok (.iadd, 1) := by decide +kernel
theorem dX12_newBeans_41 : decode cX12_newBeans 41 = .ok (.iconst 1, 1) := by decide +kernel
theorem dX12_newBeans_42 : decode cX12_newBeans 42 = .ok (.iadd, 1) := by decide +kernel
theorem dX12_newBeans_43 : decode cX12_newBeans 43 = .ok (.iaload, 1) := by decide +kernel
theorem dX12_newBeans_44 : decode cX12_newBeans 44 = .ok (.aload_n 0, 1) := by decide +kernel
theorem dX12_newBeans_45 : decode cX12_newBeans 45 = .ok (.invokevirtual 149, 3) := by decide +kernel
theorem dX12_newBeans_48 : decode cX12_newBeans 48 = .ok (.if_icmp .lt 6, 3) := by decide +kernel
theorem dX12_newBeans_54 : decode cX12_newBeans 54 = .ok (.aload_n 0, 1) := by decide +kernel
theorem dX12_newBeans_55 : decode cX12_newBeans 55 = .ok (.getfield 20, 3) := by decide +kernel
theorem dX12_newBeans_58 : decode cX12_newBeans 58 = .ok (.bipush 23, 2) := by decide +kernel
theorem dX12_newBeans_60 : decode cX12_newBeans 60 = .ok (.iconst 2, 1) := by decide +kernel
theorem dX12_newBeans_61 : decode cX12_newBeans 61 = .ok (.iload_n 1, 1) := by decide +kernel
theorem dX12_newBeans_62 : decode cX12_newBeans 62 = .ok (.imul, 1) := by decide +kernel
theorem dX12_newBeans_63 : decode cX12_newBeans 63 = .ok (.iadd, 1) := by decide +kernel
theorem dX12_newBeans_64 : decode cX12_newBeans 64 = .ok (.aload_n 0, 1) := by decide +kernel
theorem dX12_newBeans_65 : decode cX12_newBeans 65 = .ok (.getfield 20, 3) := by decide +kernel
theorem dX12_newBeans_68 : decode cX12_newBeans 68 = .ok (.bipush 23, 2) := by decide +kernel
theorem dX12_newBeans_70 : decode cX12_newBeans 70 = .ok (.iconst 2, 1) := by decide +kernel
theorem dX12_newBeans_71 : decode cX12_newBeans 71 = .ok (.iload_n 2, 1) := by decide +kernel
theorem dX12_newBeans_72 : decode cX12_newBeans 72 = .ok (.imul, 1) := by decide +kernel
theorem dX12_newBeans_73 : decode cX12_newBeans 73 = .ok (.iadd, 1) := by decide +kernel
theorem dX12_newBeans_74 : decode cX12_newBeans 74 = .ok (.iaload, 1) := by decide +kernel
theorem dX12_newBeans_75 : decode cX12_newBeans 75 = .ok (.iastore, 1) := by decide +kernel
theorem dX12_newBeans_76 : decode cX12_newBeans 76 = .ok (.aload_n 0, 1) := by decide +kernel
theorem dX12_newBeans_77 : decode cX12_newBeans 77 = .ok (.getfield 20, 3) := by decide +kernel
theorem dX12_newBeans_80 : decode cX12_newBeans 80 = .ok (.bipush 23, 2) := by decide +kernel
theorem dX12_newBeans_82 : decode cX12_newBeans 82 = .ok (.iconst 2, 1) := by decide +kernel
theorem dX12_newBeans_83 : decode cX12_newBeans 83 = .ok (.iload_n 1, 1) := by decide +kernel
theorem dX12_newBeans_84 : decode cX12_newBeans 84 = .ok (.imul, 1) := by decide +kernel
theorem dX12_newBeans_85 : decode cX12_newBeans 85 = .ok (.iadd, 1) := by decide +kernel
theorem dX12_newBeans_86 : decode cX12_newBeans 86 = .ok (.iconst 1, 1) := by decide +kernel
theorem dX12_newBeans_87 : decode cX12_newBeans 87 = .ok (.iadd, 1) := by decide +kernel
theorem dX12_newBeans_88 : decode cX12_newBeans 88 = .ok (.aload_n 0, 1) := by decide +kernel
theorem dX12_newBeans_89 : decode cX12_newBeans 89 = .ok (.getfield 20, 3) := by decide +kernel
theorem dX12_newBeans_92 : decode cX12_newBeans 92 = .ok (.bipush 23, 2) := by decide +kernel
theorem dX12_newBeans_94 : decode cX12_newBeans 94 = .ok (.iconst 2, 1) := by decide +kernel
theorem dX12_newBeans_95 : decode cX12_newBeans 95 = .ok (.iload_n 2, 1) := by decide +kernel
theorem dX12_newBeans_96 : decode cX12_newBeans 96 = .ok (.imul, 1) := by decide +kernel
theorem dX12_newBeans_97 : decode cX12_newBeans 97 = .ok (.iadd, 1) := by decide +kernel
theorem dX12_newBeans_98 : decode cX12_newBeans 98 = .ok (.iconst 1, 1) := by decide +kernel
theorem dX12_newBeans_99 : decode cX12_newBeans 99 = .ok (.iadd, 1) := by decide +kernel
theorem dX12_newBeans_100 : decode cX12_newBeans 100 = .ok (.iaload, 1) := by decide +kernel
theorem dX12_newBeans_101 : decode cX12_newBeans 101 = .ok (.iastore, 1) := by decide +kernel
theorem dX12_newBeans_102 : decode cX12_newBeans 102 = .ok (.iinc 1 1, 3) := by decide +kernel
theorem dX12_newBeans_105 : decode cX12_newBeans 105 = .ok (.iinc 2 1, 3) := by decide +kernel
theorem dX12_newBeans_108 : decode cX12_newBeans 108 = .ok (.goto (-88), 3) := by decide +kernel
theorem dX12_newBeans_51 : decode cX12_newBeans 51 = .ok (.goto 54, 3) := by decide +kernel
theorem dX12_beans_0 : decode cX12_beans 0 = .ok (.iload_n 1, 1) := by decide +kernel
theorem dX12_beans_1 : decode cX12_beans 1 = .ok (.iconst 0, 1) := by decide +kernel
theorem dX12_beans_2 : decode cX12_beans 2 = .ok (.iconst 4, 1) := by decide +kernel
theorem dX12_beans_3 : decode cX12_beans 3 = .ok (.invokestatic 138, 3) := by decide +kernel
theorem dX12_beans_6 : decode cX12_beans 6 = .ok (.ifCond .eq 33, 3) := by decide +kernel
theorem dX12_beans_9 : decode cX12_beans 9 = .ok (.iload_n 2, 1) := by decide +kernel
theorem dX12_beans_10 : decode cX12_beans 10 = .ok (.iconst 0, 1) := by decide +kernel
theorem dX12_beans_11 : decode cX12_beans 11 = .ok (.bipush 7, 2) := by decide +kernel
theorem dX12_beans_13 : decode cX12_beans 13 = .ok (.invokestatic 138, 3) := by decide +kernel
theorem dX12_beans_16 : decode cX12_beans 16 = .ok (.ifCond .eq 23, 3) := by decide +kernel
theorem dX12_beans_19 : decode cX12_beans 19 = .ok (.aload_n 0, 1) := by decide +kernel
theorem dX12_beans_20 : decode cX12_beans 20 = .ok (.invokevirtual 149, 3) := by decide +kernel
theorem dX12_beans_23 : decode cX12_beans 23 = .ok (.aload_n 0, 1) := by decide +kernel
theorem dX12_beans_24 : decode cX12_beans 24 = .ok (.getfield 20, 3) := by decide +kernel
theorem dX12_beans_27 : decode cX12_beans 27 = .ok (.iconst 0, 1) := by decide +kernel
theorem dX12_beans_28 : decode cX12_beans 28 = .ok (.iload_n 1, 1) := by decide +kernel
theorem dX12_beans_29 : decode cX12_beans 29 = .ok (.iadd, 1) := by decide +kernel
theorem dX12_beans_30 : decode cX12_beans 30 = .ok (.iaload, 1) := by decide +kernel
theorem dX12_beans_31 : decode cX12_beans 31 = .ok (.isub, 1) := by decide +kernel
theorem dX12_beans_32 : decode cX12_beans 32 = .ok (.iload_n 2, 1) := by decide +kernel
theorem dX12_beans_33 : decode cX12_beans 33 = .ok (.iadd, 1) := by decide +kernel
theorem dX12_beans_34 : decode cX12_beans 34 = .ok (.bipush 7, 2) := by decide +kernel
theorem dX12_beans_36 : decode cX12_beans 36 = .ok (.if_icmp .le 9, 3) := by decide +kernel
theorem dX12_beans_45 : decode cX12_beans 45 = .ok (.aload_n 0, 1) := by decide +kernel
theorem dX12_beans_46 : decode cX12_beans 46 = .ok (.getfield 20, 3) := by decide +kernel
theorem dX12_beans_49 : decode cX12_beans 49 = .ok (.iconst 0, 1) := by decide +kernel
theorem dX12_beans_50 : decode cX12_beans 50 = .ok (.iload_n 1, 1) := by decide +kernel
theorem dX12_beans_51 : decode cX12_beans 51 = .ok (.iadd, 1) := by decide +kernel
theorem dX12_beans_52 : decode cX12_beans 52 = .ok (.iaload, 1) := by decide +kernel
theorem dX12_beans_53 : decode cX12_beans 53 = .ok (.istore_n 3, 1) := by decide +kernel
theorem dX12_beans_54 : decode cX12_beans 54 = .ok (.aload_n 0, 1) := by decide +kernel
theorem dX12_beans_55 : decode cX12_beans 55 = .ok (.getfield 20, 3) := by decide +kernel
theorem dX12_beans_58 : decode cX12_beans 58 = .ok (.iconst 0, 1) := by decide +kernel
theorem dX12_beans_59 : decode cX12_beans 59 = .ok (.iload_n 1, 1) := by decide +kernel
theorem dX12_beans_60 : decode cX12_beans 60 = .ok (.iadd, 1) := by decide +kernel
theorem dX12_beans_61 : decode cX12_beans 61 = .ok (.iload_n 2, 1) := by decide +kernel
theorem dX12_beans_62 : decode cX12_beans 62 = .ok (.iastore, 1) := by decide +kernel
theorem dX12_beans_63 : decode cX12_beans 63 = .ok (.aload_n 0, 1) := by decide +kernel
theorem dX12_beans_64 : decode cX12_beans 64 = .ok (.invokevirtual 153, 3) := by decide +kernel
theorem dX12_beans_67 : decode cX12_beans 67 = .ok (.aload_n 0, 1) := by decide +kernel
theorem dX12_beans_68 : decode cX12_beans 68 = .ok (.iload_n 3, 1) := by decide +kernel
theorem dX12_beans_69 : decode cX12_beans 69 = .ok (.invokevirtual 146, 3) := by decide +kernel
theorem dX12_beans_72 : decode cX12_beans 72 = .ok (.ireturn, 1) := by decide +kernel
theorem dX12_beans_39 : decode cX12_beans 39 = .ok (.aload_n 0, 1) := by decide +kernel
theorem dX12_beans_40 : decode cX12_beans 40 = .ok (.iconst (-1), 1) := by decide +kernel
theorem dX12_beans_41 : decode cX12_beans 41 = .ok (.invokevirtual 142, 3) := by decide +kernel
theorem dX12_beans_44 : decode cX12_beans 44 = .ok (.ireturn, 1) := by decide +kernel
theorem dX12_terms_0 : decode cX12_terms 0 = .ok (.iload_n 1, 1) := by decide +kernel
theorem dX12_terms_1 : decode cX12_terms 1 = .ok (.iconst 0, 1) := by decide +kernel
theorem dX12_terms_2 : decode cX12_terms 2 = .ok (.iconst 1, 1) := by decide +kernel
theorem dX12_terms_3 : decode cX12_terms 3 = .ok (.invokestatic 138, 3) := by decide +kernel
theorem dX12_terms_6 : decode cX12_terms 6 = .ok (.ifCond .eq 21, 3) := by decide +kernel
theorem dX12_terms_9 : decode cX12_terms 9 = .ok (.iload_n 2, 1) := by decide +kernel
theorem dX12_terms_10 : decode cX12_terms 10 = .ok (.iconst 0, 1) := by decide +kernel
theorem dX12_terms_11 : decode cX12_terms 11 = .ok (.iload_n 1, 1) := by decide +kernel
theorem dX12_terms_12 : decode cX12_terms 12 = .ok (.ifCond .ne 7, 3) := by decide +kernel
theorem dX12_terms_19 : decode cX12_terms 19 = .ok (.bipush 99, 2) := by decide +kernel
theorem dX12_terms_21 : decode cX12_terms 21 = .ok (.invokestatic 138, 3) := by decide +kernel
theorem dX12_terms_24 : decode cX12_terms 24 = .ok (.ifCond .ne 9, 3) := by decide +kernel
theorem dX12_terms_33 : decode cX12_terms 33 = .ok (.aload_n 0, 1) := by decide +kernel
theorem dX12_terms_34 : decode cX12_terms 34 = .ok (.getfield 20, 3) := by decide +kernel
theorem dX12_terms_37 : decode cX12_terms 37 = .ok (.iconst 5, 1) := by decide +kernel
theorem dX12_terms_38 : decode cX12_terms 38 = .ok (.iload_n 1, 1) := by decide +kernel
theorem dX12_terms_39 : decode cX12_terms 39 = .ok (.iadd, 1) := by decide +kernel
theorem dX12_terms_40 : decode cX12_terms 40 = .ok (.iaload, 1) := by decide +kernel
theorem dX12_terms_41 : decode cX12_terms 41 = .ok (.istore_n 3, 1) := by decide +kernel
theorem dX12_terms_42 : decode cX12_terms 42 = .ok (.aload_n 0, 1) := by decide +kernel
theorem dX12_terms_43 : decode cX12_terms 43 = .ok (.getfield 20, 3) := by decide +kernel
theorem dX12_terms_46 : decode cX12_terms 46 = .ok (.iconst 5, 1) := by decide +kernel
theorem dX12_terms_47 : decode cX12_terms 47 = .ok (.iload_n 1, 1) := by decide +kernel
theorem dX12_terms_48 : decode cX12_terms 48 = .ok (.iadd, 1) := by decide +kernel
theorem dX12_terms_49 : decode cX12_terms 49 = .ok (.iload_n 2, 1) := by decide +kernel
theorem dX12_terms_50 : decode cX12_terms 50 = .ok (.iastore, 1) := by decide +kernel
theorem dX12_terms_51 : decode cX12_terms 51 = .ok (.aload_n 0, 1) := by decide +kernel
theorem dX12_terms_52 : decode cX12_terms 52 = .ok (.iload_n 3, 1) := by decide +kernel
theorem dX12_terms_53 : decode cX12_terms 53 = .ok (.invokevirtual 146, 3) := by decide +kernel
theorem dX12_terms_56 : decode cX12_terms 56 = .ok (.ireturn, 1) := by decide +kernel
theorem dX12_terms_27 : decode cX12_terms 27 = .ok (.aload_n 0, 1) := by decide +kernel
theorem dX12_terms_28 : decode cX12_terms 28 = .ok (.iconst (-1), 1) := by decide +kernel
theorem dX12_terms_29 : decode cX12_terms 29 = .ok (.invokevirtual 142, 3) := by decide +kernel
theorem dX12_terms_32 : decode cX12_terms 32 = .ok (.ireturn, 1) := by decide +kernel
theorem dX12_terms_15 : decode cX12_terms 15 = .ok (.iconst 1, 1) := by decide +kernel
theorem dX12_terms_16 : decode cX12_terms 16 = .ok (.goto 5, 3) := by decide +kernel
theorem dX12_force_0 : decode cX12_force 0 = .ok (.iload_n 1, 1) := by decide +kernel
theorem dX12_force_1 : decode cX12_force 1 = .ok (.iconst (-1), 1) := by decide +kernel
theorem dX12_force_2 : decode cX12_force 2 = .ok (.aload_n 0, 1) := by decide +kernel
theorem dX12_force_3 : decode cX12_force 3 = .ok (.getfield 20, 3) := by decide +kernel
theorem dX12_force_6 : decode cX12_force 6 = .ok (.bipush 62, 2) := by decide +kernel
theorem dX12_force_8 : decode cX12_force 8 = .ok (.iaload, 1) := by decide +kernel
theorem dX12_force_9 : decode cX12_force 9 = .ok (.iconst 1, 1) := by decide +kernel
theorem dX12_force_10 : decode cX12_force 10 = .ok (.isub, 1) := by decide +kernel
theorem dX12_force_11 : decode cX12_force 11 = .ok (.invokestatic 138, 3) := by decide +kernel
theorem dX12_force_14 : decode cX12_force 14 = .ok (.ifCond .ne 10, 3) := by decide +kernel
theorem dX12_force_24 : decode cX12_force 24 = .ok (.aload_n 0, 1) := by decide +kernel
theorem dX12_force_25 : decode cX12_force 25 = .ok (.getfield 20, 3) := by decide +kernel
theorem dX12_force_28 : decode cX12_force 28 = .ok (.bipush 63, 2) := by decide +kernel
theorem dX12_force_30 : decode cX12_force 30 = .ok (.iaload, 1) := by decide +kernel
theorem dX12_force_31 : decode cX12_force 31 = .ok (.istore_n 2, 1) := by decide +kernel
theorem dX12_force_32 : decode cX12_force 32 = .ok (.aload_n 0, 1) := by decide +kernel
theorem dX12_force_33 : decode cX12_force 33 = .ok (.getfield 20, 3) := by decide +kernel
theorem dX12_force_36 : decode cX12_force 36 = .ok (.bipush 63, 2) := by decide +kernel
theorem dX12_force_38 : decode cX12_force 38 = .ok (.iload_n 1, 1) := by decide +kernel
theorem dX12_force_39 : decode cX12_force 39 = .ok (.iastore, 1) := by decide +kernel
theorem dX12_force_40 : decode cX12_force 40 = .ok (.aload_n 0, 1) := by decide +kernel
theorem dX12_force_41 : decode cX12_force 41 = .ok (.iload_n 2, 1) := by decide +kernel
theorem dX12_force_42 : decode cX12_force 42 = .ok (.invokevirtual 146, 3) := by decide +kernel
theorem dX12_force_45 : decode cX12_force 45 = .ok (.ireturn, 1) := by decide +kernel
theorem dX12_force_17 : decode cX12_force 17 = .ok (.aload_n 0, 1) := by decide +kernel
theorem dX12_force_18 : decode cX12_force 18 = .ok (.bipush (-2), 2) := by decide +kernel
theorem dX12_force_20 : decode cX12_force 20 = .ok (.invokevirtual 142, 3) := by decide +kernel
theorem dX12_force_23 : decode cX12_force 23 = .ok (.ireturn, 1) := by decide +kernel
theorem dX12_keep_0 : decode cX12_keep 0 = .ok (.aload_n 0, 1) := by decide +kernel
theorem dX12_keep_1 : decode cX12_keep 1 = .ok (.getfield 20, 3) := by decide +kernel
theorem dX12_keep_4 : decode cX12_keep 4 = .ok (.bipush 60, 2) := by decide +kernel
theorem dX12_keep_6 : decode cX12_keep 6 = .ok (.iaload, 1) := by decide +kernel
theorem dX12_keep_7 : decode cX12_keep 7 = .ok (.istore_n 2, 1) := by decide +kernel
theorem dX12_keep_8 : decode cX12_keep 8 = .ok (.iload_n 1, 1) := by decide +kernel
theorem dX12_keep_9 : decode cX12_keep 9 = .ok (.iconst 0, 1) := by decide +kernel
theorem dX12_keep_10 : decode cX12_keep 10 = .ok (.iload_n 2, 1) := by decide +kernel
theorem dX12_keep_11 : decode cX12_keep 11 = .ok (.invokestatic 138, 3) := by decide +kernel
theorem dX12_keep_14 : decode cX12_keep 14 = .ok (.ifCond .ne 9, 3) := by decide +kernel
theorem dX12_keep_23 : decode cX12_keep 23 = .ok (.aload_n 0, 1) := by decide +kernel
theorem dX12_keep_24 : decode cX12_keep 24 = .ok (.getfield 20, 3) := by decide +kernel
theorem dX12_keep_27 : decode cX12_keep 27 = .ok (.bipush 60, 2) := by decide +kernel
theorem dX12_keep_29 : decode cX12_keep 29 = .ok (.iload_n 1, 1) := by decide +kernel
theorem dX12_keep_30 : decode cX12_keep 30 = .ok (.iastore, 1) := by decide +kernel
theorem dX12_keep_31 : decode cX12_keep 31 = .ok (.aload_n 0, 1) := by decide +kernel
theorem dX12_keep_32 : decode cX12_keep 32 = .ok (.iload_n 2, 1) := by decide +kernel
theorem dX12_keep_33 : decode cX12_keep 33 = .ok (.invokevirtual 146, 3) := by decide +kernel
theorem dX12_keep_36 : decode cX12_keep 36 = .ok (.ireturn, 1) := by decide +kernel
theorem dX12_keep_17 : decode cX12_keep 17 = .ok (.aload_n 0, 1) := by decide +kernel
theorem dX12_keep_18 : decode cX12_keep 18 = .ok (.iconst (-1), 1) := by decide +kernel
theorem dX12_keep_19 : decode cX12_keep 19 = .ok (.invokevirtual 142, 3) := by decide +kernel
theorem dX12_keep_22 : decode cX12_keep 22 = .ok (.ireturn, 1) := by decide +kernel
theorem dX12_forget_0 : decode cX12_forget 0 = .ok (.aload_n 0, 1) := by decide +kernel
theorem dX12_forget_1 : decode cX12_forget 1 = .ok (.getfield 20, 3) := by decide +kernel
theorem dX12_forget_4 : decode cX12_forget 4 = .ok (.bipush 61, 2) := by decide +kernel
theorem dX12_forget_6 : decode cX12_forget 6 = .ok (.iaload, 1) := by decide +kernel
theorem dX12_forget_7 : decode cX12_forget 7 = .ok (.istore_n 1, 1) := by decide +kernel
theorem dX12_forget_8 : decode cX12_forget 8 = .ok (.aload_n 0, 1) := by decide +kernel
theorem dX12_forget_9 : decode cX12_forget 9 = .ok (.getfield 20, 3) := by decide +kernel
theorem dX12_forget_12 : decode cX12_forget 12 = .ok (.bipush 61, 2) := by decide +kernel
theorem dX12_forget_14 : decode cX12_forget 14 = .ok (.iconst 0, 1) := by decide +kernel
theorem dX12_forget_15 : decode cX12_forget 15 = .ok (.iastore, 1) := by decide +kernel
theorem dX12_forget_16 : decode cX12_forget 16 = .ok (.aload_n 0, 1) := by decide +kernel
theorem dX12_forget_17 : decode cX12_forget 17 = .ok (.dup, 1) := by decide +kernel
theorem dX12_forget_18 : decode cX12_forget 18 = .ok (.getfield 11, 3) := by decide +kernel
theorem dX12_forget_21 : decode cX12_forget 21 = .ok (.iconst 1, 1) := by decide +kernel
theorem dX12_forget_22 : decode cX12_forget 22 = .ok (.iadd, 1) := by decide +kernel
theorem dX12_forget_23 : decode cX12_forget 23 = .ok (.putfield 11, 3) := by decide +kernel
theorem dX12_forget_26 : decode cX12_forget 26 = .ok (.iload_n 1, 1) := by decide +kernel
theorem dX12_forget_27 : decode cX12_forget 27 = .ok (.ireturn, 1) := by decide +kernel
theorem dX12_swapIf_0 : decode cX12_swapIf 0 = .ok (.iload_n 1, 1) := by decide +kernel
theorem dX12_swapIf_1 : decode cX12_swapIf 1 = .ok (.ifCond .lt 16, 3) := by decide +kernel
theorem dX12_swapIf_17 : decode cX12_swapIf 17 = .ok (.aload_n 0, 1) := by decide +kernel
theorem dX12_swapIf_18 : decode cX12_swapIf 18 = .ok (.iconst (-1), 1) := by decide +kernel
theorem dX12_swapIf_19 : decode cX12_swapIf 19 = .ok (.invokevirtual 142, 3) := by decide +kernel
theorem dX12_swapIf_22 : decode cX12_swapIf 22 = .ok (.ireturn, 1) := by decide +kernel
theorem dX12_swapIf_4 : decode cX12_swapIf 4 = .ok (.iload_n 2, 1) := by decide +kernel
theorem dX12_swapIf_5 : decode cX12_swapIf 5 = .ok (.iload_n 1, 1) := by decide +kernel
theorem dX12_swapIf_6 : decode cX12_swapIf 6 = .ok (.if_icmp .le 11, 3) := by decide +kernel
theorem dX12_swapIf_9 : decode cX12_swapIf 9 = .ok (.iload_n 2, 1) := by decide +kernel
theorem dX12_swapIf_10 : decode cX12_swapIf 10 = .ok (.aload_n 0, 1) := by decide +kernel
theorem dX12_swapIf_11 : decode cX12_swapIf 11 = .ok (.invokevirtual 149, 3) := by decide +kernel
theorem dX12_swapIf_14 : decode cX12_swapIf 14 = .ok (.if_icmp .lt 9, 3) := by decide +kernel
theorem dX12_swapIf_23 : decode cX12_swapIf 23 = .ok (.aload_n 0, 1) := by decide +kernel
theorem dX12_swapIf_24 : decode cX12_swapIf 24 = .ok (.getfield 20, 3) := by decide +kernel
theorem dX12_swapIf_27 : decode cX12_swapIf 27 = .ok (.bipush 60, 2) := by decide +kernel
theorem dX12_swapIf_29 : decode cX12_swapIf 29 = .ok (.iaload, 1) := by decide +kernel
theorem dX12_swapIf_30 : decode cX12_swapIf 30 = .ok (.istore_n 3, 1) := by decide +kernel
theorem dX12_swapIf_31 : decode cX12_swapIf 31 = .ok (.iload_n 3, 1) := by decide +kernel
theorem dX12_swapIf_32 : decode cX12_swapIf 32 = .ok (.bipush 12, 2) := by decide +kernel
theorem dX12_swapIf_34 : decode cX12_swapIf 34 = .ok (.if_icmp .ne 10, 3) := by decide +kernel
theorem dX12_swapIf_44 : decode cX12_swapIf 44 = .ok (.aload_n 0, 1) := by decide +kernel
theorem dX12_swapIf_45 : decode cX12_swapIf 45 = .ok (.getfield 20, 3) := by decide +kernel
theorem dX12_swapIf_48 : decode cX12_swapIf 48 = .ok (.bipush 23, 2) := by decide +kernel
theorem dX12_swapIf_50 : decode cX12_swapIf 50 = .ok (.iconst 2, 1) := by decide +kernel
theorem dX12_swapIf_51 : decode cX12_swapIf 51 = .ok (.iload_n 3, 1) := by decide +kernel
theorem dX12_swapIf_52 : decode cX12_swapIf 52 = .ok (.imul, 1) := by decide +kernel
theorem dX12_swapIf_53 : decode cX12_swapIf 53 = .ok (.iadd, 1) := by decide +kernel
theorem dX12_swapIf_54 : decode cX12_swapIf 54 = .ok (.iload_n 1, 1) := by decide +kernel
theorem dX12_swapIf_55 : decode cX12_swapIf 55 = .ok (.iastore, 1) := by decide +kernel
theorem dX12_swapIf_56 : decode cX12_swapIf 56 = .ok (.aload_n 0, 1) := by decide +kernel
theorem dX12_swapIf_57 : decode cX12_swapIf 57 = .ok (.getfield 20, 3) := by decide +kernel
theorem dX12_swapIf_60 : decode cX12_swapIf 60 = .ok (.bipush 23, 2) := by decide +kernel
theorem dX12_swapIf_62 : decode cX12_swapIf 62 = .ok (.iconst 2, 1) := by decide +kernel
theorem dX12_swapIf_63 : decode cX12_swapIf 63 = .ok (.iload_n 3, 1) := by decide +kernel
theorem dX12_swapIf_64 : decode cX12_swapIf 64 = .ok (.imul, 1) := by decide +kernel
theorem dX12_swapIf_65 : decode cX12_swapIf 65 = .ok (.iadd, 1) := by decide +kernel
theorem dX12_swapIf_66 : decode cX12_swapIf 66 = .ok (.iconst 1, 1) := by decide +kernel
theorem dX12_swapIf_67 : decode cX12_swapIf 67 = .ok (.iadd, 1) := by decide +kernel
theorem dX12_swapIf_68 : decode cX12_swapIf 68 = .ok (.iload_n 2, 1) := by decide +kernel
theorem dX12_swapIf_69 : decode cX12_swapIf 69 = .ok (.iastore, 1) := by decide +kernel
theorem dX12_swapIf_70 : decode cX12_swapIf 70 = .ok (.aload_n 0, 1) := by decide +kernel
theorem dX12_swapIf_71 : decode cX12_swapIf 71 = .ok (.getfield 20, 3) := by decide +kernel
theorem dX12_swapIf_74 : decode cX12_swapIf 74 = .ok (.bipush 60, 2) := by decide +kernel
theorem dX12_swapIf_76 : decode cX12_swapIf 76 = .ok (.dup2, 1) := by decide +kernel
theorem dX12_swapIf_77 : decode cX12_swapIf 77 = .ok (.iaload, 1) := by decide +kernel
theorem dX12_swapIf_78 : decode cX12_swapIf 78 = .ok (.iconst 1, 1) := by decide +kernel
theorem dX12_swapIf_79 : decode cX12_swapIf 79 = .ok (.iadd, 1) := by decide +kernel
theorem dX12_swapIf_80 : decode cX12_swapIf 80 = .ok (.iastore, 1) := by decide +kernel
theorem dX12_swapIf_81 : decode cX12_swapIf 81 = .ok (.aload_n 0, 1) := by decide +kernel
theorem dX12_swapIf_82 : decode cX12_swapIf 82 = .ok (.iload_n 3, 1) := by decide +kernel
theorem dX12_swapIf_83 : decode cX12_swapIf 83 = .ok (.iconst 1, 1) := by decide +kernel
theorem dX12_swapIf_84 : decode cX12_swapIf 84 = .ok (.iadd, 1) := by decide +kernel
theorem dX12_swapIf_85 : decode cX12_swapIf 85 = .ok (.invokevirtual 146, 3) := by decide +kernel
theorem dX12_swapIf_88 : decode cX12_swapIf 88 = .ok (.ireturn, 1) := by decide +kernel
theorem dX12_swapIf_37 : decode cX12_swapIf 37 = .ok (.aload_n 0, 1) := by decide +kernel
theorem dX12_swapIf_38 : decode cX12_swapIf 38 = .ok (.bipush (-5), 2) := by decide +kernel
theorem dX12_swapIf_40 : decode cX12_swapIf 40 = .ok (.invokevirtual 142, 3) := by decide +kernel
theorem dX12_swapIf_43 : decode cX12_swapIf 43 = .ok (.ireturn, 1) := by decide +kernel
theorem dX12_clue_0 : decode cX12_clue 0 = .ok (.iload_n 2, 1) := by decide +kernel
theorem dX12_clue_1 : decode cX12_clue 1 = .ok (.iconst (-1), 1) := by decide +kernel
theorem dX12_clue_2 : decode cX12_clue 2 = .ok (.if_icmp .ge 9, 3) := by decide +kernel
theorem dX12_clue_11 : decode cX12_clue 11 = .ok (.aload_n 0, 1) := by decide +kernel
theorem dX12_clue_12 : decode cX12_clue 12 = .ok (.iload_n 1, 1) := by decide +kernel
theorem dX12_clue_13 : decode cX12_clue 13 = .ok (.invokevirtual 325, 3) := by decide +kernel
theorem dX12_clue_16 : decode cX12_clue 16 = .ok (.ifCond .ne 10, 3) := by decide +kernel
theorem dX12_clue_26 : decode cX12_clue 26 = .ok (.aload_n 0, 1) := by decide +kernel
theorem dX12_clue_27 : decode cX12_clue 27 = .ok (.getfield 20, 3) := by decide +kernel
theorem dX12_clue_30 : decode cX12_clue 30 = .ok (.bipush 61, 2) := by decide +kernel
theorem dX12_clue_32 : decode cX12_clue 32 = .ok (.iaload, 1) := by decide +kernel
theorem dX12_clue_33 : decode cX12_clue 33 = .ok (.istore_n 3, 1) := by decide +kernel
theorem dX12_clue_34 : decode cX12_clue 34 = .ok (.iload_n 3, 1) := by decide +kernel
theorem dX12_clue_35 : decode cX12_clue 35 = .ok (.bipush 6, 2) := by decide +kernel
theorem dX12_clue_37 : decode cX12_clue 37 = .ok (.if_icmp .ne 10, 3) := by decide +kernel
theorem dX12_clue_47 : decode cX12_clue 47 = .ok (.aload_n 0, 1) := by decide +kernel
theorem dX12_clue_48 : decode cX12_clue 48 = .ok (.getfield 20, 3) := by decide +kernel
theorem dX12_clue_51 : decode cX12_clue 51 = .ok (.bipush 47, 2) := by decide +kernel
theorem dX12_clue_53 : decode cX12_clue 53 = .ok (.iconst 2, 1) := by decide +kernel
theorem dX12_clue_54 : decode cX12_clue 54 = .ok (.iload_n 3, 1) := by decide +kernel
theorem dX12_clue_55 : decode cX12_clue 55 = .ok (.imul, 1) := by decide +kernel
theorem dX12_clue_56 : decode cX12_clue 56 = .ok (.iadd, 1) := by decide +kernel
theorem dX12_clue_57 : decode cX12_clue 57 = .ok (.iload_n 1, 1) := by decide +kernel
theorem dX12_clue_58 : decode cX12_clue 58 = .ok (.iastore, 1) := by decide +kernel
theorem dX12_clue_59 : decode cX12_clue 59 = .ok (.aload_n 0, 1) := by decide +kernel
theorem dX12_clue_60 : decode cX12_clue 60 = .ok (.getfield 20, 3) := by decide +kernel
theorem dX12_clue_63 : decode cX12_clue 63 = .ok (.bipush 47, 2) := by decide +kernel
theorem dX12_clue_65 : decode cX12_clue 65 = .ok (.iconst 2, 1) := by decide +kernel
theorem dX12_clue_66 : decode cX12_clue 66 = .ok (.iload_n 3, 1) := by decide +kernel
theorem dX12_clue_67 : decode cX12_clue 67 = .ok (.imul, 1) := by decide +kernel
theorem dX12_clue_68 : decode cX12_clue 68 = .ok (.iadd, 1) := by decide +kernel
theorem dX12_clue_69 : decode cX12_clue 69 = .ok (.iconst 1, 1) := by decide +kernel
theorem dX12_clue_70 : decode cX12_clue 70 = .ok (.iadd, 1) := by decide +kernel
theorem dX12_clue_71 : decode cX12_clue 71 = .ok (.iload_n 2, 1) := by decide +kernel
theorem dX12_clue_72 : decode cX12_clue 72 = .ok (.iastore, 1) := by decide +kernel
theorem dX12_clue_73 : decode cX12_clue 73 = .ok (.aload_n 0, 1) := by decide +kernel
theorem dX12_clue_74 : decode cX12_clue 74 = .ok (.getfield 20, 3) := by decide +kernel
theorem dX12_clue_77 : decode cX12_clue 77 = .ok (.bipush 61, 2) := by decide +kernel
theorem dX12_clue_79 : decode cX12_clue 79 = .ok (.dup2, 1) := by decide +kernel
theorem dX12_clue_80 : decode cX12_clue 80 = .ok (.iaload, 1) := by decide +kernel
theorem dX12_clue_81 : decode cX12_clue 81 = .ok (.iconst 1, 1) := by decide +kernel
theorem dX12_clue_82 : decode cX12_clue 82 = .ok (.iadd, 1) := by decide +kernel
theorem dX12_clue_83 : decode cX12_clue 83 = .ok (.iastore, 1) := by decide +kernel
theorem dX12_clue_84 : decode cX12_clue 84 = .ok (.aload_n 0, 1) := by decide +kernel
theorem dX12_clue_85 : decode cX12_clue 85 = .ok (.iload_n 3, 1) := by decide +kernel
theorem dX12_clue_86 : decode cX12_clue 86 = .ok (.iconst 1, 1) := by decide +kernel
theorem dX12_clue_87 : decode cX12_clue 87 = .ok (.iadd, 1) := by decide +kernel
theorem dX12_clue_88 : decode cX12_clue 88 = .ok (.invokevirtual 146, 3) := by decide +kernel
theorem dX12_clue_91 : decode cX12_clue 91 = .ok (.ireturn, 1) := by decide +kernel
theorem dX12_clue_40 : decode cX12_clue 40 = .ok (.aload_n 0, 1) := by decide +kernel
theorem dX12_clue_41 : decode cX12_clue 41 = .ok (.bipush (-5), 2) := by decide +kernel
theorem dX12_clue_43 : decode cX12_clue 43 = .ok (.invokevirtual 142, 3) := by decide +kernel
theorem dX12_clue_46 : decode cX12_clue 46 = .ok (.ireturn, 1) := by decide +kernel
theorem dX12_clue_19 : decode cX12_clue 19 = .ok (.aload_n 0, 1) := by decide +kernel
theorem dX12_clue_20 : decode cX12_clue 20 = .ok (.bipush (-2), 2) := by decide +kernel
theorem dX12_clue_22 : decode cX12_clue 22 = .ok (.invokevirtual 142, 3) := by decide +kernel
theorem dX12_clue_25 : decode cX12_clue 25 = .ok (.ireturn, 1) := by decide +kernel
theorem dX12_clue_5 : decode cX12_clue 5 = .ok (.aload_n 0, 1) := by decide +kernel
theorem dX12_clue_6 : decode cX12_clue 6 = .ok (.iconst (-1), 1) := by decide +kernel
theorem dX12_clue_7 : decode cX12_clue 7 = .ok (.invokevirtual 142, 3) := by decide +kernel
theorem dX12_clue_10 : decode cX12_clue 10 = .ok (.ireturn, 1) := by decide +kernel
theorem dX12_wall_0 : decode cX12_wall 0 = .ok (.aload_n 0, 1) := by decide +kernel
theorem dX12_wall_1 : decode cX12_wall 1 = .ok (.iload_n 1, 1) := by decide +kernel
theorem dX12_wall_2 : decode cX12_wall 2 = .ok (.invokevirtual 325, 3) := by decide +kernel
theorem dX12_wall_5 : decode cX12_wall 5 = .ok (.ifCond .eq 11, 3) := by decide +kernel
theorem dX12_wall_8 : decode cX12_wall 8 = .ok (.aload_n 0, 1) := by decide +kernel
theorem dX12_wall_9 : decode cX12_wall 9 = .ok (.iload_n 2, 1) := by decide +kernel
theorem dX12_wall_10 : decode cX12_wall 10 = .ok (.invokevirtual 325, 3) := by decide +kernel
theorem dX12_wall_13 : decode cX12_wall 13 = .ok (.ifCond .ne 10, 3) := by decide +kernel
theorem dX12_wall_23 : decode cX12_wall 23 = .ok (.iload_n 1, 1) := by decide +kernel
theorem dX12_wall_24 : decode cX12_wall 24 = .ok (.iload_n 2, 1) := by decide +kernel
theorem dX12_wall_25 : decode cX12_wall 25 = .ok (.if_icmp .eq 12, 3) := by decide +kernel
theorem dX12_wall_37 : decode cX12_wall 37 = .ok (.aload_n 0, 1) := by decide +kernel
theorem dX12_wall_38 : decode cX12_wall 38 = .ok (.bipush (-3), 2) := by decide +kernel
theorem dX12_wall_40 : decode cX12_wall 40 = .ok (.invokevirtual 142, 3) := by decide +kernel
theorem dX12_wall_43 : decode cX12_wall 43 = .ok (.ireturn, 1) := by decide +kernel
theorem dX12_wall_28 : decode cX12_wall 28 = .ok (.aload_n 0, 1) := by decide +kernel
theorem dX12_wall_29 : decode cX12_wall 29 = .ok (.iload_n 1, 1) := by decide +kernel
theorem dX12_wall_30 : decode cX12_wall 30 = .ok (.iload_n 2, 1) := by decide +kernel
theorem dX12_wall_31 : decode cX12_wall 31 = .ok (.invokevirtual 308, 3) := by decide +kernel
theorem dX12_wall_34 : decode cX12_wall 34 = .ok (.ifCond .eq 10, 3) := by decide +kernel
theorem dX12_wall_44 : decode cX12_wall 44 = .ok (.aload_n 0, 1) := by decide +kernel
theorem dX12_wall_45 : decode cX12_wall 45 = .ok (.getfield 20, 3) := by decide +kernel
theorem dX12_wall_48 : decode cX12_wall 48 = .ok (.bipush 59, 2) := by decide +kernel
theorem dX12_wall_50 : decode cX12_wall 50 = .ok (.iaload, 1) := by decide +kernel
theorem dX12_wall_51 : decode cX12_wall 51 = .ok (.istore_n 3, 1) := by decide +kernel
theorem dX12_wall_52 : decode cX12_wall 52 = .ok (.iload_n 3, 1) := by decide +kernel
theorem dX12_wall_53 : decode cX12_wall 53 = .ok (.bipush 8, 2) := by decide +kernel
theorem dX12_wall_55 : decode cX12_wall 55 = .ok (.if_icmp .ne 10, 3) := by decide +kernel
theorem dX12_wall_65 : decode cX12_wall 65 = .ok (.aload_n 0, 1) := by decide +kernel
theorem dX12_wall_66 : decode cX12_wall 66 = .ok (.getfield 20, 3) := by decide +kernel
theorem dX12_wall_69 : decode cX12_wall 69 = .ok (.bipush 7, 2) := by decide +kernel
theorem dX12_wall_71 : decode cX12_wall 71 = .ok (.iconst 2, 1) := by decide +kernel
theorem dX12_wall_72 : decode cX12_wall 72 = .ok (.iload_n 3, 1) := by decide +kernel
theorem dX12_wall_73 : decode cX12_wall 73 = .ok (.imul, 1) := by decide +kernel
theorem dX12_wall_74 : decode cX12_wall 74 = .ok (.iadd, 1) := by decide +kernel
theorem dX12_wall_75 : decode cX12_wall 75 = .ok (.iload_n 1, 1) := by decide +kernel
theorem dX12_wall_76 : decode cX12_wall 76 = .ok (.iastore, 1) := by decide +kernel
theorem dX12_wall_77 : decode cX12_wall 77 = .ok (.aload_n 0, 1) := by decide +kernel
theorem dX12_wall_78 : decode cX12_wall 78 = .ok (.getfield 20, 3) := by decide +kernel
theorem dX12_wall_81 : decode cX12_wall 81 = .ok (.bipush 7, 2) := by decide +kernel
theorem dX12_wall_83 : decode cX12_wall 83 = .ok (.iconst 2, 1) := by decide +kernel
theorem dX12_wall_84 : decode cX12_wall 84 = .ok (.iload_n 3, 1) := by decide +kernel
theorem dX12_wall_85 : decode cX12_wall 85 = .ok (.imul, 1) := by decide +kernel
theorem dX12_wall_86 : decode cX12_wall 86 = .ok (.iadd, 1) := by decide +kernel
theorem dX12_wall_87 : decode cX12_wall 87 = .ok (.iconst 1, 1) := by decide +kernel
theorem dX12_wall_88 : decode cX12_wall 88 = .ok (.iadd, 1) := by decide +kernel
theorem dX12_wall_89 : decode cX12_wall 89 = .ok (.iload_n 2, 1) := by decide +kernel
theorem dX12_wall_90 : decode cX12_wall 90 = .ok (.iastore, 1) := by decide +kernel
theorem dX12_wall_91 : decode cX12_wall 91 = .ok (.aload_n 0, 1) := by decide +kernel
theorem dX12_wall_92 : decode cX12_wall 92 = .ok (.getfield 20, 3) := by decide +kernel
theorem dX12_wall_95 : decode cX12_wall 95 = .ok (.bipush 59, 2) := by decide +kernel
theorem dX12_wall_97 : decode cX12_wall 97 = .ok (.dup2, 1) := by decide +kernel
theorem dX12_wall_98 : decode cX12_wall 98 = .ok (.iaload, 1) := by decide +kernel
theorem dX12_wall_99 : decode cX12_wall 99 = .ok (.iconst 1, 1) := by decide +kernel
theorem dX12_wall_100 : decode cX12_wall 100 = .ok (.iadd, 1) := by decide +kernel
theorem dX12_wall_101 : decode cX12_wall 101 = .ok (.iastore, 1) := by decide +kernel
theorem dX12_wall_102 : decode cX12_wall 102 = .ok (.aload_n 0, 1) := by decide +kernel
theorem dX12_wall_103 : decode cX12_wall 103 = .ok (.iload_n 3, 1) := by decide +kernel
theorem dX12_wall_104 : decode cX12_wall 104 = .ok (.iconst 1, 1) := by decide +kernel
theorem dX12_wall_105 : decode cX12_wall 105 = .ok (.iadd, 1) := by decide +kernel
theorem dX12_wall_106 : decode cX12_wall 106 = .ok (.invokevirtual 146, 3) := by decide +kernel
theorem dX12_wall_109 : decode cX12_wall 109 = .ok (.ireturn, 1) := by decide +kernel
theorem dX12_wall_58 : decode cX12_wall 58 = .ok (.aload_n 0, 1) := by decide +kernel
theorem dX12_wall_59 : decode cX12_wall 59 = .ok (.bipush (-5), 2) := by decide +kernel
theorem dX12_wall_61 : decode cX12_wall 61 = .ok (.invokevirtual 142, 3) := by decide +kernel
theorem dX12_wall_64 : decode cX12_wall 64 = .ok (.ireturn, 1) := by decide +kernel
theorem dX12_wall_16 : decode cX12_wall 16 = .ok (.aload_n 0, 1) := by decide +kernel
theorem dX12_wall_17 : decode cX12_wall 17 = .ok (.bipush (-2), 2) := by decide +kernel
theorem dX12_wall_19 : decode cX12_wall 19 = .ok (.invokevirtual 142, 3) := by decide +kernel
theorem dX12_wall_22 : decode cX12_wall 22 = .ok (.ireturn, 1) := by decide +kernel
theorem dX12_breach_0 : decode cX12_breach 0 = .ok (.aload_n 0, 1) := by decide +kernel
theorem dX12_breach_1 : decode cX12_breach 1 = .ok (.iload_n 1, 1) := by decide +kernel
theorem dX12_breach_2 : decode cX12_breach 2 = .ok (.invokevirtual 325, 3) := by decide +kernel
theorem dX12_breach_5 : decode cX12_breach 5 = .ok (.ifCond .eq 11, 3) := by decide +kernel
theorem dX12_breach_8 : decode cX12_breach 8 = .ok (.aload_n 0, 1) := by decide +kernel
theorem dX12_breach_9 : decode cX12_breach 9 = .ok (.iload_n 2, 1) := by decide +kernel
theorem dX12_breach_10 : decode cX12_breach 10 = .ok (.invokevirtual 325, 3) := by decide +kernel
theorem dX12_breach_13 : decode cX12_breach 13 = .ok (.ifCond .ne 10, 3) := by decide +kernel
theorem dX12_breach_23 : decode cX12_breach 23 = .ok (.iload_n 1, 1) := by decide +kernel
theorem dX12_breach_24 : decode cX12_breach 24 = .ok (.iload_n 2, 1) := by decide +kernel
theorem dX12_breach_25 : decode cX12_breach 25 = .ok (.if_icmp .eq 12, 3) := by decide +kernel
theorem dX12_breach_37 : decode cX12_breach 37 = .ok (.aload_n 0, 1) := by decide +kernel
theorem dX12_breach_38 : decode cX12_breach 38 = .ok (.bipush (-3), 2) := by decide +kernel
theorem dX12_breach_40 : decode cX12_breach 40 = .ok (.invokevirtual 142, 3) := by decide +kernel
theorem dX12_breach_43 : decode cX12_breach 43 = .ok (.ireturn, 1) := by decide +kernel
theorem dX12_breach_28 : decode cX12_breach 28 = .ok (.aload_n 0, 1) := by decide +kernel
theorem dX12_breach_29 : decode cX12_breach 29 = .ok (.iload_n 1, 1) := by decide +kernel
theorem dX12_breach_30 : decode cX12_breach 30 = .ok (.iload_n 2, 1) := by decide +kernel
theorem dX12_breach_31 : decode cX12_breach 31 = .ok (.invokevirtual 308, 3) := by decide +kernel
theorem dX12_breach_34 : decode cX12_breach 34 = .ok (.ifCond .ne 10, 3) := by decide +kernel
theorem dX12_breach_44 : decode cX12_breach 44 = .ok (.iconst 0, 1) := by decide +kernel
theorem dX12_breach_45 : decode cX12_breach 45 = .ok (.istore_n 3, 1) := by decide +kernel
theorem dX12_breach_46 : decode cX12_breach 46 = .ok (.iconst 0, 1) := by decide +kernel
theorem dX12_breach_47 : decode cX12_breach 47 = .ok (.istore 4, 2) := by decide +kernel
theorem dX12_breach_49 : decode cX12_breach 49 = .ok (.iload 4, 2) := by decide +kernel
theorem dX12_breach_51 : decode cX12_breach 51 = .ok (.aload_n 0, 1) := by decide +kernel
theorem dX12_breach_52 : decode cX12_breach 52 = .ok (.getfield 20, 3) := by decide +kernel
theorem dX12_breach_55 : decode cX12_breach 55 = .ok (.bipush 59, 2) := by decide +kernel
theorem dX12_breach_57 : decode cX12_breach 57 = .ok (.iaload, 1) := by decide +kernel
theorem dX12_breach_58 : decode cX12_breach 58 = .ok (.if_icmp .ge 97, 3) := by decide +kernel
theorem dX12_breach_155 : decode cX12_breach 155 = .ok (.aload_n 0, 1) := by decide +kernel
theorem dX12_breach_156 : decode cX12_breach 156 = .ok (.getfield 20, 3) := by decide +kernel
theorem dX12_breach_159 : decode cX12_breach 159 = .ok (.bipush 59, 2) := by decide +kernel
theorem dX12_breach_161 : decode cX12_breach 161 = .ok (.iload_n 3, 1) := by decide +kernel
theorem dX12_breach_162 : decode cX12_breach 162 = .ok (.iastore, 1) := by decide +kernel
theorem dX12_breach_163 : decode cX12_breach 163 = .ok (.aload_n 0, 1) := by decide +kernel
theorem dX12_breach_164 : decode cX12_breach 164 = .ok (.iload_n 3, 1) := by decide +kernel
theorem dX12_breach_165 : decode cX12_breach 165 = .ok (.invokevirtual 146, 3) := by decide +kernel
theorem dX12_breach_168 : decode cX12_breach 168 = .ok (.ireturn, 1) := by decide +kernel
theorem dX12_breach_61 : decode cX12_breach 61 = .ok (.aload_n 0, 1) := by decide +kernel
theorem dX12_breach_62 : decode cX12_breach 62 = .ok (.getfield 20, 3) := by decide +kernel
theorem dX12_breach_65 : decode cX12_breach 65 = .ok (.bipush 7, 2) := by decide +kernel
theorem dX12_breach_67 : decode cX12_breach 67 = .ok (.iconst 2, 1) := by decide +kernel
theorem dX12_breach_68 : decode cX12_breach 68 = .ok (.iload 4, 2) := by decide +kernel
theorem dX12_breach_70 : decode cX12_breach 70 = .ok (.imul, 1) := by decide +kernel
theorem dX12_breach_71 : decode cX12_breach 71 = .ok (.iadd, 1) := by decide +kernel
theorem dX12_breach_72 : decode cX12_breach 72 = .ok (.iaload, 1) := by decide +kernel
theorem dX12_breach_73 : decode cX12_breach 73 = .ok (.istore 5, 2) := by decide +kernel
theorem dX12_breach_75 : decode cX12_breach 75 = .ok (.aload_n 0, 1) := by decide +kernel
theorem dX12_breach_76 : decode cX12_breach 76 = .ok (.getfield 20, 3) := by decide +kernel
theorem dX12_breach_79 : decode cX12_breach 79 = .ok (.bipush 7, 2) := by decide +kernel
theorem dX12_breach_81 : decode cX12_breach 81 = .ok (.iconst 2, 1) := by decide +kernel
theorem dX12_breach_82 : decode cX12_breach 82 = .ok (.iload 4, 2) := by decide +kernel
theorem dX12_breach_84 : decode cX12_breach 84 = .ok (.imul, 1) := by decide +kernel
theorem dX12_breach_85 : decode cX12_breach 85 = .ok (.iadd, 1) := by decide +kernel
theorem dX12_breach_86 : decode cX12_breach 86 = .ok (.iconst 1, 1) := by decide +kernel
theorem dX12_breach_87 : decode cX12_breach 87 = .ok (.iadd, 1) := by decide +kernel
theorem dX12_breach_88 : decode cX12_breach 88 = .ok (.iaload, 1) := by decide +kernel
theorem dX12_breach_89 : decode cX12_breach 89 = .ok (.istore 6, 2) := by decide +kernel
theorem dX12_breach_91 : decode cX12_breach 91 = .ok (.iload 5, 2) := by decide +kernel
theorem dX12_breach_93 : decode cX12_breach 93 = .ok (.iload_n 1, 1) := by decide +kernel
theorem dX12_breach_94 : decode cX12_breach 94 = .ok (.if_icmp .ne 9, 3) := by decide +kernel
theorem dX12_breach_103 : decode cX12_breach 103 = .ok (.iload 5, 2) := by decide +kernel
theorem dX12_breach_105 : decode cX12_breach 105 = .ok (.iload_n 2, 1) := by decide +kernel
theorem dX12_breach_106 : decode cX12_breach 106 = .ok (.if_icmp .ne 12, 3) := by decide +kernel
theorem dX12_breach_118 : decode cX12_breach 118 = .ok (.aload_n 0, 1) := by decide +kernel
theorem dX12_breach_119 : decode cX12_breach 119 = .ok (.getfield 20, 3) := by decide +kernel
theorem dX12_breach_122 : decode cX12_breach 122 = .ok (.bipush 7, 2) := by decide +kernel
theorem dX12_breach_124 : decode cX12_breach 124 = .ok (.iconst 2, 1) := by decide +kernel
theorem dX12_breach_125 : decode cX12_breach 125 = .ok (.iload_n 3, 1) := by decide +kernel
theorem dX12_breach_126 : decode cX12_breach 126 = .ok (.imul, 1) := by decide +kernel
theorem dX12_breach_127 : decode cX12_breach 127 = .ok (.iadd, 1) := by decide +kernel
theorem dX12_breach_128 : decode cX12_breach 128 = .ok (.iload 5, 2) := by decide +kernel
theorem dX12_breach_130 : decode cX12_breach 130 = .ok (.iastore, 1) := by decide +kernel
theorem dX12_breach_131 : decode cX12_breach 131 = .ok (.aload_n 0, 1) := by decide +kernel
theorem dX12_breach_132 : decode cX12_breach 132 = .ok (.getfield 20, 3) := by decide +kernel
theorem dX12_breach_135 : decode cX12_breach 135 = .ok (.bipush 7, 2) := by decide +kernel
theorem dX12_breach_137 : decode cX12_breach 137 = .ok (.iconst 2, 1) := by decide +kernel
theorem dX12_breach_138 : decode cX12_breach 138 = .ok (.iload_n 3, 1) := by decide +kernel
theorem dX12_breach_139 : decode cX12_breach 139 = .ok (.imul, 1) := by decide +kernel
theorem dX12_breach_140 : decode cX12_breach 140 = .ok (.iadd, 1) := by decide +kernel
theorem dX12_breach_141 : decode cX12_breach 141 = .ok (.iconst 1, 1) := by decide +kernel
theorem dX12_breach_142 : decode cX12_breach 142 = .ok (.iadd, 1) := by decide +kernel
theorem dX12_breach_143 : decode cX12_breach 143 = .ok (.iload 6, 2) := by decide +kernel
theorem dX12_breach_145 : decode cX12_breach 145 = .ok (.iastore, 1) := by decide +kernel
theorem dX12_breach_146 : decode cX12_breach 146 = .ok (.iinc 3 1, 3) := by decide +kernel
theorem dX12_breach_149 : decode cX12_breach 149 = .ok (.iinc 4 1, 3) := by decide +kernel
theorem dX12_breach_152 : decode cX12_breach 152 = .ok (.goto (-103), 3) := by decide +kernel
theorem dX12_breach_109 : decode cX12_breach 109 = .ok (.iload 6, 2) := by decide +kernel
theorem dX12_breach_111 : decode cX12_breach 111 = .ok (.iload_n 1, 1) := by decide +kernel
theorem dX12_breach_112 : decode cX12_breach 112 = .ok (.if_icmp .ne 6, 3) := by decide +kernel
theorem dX12_breach_115 : decode cX12_breach 115 = .ok (.goto 34, 3) := by decide +kernel
theorem dX12_breach_97 : decode cX12_breach 97 = .ok (.iload 6, 2) := by decide +kernel
theorem dX12_breach_99 : decode cX12_breach 99 = .ok (.iload_n 2, 1) := by decide +kernel
theorem dX12_breach_100 : decode cX12_breach 100 = .ok (.if_icmp .eq 49, 3) := by decide +kernel
theorem dX12_breach_16 : decode cX12_breach 16 = .ok (.aload_n 0, 1) := by decide +kernel
theorem dX12_breach_17 : decode cX12_breach 17 = .ok (.bipush (-2), 2) := by decide +kernel
theorem dX12_breach_19 : decode cX12_breach 19 = .ok (.invokevirtual 142, 3) := by decide +kernel
theorem dX12_breach_22 : decode cX12_breach 22 = .ok (.ireturn, 1) := by decide +kernel
theorem dX12_end_0 : decode cX12_end 0 = .ok (.iload_n 1, 1) := by decide +kernel
theorem dX12_end_1 : decode cX12_end 1 = .ok (.iconst 0, 1) := by decide +kernel
theorem dX12_end_2 : decode cX12_end 2 = .ok (.aload_n 0, 1) := by decide +kernel
theorem dX12_end_3 : decode cX12_end 3 = .ok (.getfield 156, 3) := by decide +kernel
theorem dX12_end_6 : decode cX12_end 6 = .ok (.invokestatic 138, 3) := by decide +kernel
theorem dX12_end_9 : decode cX12_end 9 = .ok (.ifCond .ne 5, 3) := by decide +kernel
theorem dX12_end_14 : decode cX12_end 14 = .ok (.aload_n 0, 1) := by decide +kernel
theorem dX12_end_15 : decode cX12_end 15 = .ok (.iload_n 1, 1) := by decide +kernel
theorem dX12_end_16 : decode cX12_end 16 = .ok (.putfield 156, 3) := by decide +kernel
theorem dX12_end_19 : decode cX12_end 19 = .ok (.iload_n 1, 1) := by decide +kernel
theorem dX12_end_20 : decode cX12_end 20 = .ok (.ireturn, 1) := by decide +kernel
theorem dX12_end_12 : decode cX12_end 12 = .ok (.iconst (-1), 1) := by decide +kernel
theorem dX12_end_13 : decode cX12_end 13 = .ok (.ireturn, 1) := by decide +kernel
theorem dX12_feed_0 : decode cX12_feed 0 = .ok (.aload_n 0, 1) := by decide +kernel
theorem dX12_feed_1 : decode cX12_feed 1 = .ok (.getfield 156, 3) := by decide +kernel
theorem dX12_feed_4 : decode cX12_feed 4 = .ok (.bipush 20, 2) := by decide +kernel
theorem dX12_feed_6 : decode cX12_feed 6 = .ok (.iadd, 1) := by decide +kernel
theorem dX12_feed_7 : decode cX12_feed 7 = .ok (.sipush 400, 3) := by decide +kernel
theorem dX12_feed_10 : decode cX12_feed 10 = .ok (.if_icmp .le 5, 3) := by decide +kernel
theorem dX12_feed_15 : decode cX12_feed 15 = .ok (.aload_n 0, 1) := by decide +kernel
theorem dX12_feed_16 : decode cX12_feed 16 = .ok (.getfield 37, 3) := by decide +kernel
theorem dX12_feed_19 : decode cX12_feed 19 = .ok (.iconst 0, 1) := by decide +kernel
theorem dX12_feed_20 : decode cX12_feed 20 = .ok (.iload_n 1, 1) := by decide +kernel
theorem dX12_feed_21 : decode cX12_feed 21 = .ok (.iastore, 1) := by decide +kernel
theorem dX12_feed_22 : decode cX12_feed 22 = .ok (.aload_n 0, 1) := by decide +kernel
theorem dX12_feed_23 : decode cX12_feed 23 = .ok (.getfield 37, 3) := by decide +kernel
theorem dX12_feed_26 : decode cX12_feed 26 = .ok (.iconst 1, 1) := by decide +kernel
theorem dX12_feed_27 : decode cX12_feed 27 = .ok (.iload_n 2, 1) := by decide +kernel
theorem dX12_feed_28 : decode cX12_feed 28 = .ok (.iastore, 1) := by decide +kernel
theorem dX12_feed_29 : decode cX12_feed 29 = .ok (.aload_n 0, 1) := by decide +kernel
theorem dX12_feed_30 : decode cX12_feed 30 = .ok (.getfield 37, 3) := by decide +kernel
theorem dX12_feed_33 : decode cX12_feed 33 = .ok (.iconst 2, 1) := by decide +kernel
theorem dX12_feed_34 : decode cX12_feed 34 = .ok (.iload_n 3, 1) := by decide +kernel
theorem dX12_feed_35 : decode cX12_feed 35 = .ok (.iastore, 1) := by decide +kernel
theorem dX12_feed_36 : decode cX12_feed 36 = .ok (.aload_n 0, 1) := by decide +kernel
theorem dX12_feed_37 : decode cX12_feed 37 = .ok (.getfield 37, 3) := by decide +kernel
theorem dX12_feed_40 : decode cX12_feed 40 = .ok (.iconst 3, 1) := by decide +kernel
theorem dX12_feed_41 : decode cX12_feed 41 = .ok (.iload 4, 2) := by decide +kernel
theorem dX12_feed_43 : decode cX12_feed 43 = .ok (.iastore, 1) := by decide +kernel
theorem dX12_feed_44 : decode cX12_feed 44 = .ok (.aload_n 0, 1) := by decide +kernel
theorem dX12_feed_45 : decode cX12_feed 45 = .ok (.getfield 37, 3) := by decide +kernel
theorem dX12_feed_48 : decode cX12_feed 48 = .ok (.iconst 4, 1) := by decide +kernel
theorem dX12_feed_49 : decode cX12_feed 49 = .ok (.iload 5, 2) := by decide +kernel
theorem dX12_feed_51 : decode cX12_feed 51 = .ok (.iastore, 1) := by decide +kernel
theorem dX12_feed_52 : decode cX12_feed 52 = .ok (.iconst 0, 1) := by decide +kernel
theorem dX12_feed_53 : decode cX12_feed 53 = .ok (.istore 6, 2) := by decide +kernel
theorem dX12_feed_55 : decode cX12_feed 55 = .ok (.iload 6, 2) := by decide +kernel
theorem dX12_feed_57 : decode cX12_feed 57 = .ok (.bipush 20, 2) := by decide +kernel
theorem dX12_feed_59 : decode cX12_feed 59 = .ok (.if_icmp .ge 42, 3) := by decide +kernel
theorem dX12_feed_101 : decode cX12_feed 101 = .ok (.aload_n 0, 1) := by decide +kernel
theorem dX12_feed_102 : decode cX12_feed 102 = .ok (.dup, 1) := by decide +kernel
theorem dX12_feed_103 : decode cX12_feed 103 = .ok (.getfield 156, 3) := by decide +kernel
theorem dX12_feed_106 : decode cX12_feed 106 = .ok (.bipush 20, 2) := by decide +kernel
theorem dX12_feed_108 : decode cX12_feed 108 = .ok (.iadd, 1) := by decide +kernel
theorem dX12_feed_109 : decode cX12_feed 109 = .ok (.putfield 156, 3) := by decide +kernel
theorem dX12_feed_112 : decode cX12_feed 112 = .ok (.aload_n 0, 1) := by decide +kernel
theorem dX12_feed_113 : decode cX12_feed 113 = .ok (.getfield 156, 3) := by decide +kernel
theorem dX12_feed_116 : decode cX12_feed 116 = .ok (.ireturn, 1) := by decide +kernel
theorem dX12_feed_62 : decode cX12_feed 62 = .ok (.aload_n 0, 1) := by decide +kernel
theorem dX12_feed_63 : decode cX12_feed 63 = .ok (.getfield 34, 3) := by decide +kernel
theorem dX12_feed_66 : decode cX12_feed 66 = .ok (.aload_n 0, 1) := by decide +kernel
theorem dX12_feed_67 : decode cX12_feed 67 = .ok (.getfield 156, 3) := by decide +kernel
theorem dX12_feed_70 : decode cX12_feed 70 = .ok (.iload 6, 2) := by decide +kernel
theorem dX12_feed_72 : decode cX12_feed 72 = .ok (.iadd, 1) := by decide +kernel
theorem dX12_feed_73 : decode cX12_feed 73 = .ok (.aload_n 0, 1) := by decide +kernel
theorem dX12_feed_74 : decode cX12_feed 74 = .ok (.getfield 37, 3) := by decide +kernel
theorem dX12_feed_77 : decode cX12_feed 77 = .ok (.iload 6, 2) := by decide +kernel
theorem dX12_feed_79 : decode cX12_feed 79 = .ok (.iconst 4, 1) := by decide +kernel
theorem dX12_feed_80 : decode cX12_feed 80 = .ok (.idiv, 1) := by decide +kernel
theorem dX12_feed_81 : decode cX12_feed 81 = .ok (.iaload, 1) := by decide +kernel
theorem dX12_feed_82 : decode cX12_feed 82 = .ok (.bipush 24, 2) := by decide +kernel
theorem dX12_feed_84 : decode cX12_feed 84 = .ok (.bipush 8, 2) := by decide +kernel
theorem dX12_feed_86 : decode cX12_feed 86 = .ok (.iload 6, 2) := by decide +kernel
theorem dX12_feed_88 : decode cX12_feed 88 = .ok (.iconst 4, 1) := by decide +kernel
theorem dX12_feed_89 : decode cX12_feed 89 = .ok (.irem, 1) := by decide +kernel
theorem dX12_feed_90 : decode cX12_feed 90 = .ok (.imul, 1) := by decide +kernel
theorem dX12_feed_91 : decode cX12_feed 91 = .ok (.isub, 1) := by decide +kernel
theorem dX12_feed_92 : decode cX12_feed 92 = .ok (.ishr, 1) := by decide +kernel
theorem dX12_feed_93 : decode cX12_feed 93 = .ok (.i2b, 1) := by decide +kernel
theorem dX12_feed_94 : decode cX12_feed 94 = .ok (.bastore, 1) := by decide +kernel
theorem dX12_feed_95 : decode cX12_feed 95 = .ok (.iinc 6 1, 3) := by decide +kernel
theorem dX12_feed_98 : decode cX12_feed 98 = .ok (.goto (-43), 3) := by decide +kernel
theorem dX12_feed_13 : decode cX12_feed 13 = .ok (.iconst (-1), 1) := by decide +kernel
theorem dX12_feed_14 : decode cX12_feed 14 = .ok (.ireturn, 1) := by decide +kernel
theorem dX12_row_0 : decode cX12_row 0 = .ok (.aload_n 0, 1) := by decide +kernel
theorem dX12_row_1 : decode cX12_row 1 = .ok (.getfield 156, 3) := by decide +kernel
theorem dX12_row_4 : decode cX12_row 4 = .ok (.istore_n 1, 1) := by decide +kernel
theorem dX12_row_5 : decode cX12_row 5 = .ok (.aload_n 0, 1) := by decide +kernel
theorem dX12_row_6 : decode cX12_row 6 = .ok (.iconst 0, 1) := by decide +kernel
theorem dX12_row_7 : decode cX12_row 7 = .ok (.putfield 156, 3) := by decide +kernel
theorem dX12_row_17 : decode cX12_row 17 = .ok (.istore_n 2, 1) := by decide +kernel
theorem dX12_row_18 : decode cX12_row 18 = .ok (.iconst 0, 1) := by decide +kernel
theorem dX12_row_19 : decode cX12_row 19 = .ok (.istore_n 3, 1) := by decide +kernel
theorem dX12_row_20 : decode cX12_row 20 = .ok (.iload_n 3, 1) := by decide +kernel
theorem dX12_row_21 : decode cX12_row 21 = .ok (.iload_n 1, 1) := by decide +kernel
theorem dX12_row_22 : decode cX12_row 22 = .ok (.if_icmp .ge 25, 3) := by decide +kernel
theorem dX12_row_47 : decode cX12_row 47 = .ok (.iload_n 2, 1) := by decide +kernel
theorem dX12_row_48 : decode cX12_row 48 = .ok (.ifCond .ne 10, 3) := by decide +kernel
theorem dX12_row_58 : decode cX12_row 58 = .ok (.iconst 0, 1) := by decide +kernel
theorem dX12_row_59 : decode cX12_row 59 = .ok (.istore_n 3, 1) := by decide +kernel
theorem dX12_row_60 : decode cX12_row 60 = .ok (.iload_n 3, 1) := by decide +kernel
theorem dX12_row_61 : decode cX12_row 61 = .ok (.iconst 5, 1) := by decide +kernel
theorem dX12_row_62 : decode cX12_row 62 = .ok (.if_icmp .ge 18, 3) := by decide +kernel
theorem dX12_row_80 : decode cX12_row 80 = .ok (.iconst 0, 1) := by decide +kernel
theorem dX12_row_81 : decode cX12_row 81 = .ok (.istore_n 3, 1) := by decide +kernel
theorem dX12_row_82 : decode cX12_row 82 = .ok (.iconst 0, 1) := by decide +kernel
theorem dX12_row_83 : decode cX12_row 83 = .ok (.istore 4, 2) := by decide +kernel
theorem dX12_row_85 : decode cX12_row 85 = .ok (.iload 4, 2) := by decide +kernel
theorem dX12_row_87 : decode cX12_row 87 = .ok (.iload_n 1, 1) := by decide +kernel
theorem dX12_row_88 : decode cX12_row 88 = .ok (.if_icmp .ge 39, 3) := by decide +kernel
theorem dX12_row_127 : decode cX12_row 127 = .ok (.aload_n 0, 1) := by decide +kernel
theorem dX12_row_128 : decode cX12_row 128 = .ok (.invokevirtual 153, 3) := by decide +kernel
theorem dX12_row_131 : decode cX12_row 131 = .ok (.aload_n 0, 1) := by decide +kernel
theorem dX12_row_132 : decode cX12_row 132 = .ok (.iconst 0, 1) := by decide +kernel
theorem dX12_row_133 : decode cX12_row 133 = .ok (.invokevirtual 146, 3) := by decide +kernel
theorem dX12_row_136 : decode cX12_row 136 = .ok (.pop, 1) := by decide +kernel
theorem dX12_row_137 : decode cX12_row 137 = .ok (.aload_n 0, 1) := by decide +kernel
theorem dX12_row_138 : decode cX12_row 138 = .ok (.invokevirtual 159, 3) := by decide +kernel
theorem dX12_row_141 : decode cX12_row 141 = .ok (.aload_n 0, 1) := by decide +kernel
theorem dX12_row_142 : decode cX12_row 142 = .ok (.iload_n 3, 1) := by decide +kernel
theorem dX12_row_143 : decode cX12_row 143 = .ok (.invokevirtual 162, 3) := by decide +kernel
theorem dX12_row_146 : decode cX12_row 146 = .ok (.ireturn, 1) := by decide +kernel
theorem dX12_row_91 : decode cX12_row 91 = .ok (.aload_n 0, 1) := by decide +kernel
theorem dX12_row_92 : decode cX12_row 92 = .ok (.getfield 20, 3) := by decide +kernel
theorem dX12_row_95 : decode cX12_row 95 = .ok (.iconst 0, 1) := by decide +kernel
theorem dX12_row_96 : decode cX12_row 96 = .ok (.aload_n 0, 1) := by decide +kernel
theorem dX12_row_97 : decode cX12_row 97 = .ok (.getfield 34, 3) := by decide +kernel
theorem dX12_row_100 : decode cX12_row 100 = .ok (.iload 4, 2) := by decide +kernel
theorem dX12_row_102 : decode cX12_row 102 = .ok (.baload, 1) := by decide +kernel
theorem dX12_row_103 : decode cX12_row 103 = .ok (.iadd, 1) := by decide +kernel
theorem dX12_row_104 : decode cX12_row 104 = .ok (.dup2, 1) := by decide +kernel
theorem dX12_row_105 : decode cX12_row 105 = .ok (.iaload, 1) := by decide +kernel
theorem dX12_row_106 : decode cX12_row 106 = .ok (.iconst 1, 1) := by decide +kernel
theorem dX12_row_107 : decode cX12_row 107 = .ok (.iadd, 1) := by decide +kernel
theorem dX12_row_108 : decode cX12_row 108 = .ok (.iastore, 1) := by decide +kernel
theorem dX12_row_109 : decode cX12_row 109 = .ok (.iconst 5, 1) := by decide +kernel
theorem dX12_row_110 : decode cX12_row 110 = .ok (.iload_n 3, 1) := by decide +kernel
theorem dX12_row_111 : decode cX12_row 111 = .ok (.imul, 1) := by decide +kernel
theorem dX12_row_112 : decode cX12_row 112 = .ok (.aload_n 0, 1) := by decide +kernel
theorem dX12_row_113 : decode cX12_row 113 = .ok (.getfield 34, 3) := by decide +kernel
theorem dX12_row_116 : decode cX12_row 116 = .ok (.iload 4, 2) := by decide +kernel
theorem dX12_row_118 : decode cX12_row 118 = .ok (.baload, 1) := by decide +kernel
theorem dX12_row_119 : decode cX12_row 119 = .ok (.iadd, 1) := by decide +kernel
theorem dX12_row_120 : decode cX12_row 120 = .ok (.istore_n 3, 1) := by decide +kernel
theorem dX12_row_121 : decode cX12_row 121 = .ok (.iinc 4 1, 3) := by decide +kernel
theorem dX12_row_124 : decode cX12_row 124 = .ok (.goto (-39), 3) := by decide +kernel
theorem dX12_row_65 : decode cX12_row 65 = .ok (.aload_n 0, 1) := by decide +kernel
theorem dX12_row_66 : decode cX12_row 66 = .ok (.getfield 20, 3) := by decide +kernel
theorem dX12_row_69 : decode cX12_row 69 = .ok (.iconst 0, 1) := by decide +kernel
theorem dX12_row_70 : decode cX12_row 70 = .ok (.iload_n 3, 1) := by decide +kernel
theorem dX12_row_71 : decode cX12_row 71 = .ok (.iadd, 1) := by decide +kernel
theorem dX12_row_72 : decode cX12_row 72 = .ok (.iconst 0, 1) := by decide +kernel
theorem dX12_row_73 : decode cX12_row 73 = .ok (.iastore, 1) := by decide +kernel
theorem dX12_row_74 : decode cX12_row 74 = .ok (.iinc 3 1, 3) := by decide +kernel
theorem dX12_row_77 : decode cX12_row 77 = .ok (.goto (-17), 3) := by decide +kernel
theorem dX12_row_51 : decode cX12_row 51 = .ok (.aload_n 0, 1) := by decide +kernel
theorem dX12_row_52 : decode cX12_row 52 = .ok (.bipush (-6), 2) := by decide +kernel
theorem dX12_row_54 : decode cX12_row 54 = .ok (.invokevirtual 142, 3) := by decide +kernel
theorem dX12_row_57 : decode cX12_row 57 = .ok (.ireturn, 1) := by decide +kernel
theorem dX12_row_25 : decode cX12_row 25 = .ok (.iload_n 2, 1) := by decide +kernel
theorem dX12_row_26 : decode cX12_row 26 = .ok (.ifCond .eq 21, 3) := by decide +kernel
theorem dX12_row_29 : decode cX12_row 29 = .ok (.aload_n 0, 1) := by decide +kernel
theorem dX12_row_30 : decode cX12_row 30 = .ok (.getfield 34, 3) := by decide +kernel
theorem dX12_row_33 : decode cX12_row 33 = .ok (.iload_n 3, 1) := by decide +kernel
theorem dX12_row_34 : decode cX12_row 34 = .ok (.baload, 1) := by decide +kernel
theorem dX12_row_35 : decode cX12_row 35 = .ok (.iconst 0, 1) := by decide +kernel
theorem dX12_row_36 : decode cX12_row 36 = .ok (.iconst 4, 1) := by decide +kernel
theorem dX12_row_37 : decode cX12_row 37 = .ok (.invokestatic 138, 3) := by decide +kernel
theorem dX12_row_40 : decode cX12_row 40 = .ok (.istore_n 2, 1) := by decide +kernel
theorem dX12_row_41 : decode cX12_row 41 = .ok (.iinc 3 1, 3) := by decide +kernel
theorem dX12_row_44 : decode cX12_row 44 = .ok (.goto (-24), 3) := by decide +kernel
theorem dX12_row_10 : decode cX12_row 10 = .ok (.iload_n 1, 1) := by decide +kernel
theorem dX12_row_11 : decode cX12_row 11 = .ok (.iconst 1, 1) := by decide +kernel
theorem dX12_row_12 : decode cX12_row 12 = .ok (.bipush 7, 2) := by decide +kernel
theorem dX12_row_14 : decode cX12_row 14 = .ok (.invokestatic 138, 3) := by decide +kernel
theorem dX12_image_0 : decode cX12_image 0 = .ok (.iload_n 1, 1) := by decide +kernel
theorem dX12_image_1 : decode cX12_image 1 = .ok (.iconst 0, 1) := by decide +kernel
theorem dX12_image_2 : decode cX12_image 2 = .ok (.iconst 1, 1) := by decide +kernel
theorem dX12_image_3 : decode cX12_image 3 = .ok (.invokestatic 138, 3) := by decide +kernel
theorem dX12_image_6 : decode cX12_image 6 = .ok (.ifCond .ne 9, 3) := by decide +kernel
theorem dX12_image_15 : decode cX12_image 15 = .ok (.iconst 0, 1) := by decide +kernel
theorem dX12_image_16 : decode cX12_image 16 = .ok (.istore_n 2, 1) := by decide +kernel
theorem dX12_image_17 : decode cX12_image 17 = .ok (.iload_n 2, 1) := by decide +kernel
theorem dX12_image_18 : decode cX12_image 18 = .ok (.sipush 4870, 3) := by decide +kernel
theorem dX12_image_21 : decode cX12_image 21 = .ok (.if_icmp .ge 27, 3) := by decide +kernel
theorem dX12_image_48 : decode cX12_image 48 = .ok (.aload_n 0, 1) := by decide +kernel
theorem dX12_image_49 : decode cX12_image 49 = .ok (.getfield 26, 3) := by decide +kernel
theorem dX12_image_52 : decode cX12_image 52 = .ok (.iload_n 1, 1) := by decide +kernel
theorem dX12_image_53 : decode cX12_image 53 = .ok (.iconst 1, 1) := by decide +kernel
theorem dX12_image_54 : decode cX12_image 54 = .ok (.bastore, 1) := by decide +kernel
theorem dX12_image_55 : decode cX12_image 55 = .ok (.aload_n 0, 1) := by decide +kernel
theorem dX12_image_56 : decode cX12_image 56 = .ok (.iconst 0, 1) := by decide +kernel
theorem dX12_image_57 : decode cX12_image 57 = .ok (.invokevirtual 146, 3) := by decide +kernel
theorem dX12_image_60 : decode cX12_image 60 = .ok (.ireturn, 1) := by decide +kernel
theorem dX12_image_24 : decode cX12_image 24 = .ok (.aload_n 0, 1) := by decide +kernel
theorem dX12_image_25 : decode cX12_image 25 = .ok (.getfield 23, 3) := by decide +kernel
theorem dX12_image_28 : decode cX12_image 28 = .ok (.sipush 4870, 3) := by decide +kernel
theorem dX12_image_31 : decode cX12_image 31 = .ok (.iload_n 1, 1) := by decide +kernel
theorem dX12_image_32 : decode cX12_image 32 = .ok (.imul, 1) := by decide +kernel
theorem dX12_image_33 : decode cX12_image 33 = .ok (.iload_n 2, 1) := by decide +kernel
theorem dX12_image_34 : decode cX12_image 34 = .ok (.iadd, 1) := by decide +kernel
theorem dX12_image_35 : decode cX12_image 35 = .ok (.aload_n 0, 1) := by decide +kernel
theorem dX12_image_36 : decode cX12_image 36 = .ok (.getfield 20, 3) := by decide +kernel
theorem dX12_image_39 : decode cX12_image 39 = .ok (.iload_n 2, 1) := by decide +kernel
theorem dX12_image_40 : decode cX12_image 40 = .ok (.iaload, 1) := by decide +kernel
theorem dX12_image_41 : decode cX12_image 41 = .ok (.iastore, 1) := by decide +kernel
theorem dX12_image_42 : decode cX12_image 42 = .ok (.iinc 2 1, 3) := by decide +kernel
theorem dX12_image_45 : decode cX12_image 45 = .ok (.goto (-28), 3) := by decide +kernel
theorem dX12_image_9 : decode cX12_image 9 = .ok (.aload_n 0, 1) := by decide +kernel
theorem dX12_image_10 : decode cX12_image 10 = .ok (.iconst (-1), 1) := by decide +kernel
theorem dX12_image_11 : decode cX12_image 11 = .ok (.invokevirtual 142, 3) := by decide +kernel
theorem dX12_image_14 : decode cX12_image 14 = .ok (.ireturn, 1) := by decide +kernel
theorem dX12_back_0 : decode cX12_back 0 = .ok (.iload_n 1, 1) := by decide +kernel
theorem dX12_back_1 : decode cX12_back 1 = .ok (.iconst 0, 1) := by decide +kernel
theorem dX12_back_2 : decode cX12_back 2 = .ok (.iconst 1, 1) := by decide +kernel
theorem dX12_back_3 : decode cX12_back 3 = .ok (.invokestatic 138, 3) := by decide +kernel
theorem dX12_back_6 : decode cX12_back 6 = .ok (.ifCond .ne 9, 3) := by decide +kernel
theorem dX12_back_15 : decode cX12_back 15 = .ok (.aload_n 0, 1) := by decide +kernel
theorem dX12_back_16 : decode cX12_back 16 = .ok (.getfield 26, 3) := by decide +kernel
theorem dX12_back_19 : decode cX12_back 19 = .ok (.iload_n 1, 1) := by decide +kernel
theorem dX12_back_20 : decode cX12_back 20 = .ok (.baload, 1) := by decide +kernel
theorem dX12_back_21 : decode cX12_back 21 = .ok (.ifCond .ne 10, 3) := by decide +kernel
theorem dX12_back_31 : decode cX12_back 31 = .ok (.iconst 0, 1) := by decide +kernel
theorem dX12_back_32 : decode cX12_back 32 = .ok (.istore_n 2, 1) := by decide +kernel
theorem dX12_back_33 : decode cX12_back 33 = .ok (.iload_n 2, 1) := by decide +kernel
theorem dX12_back_34 : decode cX12_back 34 = .ok (.sipush 4870, 3) := by decide +kernel
theorem dX12_back_37 : decode cX12_back 37 = .ok (.if_icmp .ge 27, 3) := by decide +kernel
theorem dX12_back_64 : decode cX12_back 64 = .ok (.aload_n 0, 1) := by decide +kernel
theorem dX12_back_65 : decode cX12_back 65 = .ok (.iconst 0, 1) := by decide +kernel
theorem dX12_back_66 : decode cX12_back 66 = .ok (.invokevirtual 146, 3) := by decide +kernel
theorem dX12_back_69 : decode cX12_back 69 = .ok (.ireturn, 1) := by decide +kernel
theorem dX12_back_40 : decode cX12_back 40 = .ok (.aload_n 0, 1) := by decide +kernel
theorem dX12_back_41 : decode cX12_back 41 = .ok (.getfield 20, 3) := by decide +kernel
theorem dX12_back_44 : decode cX12_back 44 = .ok (.iload_n 2, 1) := by decide +kernel
theorem dX12_back_45 : decode cX12_back 45 = .ok (.aload_n 0, 1) := by decide +kernel
theorem dX12_back_46 : decode cX12_back 46 = .ok (.getfield 23, 3) := by decide +kernel
theorem dX12_back_49 : decode cX12_back 49 = .ok (.sipush 4870, 3) := by decide +kernel
theorem dX12_back_52 : decode cX12_back 52 = .ok (.iload_n 1, 1) := by decide +kernel
theorem dX12_back_53 : decode cX12_back 53 = .ok (.imul, 1) := by decide +kernel
theorem dX12_back_54 : decode cX12_back 54 = .ok (.iload_n 2, 1) := by decide +kernel
theorem dX12_back_55 : decode cX12_back 55 = .ok (.iadd, 1) := by decide +kernel
theorem dX12_back_56 : decode cX12_back 56 = .ok (.iaload, 1) := by decide +kernel
theorem dX12_back_57 : decode cX12_back 57 = .ok (.iastore, 1) := by decide +kernel
theorem dX12_back_58 : decode cX12_back 58 = .ok (.iinc 2 1, 3) := by decide +kernel
theorem dX12_back_61 : decode cX12_back 61 = .ok (.goto (-28), 3) := by decide +kernel
theorem dX12_back_24 : decode cX12_back 24 = .ok (.aload_n 0, 1) := by decide +kernel
theorem dX12_back_25 : decode cX12_back 25 = .ok (.bipush (-2), 2) := by decide +kernel
theorem dX12_back_27 : decode cX12_back 27 = .ok (.invokevirtual 142, 3) := by decide +kernel
theorem dX12_back_30 : decode cX12_back 30 = .ok (.ireturn, 1) := by decide +kernel
theorem dX12_back_9 : decode cX12_back 9 = .ok (.aload_n 0, 1) := by decide +kernel
theorem dX12_back_10 : decode cX12_back 10 = .ok (.iconst (-1), 1) := by decide +kernel
theorem dX12_back_11 : decode cX12_back 11 = .ok (.invokevirtual 142, 3) := by decide +kernel
theorem dX12_back_14 : decode cX12_back 14 = .ok (.ireturn, 1) := by decide +kernel
theorem v_d9c1674c2b {a0 a1 a2 : Int} (h0 : a0 ≤ 12) (h1 : 0 ≤ a1) (h2 : a1 ≤ a2) (h3 : a2 ≤ a0) : zr a2 := by omega
theorem v_8f3d5f3a5d {a0 a1 a2 : Int} (h0 : a0 ≤ 12) (h1 : a1 ≤ a2) (h2 : a2 ≤ a0) : a1 ≤ 2147483647 := by omega
theorem v_2876cb51c8 {a0 a1 a2 : Int} (h0 : a0 ≤ 12) (h1 : a1 ≤ a2) (h2 : a2 ≤ a0) : a1 ≤ 12 := by omega
theorem v_0a48787587 {a0 a1 : Int} (h0 : a0 ≤ 12) (h1 : a1 ≤ a0) : a1 ≤ 12 := by omega
theorem v_6657282877 {a0 a1 a2 a3 : Int} (h0 : a0 ≤ a1) (h1 : a2 = a1) (h2 : a2 = a3) (h3 : a3 ≤ a0) : a0 = a1 := by omega
theorem v_68f7c845be {a0 a1 : Int} (h0 : 0 ≤ a0) (h1 : a0 ≤ a1) : 0 ≤ 2 * a1 + 24 := by omega
theorem v_941d39a6a1 {a0 a1 : Int} (h0 : a0 ≤ 12) (h1 : a1 ≤ a0) : 2 * a1 + 24 < 4870 := by omega
theorem v_b81c7da539 {a0 a1 a2 a3 : Int} (h0 : a0 ≤ 12) (h1 : a1 = a0) (h2 : a1 = a2) (h3 : ¬ a2 ≤ a3) : a3 < 12 := by omega
theorem v_01a42d8ab3 {a0 a1 a2 a3 : Int} (h0 : a0 = a1) (h1 : a0 = a2) (h2 : ¬ a2 ≤ a3) : a3 < a1 := by omega
theorem v_ea3840d23a {a0 : Int} (h0 : -1 ≤ a0) (h1 : a0 < 7) : zr a0 := by omega
theorem v_75bb772763 {a0 a1 : Int} (h0 : 0 ≤ a0) (h1 : a0 ≤ 7) (h2 : a1 = a0) : zr a1 := by omega
theorem v_709f2cec99 {a0 a1 : Int} (h0 : 0 ≤ a0) (h1 : a0 ≤ a1) : 0 ≤ 2 * a1 + 23 := by omega
theorem v_f11bc84c02 {a0 a1 : Int} (h0 : a0 ≤ 12) (h1 : a1 ≤ a0) : 2 * a1 + 23 < 4870 := by omega
theorem v_f32d3306ed {a0 a1 a2 : Int} (h0 : a0 ≤ 12) (h1 : a1 ≤ a2) (h2 : a2 ≤ a0) : 2 * a1 + 23 < 4870 := by omega
theorem v_adb8045dea {a0 a1 : Int} (h0 : a0 ≤ a1) : ¬ 2 * a1 + 24 = 2 * a0 + 23 := by omega
theorem v_a13075eed7 {a0 a1 a2 : Int} (h0 : a0 ≤ 12) (h1 : a1 ≤ a2) (h2 : a2 ≤ a0) : 2 * a1 + 24 < 4870 := by omega
theorem v_ed68225989 {a0 a1 a2 a3 : Int} (h0 : a0 = a1) (h1 : a0 = a2) (h2 : ¬ a2 ≤ a3) : (a3 + 1) ≤ a1 := by omega
theorem v_164b6ef4a0 {a0 a1 a2 a3 : Int} (h0 : a0 = a1) (h1 : a2 < a0) (h2 : a3 = a2) : a3 < a1 := by omega
theorem v_3a1fe48dfa {a0 a1 a2 a3 : Int} (h0 : a0 = a1) (h1 : a0 = a2) (h2 : ¬ a2 ≤ a3) : 0 < a1 - a3 := by omega
theorem v_8b3df8f0b9 {a0 a1 a2 : Int} (h0 : a0 = a1) (h1 : ¬ a2 < a0) : ¬ a2 < a1 := by omega
theorem v_a6c9ab5f5e {a0 : Int} (h0 : a0 ≤ 4) : a0 < 4870 := by omega
theorem v_c89fbda24a {a0 a1 a2 : Int} : a0 - a1 + a2 = a2 + a0 - a1 := by omega
theorem v_31d9359e1b {a0 a1 a2 : Int} (h0 : 0 ≤ a0) (h1 : a0 ≤ 7) (h2 : 0 ≤ a1) (h3 : a1 ≤ 7) (h4 : 0 ≤ a2) (h5 : a2 ≤ 7) : zr ((a0 + a1 - a2)) := by omega
theorem v_846727a7c0 {a0 a1 a2 : Int} (h0 : a0 + a1 - a2 ≤ 7) : a1 - a2 + a0 ≤ 7 := by omega
theorem v_6268837683 {a0 : Int} (h0 : a0 ≤ 4) : ¬ 60 = a0 := by omega
theorem v_79f64a7f26 {a0 a1 a2 a3 a4 : Int} (h0 : a0 = a1) (h1 : a2 = a3) (h2 : a4 + a0 - a3 ≤ 7) : a1 - a2 + a4 ≤ 7 := by omega
theorem v_35b4c259d6 {a0 a1 a2 a3 a4 : Int} (h0 : a0 = a1) (h1 : a2 = a3) (h2 : ¬ a4 + a0 - a3 ≤ 7) : ¬ a1 - a2 + a4 ≤ 7 := by omega
theorem v_6fc5d50263 {a0 : Int} (h0 : 7 < a0) : ¬ a0 ≤ 7 := by omega
theorem v_75215ce976 {a0 : Int} (h0 : 4 < a0) : ¬ a0 ≤ 4 := by omega
theorem v_c4d9d00c52 : zr 99 := by omega
theorem v_136824bdd1 {a0 : Int} (h0 : 0 ≤ a0) : 0 ≤ a0 + 5 := by omega
theorem v_bf22868dae {a0 : Int} (h0 : a0 ≤ 1) : a0 + 5 < 4870 := by omega
theorem v_955d180fa9 {a0 : Int} (h0 : a0 ≤ 99) : a0 ≤ 2147483647 := by omega
theorem v_07cb6ce7c2 {a0 : Int} (h0 : 0 ≤ a0) : 5 ≤ a0 + 5 := by omega
theorem v_b8e4117440 {a0 : Int} (h0 : a0 ≤ 1) : a0 + 5 ≤ 22 := by omega
theorem v_d0f986a844 {a0 a1 : Int} (h0 : 0 ≤ a0) (h1 : ¬ a0 = 0) (h2 : a1 ≤ 99) : a1 ≤ 98 * a0 + 1 := by omega
theorem v_9c55b45d7d {a0 a1 : Int} (h0 : a0 ≤ 1) (h1 : 99 < a1) : ¬ a1 ≤ 98 * a0 + 1 := by omega
theorem v_9da41ff883 {a0 : Int} (h0 : a0 = 0) : a0 + 5 < 4870 := by omega
theorem v_96ad20775e {a0 : Int} (h0 : a0 ≤ 1) : a0 ≤ 2147483647 := by omega
theorem v_38a4ce965a {a0 : Int} (h0 : a0 = 0) : a0 + 5 ≤ 22 := by omega
theorem v_e327774f82 {a0 : Int} (h0 : a0 = 0) : a0 ≤ 1 := by omega
theorem v_44d31eea4d {a0 a1 : Int} (h0 : 0 ≤ a0) (h1 : a1 ≤ 1) : a1 ≤ 98 * a0 + 1 := by omega
theorem v_ca76c1c07b {a0 a1 : Int} (h0 : a0 = 0) (h1 : 1 < a1) : ¬ a1 ≤ 98 * a0 + 1 := by omega
theorem v_9664088974 {a0 : Int} (h0 : 1 < a0) : ¬ a0 ≤ 1 := by omega
theorem v_4b515e41e1 {a0 a1 : Int} (h0 : 0 ≤ a0) (h1 : a0 = a1) (h2 : a1 ≤ 2147483647) : zr ((a1 - 1)) := by omega
theorem v_f69834dffb {a0 : Int} (h0 : (-1) ≤ a0) : -2147483648 ≤ a0 := by omega
theorem v_f751c1580b {a0 : Int} (h0 : (-1) ≤ a0) : -1 ≤ a0 := by omega
theorem v_753a00cdcb {a0 a1 a2 : Int} (h0 : a0 = a1) (h1 : a2 ≤ (a1 - 1)) : a2 < a0 := by omega
theorem v_712152639f {a0 a1 a2 : Int} (h0 : a0 = a1) (h1 : (a1 - 1) < a2) : a0 ≤ a2 := by omega
theorem v_50dd57b968 {a0 a1 a2 : Int} (h0 : a0 = a1) (h1 : a2 ≤ a1) : a2 ≤ a0 := by omega
theorem v_cd797ba4dd {a0 a1 a2 : Int} (h0 : a0 = a1) (h1 : a1 < a2) : ¬ a2 ≤ a0 := by omega
theorem v_5d41ef3176 {a0 a1 : Int} (h0 : 0 ≤ a0) (h1 : a0 = a1) : 0 ≤ 2 * a1 + 23 := by omega
theorem v_2ce97c054e {a0 a1 : Int} (h0 : a0 ≤ 12) (h1 : a0 = a1) : 2 * a1 + 23 < 4870 := by omega
theorem v_867eef6787 {a0 : Int} (h0 : ¬ a0 < 0) : -2147483648 ≤ a0 := by omega
theorem v_9d2643bf6c {a0 a1 : Int} (h0 : 0 ≤ a0) (h1 : a0 = a1) : 0 ≤ 2 * a1 + 24 := by omega
theorem v_fe11e6244a {a0 a1 : Int} (h0 : a0 ≤ 12) (h1 : a0 = a1) : 2 * a1 + 24 < 4870 := by omega
theorem v_2e50f802b8 {a0 a1 : Int} (h0 : a0 ≤ 12) (h1 : a0 = a1) : ¬ 60 = 2 * a1 + 24 := by omega
theorem v_f3a14de7e3 {a0 a1 : Int} (h0 : a0 ≤ 12) (h1 : a0 = a1) : ¬ 60 = 2 * a1 + 23 := by omega
theorem v_217e615720 {a0 a1 : Int} (h0 : a0 ≤ 12) (h1 : a0 = a1) : a1 + 1 ≤ 2147483647 := by omega
theorem v_4b969892e9 {a0 a1 : Int} (h0 : a0 ≤ 12) (h1 : a0 = a1) (h2 : ¬ a1 = 12) : a1 ≤ 11 := by omega
theorem v_3ff3280dbb {a0 : Int} : 2 * a0 + 23 = 23 + 2 * a0 := by omega
theorem v_dece2bd13f {a0 : Int} : 2 * a0 + 24 = 24 + 2 * a0 := by omega
theorem v_a9db0a1ddb {a0 a1 : Int} (h0 : a0 ≤ 12) (h1 : a0 = a1) (h2 : ¬ a1 = 12) : a0 < 12 := by omega
theorem v_129dc755f0 {a0 a1 : Int} (h0 : a0 = a1) : (a1 + 1) = a0 + 1 := by omega
theorem v_ba9c24064d {a0 : Int} : 2 * a0 + 23 = 2 * a0 + 23 := by omega
theorem v_91dc6b4041 {a0 : Int} : 2 * a0 + 24 = 2 * a0 + 24 := by omega
theorem v_500c41044e {a0 a1 : Int} (h0 : a0 = a1) (h1 : a1 = 12) : 12 ≤ a0 := by omega
theorem v_bc01600c3a {a0 a1 : Int} (h0 : 0 ≤ a0) (h1 : a0 = a1) : 0 ≤ 2 * a1 + 47 := by omega
theorem v_e0b273eb5e {a0 a1 : Int} (h0 : a0 ≤ 6) (h1 : a0 = a1) : 2 * a1 + 47 < 4870 := by omega
theorem v_bb26b1ffaf {a0 a1 : Int} (h0 : 0 ≤ a0) (h1 : a0 = a1) : 0 ≤ 2 * a1 + 48 := by omega
theorem v_98b8cf2929 {a0 a1 : Int} (h0 : a0 ≤ 6) (h1 : a0 = a1) : 2 * a1 + 48 < 4870 := by omega
theorem v_ec8ecd1a60 {a0 : Int} (h0 : -1 ≤ a0) : -2147483648 ≤ a0 := by omega
theorem v_dc12fc2378 {a0 a1 : Int} (h0 : a0 ≤ 6) (h1 : a0 = a1) : ¬ 61 = 2 * a1 + 48 := by omega
theorem v_1172afe5d0 {a0 a1 : Int} (h0 : a0 ≤ 6) (h1 : a0 = a1) : ¬ 61 = 2 * a1 + 47 := by omega
theorem v_c4b867c344 {a0 a1 : Int} (h0 : a0 ≤ 6) (h1 : a0 = a1) : a1 + 1 ≤ 2147483647 := by omega
theorem v_2e6ef3bcf6 {a0 : Int} : 2 * a0 + 47 = 47 + 2 * a0 := by omega
theorem v_5c530f6baa {a0 : Int} : 2 * a0 + 48 = 48 + 2 * a0 := by omega
theorem v_47b9fc1ab1 {a0 a1 : Int} (h0 : a0 ≤ 6) (h1 : a0 = a1) (h2 : ¬ a1 = 6) : a0 < 6 := by omega
theorem v_d2a8a316e3 {a0 : Int} : 2 * a0 + 47 = 2 * a0 + 47 := by omega
theorem v_8265438d6b {a0 : Int} : 2 * a0 + 48 = 2 * a0 + 48 := by omega
theorem v_227e7bcb1c {a0 a1 : Int} (h0 : a0 = a1) (h1 : a1 = 6) : 6 ≤ a0 := by omega
theorem v_ca1e8193e3 {a0 : Int} (h0 : ¬ -1 ≤ a0) : a0 < -1 := by omega
theorem v_36df96dc2b : -(6 : Int) ≤ (-3) := by omega
theorem v_6d3f6df9c9 : (-(3 : Int)) ≤ -1 := by omega
theorem v_c229ebe3b1 {a0 a1 : Int} (h0 : 0 ≤ a0) (h1 : a0 = a1) : 0 ≤ 2 * a1 + 7 := by omega
theorem v_ccb9fbc785 {a0 a1 : Int} (h0 : a0 ≤ 8) (h1 : a0 = a1) : 2 * a1 + 7 < 4870 := by omega
theorem v_9acfa54392 {a0 a1 : Int} (h0 : 0 ≤ a0) (h1 : a0 = a1) : 0 ≤ 2 * a1 + 8 := by omega
theorem v_ddcfd9e4c1 {a0 a1 : Int} (h0 : a0 ≤ 8) (h1 : a0 = a1) : 2 * a1 + 8 < 4870 := by omega
theorem v_8f8b134037 {a0 a1 : Int} (h0 : a0 ≤ 8) (h1 : a0 = a1) : ¬ 59 = 2 * a1 + 8 := by omega
theorem v_d8218a841c {a0 a1 : Int} (h0 : a0 ≤ 8) (h1 : a0 = a1) : ¬ 59 = 2 * a1 + 7 := by omega
theorem v_08c074e313 {a0 a1 : Int} (h0 : a0 ≤ 8) (h1 : a0 = a1) : a1 + 1 ≤ 2147483647 := by omega
theorem v_c393e7103f {a0 a1 : Int} (h0 : 0 ≤ a0) (h1 : a0 = a1) : 5 ≤ 2 * a1 + 7 := by omega
theorem v_d393afc53f {a0 a1 : Int} (h0 : a0 ≤ 8) (h1 : a0 = a1) (h2 : ¬ a1 = 8) : 2 * a1 + 7 ≤ 22 := by omega
theorem v_2f97d25aaf {a0 a1 : Int} (h0 : 0 ≤ a0) (h1 : a0 = a1) : 5 ≤ 2 * a1 + 8 := by omega
theorem v_bb08e8b7c6 {a0 a1 : Int} (h0 : a0 ≤ 8) (h1 : a0 = a1) (h2 : ¬ a1 = 8) : 2 * a1 + 8 ≤ 22 := by omega
theorem v_09e3a9c0cf {a0 a1 : Int} (h0 : 0 ≤ a0) (h1 : a0 = a1) : 0 ≤ a1 + 1 := by omega
theorem v_5dd69face7 {a0 a1 a2 : Int} (h0 : a0 ≤ 8) (h1 : a0 = a1) (h2 : ¬ a1 = 8) (h3 : a2 = a1) : a2 + 1 ≤ 8 := by omega
theorem v_21165bc8f6 {a0 a1 : Int} (h0 : a0 ≤ 8) (h1 : a0 = a1) (h2 : ¬ a1 = 8) : a0 < 8 := by omega
theorem v_539b1ad598 {a0 : Int} : 2 * a0 + 7 = 2 * a0 + 7 := by omega
theorem v_d6e74d39d7 {a0 : Int} : 2 * a0 + 8 = 2 * a0 + 8 := by omega
theorem v_799c266a10 {a0 a1 : Int} (h0 : a0 = a1) (h1 : a1 = 8) : 8 ≤ a0 := by omega
theorem v_99b8374d62 {a0 a1 a2 : Int} (h0 : a0 ≤ 8) (h1 : 0 ≤ a1) (h2 : a1 ≤ a2) (h3 : a2 ≤ a0) : zr a2 := by omega
theorem v_dc84ea83fb {a0 a1 a2 : Int} (h0 : a0 ≤ 8) (h1 : a1 ≤ a2) (h2 : a2 ≤ a0) : a1 ≤ 2147483647 := by omega
theorem v_e383326f8e {a0 a1 a2 : Int} (h0 : a0 ≤ 8) (h1 : a1 ≤ a2) (h2 : a2 ≤ a0) : a1 ≤ 8 := by omega
theorem v_59303eb6ee {a0 a1 : Int} (h0 : 0 ≤ a0) (h1 : a0 ≤ a1) : 0 ≤ 2 * a1 + 7 := by omega
theorem v_10c075efa1 {a0 a1 : Int} (h0 : 0 ≤ a0) (h1 : a0 ≤ a1) : 0 ≤ 2 * a1 + 8 := by omega
theorem v_b127e92e84 {a0 a1 a2 : Int} (h0 : a0 ≤ 8) (h1 : a1 ≤ a2) (h2 : a2 ≤ a0) : 2 * a1 + 7 < 4870 := by omega
theorem v_feeddcd260 {a0 a1 a2 : Int} (h0 : a0 ≤ 8) (h1 : a1 ≤ a2) (h2 : a2 ≤ a0) : 2 * a1 + 8 < 4870 := by omega
theorem v_9d0b01dfcf {a0 : Int} (h0 : 0 ≤ a0) : 5 ≤ 2 * a0 + 7 := by omega
theorem v_b6241fe5fd {a0 a1 a2 a3 a4 : Int} (h0 : a0 ≤ 8) (h1 : a1 ≤ a2) (h2 : a3 = a0) (h3 : a3 = a4) (h4 : ¬ a4 ≤ a2) : 2 * a1 + 7 ≤ 22 := by omega
theorem v_dde2124068 {a0 : Int} (h0 : 0 ≤ a0) : 5 ≤ 2 * a0 + 8 := by omega
theorem v_490f4bdb67 {a0 a1 a2 a3 a4 : Int} (h0 : a0 ≤ 8) (h1 : a1 ≤ a2) (h2 : a3 = a0) (h3 : a3 = a4) (h4 : ¬ a4 ≤ a2) : 2 * a1 + 8 ≤ 22 := by omega
theorem v_02fca1104d {a0 a1 a2 : Int} (h0 : a0 ≤ 8) (h1 : a1 ≤ a2) (h2 : a2 ≤ a0) : ¬ 59 = 2 * a1 + 8 := by omega
theorem v_dce11d5be0 {a0 a1 a2 : Int} (h0 : a0 ≤ 8) (h1 : a1 ≤ a2) (h2 : a2 ≤ a0) : ¬ 59 = 2 * a1 + 7 := by omega
theorem v_dce9a314b4 {a0 : Int} (h0 : 0 ≤ a0) : 7 ≤ 2 * a0 + 7 := by omega
theorem v_53daa85aae {a0 a1 a2 a3 a4 : Int} (h0 : a0 ≤ 8) (h1 : a1 ≤ a2) (h2 : a3 = a0) (h3 : a3 = a4) (h4 : ¬ a4 ≤ a2) : 2 * a1 + 7 < 23 := by omega
theorem v_d28d210b1c {a0 : Int} (h0 : 0 ≤ a0) : 7 ≤ 2 * a0 + 8 := by omega
theorem v_4ab8372722 {a0 a1 a2 a3 a4 : Int} (h0 : a0 ≤ 8) (h1 : a1 ≤ a2) (h2 : a3 = a0) (h3 : a3 = a4) (h4 : ¬ a4 ≤ a2) : 2 * a1 + 8 < 23 := by omega
theorem v_35cdb1a1c7 {a0 a1 a2 a3 : Int} (h0 : a0 ≤ 8) (h1 : a1 = a0) (h2 : a1 = a2) (h3 : ¬ a2 ≤ a3) : a3 < 8 := by omega
theorem v_c5bb7c5261 {a0 a1 a2 : Int} (h0 : ¬ a0 = a1) (h1 : a2 = a0) : ¬ a2 = a1 := by omega
theorem v_8e571d5ed4 {a0 : Int} (h0 : 0 ≤ a0) (h1 : a0 ≤ 400) : zr ((a0 + 20)) := by omega
theorem v_fcc8007e99 : (1 : Int) < 5 := by omega
theorem v_ca12309ff8 : (2 : Int) < 5 := by omega
theorem v_0359d7e19a : (3 : Int) < 5 := by omega
theorem v_16c0fad730 : (4 : Int) < 5 := by omega
theorem v_3771d22068 : (0 : Int) ≤ 20 := by omega
theorem v_94d89c1a36 {a0 : Int} (h0 : 0 ≤ a0) (h1 : a0 ≤ 20) : zr a0 := by omega
theorem v_82965bc4bd : zr 20 := by omega
theorem v_62a931ddb5 {a0 : Int} (h0 : 0 ≤ a0) : 0 ≤ (a0 + 20) := by omega
theorem v_fc25c0bb64 {a0 : Int} : (a0 + 20) = a0 + 20 := by omega
theorem v_8bec156621 {a0 : Int} (h0 : a0 + 20 ≤ 400) : a0 ≤ 380 := by omega
theorem v_090f936125 {a0 : Int} : (a0 + 20) = (a0 + 20) := by omega
theorem v_02b8fe6d77 {a0 : Int} (h0 : a0 ≤ 20) (h1 : 20 ≤ a0) : a0 = 20 := by omega
theorem v_fcdfb0e464 {a0 : Int} (h0 : 0 ≤ a0) (h1 : ¬ 20 ≤ a0) : zr a0 := by omega
theorem v_1ab6243a29 : (0 : Int) < 4 := by omega
theorem v_de49e1f5f6 {a0 a1 : Int} (h0 : 0 ≤ a0) (h1 : a0 ≤ 4 * a1 + 3) : 0 ≤ a1 := by omega
theorem v_b9d7c9bfea {a0 a1 : Int} (h0 : ¬ 20 ≤ a0) (h1 : 4 * a1 ≤ a0) : a1 < 5 := by omega
theorem v_3b8214974d {a0 : Int} : 24 - (8 * a0) = -8 * a0 + 24 := by omega
theorem v_754c00a6f2 {a0 a1 : Int} (h0 : a0 + 20 ≤ 400) (h1 : ¬ 20 ≤ a1) : a1 + a0 < 400 := by omega
theorem v_05adf37676 {a0 : Int} (h0 : -128 ≤ a0) : -128 ≤ a0 := by omega
theorem v_cb26ddd58d {a0 : Int} (h0 : a0 ≤ 127) : a0 ≤ 127 := by omega
theorem v_15e9df531f {a0 : Int} (h0 : ¬ 20 ≤ a0) : (a0 + 1) ≤ 20 := by omega
theorem v_91c709622f {a0 a1 : Int} (h0 : 4 * a0 ≤ a1) : 4 * a0 ≤ a1 := by omega
theorem v_3a1f4bbece {a0 a1 : Int} (h0 : a0 ≤ 4 * a1 + 3) : a0 ≤ 4 * a1 + 3 := by omega
theorem v_05685d02ed {a0 : Int} (h0 : ¬ 20 ≤ a0) : a0 < 20 := by omega
theorem v_a2cbd29406 {a0 : Int} : (-8 * a0 + 24) = 24 - 8 * a0 := by omega
theorem v_267c3e7ef8 {a0 : Int} : 20 - (a0 + 1) < (20 - a0) := by omega
theorem v_88c336f2d8 {a0 : Int} (h0 : ¬ 20 ≤ a0) : 0 < 20 - a0 := by omega
theorem v_4f829e1014 {a0 : Int} (h0 : ¬ a0 + 20 ≤ 400) : 380 < a0 := by omega
theorem v_a359812b3c {a0 : Int} (h0 : 5 ≤ a0) : 5 ≤ a0 := by omega
theorem v_ea6a719626 {a0 : Int} (h0 : 1 ≤ a0) (h1 : a0 ≤ 7) : zr a0 := by omega
theorem v_e75e18c634 {a0 a1 : Int} (h0 : a0 ≤ 7) (h1 : a1 ≤ a0) : a1 ≤ 7 := by omega
theorem v_fdd73f66c3 {a0 a1 : Int} (h0 : a0 ≤ 2000000) (h1 : 0 ≤ a0) (h2 : a1 = (a0 + 1)) : zr a1 := by omega
theorem v_0e415c711b {a0 a1 : Int} (h0 : a0 = (a1 + 1)) : a0 ≤ a1 + 1 := by omega
theorem v_bbd1b10c82 {a0 : Int} (h0 : 0 ≤ a0) : -2147483648 ≤ a0 + 1 := by omega
theorem v_e6b50ddbe8 {a0 a1 a2 : Int} (h0 : a0 ≤ 7) (h1 : ¬ a0 ≤ a1) (h2 : a2 ≤ a1) : a2 + 1 ≤ 2147483647 := by omega
theorem v_39e15ed063 {a0 a1 : Int} (h0 : a0 ≤ 400) (h1 : ¬ a0 ≤ a1) : (a1 + 1) ≤ 400 := by omega
theorem v_1209447967 {a0 a1 : Int} (h0 : a0 ≤ 400) (h1 : ¬ a0 ≤ a1) : 0 < 400 - a1 := by omega
theorem v_af55e74974 {a0 : Int} (h0 : 7 < a0) : 7 < a0 := by omega
theorem v_7c7bbed721 : (0 : Int) ≤ 4870 := by omega
theorem v_285343f07a {a0 : Int} (h0 : 0 ≤ a0) (h1 : a0 ≤ 4870) : zr a0 := by omega
theorem v_c0995cba63 : zr 4870 := by omega
theorem v_0d7de8b66d {a0 : Int} (h0 : a0 ≤ 1) : a0 < 2 := by omega
theorem v_ef1e3ffec4 {a0 : Int} (h0 : 4870 ≤ a0) : 4870 ≤ a0 := by omega
theorem v_bd80b2205f {a0 a1 : Int} : 4870 * a0 + a1 = a1 + 4870 * a0 := by omega
theorem v_d39a86ff3e {a0 : Int} (h0 : ¬ 4870 ≤ a0) : a0 < 4870 := by omega
theorem v_af69fff669 {a0 a1 : Int} (h0 : 0 ≤ a0) (h1 : 0 ≤ a1) : 0 ≤ a1 + 4870 * a0 := by omega
theorem v_4e10c15305 {a0 a1 : Int} (h0 : a0 ≤ 1) (h1 : ¬ 4870 ≤ a1) : a1 + 4870 * a0 < 9740 := by omega
theorem v_2237a972b5 {a0 : Int} (h0 : ¬ 4870 ≤ a0) : (a0 + 1) ≤ 4870 := by omega
theorem v_36e7a0cc01 {a0 a1 : Int} : a0 + 4870 * a1 = 4870 * a1 + a0 := by omega
theorem v_e7445b9178 {a0 : Int} : 4870 - (a0 + 1) < (4870 - a0) := by omega
theorem v_6f2540389d {a0 : Int} (h0 : ¬ 4870 ≤ a0) : 0 < 4870 - a0 := by omega
theorem v_c45cc0c634 {a0 : Int} (h0 : 1 < a0) : 1 < a0 := by omega
set_option maxHeartbeats 4000000 in
set_option maxRecDepth 100000 in
theorem k_newBeans2 {l : Launch} {G : jG} {nh : Nat} {fh : Nat → Option va_E} (ms : Int) (mv : Int) (mt : Int) (mfa : Int) (mtn : Int) (mtk : Int) (mlv : Int) (mbd : Int) (mgo : Int) (mge : Int) (mbk : Int) (mtt : Int) (mtl : Int) (hm : Int) (pm : Int) (hb : Int) (sb : Int) (mfu : Int) (mdm : Int) (mla : Int) (K : Int → Int) (q0 : okF K) (q1 : 0 ≤ K 60) (q2 : K 60 ≤ 12) (q3 : SwL K (K 60) 7) (q4 : Rg K 4870 (-2147483648) 2147483647) (hk98 : fh 98 = some (.inr (12, (.int (zI ms) :: .int (zI mv) :: .ref 99 :: .ref 100 :: .ref 101 :: .ref 102 :: .ref 103 :: .ref 104 :: .ref 105 :: .int (zI mt) :: .int (zI mfa) :: .ref 106 :: .ref 107 :: .ref 108 :: .int (zI mtn) :: .int (zI mtk) :: .int (zI mlv) :: .int (zI mbd) :: .int (zI mgo) :: .int (zI mge) :: .int (zI mbk) :: .ref 109 :: .int (zI mtt) :: .int (zI mtl) :: .ref 110 :: .ref 111 :: .ref 112 :: .ref 113 :: .ref 114 :: .ref 115 :: .ref 116 :: .ref 117 :: .int (zI hm) :: .int (zI pm) :: .int (zI hb) :: .int (zI sb) :: .ref 118 :: .ref 119 :: .ref 120 :: .ref 121 :: .ref 122 :: .ref 123 :: .ref 124 :: .ref 125 :: .ref 126 :: .ref 127 :: .ref 128 :: .ref 129 :: .int (zI mfu) :: .ref 130 :: .ref 131 :: .ref 132 :: .ref 133 :: .ref 134 :: .int (zI mdm) :: .int (zI mla) :: [])))) (hk100 : fh 100 = some (.inl (0, 4870, .inl (zA K)))) : JM l G yX12_newBeans MX12_newBeans { frames := 1, cells := 0, slots := 0, locals := 22 } [.ref 98] (nh, fh) (fun rr h9 => ∃ K2 : Int → Int, rr = none ∧ h9 = (nh, hc fh [(100, .inl (0, 4870, .inl (zA K2)))]) ∧ (0 ≤ K2 60) ∧ (K2 60 ≤ 12) ∧ (SwL K2 (K2 60) (bsum K2)) ∧ (NBS K K2) ∧ (Rg K2 4870 (-2147483648) 2147483647) ∧ (NBX K K2)) := by
  refine JM.of (by decide) rfl (fun h => by cases h) (Nat.le_of_ble_eq_true rfl) ⟨2, rfl⟩ ?_
  refine J_hc0 (J_ls (ls2 := [some (.ref 98), none, none]) rfl ?_)
  refine J_aload_n dX12_newBeans_0 rfl rfl ?_
  refine J_get (v := .ref 100) dX12_newBeans_1 fl_X12_20 hk98 rfl ?_
  refine Z_bipush (n := 59) dX12_newBeans_4 (by decide +kernel) ?_
  refine Z_iconst (n := 0) dX12_newBeans_6 ?_
  refine Y_iast (v := 0) 4870 dX12_newBeans_7 hk100 rfl (by decide) v_891b05d1c3 v_028d633eb8 (fun f1 ef1 => ?_)
  have h2 : Rg f1 4870 (-2147483648) 2147483647 := Rg.ups q4 ef1 v_9c5011c36f v_cd342b47c7
  refine J_aload_n dX12_newBeans_8 rfl rfl ?_
  refine J_get (v := .ref 100) dX12_newBeans_9 fl_X12_20 hk98 rfl ?_
  refine Z_bipush (n := 61) dX12_newBeans_12 (by decide +kernel) ?_
  refine Z_iconst (n := 0) dX12_newBeans_14 ?_
  refine Y_iast (v := 0) 4870 dX12_newBeans_15 rfl rfl (by decide) v_b92a3c53b8 v_ee60c78ede (fun f3 ef3 => ?_)
  have h4 : Rg f3 4870 (-2147483648) 2147483647 := Rg.ups h2 ef3 v_9c5011c36f v_cd342b47c7
  refine Z_iconst (n := 0) dX12_newBeans_16 ?_
  refine J_istore_n dX12_newBeans_17 rfl (Nat.le_of_ble_eq_true rfl) rfl ?_
  refine J_ls (ls2 := [some (.ref 98), some (.int (zI 0)), none]) rfl ?_
  refine Z_iconst (n := 0) dX12_newBeans_18 ?_
  refine J_istore_n dX12_newBeans_19 rfl (Nat.le_of_ble_eq_true rfl) rfl ?_
  refine J_ls (ls2 := [some (.ref 98), some (.int (zI 0)), some (.int (zI 0))]) rfl ?_
  refine J_mask (L2 := [(100, .inl (0, 4870, .inl (zA f3)))]) (ks := [100, 100]) [true, false] rfl (by decide +kernel) rfl ?_
  have lp20 : ∀ (N20 : Nat) (n_20 : Int) (k_20 : Int) (Kx_20 : Int → Int), (0 ≤ n_20) → (n_20 ≤ k_20) → (k_20 ≤ K 60) → (NB K Kx_20 n_20 k_20 (bsum K)) → (0 ≤ bsum K) → (bsum K ≤ 7) → (Rg Kx_20 4870 (-2147483648) 2147483647) → (DwK K Kx_20 n_20 k_20 (bsum K)) → (K 60 - k_20).toNat < N20 → J l G MX12_newBeans { frames := 1, cells := 0, slots := 0, locals := 22 } jE (jMQ G { frames := 1, cells := 0, slots := 0, locals := 22 } (fun rr h9 => ∃ K2 : Int → Int, rr = none ∧ h9 = (nh, hc fh [(100, .inl (0, 4870, .inl (zA K2)))]) ∧ (0 ≤ K2 60) ∧ (K2 60 ≤ 12) ∧ (SwL K2 (K2 60) (bsum K2)) ∧ (NBS K K2) ∧ (Rg K2 4870 (-2147483648) 2147483647) ∧ (NBX K K2))) (nh, hc fh [(100, .inl (0, 4870, .inl (zA Kx_20)))]) 0 0 20 [some (.ref 98), some (.int (zI n_20)), some (.int (zI k_20))] [] := by
    intro N20
    induction N20 with
    | zero => intro n_20 k_20 Kx_20 i20_0 i20_1 i20_2 i20_3 i20_4 i20_5 i20_6 i20_7 hm; exact absurd hm (Nat.not_lt_zero _)
    | succ N20 ih20 =>
      intro n_20 k_20 Kx_20 i20_0 i20_1 i20_2 i20_3 i20_4 i20_5 i20_6 i20_7 hm20
      refine J_iload_n dX12_newBeans_20 rfl rfl ?_
      refine J_aload_n dX12_newBeans_21 rfl rfl ?_
      refine J_get (v := .ref 100) dX12_newBeans_22 fl_X12_20 hk98 rfl ?_
      refine Z_bipush (n := 60) dX12_newBeans_25 (by decide +kernel) ?_
      have g5 : Kx_20 60 = K 60 := i20_3.2.1 60 (by omega) (by decide) (by decide)
      obtain ⟨z6, ez6⟩ : ∃ z : Int, Kx_20 60 = z := ⟨_, rfl⟩
      have h7 := Rg.at i20_6 v_eb2f5e1e3a v_db2e89ee0b ez6
      refine Y_iald (z := z6) 4870 dX12_newBeans_27 rfl rfl (by decide) v_eb2f5e1e3a v_db2e89ee0b ez6 ?_
      refine Z_icmp_ge (tgt := 111) dX12_newBeans_28 (by decide) (v_d9c1674c2b q2 i20_0 i20_1 i20_2) (v_f306e1cdb8 h7.1 h7.2) (fun h8 => ?_) (fun h8 => ?_)
      · refine J_aload_n dX12_newBeans_111 rfl rfl ?_
        refine J_get (v := .ref 100) dX12_newBeans_112 fl_X12_20 hk98 rfl ?_
        refine Z_bipush (n := 60) dX12_newBeans_115 (by decide +kernel) ?_
        refine J_iload_n dX12_newBeans_117 rfl rfl ?_
        refine Y_iast (v := n_20) 4870 dX12_newBeans_118 rfl rfl (by decide) v_eb2f5e1e3a v_db2e89ee0b (fun f9 ef9 => ?_)
        have h10 : Rg f9 4870 (-2147483648) 2147483647 := Rg.ups i20_6 ef9 (v_c11e42827f i20_0) (v_8f3d5f3a5d q2 i20_1 i20_2)
        refine J_mask (L2 := [(100, .inl (0, 4870, .inl (zA f9)))]) (ks := [100, 100]) [true, false] rfl (by decide +kernel) rfl ?_
        exact J_vret dX12_newBeans_119 rfl (Nat.le_of_ble_eq_true rfl) (Nat.le_of_ble_eq_true rfl) ⟨f9, rfl, rfl, (by rw [ef9, up_same]; exact (v_2b02420001 i20_0)), (by rw [ef9, up_same]; exact (v_2876cb51c8 q2 i20_1 i20_2)), (NB_sw i20_3 ef9 (v_2b02420001 i20_0) (v_2876cb51c8 q2 i20_1 i20_2)), (NB_same i20_3 ef9 (v_0a48787587 q2 i20_2)), h10, (NBX_of i20_7 ef9 (v_6657282877 i20_2 g5 ez6 h8))⟩
      · refine J_aload_n dX12_newBeans_31 rfl rfl ?_
        refine J_get (v := .ref 100) dX12_newBeans_32 fl_X12_20 hk98 rfl ?_
        refine Z_bipush (n := 23) dX12_newBeans_35 (by decide +kernel) ?_
        refine Z_iconst (n := 2) dX12_newBeans_37 ?_
        refine J_iload_n dX12_newBeans_38 rfl rfl ?_
        refine Z_imul (c := 2 * k_20) dX12_newBeans_39 rfl ?_
        refine Z_iadd (c := 2 * k_20 + 23) dX12_newBeans_40 v_1e1da0d12e ?_
        refine Z_iconst (n := 1) dX12_newBeans_41 ?_
        refine Z_iadd (c := 2 * k_20 + 24) dX12_newBeans_42 v_2b7c6ee0d2 ?_
        obtain ⟨z11, ez11⟩ : ∃ z : Int, Kx_20 (2 * k_20 + 24) = z := ⟨_, rfl⟩
        have h12 := Rg.at i20_6 (v_68f7c845be i20_0 i20_1) (v_941d39a6a1 q2 i20_2) ez11
        refine Y_iald (z := z11) 4870 dX12_newBeans_43 rfl rfl (by decide) (v_68f7c845be i20_0 i20_1) (v_941d39a6a1 q2 i20_2) ez11 ?_
        refine J_aload_n dX12_newBeans_44 rfl rfl ?_
        refine J_callV (st := [.int (zI z11)]) dX12_newBeans_45 cv_X12_149 (k_places ms mv mt mfa mtn mtk mlv mbd mgo mge mbk mtt mtl hm pm hb sb mfu mdm mla Kx_20 hk98 rfl) hk98 rfl rfl (Nat.le_of_ble_eq_true rfl) ⟨(Nat.le_of_ble_eq_true rfl), (Nat.le_of_ble_eq_true rfl)⟩ ⟨(Nat.le_of_ble_eq_true rfl), (Nat.le_of_ble_eq_true rfl)⟩ (fun r h9 hp => ?_)
        obtain ⟨z13, rfl, rfl, h14⟩ := hp
        refine J_nf (nh2 := nh) (ck2 := 0) (sk2 := 0) (st2 := [.int (zI z13), .int (zI z11)]) rfl rfl rfl rfl ?_
        have g15 : z13 = bsum K := by rw [h14]; exact NB_bsum i20_3
        have g16 : -1 ≤ z11 ∧ z11 < 7 := by have u := i20_3.2.1 (2 * k_20 + 24) (by omega) (by have := (v_b81c7da539 q2 g5 ez6 h8); omega) (by have := (v_b81c7da539 q2 g5 ez6 h8); omega); have w := q3 k_20 (v_21976c7318 i20_0 i20_1) (v_01a42d8ab3 g5 ez6 h8); rw [show (24 : Int) + 2 * k_20 = 2 * k_20 + 24 by omega, show (23 : Int) + 2 * k_20 = 2 * k_20 + 23 by omega] at w; rw [← ez11, u]; omega
        refine Z_icmp_lt (tgt := 54) dX12_newBeans_48 (by decide) (v_ea3840d23a g16.1 g16.2) (v_75bb772763 i20_4 i20_5 g15) (fun h17 => ?_) (fun h17 => ?_)
        · refine J_aload_n dX12_newBeans_54 rfl rfl ?_
          refine J_get (v := .ref 100) dX12_newBeans_55 fl_X12_20 hk98 rfl ?_
          refine Z_bipush (n := 23) dX12_newBeans_58 (by decide +kernel) ?_
          refine Z_iconst (n := 2) dX12_newBeans_60 ?_
          refine J_iload_n dX12_newBeans_61 rfl rfl ?_
          refine Z_imul (c := 2 * n_20) dX12_newBeans_62 rfl ?_
          refine Z_iadd (c := 2 * n_20 + 23) dX12_newBeans_63 v_1e1da0d12e ?_
          refine J_aload_n dX12_newBeans_64 rfl rfl ?_
          refine J_get (v := .ref 100) dX12_newBeans_65 fl_X12_20 hk98 rfl ?_
          refine Z_bipush (n := 23) dX12_newBeans_68 (by decide +kernel) ?_
          refine Z_iconst (n := 2) dX12_newBeans_70 ?_
          refine J_iload_n dX12_newBeans_71 rfl rfl ?_
          refine Z_imul (c := 2 * k_20) dX12_newBeans_72 rfl ?_
          refine Z_iadd (c := 2 * k_20 + 23) dX12_newBeans_73 v_1e1da0d12e ?_
          obtain ⟨z18, ez18⟩ : ∃ z : Int, Kx_20 (2 * k_20 + 23) = z := ⟨_, rfl⟩
          have h19 := Rg.at i20_6 (v_709f2cec99 i20_0 i20_1) (v_f11bc84c02 q2 i20_2) ez18
          refine Y_iald (z := z18) 4870 dX12_newBeans_74 rfl rfl (by decide) (v_709f2cec99 i20_0 i20_1) (v_f11bc84c02 q2 i20_2) ez18 ?_
          refine Y_iast (v := z18) 4870 dX12_newBeans_75 rfl rfl (by decide) (v_1d4e2b17a1 i20_0) (v_f32d3306ed q2 i20_1 i20_2) (fun f20 ef20 => ?_)
          have h21 : Rg f20 4870 (-2147483648) 2147483647 := Rg.ups i20_6 ef20 (v_d88ddc6924 h19.1) (v_1b64565166 h19.2)
          refine J_aload_n dX12_newBeans_76 rfl rfl ?_
          refine J_get (v := .ref 100) dX12_newBeans_77 fl_X12_20 hk98 rfl ?_
          refine Z_bipush (n := 23) dX12_newBeans_80 (by decide +kernel) ?_
          refine Z_iconst (n := 2) dX12_newBeans_82 ?_
          refine J_iload_n dX12_newBeans_83 rfl rfl ?_
          refine Z_imul (c := 2 * n_20) dX12_newBeans_84 rfl ?_
          refine Z_iadd (c := 2 * n_20 + 23) dX12_newBeans_85 v_1e1da0d12e ?_
          refine Z_iconst (n := 1) dX12_newBeans_86 ?_
          refine Z_iadd (c := 2 * n_20 + 24) dX12_newBeans_87 v_2b7c6ee0d2 ?_
          refine J_aload_n dX12_newBeans_88 rfl rfl ?_
          refine J_get (v := .ref 100) dX12_newBeans_89 fl_X12_20 hk98 rfl ?_
          refine Z_bipush (n := 23) dX12_newBeans_92 (by decide +kernel) ?_
          refine Z_iconst (n := 2) dX12_newBeans_94 ?_
          refine J_iload_n dX12_newBeans_95 rfl rfl ?_
          refine Z_imul (c := 2 * k_20) dX12_newBeans_96 rfl ?_
          refine Z_iadd (c := 2 * k_20 + 23) dX12_newBeans_97 v_1e1da0d12e ?_
          refine Z_iconst (n := 1) dX12_newBeans_98 ?_
          refine Z_iadd (c := 2 * k_20 + 24) dX12_newBeans_99 v_2b7c6ee0d2 ?_
          obtain ⟨z22, ez22⟩ : ∃ z : Int, f20 (2 * k_20 + 24) = z := ⟨_, rfl⟩
          have h23 := Rg.at h21 (v_68f7c845be i20_0 i20_1) (v_941d39a6a1 q2 i20_2) ez22
          have e24 : Kx_20 (2 * k_20 + 24) = z22 := rd_ne ef20 (v_adb8045dea i20_1) ez22
          have h25 : z22 = z11 := e24.symm.trans ez11
          refine Y_iald (z := z22) 4870 dX12_newBeans_100 rfl rfl (by decide) (v_68f7c845be i20_0 i20_1) (v_941d39a6a1 q2 i20_2) ez22 ?_
          refine Y_iast (v := z22) 4870 dX12_newBeans_101 rfl rfl (by decide) (v_d83d0a38e6 i20_0) (v_a13075eed7 q2 i20_1 i20_2) (fun f26 ef26 => ?_)
          have h27 : Rg f26 4870 (-2147483648) 2147483647 := Rg.ups h21 ef26 (v_d88ddc6924 h23.1) (v_1b64565166 h23.2)
          refine Z_iinc (c := n_20 + 1) (ls2 := [some (.ref 98), some (.int (zI (n_20 + 1))), some (.int (zI k_20))]) dX12_newBeans_102 rfl (Nat.le_of_ble_eq_true rfl) rfl rfl rfl ?_
          refine Z_iinc (c := k_20 + 1) (ls2 := [some (.ref 98), some (.int (zI (n_20 + 1))), some (.int (zI (k_20 + 1)))]) dX12_newBeans_105 rfl (Nat.le_of_ble_eq_true rfl) rfl rfl rfl ?_
          refine J_goto (tgt := 20) dX12_newBeans_108 (by decide) ?_
          refine J_mask (L2 := [(100, .inl (0, 4870, .inl (zA f26)))]) (ks := [100, 100, 100]) [true, false, false] rfl (by decide +kernel) rfl ?_
          exact ih20 (n_20 + 1) (k_20 + 1) f26 (v_da458fa48a i20_0) (v_14fc63d1f2 i20_1) (v_ed68225989 g5 ez6 h8) (NB.copy (a := z18) (b := z22) i20_3 q3 (v_21976c7318 i20_0 i20_1) (v_01a42d8ab3 g5 ez6 h8) q2 i20_0 i20_1 ez18 ef20 ez22 ef26 (v_164b6ef4a0 g15 h17 h25)) i20_4 i20_5 h27 (DwK.copy i20_7 (v_21976c7318 i20_0 i20_1) (v_b81c7da539 q2 g5 ez6 h8) i20_0 i20_1 ez18 ef20 ez22 ef26 (v_164b6ef4a0 g15 h17 h25)) (meas_lt v_90eacd6fd4 (v_3a1fe48dfa g5 ez6 h8) hm20)
        · refine J_goto (tgt := 105) dX12_newBeans_51 (by decide) ?_
          refine Z_iinc (c := k_20 + 1) (ls2 := [some (.ref 98), some (.int (zI n_20)), some (.int (zI (k_20 + 1)))]) dX12_newBeans_105 rfl (Nat.le_of_ble_eq_true rfl) rfl rfl rfl ?_
          refine J_goto (tgt := 20) dX12_newBeans_108 (by decide) ?_
          exact ih20 n_20 (k_20 + 1) Kx_20 i20_0 (v_d50281bace i20_1) (v_ed68225989 g5 ez6 h8) (NB.skip i20_3) i20_4 i20_5 i20_6 (DwK.skip i20_7 (v_21976c7318 i20_0 i20_1) (v_b81c7da539 q2 g5 ez6 h8) ez11 (v_8b3df8f0b9 g15 h17)) (meas_lt v_90eacd6fd4 (v_3a1fe48dfa g5 ez6 h8) hm20)
  exact lp20 _ 0 0 f3 v_939070ca3f v_939070ca3f q1 (NB_0 ef1 ef3) ((bsum_rng q0).1) ((bsum_rng q0).2) h4 (DwK_0 ef1 ef3) (Nat.lt_succ_self _)
set_option maxHeartbeats 4000000 in
set_option maxRecDepth 100000 in
theorem k_beans {l : Launch} {G : jG} {nh : Nat} {fh : Nat → Option va_E} (x : Int) (y : Int) (ms : Int) (mv : Int) (mt : Int) (mfa : Int) (mtn : Int) (mtk : Int) (mlv : Int) (mbd : Int) (mgo : Int) (mge : Int) (mbk : Int) (mtt : Int) (mtl : Int) (hm : Int) (pm : Int) (hb : Int) (sb : Int) (mfu : Int) (mdm : Int) (mla : Int) (K : Int → Int) (rf7 : Int → Int) (q0 : zr x) (q1 : zr y) (q2 : KOK K) (hk98 : fh 98 = some (.inr (12, (.int (zI ms) :: .int (zI mv) :: .ref 99 :: .ref 100 :: .ref 101 :: .ref 102 :: .ref 103 :: .ref 104 :: .ref 105 :: .int (zI mt) :: .int (zI mfa) :: .ref 106 :: .ref 107 :: .ref 108 :: .int (zI mtn) :: .int (zI mtk) :: .int (zI mlv) :: .int (zI mbd) :: .int (zI mgo) :: .int (zI mge) :: .int (zI mbk) :: .ref 109 :: .int (zI mtt) :: .int (zI mtl) :: .ref 110 :: .ref 111 :: .ref 112 :: .ref 113 :: .ref 114 :: .ref 115 :: .ref 116 :: .ref 117 :: .int (zI hm) :: .int (zI pm) :: .int (zI hb) :: .int (zI sb) :: .ref 118 :: .ref 119 :: .ref 120 :: .ref 121 :: .ref 122 :: .ref 123 :: .ref 124 :: .ref 125 :: .ref 126 :: .ref 127 :: .ref 128 :: .ref 129 :: .int (zI mfu) :: .ref 130 :: .ref 131 :: .ref 132 :: .ref 133 :: .ref 134 :: .int (zI mdm) :: .int (zI mla) :: [])))) (hk100 : fh 100 = some (.inl (0, 4870, .inl (zA K)))) (hk99 : fh 99 = some (.inl (0, 7, .inl (zA rf7)))) : JM l G yX12_beans MX12_beans { frames := 2, cells := 0, slots := 0, locals := 44 } [.ref 98, .int (zI x), .int (zI y)] (nh, fh) (fun rr h9 => (∃ rg7 : Int → Int, rr = some (.int (zI (-1))) ∧ h9 = (nh, hc fh [(98, .inr (12, (.int (zI (-1)) :: .int (zI mv) :: .ref 99 :: .ref 100 :: .ref 101 :: .ref 102 :: .ref 103 :: .ref 104 :: .ref 105 :: .int (zI mt) :: .int (zI mfa) :: .ref 106 :: .ref 107 :: .ref 108 :: .int (zI mtn) :: .int (zI mtk) :: .int (zI mlv) :: .int (zI mbd) :: .int (zI mgo) :: .int (zI mge) :: .int (zI mbk) :: .ref 109 :: .int (zI mtt) :: .int (zI mtl) :: .ref 110 :: .ref 111 :: .ref 112 :: .ref 113 :: .ref 114 :: .ref 115 :: .ref 116 :: .ref 117 :: .int (zI hm) :: .int (zI pm) :: .int (zI hb) :: .int (zI sb) :: .ref 118 :: .ref 119 :: .ref 120 :: .ref 121 :: .ref 122 :: .ref 123 :: .ref 124 :: .ref 125 :: .ref 126 :: .ref 127 :: .ref 128 :: .ref 129 :: .int (zI mfu) :: .ref 130 :: .ref 131 :: .ref 132 :: .ref 133 :: .ref 134 :: .int (zI mdm) :: .int (zI mla) :: []))), (99, .inl (0, 7, .inl (zA rg7)))]) ∧ (¬ bnk x y K)) ∨ (∃ K2 : Int → Int, ∃ r : Int, ∃ K1 : Int → Int, rr = some (.int (zI r)) ∧ h9 = (nh, hc fh [(98, .inr (12, (.int (zI 0) :: .int (zI (mv + 1)) :: .ref 99 :: .ref 100 :: .ref 101 :: .ref 102 :: .ref 103 :: .ref 104 :: .ref 105 :: .int (zI mt) :: .int (zI mfa) :: .ref 106 :: .ref 107 :: .ref 108 :: .int (zI mtn) :: .int (zI mtk) :: .int (zI mlv) :: .int (zI mbd) :: .int (zI mgo) :: .int (zI mge) :: .int (zI mbk) :: .ref 109 :: .int (zI mtt) :: .int (zI mtl) :: .ref 110 :: .ref 111 :: .ref 112 :: .ref 113 :: .ref 114 :: .ref 115 :: .ref 116 :: .ref 117 :: .int (zI hm) :: .int (zI pm) :: .int (zI hb) :: .int (zI sb) :: .ref 118 :: .ref 119 :: .ref 120 :: .ref 121 :: .ref 122 :: .ref 123 :: .ref 124 :: .ref 125 :: .ref 126 :: .ref 127 :: .ref 128 :: .ref 129 :: .int (zI mfu) :: .ref 130 :: .ref 131 :: .ref 132 :: .ref 133 :: .ref 134 :: .int (zI mdm) :: .int (zI mla) :: []))), (100, .inl (0, 4870, .inl (zA K2)))]) ∧ (KOK K2) ∧ (bnk x y K) ∧ (K x = r) ∧ (NBS K1 K2) ∧ (NBX K1 K2) ∧ ((K1 = up K x y)))) := by
  refine JM.of (by decide) rfl (fun h => by cases h) (Nat.le_of_ble_eq_true rfl) ⟨1, rfl⟩ ?_
  refine J_hc0 (J_ls (ls2 := [some (.ref 98), some (.int (zI x)), some (.int (zI y)), none]) rfl ?_)
  refine J_iload_n dX12_beans_0 rfl rfl ?_
  refine Z_iconst (n := 0) dX12_beans_1 ?_
  refine Z_iconst (n := 4) dX12_beans_2 ?_
  refine J_callS (st := []) dX12_beans_3 cs_X12_138 (k_lies x 0 4 q0 v_b17331891f v_ffb526fa28) rfl rfl (Nat.le_of_ble_eq_true rfl) ⟨(Nat.le_of_ble_eq_true rfl), (Nat.le_of_ble_eq_true rfl)⟩ ⟨(Nat.le_of_ble_eq_true rfl), (Nat.le_of_ble_eq_true rfl)⟩ (fun r h9 hp => ?_)
  rcases hp with ⟨rfl, rfl, h1, h2⟩ | ⟨rfl, rfl, h3⟩ | ⟨rfl, rfl, h4⟩
  · refine J_nf (nh2 := nh) (ck2 := 0) (sk2 := 0) (st2 := [.int (zI 1)]) rfl rfl rfl rfl ?_
    refine Z_if_eq (tgt := 39) dX12_beans_6 (by decide) v_4dcc24baa7 (fun h5 => absurd h5 v_3a47bfd896) (fun h5 => ?_)
    refine J_iload_n dX12_beans_9 rfl rfl ?_
    refine Z_iconst (n := 0) dX12_beans_10 ?_
    refine Z_bipush (n := 7) dX12_beans_11 (by decide +kernel) ?_
    refine J_callS (st := []) dX12_beans_13 cs_X12_138 (k_lies y 0 7 q1 v_b17331891f v_c3fe1a091f) rfl rfl (Nat.le_of_ble_eq_true rfl) ⟨(Nat.le_of_ble_eq_true rfl), (Nat.le_of_ble_eq_true rfl)⟩ ⟨(Nat.le_of_ble_eq_true rfl), (Nat.le_of_ble_eq_true rfl)⟩ (fun r h9 hp => ?_)
    rcases hp with ⟨rfl, rfl, h6, h7⟩ | ⟨rfl, rfl, h8⟩ | ⟨rfl, rfl, h9⟩
    · refine J_nf (nh2 := nh) (ck2 := 0) (sk2 := 0) (st2 := [.int (zI 1)]) rfl rfl rfl rfl ?_
      refine Z_if_eq (tgt := 39) dX12_beans_16 (by decide) v_4dcc24baa7 (fun h10 => absurd h10 v_3a47bfd896) (fun h10 => ?_)
      refine J_aload_n dX12_beans_19 rfl rfl ?_
      refine J_callV (st := []) dX12_beans_20 cv_X12_149 (k_places ms mv mt mfa mtn mtk mlv mbd mgo mge mbk mtt mtl hm pm hb sb mfu mdm mla K hk98 hk100) hk98 rfl rfl (Nat.le_of_ble_eq_true rfl) ⟨(Nat.le_of_ble_eq_true rfl), (Nat.le_of_ble_eq_true rfl)⟩ ⟨(Nat.le_of_ble_eq_true rfl), (Nat.le_of_ble_eq_true rfl)⟩ (fun r h9 hp => ?_)
      obtain ⟨z11, rfl, rfl, h12⟩ := hp
      refine J_nf (nh2 := nh) (ck2 := 0) (sk2 := 0) (st2 := [.int (zI z11)]) rfl rfl rfl rfl ?_
      have g13 : 0 ≤ z11 ∧ z11 ≤ 7 := by rw [h12]; exact bsum_rng q2.1
      refine J_aload_n dX12_beans_23 rfl rfl ?_
      refine J_get (v := .ref 100) dX12_beans_24 fl_X12_20 hk98 rfl ?_
      refine Z_iconst (n := 0) dX12_beans_27 ?_
      refine J_iload_n dX12_beans_28 rfl rfl ?_
      refine Z_iadd (c := x) dX12_beans_29 v_a8cc381b6d ?_
      obtain ⟨z14, ez14⟩ : ∃ z : Int, K x = z := ⟨_, rfl⟩
      have h15 := Rg.at q2.2.2.2.2.2.2.2.2.1 (v_2b02420001 h1) (v_a6c9ab5f5e h2) ez14
      refine Y_iald (z := z14) 4870 dX12_beans_30 hk100 rfl (by decide) (v_2b02420001 h1) (v_a6c9ab5f5e h2) ez14 ?_
      have g16 := okF_at q2.1 (v_2b02420001 h1) (v_77407988c7 h2) ez14
      refine Z_isub (c := z11 - z14) dX12_beans_31 rfl ?_
      refine J_iload_n dX12_beans_32 rfl rfl ?_
      refine Z_iadd (c := y + z11 - z14) dX12_beans_33 v_c89fbda24a ?_
      refine Z_bipush (n := 7) dX12_beans_34 (by decide +kernel) ?_
      refine Z_icmp_le (tgt := 45) dX12_beans_36 (by decide) (v_31d9359e1b h6 h7 g13.1 g13.2 g16.1 g16.2.1) v_c3fe1a091f (fun h17 => ?_) (fun h17 => ?_)
      · refine J_aload_n dX12_beans_45 rfl rfl ?_
        refine J_get (v := .ref 100) dX12_beans_46 fl_X12_20 hk98 rfl ?_
        refine Z_iconst (n := 0) dX12_beans_49 ?_
        refine J_iload_n dX12_beans_50 rfl rfl ?_
        refine Z_iadd (c := x) dX12_beans_51 v_a8cc381b6d ?_
        refine Y_iald (z := z14) 4870 dX12_beans_52 hk100 rfl (by decide) (v_2b02420001 h1) (v_a6c9ab5f5e h2) ez14 ?_
        refine J_istore_n dX12_beans_53 rfl (Nat.le_of_ble_eq_true rfl) rfl ?_
        refine J_ls (ls2 := [some (.ref 98), some (.int (zI x)), some (.int (zI y)), some (.int (zI z14))]) rfl ?_
        refine J_aload_n dX12_beans_54 rfl rfl ?_
        refine J_get (v := .ref 100) dX12_beans_55 fl_X12_20 hk98 rfl ?_
        refine Z_iconst (n := 0) dX12_beans_58 ?_
        refine J_iload_n dX12_beans_59 rfl rfl ?_
        refine Z_iadd (c := x) dX12_beans_60 v_a8cc381b6d ?_
        refine J_iload_n dX12_beans_61 rfl rfl ?_
        refine Y_iast (v := y) 4870 dX12_beans_62 hk100 rfl (by decide) (v_2b02420001 h1) (v_a6c9ab5f5e h2) (fun f18 ef18 => ?_)
        have h19 : Rg f18 4870 (-2147483648) 2147483647 := Rg.ups q2.2.2.2.2.2.2.2.2.1 ef18 (v_c11e42827f h6) (v_f9904d9a45 h7)
        refine J_aload_n dX12_beans_63 rfl rfl ?_
        refine J_callV (st := []) dX12_beans_64 cv_X12_153 (k_newBeans2 ms mv mt mfa mtn mtk mlv mbd mgo mge mbk mtt mtl hm pm hb sb mfu mdm mla f18 (beans_ok q2.1 (v_2b02420001 h1) (v_77407988c7 h2) (v_2b02420001 h6) ez14 h12 (v_846727a7c0 h17) ef18) (by rw [ef18, up_ne (v_6268837683 h2)]; exact q2.2.2.1.1) (by rw [ef18, up_ne (v_6268837683 h2)]; exact q2.2.2.1.2) (SwL_up q2.2.2.2.1 q2.1 q2.2.2.1.2 (fun j a => by rw [ef18, up_ne (by have := (v_77407988c7 h2); omega)])) h19 hk98 rfl) hk98 rfl rfl (Nat.le_of_ble_eq_true rfl) ⟨(Nat.le_of_ble_eq_true rfl), (Nat.le_of_ble_eq_true rfl)⟩ ⟨(Nat.le_of_ble_eq_true rfl), (Nat.le_of_ble_eq_true rfl)⟩ (fun r h9 hp => ?_)
        obtain ⟨f20, rfl, rfl, h21, h22, h23, h24, h25, h26⟩ := hp
        refine J_nf (nh2 := nh) (ck2 := 0) (sk2 := 0) (st2 := []) rfl rfl rfl rfl ?_
        refine J_app (L3 := [(100, .inl (0, 4870, .inl (zA f20))), (100, .inl (0, 4870, .inl (zA f18)))]) rfl ?_
        refine J_mask (L2 := [(100, .inl (0, 4870, .inl (zA f20)))]) (ks := [100, 100]) [true, false] rfl (by decide +kernel) rfl ?_
        refine J_aload_n dX12_beans_67 rfl rfl ?_
        refine J_iload_n dX12_beans_68 rfl rfl ?_
        refine J_callV (st := []) dX12_beans_69 cv_X12_146 (k_good z14 ms mv mt mfa mtn mtk mlv mbd mgo mge mbk mtt mtl hm pm hb sb mfu mdm mla hk98) hk98 rfl rfl (Nat.le_of_ble_eq_true rfl) ⟨(Nat.le_of_ble_eq_true rfl), (Nat.le_of_ble_eq_true rfl)⟩ ⟨(Nat.le_of_ble_eq_true rfl), (Nat.le_of_ble_eq_true rfl)⟩ (fun r h9 hp => ?_)
        obtain ⟨rfl, rfl⟩ := hp
        refine J_nf (nh2 := nh) (ck2 := 0) (sk2 := 0) (st2 := [.int (zI z14)]) rfl rfl rfl rfl ?_
        refine J_app (L3 := [(98, .inr (12, (.int (zI 0) :: .int (zI (mv + 1)) :: .ref 99 :: .ref 100 :: .ref 101 :: .ref 102 :: .ref 103 :: .ref 104 :: .ref 105 :: .int (zI mt) :: .int (zI mfa) :: .ref 106 :: .ref 107 :: .ref 108 :: .int (zI mtn) :: .int (zI mtk) :: .int (zI mlv) :: .int (zI mbd) :: .int (zI mgo) :: .int (zI mge) :: .int (zI mbk) :: .ref 109 :: .int (zI mtt) :: .int (zI mtl) :: .ref 110 :: .ref 111 :: .ref 112 :: .ref 113 :: .ref 114 :: .ref 115 :: .ref 116 :: .ref 117 :: .int (zI hm) :: .int (zI pm) :: .int (zI hb) :: .int (zI sb) :: .ref 118 :: .ref 119 :: .ref 120 :: .ref 121 :: .ref 122 :: .ref 123 :: .ref 124 :: .ref 125 :: .ref 126 :: .ref 127 :: .ref 128 :: .ref 129 :: .int (zI mfu) :: .ref 130 :: .ref 131 :: .ref 132 :: .ref 133 :: .ref 134 :: .int (zI mdm) :: .int (zI mla) :: []))), (100, .inl (0, 4870, .inl (zA f20)))]) rfl ?_
        exact J_iret dX12_beans_72 rfl rfl (Nat.le_of_ble_eq_true rfl) (Nat.le_of_ble_eq_true rfl) (Or.inr ⟨f20, z14, f18, rfl, rfl, (KOK.beans q2 (K1 := f18) (fun j a => by rw [ef18, up_ne (by have := (v_77407988c7 h2); omega)]) (beans_ok q2.1 (v_2b02420001 h1) (v_77407988c7 h2) (v_2b02420001 h6) ez14 h12 (v_846727a7c0 h17) ef18) ⟨h21, h22⟩ h23 h24 h25), (⟨(v_2b02420001 h1), (v_77407988c7 h2), (v_2b02420001 h6), (v_dc59a041dc h7), (v_79f64a7f26 h12 ez14 h17)⟩), ez14, h24, h26, ef18⟩)
      · refine J_aload_n dX12_beans_39 rfl rfl ?_
        refine Z_iconst (n := -1) dX12_beans_40 ?_
        refine J_callV (st := []) dX12_beans_41 cv_X12_142 (k_refuses (-1) rf7 ms mv mt mfa mtn mtk mlv mbd mgo mge mbk mtt mtl hm pm hb sb mfu mdm mla v_ef59c9c3d8 v_646fb950f3 hk98 hk99) hk98 rfl rfl (Nat.le_of_ble_eq_true rfl) ⟨(Nat.le_of_ble_eq_true rfl), (Nat.le_of_ble_eq_true rfl)⟩ ⟨(Nat.le_of_ble_eq_true rfl), (Nat.le_of_ble_eq_true rfl)⟩ (fun r h9 hp => ?_)
        obtain ⟨f27, rfl, rfl⟩ := hp
        refine J_nf (nh2 := nh) (ck2 := 0) (sk2 := 0) (st2 := [.int (zI (-1))]) rfl rfl rfl rfl ?_
        refine J_app (L3 := [(98, .inr (12, (.int (zI (-1)) :: .int (zI mv) :: .ref 99 :: .ref 100 :: .ref 101 :: .ref 102 :: .ref 103 :: .ref 104 :: .ref 105 :: .int (zI mt) :: .int (zI mfa) :: .ref 106 :: .ref 107 :: .ref 108 :: .int (zI mtn) :: .int (zI mtk) :: .int (zI mlv) :: .int (zI mbd) :: .int (zI mgo) :: .int (zI mge) :: .int (zI mbk) :: .ref 109 :: .int (zI mtt) :: .int (zI mtl) :: .ref 110 :: .ref 111 :: .ref 112 :: .ref 113 :: .ref 114 :: .ref 115 :: .ref 116 :: .ref 117 :: .int (zI hm) :: .int (zI pm) :: .int (zI hb) :: .int (zI sb) :: .ref 118 :: .ref 119 :: .ref 120 :: .ref 121 :: .ref 122 :: .ref 123 :: .ref 124 :: .ref 125 :: .ref 126 :: .ref 127 :: .ref 128 :: .ref 129 :: .int (zI mfu) :: .ref 130 :: .ref 131 :: .ref 132 :: .ref 133 :: .ref 134 :: .int (zI mdm) :: .int (zI mla) :: []))), (99, .inl (0, 7, .inl (zA f27)))]) rfl ?_
        exact J_iret dX12_beans_44 rfl rfl (Nat.le_of_ble_eq_true rfl) (Nat.le_of_ble_eq_true rfl) (Or.inl ⟨f27, rfl, rfl, (fun q => absurd q.2.2.2.2 (v_35b4c259d6 h12 ez14 h17))⟩)
    · refine J_nf (nh2 := nh) (ck2 := 0) (sk2 := 0) (st2 := [.int (zI 0)]) rfl rfl rfl rfl ?_
      refine Z_if_eq (tgt := 39) dX12_beans_16 (by decide) v_b17331891f (fun h28 => ?_) (fun h28 => absurd h28 (fun q => q v_2ca2bbca1f))
      refine J_aload_n dX12_beans_39 rfl rfl ?_
      refine Z_iconst (n := -1) dX12_beans_40 ?_
      refine J_callV (st := []) dX12_beans_41 cv_X12_142 (k_refuses (-1) rf7 ms mv mt mfa mtn mtk mlv mbd mgo mge mbk mtt mtl hm pm hb sb mfu mdm mla v_ef59c9c3d8 v_646fb950f3 hk98 hk99) hk98 rfl rfl (Nat.le_of_ble_eq_true rfl) ⟨(Nat.le_of_ble_eq_true rfl), (Nat.le_of_ble_eq_true rfl)⟩ ⟨(Nat.le_of_ble_eq_true rfl), (Nat.le_of_ble_eq_true rfl)⟩ (fun r h9 hp => ?_)
      obtain ⟨f29, rfl, rfl⟩ := hp
      refine J_nf (nh2 := nh) (ck2 := 0) (sk2 := 0) (st2 := [.int (zI (-1))]) rfl rfl rfl rfl ?_
      refine J_app (L3 := [(98, .inr (12, (.int (zI (-1)) :: .int (zI mv) :: .ref 99 :: .ref 100 :: .ref 101 :: .ref 102 :: .ref 103 :: .ref 104 :: .ref 105 :: .int (zI mt) :: .int (zI mfa) :: .ref 106 :: .ref 107 :: .ref 108 :: .int (zI mtn) :: .int (zI mtk) :: .int (zI mlv) :: .int (zI mbd) :: .int (zI mgo) :: .int (zI mge) :: .int (zI mbk) :: .ref 109 :: .int (zI mtt) :: .int (zI mtl) :: .ref 110 :: .ref 111 :: .ref 112 :: .ref 113 :: .ref 114 :: .ref 115 :: .ref 116 :: .ref 117 :: .int (zI hm) :: .int (zI pm) :: .int (zI hb) :: .int (zI sb) :: .ref 118 :: .ref 119 :: .ref 120 :: .ref 121 :: .ref 122 :: .ref 123 :: .ref 124 :: .ref 125 :: .ref 126 :: .ref 127 :: .ref 128 :: .ref 129 :: .int (zI mfu) :: .ref 130 :: .ref 131 :: .ref 132 :: .ref 133 :: .ref 134 :: .int (zI mdm) :: .int (zI mla) :: []))), (99, .inl (0, 7, .inl (zA f29)))]) rfl ?_
      exact J_iret dX12_beans_44 rfl rfl (Nat.le_of_ble_eq_true rfl) (Nat.le_of_ble_eq_true rfl) (Or.inl ⟨f29, rfl, rfl, (fun q => absurd q.2.2.1 (v_dccefa8cdf h8))⟩)
    · refine J_nf (nh2 := nh) (ck2 := 0) (sk2 := 0) (st2 := [.int (zI 0)]) rfl rfl rfl rfl ?_
      refine Z_if_eq (tgt := 39) dX12_beans_16 (by decide) v_b17331891f (fun h30 => ?_) (fun h30 => absurd h30 (fun q => q v_2ca2bbca1f))
      refine J_aload_n dX12_beans_39 rfl rfl ?_
      refine Z_iconst (n := -1) dX12_beans_40 ?_
      refine J_callV (st := []) dX12_beans_41 cv_X12_142 (k_refuses (-1) rf7 ms mv mt mfa mtn mtk mlv mbd mgo mge mbk mtt mtl hm pm hb sb mfu mdm mla v_ef59c9c3d8 v_646fb950f3 hk98 hk99) hk98 rfl rfl (Nat.le_of_ble_eq_true rfl) ⟨(Nat.le_of_ble_eq_true rfl), (Nat.le_of_ble_eq_true rfl)⟩ ⟨(Nat.le_of_ble_eq_true rfl), (Nat.le_of_ble_eq_true rfl)⟩ (fun r h9 hp => ?_)
      obtain ⟨f31, rfl, rfl⟩ := hp
      refine J_nf (nh2 := nh) (ck2 := 0) (sk2 := 0) (st2 := [.int (zI (-1))]) rfl rfl rfl rfl ?_
      refine J_app (L3 := [(98, .inr (12, (.int (zI (-1)) :: .int (zI mv) :: .ref 99 :: .ref 100 :: .ref 101 :: .ref 102 :: .ref 103 :: .ref 104 :: .ref 105 :: .int (zI mt) :: .int (zI mfa) :: .ref 106 :: .ref 107 :: .ref 108 :: .int (zI mtn) :: .int (zI mtk) :: .int (zI mlv) :: .int (zI mbd) :: .int (zI mgo) :: .int (zI mge) :: .int (zI mbk) :: .ref 109 :: .int (zI mtt) :: .int (zI mtl) :: .ref 110 :: .ref 111 :: .ref 112 :: .ref 113 :: .ref 114 :: .ref 115 :: .ref 116 :: .ref 117 :: .int (zI hm) :: .int (zI pm) :: .int (zI hb) :: .int (zI sb) :: .ref 118 :: .ref 119 :: .ref 120 :: .ref 121 :: .ref 122 :: .ref 123 :: .ref 124 :: .ref 125 :: .ref 126 :: .ref 127 :: .ref 128 :: .ref 129 :: .int (zI mfu) :: .ref 130 :: .ref 131 :: .ref 132 :: .ref 133 :: .ref 134 :: .int (zI mdm) :: .int (zI mla) :: []))), (99, .inl (0, 7, .inl (zA f31)))]) rfl ?_
      exact J_iret dX12_beans_44 rfl rfl (Nat.le_of_ble_eq_true rfl) (Nat.le_of_ble_eq_true rfl) (Or.inl ⟨f31, rfl, rfl, (fun q => absurd q.2.2.2.1 (v_6fc5d50263 h9))⟩)
  · refine J_nf (nh2 := nh) (ck2 := 0) (sk2 := 0) (st2 := [.int (zI 0)]) rfl rfl rfl rfl ?_
    refine Z_if_eq (tgt := 39) dX12_beans_6 (by decide) v_b17331891f (fun h32 => ?_) (fun h32 => absurd h32 (fun q => q v_2ca2bbca1f))
    refine J_aload_n dX12_beans_39 rfl rfl ?_
    refine Z_iconst (n := -1) dX12_beans_40 ?_
    refine J_callV (st := []) dX12_beans_41 cv_X12_142 (k_refuses (-1) rf7 ms mv mt mfa mtn mtk mlv mbd mgo mge mbk mtt mtl hm pm hb sb mfu mdm mla v_ef59c9c3d8 v_646fb950f3 hk98 hk99) hk98 rfl rfl (Nat.le_of_ble_eq_true rfl) ⟨(Nat.le_of_ble_eq_true rfl), (Nat.le_of_ble_eq_true rfl)⟩ ⟨(Nat.le_of_ble_eq_true rfl), (Nat.le_of_ble_eq_true rfl)⟩ (fun r h9 hp => ?_)
    obtain ⟨f33, rfl, rfl⟩ := hp
    refine J_nf (nh2 := nh) (ck2 := 0) (sk2 := 0) (st2 := [.int (zI (-1))]) rfl rfl rfl rfl ?_
    refine J_app (L3 := [(98, .inr (12, (.int (zI (-1)) :: .int (zI mv) :: .ref 99 :: .ref 100 :: .ref 101 :: .ref 102 :: .ref 103 :: .ref 104 :: .ref 105 :: .int (zI mt) :: .int (zI mfa) :: .ref 106 :: .ref 107 :: .ref 108 :: .int (zI mtn) :: .int (zI mtk) :: .int (zI mlv) :: .int (zI mbd) :: .int (zI mgo) :: .int (zI mge) :: .int (zI mbk) :: .ref 109 :: .int (zI mtt) :: .int (zI mtl) :: .ref 110 :: .ref 111 :: .ref 112 :: .ref 113 :: .ref 114 :: .ref 115 :: .ref 116 :: .ref 117 :: .int (zI hm) :: .int (zI pm) :: .int (zI hb) :: .int (zI sb) :: .ref 118 :: .ref 119 :: .ref 120 :: .ref 121 :: .ref 122 :: .ref 123 :: .ref 124 :: .ref 125 :: .ref 126 :: .ref 127 :: .ref 128 :: .ref 129 :: .int (zI mfu) :: .ref 130 :: .ref 131 :: .ref 132 :: .ref 133 :: .ref 134 :: .int (zI mdm) :: .int (zI mla) :: []))), (99, .inl (0, 7, .inl (zA f33)))]) rfl ?_
    exact J_iret dX12_beans_44 rfl rfl (Nat.le_of_ble_eq_true rfl) (Nat.le_of_ble_eq_true rfl) (Or.inl ⟨f33, rfl, rfl, (fun q => absurd q.1 (v_dccefa8cdf h3))⟩)
  · refine J_nf (nh2 := nh) (ck2 := 0) (sk2 := 0) (st2 := [.int (zI 0)]) rfl rfl rfl rfl ?_
    refine Z_if_eq (tgt := 39) dX12_beans_6 (by decide) v_b17331891f (fun h34 => ?_) (fun h34 => absurd h34 (fun q => q v_2ca2bbca1f))
    refine J_aload_n dX12_beans_39 rfl rfl ?_
    refine Z_iconst (n := -1) dX12_beans_40 ?_
    refine J_callV (st := []) dX12_beans_41 cv_X12_142 (k_refuses (-1) rf7 ms mv mt mfa mtn mtk mlv mbd mgo mge mbk mtt mtl hm pm hb sb mfu mdm mla v_ef59c9c3d8 v_646fb950f3 hk98 hk99) hk98 rfl rfl (Nat.le_of_ble_eq_true rfl) ⟨(Nat.le_of_ble_eq_true rfl), (Nat.le_of_ble_eq_true rfl)⟩ ⟨(Nat.le_of_ble_eq_true rfl), (Nat.le_of_ble_eq_true rfl)⟩ (fun r h9 hp => ?_)
    obtain ⟨f35, rfl, rfl⟩ := hp
    refine J_nf (nh2 := nh) (ck2 := 0) (sk2 := 0) (st2 := [.int (zI (-1))]) rfl rfl rfl rfl ?_
    refine J_app (L3 := [(98, .inr (12, (.int (zI (-1)) :: .int (zI mv) :: .ref 99 :: .ref 100 :: .ref 101 :: .ref 102 :: .ref 103 :: .ref 104 :: .ref 105 :: .int (zI mt) :: .int (zI mfa) :: .ref 106 :: .ref 107 :: .ref 108 :: .int (zI mtn) :: .int (zI mtk) :: .int (zI mlv) :: .int (zI mbd) :: .int (zI mgo) :: .int (zI mge) :: .int (zI mbk) :: .ref 109 :: .int (zI mtt) :: .int (zI mtl) :: .ref 110 :: .ref 111 :: .ref 112 :: .ref 113 :: .ref 114 :: .ref 115 :: .ref 116 :: .ref 117 :: .int (zI hm) :: .int (zI pm) :: .int (zI hb) :: .int (zI sb) :: .ref 118 :: .ref 119 :: .ref 120 :: .ref 121 :: .ref 122 :: .ref 123 :: .ref 124 :: .ref 125 :: .ref 126 :: .ref 127 :: .ref 128 :: .ref 129 :: .int (zI mfu) :: .ref 130 :: .ref 131 :: .ref 132 :: .ref 133 :: .ref 134 :: .int (zI mdm) :: .int (zI mla) :: []))), (99, .inl (0, 7, .inl (zA f35)))]) rfl ?_
    exact J_iret dX12_beans_44 rfl rfl (Nat.le_of_ble_eq_true rfl) (Nat.le_of_ble_eq_true rfl) (Or.inl ⟨f35, rfl, rfl, (fun q => absurd q.2.1 (v_75215ce976 h4))⟩)
set_option maxHeartbeats 4000000 in
set_option maxRecDepth 100000 in
theorem k_terms {l : Launch} {G : jG} {nh : Nat} {fh : Nat → Option va_E} (x : Int) (y : Int) (ms : Int) (mv : Int) (mt : Int) (mfa : Int) (mtn : Int) (mtk : Int) (mlv : Int) (mbd : Int) (mgo : Int) (mge : Int) (mbk : Int) (mtt : Int) (mtl : Int) (hm : Int) (pm : Int) (hb : Int) (sb : Int) (mfu : Int) (mdm : Int) (mla : Int) (K : Int → Int) (rf7 : Int → Int) (q0 : zr x) (q1 : zr y) (q2 : KOK K) (hk98 : fh 98 = some (.inr (12, (.int (zI ms) :: .int (zI mv) :: .ref 99 :: .ref 100 :: .ref 101 :: .ref 102 :: .ref 103 :: .ref 104 :: .ref 105 :: .int (zI mt) :: .int (zI mfa) :: .ref 106 :: .ref 107 :: .ref 108 :: .int (zI mtn) :: .int (zI mtk) :: .int (zI mlv) :: .int (zI mbd) :: .int (zI mgo) :: .int (zI mge) :: .int (zI mbk) :: .ref 109 :: .int (zI mtt) :: .int (zI mtl) :: .ref 110 :: .ref 111 :: .ref 112 :: .ref 113 :: .ref 114 :: .ref 115 :: .ref 116 :: .ref 117 :: .int (zI hm) :: .int (zI pm) :: .int (zI hb) :: .int (zI sb) :: .ref 118 :: .ref 119 :: .ref 120 :: .ref 121 :: .ref 122 :: .ref 123 :: .ref 124 :: .ref 125 :: .ref 126 :: .ref 127 :: .ref 128 :: .ref 129 :: .int (zI mfu) :: .ref 130 :: .ref 131 :: .ref 132 :: .ref 133 :: .ref 134 :: .int (zI mdm) :: .int (zI mla) :: [])))) (hk100 : fh 100 = some (.inl (0, 4870, .inl (zA K)))) (hk99 : fh 99 = some (.inl (0, 7, .inl (zA rf7)))) : JM l G yX12_terms MX12_terms { frames := 1, cells := 0, slots := 0, locals := 22 } [.ref 98, .int (zI x), .int (zI y)] (nh, fh) (fun rr h9 => (∃ rg7 : Int → Int, rr = some (.int (zI (-1))) ∧ h9 = (nh, hc fh [(98, .inr (12, (.int (zI (-1)) :: .int (zI mv) :: .ref 99 :: .ref 100 :: .ref 101 :: .ref 102 :: .ref 103 :: .ref 104 :: .ref 105 :: .int (zI mt) :: .int (zI mfa) :: .ref 106 :: .ref 107 :: .ref 108 :: .int (zI mtn) :: .int (zI mtk) :: .int (zI mlv) :: .int (zI mbd) :: .int (zI mgo) :: .int (zI mge) :: .int (zI mbk) :: .ref 109 :: .int (zI mtt) :: .int (zI mtl) :: .ref 110 :: .ref 111 :: .ref 112 :: .ref 113 :: .ref 114 :: .ref 115 :: .ref 116 :: .ref 117 :: .int (zI hm) :: .int (zI pm) :: .int (zI hb) :: .int (zI sb) :: .ref 118 :: .ref 119 :: .ref 120 :: .ref 121 :: .ref 122 :: .ref 123 :: .ref 124 :: .ref 125 :: .ref 126 :: .ref 127 :: .ref 128 :: .ref 129 :: .int (zI mfu) :: .ref 130 :: .ref 131 :: .ref 132 :: .ref 133 :: .ref 134 :: .int (zI mdm) :: .int (zI mla) :: []))), (99, .inl (0, 7, .inl (zA rg7)))]) ∧ (¬ tmk x y)) ∨ (∃ K2 : Int → Int, ∃ r : Int, rr = some (.int (zI r)) ∧ h9 = (nh, hc fh [(98, .inr (12, (.int (zI 0) :: .int (zI (mv + 1)) :: .ref 99 :: .ref 100 :: .ref 101 :: .ref 102 :: .ref 103 :: .ref 104 :: .ref 105 :: .int (zI mt) :: .int (zI mfa) :: .ref 106 :: .ref 107 :: .ref 108 :: .int (zI mtn) :: .int (zI mtk) :: .int (zI mlv) :: .int (zI mbd) :: .int (zI mgo) :: .int (zI mge) :: .int (zI mbk) :: .ref 109 :: .int (zI mtt) :: .int (zI mtl) :: .ref 110 :: .ref 111 :: .ref 112 :: .ref 113 :: .ref 114 :: .ref 115 :: .ref 116 :: .ref 117 :: .int (zI hm) :: .int (zI pm) :: .int (zI hb) :: .int (zI sb) :: .ref 118 :: .ref 119 :: .ref 120 :: .ref 121 :: .ref 122 :: .ref 123 :: .ref 124 :: .ref 125 :: .ref 126 :: .ref 127 :: .ref 128 :: .ref 129 :: .int (zI mfu) :: .ref 130 :: .ref 131 :: .ref 132 :: .ref 133 :: .ref 134 :: .int (zI mdm) :: .int (zI mla) :: []))), (100, .inl (0, 4870, .inl (zA K2)))]) ∧ (KOK K2) ∧ (tmk x y) ∧ (K (x + 5) = r) ∧ ((K2 = up K (x + 5) y)))) := by
  refine JM.of (by decide) rfl (fun h => by cases h) (Nat.le_of_ble_eq_true rfl) ⟨1, rfl⟩ ?_
  refine J_hc0 (J_ls (ls2 := [some (.ref 98), some (.int (zI x)), some (.int (zI y)), none]) rfl ?_)
  refine J_iload_n dX12_terms_0 rfl rfl ?_
  refine Z_iconst (n := 0) dX12_terms_1 ?_
  refine Z_iconst (n := 1) dX12_terms_2 ?_
  refine J_callS (st := []) dX12_terms_3 cs_X12_138 (k_lies x 0 1 q0 v_b17331891f v_4dcc24baa7) rfl rfl (Nat.le_of_ble_eq_true rfl) ⟨(Nat.le_of_ble_eq_true rfl), (Nat.le_of_ble_eq_true rfl)⟩ ⟨(Nat.le_of_ble_eq_true rfl), (Nat.le_of_ble_eq_true rfl)⟩ (fun r h9 hp => ?_)
  rcases hp with ⟨rfl, rfl, h1, h2⟩ | ⟨rfl, rfl, h3⟩ | ⟨rfl, rfl, h4⟩
  · refine J_nf (nh2 := nh) (ck2 := 0) (sk2 := 0) (st2 := [.int (zI 1)]) rfl rfl rfl rfl ?_
    refine Z_if_eq (tgt := 27) dX12_terms_6 (by decide) v_4dcc24baa7 (fun h5 => absurd h5 v_3a47bfd896) (fun h5 => ?_)
    refine J_iload_n dX12_terms_9 rfl rfl ?_
    refine Z_iconst (n := 0) dX12_terms_10 ?_
    refine J_iload_n dX12_terms_11 rfl rfl ?_
    refine Z_if_ne (tgt := 19) dX12_terms_12 (by decide) (v_5f10a759cd h1 h2) (fun h6 => ?_) (fun h6 => ?_)
    · refine Z_bipush (n := 99) dX12_terms_19 (by decide +kernel) ?_
      refine J_callS (st := []) dX12_terms_21 cs_X12_138 (k_lies y 0 99 q1 v_b17331891f v_c4d9d00c52) rfl rfl (Nat.le_of_ble_eq_true rfl) ⟨(Nat.le_of_ble_eq_true rfl), (Nat.le_of_ble_eq_true rfl)⟩ ⟨(Nat.le_of_ble_eq_true rfl), (Nat.le_of_ble_eq_true rfl)⟩ (fun r h9 hp => ?_)
      rcases hp with ⟨rfl, rfl, h7, h8⟩ | ⟨rfl, rfl, h9⟩ | ⟨rfl, rfl, h10⟩
      · refine J_nf (nh2 := nh) (ck2 := 0) (sk2 := 0) (st2 := [.int (zI 1)]) rfl rfl rfl rfl ?_
        refine Z_if_ne (tgt := 33) dX12_terms_24 (by decide) v_4dcc24baa7 (fun h11 => ?_) (fun h11 => absurd h11 v_3a47bfd896)
        refine J_aload_n dX12_terms_33 rfl rfl ?_
        refine J_get (v := .ref 100) dX12_terms_34 fl_X12_20 hk98 rfl ?_
        refine Z_iconst (n := 5) dX12_terms_37 ?_
        refine J_iload_n dX12_terms_38 rfl rfl ?_
        refine Z_iadd (c := x + 5) dX12_terms_39 v_1676ffc731 ?_
        obtain ⟨z12, ez12⟩ : ∃ z : Int, K (x + 5) = z := ⟨_, rfl⟩
        have h13 := Rg.at q2.2.2.2.2.2.2.2.2.1 (v_136824bdd1 h1) (v_bf22868dae h2) ez12
        refine Y_iald (z := z12) 4870 dX12_terms_40 hk100 rfl (by decide) (v_136824bdd1 h1) (v_bf22868dae h2) ez12 ?_
        refine J_istore_n dX12_terms_41 rfl (Nat.le_of_ble_eq_true rfl) rfl ?_
        refine J_ls (ls2 := [some (.ref 98), some (.int (zI x)), some (.int (zI y)), some (.int (zI z12))]) rfl ?_
        refine J_aload_n dX12_terms_42 rfl rfl ?_
        refine J_get (v := .ref 100) dX12_terms_43 fl_X12_20 hk98 rfl ?_
        refine Z_iconst (n := 5) dX12_terms_46 ?_
        refine J_iload_n dX12_terms_47 rfl rfl ?_
        refine Z_iadd (c := x + 5) dX12_terms_48 v_1676ffc731 ?_
        refine J_iload_n dX12_terms_49 rfl rfl ?_
        refine Y_iast (v := y) 4870 dX12_terms_50 hk100 rfl (by decide) (v_136824bdd1 h1) (v_bf22868dae h2) (fun f14 ef14 => ?_)
        have h15 : Rg f14 4870 (-2147483648) 2147483647 := Rg.ups q2.2.2.2.2.2.2.2.2.1 ef14 (v_c11e42827f h7) (v_955d180fa9 h8)
        refine J_aload_n dX12_terms_51 rfl rfl ?_
        refine J_iload_n dX12_terms_52 rfl rfl ?_
        refine J_callV (st := []) dX12_terms_53 cv_X12_146 (k_good z12 ms mv mt mfa mtn mtk mlv mbd mgo mge mbk mtt mtl hm pm hb sb mfu mdm mla hk98) hk98 rfl rfl (Nat.le_of_ble_eq_true rfl) ⟨(Nat.le_of_ble_eq_true rfl), (Nat.le_of_ble_eq_true rfl)⟩ ⟨(Nat.le_of_ble_eq_true rfl), (Nat.le_of_ble_eq_true rfl)⟩ (fun r h9 hp => ?_)
        obtain ⟨rfl, rfl⟩ := hp
        refine J_nf (nh2 := nh) (ck2 := 0) (sk2 := 0) (st2 := [.int (zI z12)]) rfl rfl rfl rfl ?_
        refine J_app (L3 := [(98, .inr (12, (.int (zI 0) :: .int (zI (mv + 1)) :: .ref 99 :: .ref 100 :: .ref 101 :: .ref 102 :: .ref 103 :: .ref 104 :: .ref 105 :: .int (zI mt) :: .int (zI mfa) :: .ref 106 :: .ref 107 :: .ref 108 :: .int (zI mtn) :: .int (zI mtk) :: .int (zI mlv) :: .int (zI mbd) :: .int (zI mgo) :: .int (zI mge) :: .int (zI mbk) :: .ref 109 :: .int (zI mtt) :: .int (zI mtl) :: .ref 110 :: .ref 111 :: .ref 112 :: .ref 113 :: .ref 114 :: .ref 115 :: .ref 116 :: .ref 117 :: .int (zI hm) :: .int (zI pm) :: .int (zI hb) :: .int (zI sb) :: .ref 118 :: .ref 119 :: .ref 120 :: .ref 121 :: .ref 122 :: .ref 123 :: .ref 124 :: .ref 125 :: .ref 126 :: .ref 127 :: .ref 128 :: .ref 129 :: .int (zI mfu) :: .ref 130 :: .ref 131 :: .ref 132 :: .ref 133 :: .ref 134 :: .int (zI mdm) :: .int (zI mla) :: []))), (100, .inl (0, 4870, .inl (zA f14)))]) rfl ?_
        exact J_iret dX12_terms_56 rfl rfl (Nat.le_of_ble_eq_true rfl) (Nat.le_of_ble_eq_true rfl) (Or.inr ⟨f14, z12, rfl, rfl, (KOK.put q2 ef14 (v_07cb6ce7c2 h1) (v_b8e4117440 h2) (v_c11e42827f h7) (v_955d180fa9 h8)), (⟨(v_2b02420001 h1), (v_6b0b292328 h2), (v_2b02420001 h7), (v_d0f986a844 h1 h6 h8)⟩), ez12, ef14⟩)
      · refine J_nf (nh2 := nh) (ck2 := 0) (sk2 := 0) (st2 := [.int (zI 0)]) rfl rfl rfl rfl ?_
        refine Z_if_ne (tgt := 33) dX12_terms_24 (by decide) v_b17331891f (fun h16 => absurd h16 (fun q => q v_2ca2bbca1f)) (fun h16 => ?_)
        refine J_aload_n dX12_terms_27 rfl rfl ?_
        refine Z_iconst (n := -1) dX12_terms_28 ?_
        refine J_callV (st := []) dX12_terms_29 cv_X12_142 (k_refuses (-1) rf7 ms mv mt mfa mtn mtk mlv mbd mgo mge mbk mtt mtl hm pm hb sb mfu mdm mla v_ef59c9c3d8 v_646fb950f3 hk98 hk99) hk98 rfl rfl (Nat.le_of_ble_eq_true rfl) ⟨(Nat.le_of_ble_eq_true rfl), (Nat.le_of_ble_eq_true rfl)⟩ ⟨(Nat.le_of_ble_eq_true rfl), (Nat.le_of_ble_eq_true rfl)⟩ (fun r h9 hp => ?_)
        obtain ⟨f17, rfl, rfl⟩ := hp
        refine J_nf (nh2 := nh) (ck2 := 0) (sk2 := 0) (st2 := [.int (zI (-1))]) rfl rfl rfl rfl ?_
        refine J_app (L3 := [(98, .inr (12, (.int (zI (-1)) :: .int (zI mv) :: .ref 99 :: .ref 100 :: .ref 101 :: .ref 102 :: .ref 103 :: .ref 104 :: .ref 105 :: .int (zI mt) :: .int (zI mfa) :: .ref 106 :: .ref 107 :: .ref 108 :: .int (zI mtn) :: .int (zI mtk) :: .int (zI mlv) :: .int (zI mbd) :: .int (zI mgo) :: .int (zI mge) :: .int (zI mbk) :: .ref 109 :: .int (zI mtt) :: .int (zI mtl) :: .ref 110 :: .ref 111 :: .ref 112 :: .ref 113 :: .ref 114 :: .ref 115 :: .ref 116 :: .ref 117 :: .int (zI hm) :: .int (zI pm) :: .int (zI hb) :: .int (zI sb) :: .ref 118 :: .ref 119 :: .ref 120 :: .ref 121 :: .ref 122 :: .ref 123 :: .ref 124 :: .ref 125 :: .ref 126 :: .ref 127 :: .ref 128 :: .ref 129 :: .int (zI mfu) :: .ref 130 :: .ref 131 :: .ref 132 :: .ref 133 :: .ref 134 :: .int (zI mdm) :: .int (zI mla) :: []))), (99, .inl (0, 7, .inl (zA f17)))]) rfl ?_
        exact J_iret dX12_terms_32 rfl rfl (Nat.le_of_ble_eq_true rfl) (Nat.le_of_ble_eq_true rfl) (Or.inl ⟨f17, rfl, rfl, (fun q => absurd q.2.2.1 (v_dccefa8cdf h9))⟩)
      · refine J_nf (nh2 := nh) (ck2 := 0) (sk2 := 0) (st2 := [.int (zI 0)]) rfl rfl rfl rfl ?_
        refine Z_if_ne (tgt := 33) dX12_terms_24 (by decide) v_b17331891f (fun h18 => absurd h18 (fun q => q v_2ca2bbca1f)) (fun h18 => ?_)
        refine J_aload_n dX12_terms_27 rfl rfl ?_
        refine Z_iconst (n := -1) dX12_terms_28 ?_
        refine J_callV (st := []) dX12_terms_29 cv_X12_142 (k_refuses (-1) rf7 ms mv mt mfa mtn mtk mlv mbd mgo mge mbk mtt mtl hm pm hb sb mfu mdm mla v_ef59c9c3d8 v_646fb950f3 hk98 hk99) hk98 rfl rfl (Nat.le_of_ble_eq_true rfl) ⟨(Nat.le_of_ble_eq_true rfl), (Nat.le_of_ble_eq_true rfl)⟩ ⟨(Nat.le_of_ble_eq_true rfl), (Nat.le_of_ble_eq_true rfl)⟩ (fun r h9 hp => ?_)
        obtain ⟨f19, rfl, rfl⟩ := hp
        refine J_nf (nh2 := nh) (ck2 := 0) (sk2 := 0) (st2 := [.int (zI (-1))]) rfl rfl rfl rfl ?_
        refine J_app (L3 := [(98, .inr (12, (.int (zI (-1)) :: .int (zI mv) :: .ref 99 :: .ref 100 :: .ref 101 :: .ref 102 :: .ref 103 :: .ref 104 :: .ref 105 :: .int (zI mt) :: .int (zI mfa) :: .ref 106 :: .ref 107 :: .ref 108 :: .int (zI mtn) :: .int (zI mtk) :: .int (zI mlv) :: .int (zI mbd) :: .int (zI mgo) :: .int (zI mge) :: .int (zI mbk) :: .ref 109 :: .int (zI mtt) :: .int (zI mtl) :: .ref 110 :: .ref 111 :: .ref 112 :: .ref 113 :: .ref 114 :: .ref 115 :: .ref 116 :: .ref 117 :: .int (zI hm) :: .int (zI pm) :: .int (zI hb) :: .int (zI sb) :: .ref 118 :: .ref 119 :: .ref 120 :: .ref 121 :: .ref 122 :: .ref 123 :: .ref 124 :: .ref 125 :: .ref 126 :: .ref 127 :: .ref 128 :: .ref 129 :: .int (zI mfu) :: .ref 130 :: .ref 131 :: .ref 132 :: .ref 133 :: .ref 134 :: .int (zI mdm) :: .int (zI mla) :: []))), (99, .inl (0, 7, .inl (zA f19)))]) rfl ?_
        exact J_iret dX12_terms_32 rfl rfl (Nat.le_of_ble_eq_true rfl) (Nat.le_of_ble_eq_true rfl) (Or.inl ⟨f19, rfl, rfl, (fun q => absurd q.2.2.2 (v_9c55b45d7d h2 h10))⟩)
    · refine Z_iconst (n := 1) dX12_terms_15 ?_
      refine J_goto (tgt := 21) dX12_terms_16 (by decide) ?_
      refine J_callS (st := []) dX12_terms_21 cs_X12_138 (k_lies y 0 1 q1 v_b17331891f v_4dcc24baa7) rfl rfl (Nat.le_of_ble_eq_true rfl) ⟨(Nat.le_of_ble_eq_true rfl), (Nat.le_of_ble_eq_true rfl)⟩ ⟨(Nat.le_of_ble_eq_true rfl), (Nat.le_of_ble_eq_true rfl)⟩ (fun r h9 hp => ?_)
      rcases hp with ⟨rfl, rfl, h20, h21⟩ | ⟨rfl, rfl, h22⟩ | ⟨rfl, rfl, h23⟩
      · refine J_nf (nh2 := nh) (ck2 := 0) (sk2 := 0) (st2 := [.int (zI 1)]) rfl rfl rfl rfl ?_
        refine Z_if_ne (tgt := 33) dX12_terms_24 (by decide) v_4dcc24baa7 (fun h24 => ?_) (fun h24 => absurd h24 v_3a47bfd896)
        refine J_aload_n dX12_terms_33 rfl rfl ?_
        refine J_get (v := .ref 100) dX12_terms_34 fl_X12_20 hk98 rfl ?_
        refine Z_iconst (n := 5) dX12_terms_37 ?_
        refine J_iload_n dX12_terms_38 rfl rfl ?_
        refine Z_iadd (c := x + 5) dX12_terms_39 v_1676ffc731 ?_
        obtain ⟨z25, ez25⟩ : ∃ z : Int, K (x + 5) = z := ⟨_, rfl⟩
        have h26 := Rg.at q2.2.2.2.2.2.2.2.2.1 (v_136824bdd1 h1) (v_9da41ff883 h6) ez25
        refine Y_iald (z := z25) 4870 dX12_terms_40 hk100 rfl (by decide) (v_136824bdd1 h1) (v_9da41ff883 h6) ez25 ?_
        refine J_istore_n dX12_terms_41 rfl (Nat.le_of_ble_eq_true rfl) rfl ?_
        refine J_ls (ls2 := [some (.ref 98), some (.int (zI x)), some (.int (zI y)), some (.int (zI z25))]) rfl ?_
        refine J_aload_n dX12_terms_42 rfl rfl ?_
        refine J_get (v := .ref 100) dX12_terms_43 fl_X12_20 hk98 rfl ?_
        refine Z_iconst (n := 5) dX12_terms_46 ?_
        refine J_iload_n dX12_terms_47 rfl rfl ?_
        refine Z_iadd (c := x + 5) dX12_terms_48 v_1676ffc731 ?_
        refine J_iload_n dX12_terms_49 rfl rfl ?_
        refine Y_iast (v := y) 4870 dX12_terms_50 hk100 rfl (by decide) (v_136824bdd1 h1) (v_9da41ff883 h6) (fun f27 ef27 => ?_)
        have h28 : Rg f27 4870 (-2147483648) 2147483647 := Rg.ups q2.2.2.2.2.2.2.2.2.1 ef27 (v_c11e42827f h20) (v_96ad20775e h21)
        refine J_aload_n dX12_terms_51 rfl rfl ?_
        refine J_iload_n dX12_terms_52 rfl rfl ?_
        refine J_callV (st := []) dX12_terms_53 cv_X12_146 (k_good z25 ms mv mt mfa mtn mtk mlv mbd mgo mge mbk mtt mtl hm pm hb sb mfu mdm mla hk98) hk98 rfl rfl (Nat.le_of_ble_eq_true rfl) ⟨(Nat.le_of_ble_eq_true rfl), (Nat.le_of_ble_eq_true rfl)⟩ ⟨(Nat.le_of_ble_eq_true rfl), (Nat.le_of_ble_eq_true rfl)⟩ (fun r h9 hp => ?_)
        obtain ⟨rfl, rfl⟩ := hp
        refine J_nf (nh2 := nh) (ck2 := 0) (sk2 := 0) (st2 := [.int (zI z25)]) rfl rfl rfl rfl ?_
        refine J_app (L3 := [(98, .inr (12, (.int (zI 0) :: .int (zI (mv + 1)) :: .ref 99 :: .ref 100 :: .ref 101 :: .ref 102 :: .ref 103 :: .ref 104 :: .ref 105 :: .int (zI mt) :: .int (zI mfa) :: .ref 106 :: .ref 107 :: .ref 108 :: .int (zI mtn) :: .int (zI mtk) :: .int (zI mlv) :: .int (zI mbd) :: .int (zI mgo) :: .int (zI mge) :: .int (zI mbk) :: .ref 109 :: .int (zI mtt) :: .int (zI mtl) :: .ref 110 :: .ref 111 :: .ref 112 :: .ref 113 :: .ref 114 :: .ref 115 :: .ref 116 :: .ref 117 :: .int (zI hm) :: .int (zI pm) :: .int (zI hb) :: .int (zI sb) :: .ref 118 :: .ref 119 :: .ref 120 :: .ref 121 :: .ref 122 :: .ref 123 :: .ref 124 :: .ref 125 :: .ref 126 :: .ref 127 :: .ref 128 :: .ref 129 :: .int (zI mfu) :: .ref 130 :: .ref 131 :: .ref 132 :: .ref 133 :: .ref 134 :: .int (zI mdm) :: .int (zI mla) :: []))), (100, .inl (0, 4870, .inl (zA f27)))]) rfl ?_
        exact J_iret dX12_terms_56 rfl rfl (Nat.le_of_ble_eq_true rfl) (Nat.le_of_ble_eq_true rfl) (Or.inr ⟨f27, z25, rfl, rfl, (KOK.put q2 ef27 (v_07cb6ce7c2 h1) (v_38a4ce965a h6) (v_c11e42827f h20) (v_96ad20775e h21)), (⟨(v_2b02420001 h1), (v_e327774f82 h6), (v_2b02420001 h20), (v_44d31eea4d h1 h21)⟩), ez25, ef27⟩)
      · refine J_nf (nh2 := nh) (ck2 := 0) (sk2 := 0) (st2 := [.int (zI 0)]) rfl rfl rfl rfl ?_
        refine Z_if_ne (tgt := 33) dX12_terms_24 (by decide) v_b17331891f (fun h29 => absurd h29 (fun q => q v_2ca2bbca1f)) (fun h29 => ?_)
        refine J_aload_n dX12_terms_27 rfl rfl ?_
        refine Z_iconst (n := -1) dX12_terms_28 ?_
        refine J_callV (st := []) dX12_terms_29 cv_X12_142 (k_refuses (-1) rf7 ms mv mt mfa mtn mtk mlv mbd mgo mge mbk mtt mtl hm pm hb sb mfu mdm mla v_ef59c9c3d8 v_646fb950f3 hk98 hk99) hk98 rfl rfl (Nat.le_of_ble_eq_true rfl) ⟨(Nat.le_of_ble_eq_true rfl), (Nat.le_of_ble_eq_true rfl)⟩ ⟨(Nat.le_of_ble_eq_true rfl), (Nat.le_of_ble_eq_true rfl)⟩ (fun r h9 hp => ?_)
        obtain ⟨f30, rfl, rfl⟩ := hp
        refine J_nf (nh2 := nh) (ck2 := 0) (sk2 := 0) (st2 := [.int (zI (-1))]) rfl rfl rfl rfl ?_
        refine J_app (L3 := [(98, .inr (12, (.int (zI (-1)) :: .int (zI mv) :: .ref 99 :: .ref 100 :: .ref 101 :: .ref 102 :: .ref 103 :: .ref 104 :: .ref 105 :: .int (zI mt) :: .int (zI mfa) :: .ref 106 :: .ref 107 :: .ref 108 :: .int (zI mtn) :: .int (zI mtk) :: .int (zI mlv) :: .int (zI mbd) :: .int (zI mgo) :: .int (zI mge) :: .int (zI mbk) :: .ref 109 :: .int (zI mtt) :: .int (zI mtl) :: .ref 110 :: .ref 111 :: .ref 112 :: .ref 113 :: .ref 114 :: .ref 115 :: .ref 116 :: .ref 117 :: .int (zI hm) :: .int (zI pm) :: .int (zI hb) :: .int (zI sb) :: .ref 118 :: .ref 119 :: .ref 120 :: .ref 121 :: .ref 122 :: .ref 123 :: .ref 124 :: .ref 125 :: .ref 126 :: .ref 127 :: .ref 128 :: .ref 129 :: .int (zI mfu) :: .ref 130 :: .ref 131 :: .ref 132 :: .ref 133 :: .ref 134 :: .int (zI mdm) :: .int (zI mla) :: []))), (99, .inl (0, 7, .inl (zA f30)))]) rfl ?_
        exact J_iret dX12_terms_32 rfl rfl (Nat.le_of_ble_eq_true rfl) (Nat.le_of_ble_eq_true rfl) (Or.inl ⟨f30, rfl, rfl, (fun q => absurd q.2.2.1 (v_dccefa8cdf h22))⟩)
      · refine J_nf (nh2 := nh) (ck2 := 0) (sk2 := 0) (st2 := [.int (zI 0)]) rfl rfl rfl rfl ?_
        refine Z_if_ne (tgt := 33) dX12_terms_24 (by decide) v_b17331891f (fun h31 => absurd h31 (fun q => q v_2ca2bbca1f)) (fun h31 => ?_)
        refine J_aload_n dX12_terms_27 rfl rfl ?_
        refine Z_iconst (n := -1) dX12_terms_28 ?_
        refine J_callV (st := []) dX12_terms_29 cv_X12_142 (k_refuses (-1) rf7 ms mv mt mfa mtn mtk mlv mbd mgo mge mbk mtt mtl hm pm hb sb mfu mdm mla v_ef59c9c3d8 v_646fb950f3 hk98 hk99) hk98 rfl rfl (Nat.le_of_ble_eq_true rfl) ⟨(Nat.le_of_ble_eq_true rfl), (Nat.le_of_ble_eq_true rfl)⟩ ⟨(Nat.le_of_ble_eq_true rfl), (Nat.le_of_ble_eq_true rfl)⟩ (fun r h9 hp => ?_)
        obtain ⟨f32, rfl, rfl⟩ := hp
        refine J_nf (nh2 := nh) (ck2 := 0) (sk2 := 0) (st2 := [.int (zI (-1))]) rfl rfl rfl rfl ?_
        refine J_app (L3 := [(98, .inr (12, (.int (zI (-1)) :: .int (zI mv) :: .ref 99 :: .ref 100 :: .ref 101 :: .ref 102 :: .ref 103 :: .ref 104 :: .ref 105 :: .int (zI mt) :: .int (zI mfa) :: .ref 106 :: .ref 107 :: .ref 108 :: .int (zI mtn) :: .int (zI mtk) :: .int (zI mlv) :: .int (zI mbd) :: .int (zI mgo) :: .int (zI mge) :: .int (zI mbk) :: .ref 109 :: .int (zI mtt) :: .int (zI mtl) :: .ref 110 :: .ref 111 :: .ref 112 :: .ref 113 :: .ref 114 :: .ref 115 :: .ref 116 :: .ref 117 :: .int (zI hm) :: .int (zI pm) :: .int (zI hb) :: .int (zI sb) :: .ref 118 :: .ref 119 :: .ref 120 :: .ref 121 :: .ref 122 :: .ref 123 :: .ref 124 :: .ref 125 :: .ref 126 :: .ref 127 :: .ref 128 :: .ref 129 :: .int (zI mfu) :: .ref 130 :: .ref 131 :: .ref 132 :: .ref 133 :: .ref 134 :: .int (zI mdm) :: .int (zI mla) :: []))), (99, .inl (0, 7, .inl (zA f32)))]) rfl ?_
        exact J_iret dX12_terms_32 rfl rfl (Nat.le_of_ble_eq_true rfl) (Nat.le_of_ble_eq_true rfl) (Or.inl ⟨f32, rfl, rfl, (fun q => absurd q.2.2.2 (v_ca76c1c07b h6 h23))⟩)
  · refine J_nf (nh2 := nh) (ck2 := 0) (sk2 := 0) (st2 := [.int (zI 0)]) rfl rfl rfl rfl ?_
    refine Z_if_eq (tgt := 27) dX12_terms_6 (by decide) v_b17331891f (fun h33 => ?_) (fun h33 => absurd h33 (fun q => q v_2ca2bbca1f))
    refine J_aload_n dX12_terms_27 rfl rfl ?_
    refine Z_iconst (n := -1) dX12_terms_28 ?_
    refine J_callV (st := []) dX12_terms_29 cv_X12_142 (k_refuses (-1) rf7 ms mv mt mfa mtn mtk mlv mbd mgo mge mbk mtt mtl hm pm hb sb mfu mdm mla v_ef59c9c3d8 v_646fb950f3 hk98 hk99) hk98 rfl rfl (Nat.le_of_ble_eq_true rfl) ⟨(Nat.le_of_ble_eq_true rfl), (Nat.le_of_ble_eq_true rfl)⟩ ⟨(Nat.le_of_ble_eq_true rfl), (Nat.le_of_ble_eq_true rfl)⟩ (fun r h9 hp => ?_)
    obtain ⟨f34, rfl, rfl⟩ := hp
    refine J_nf (nh2 := nh) (ck2 := 0) (sk2 := 0) (st2 := [.int (zI (-1))]) rfl rfl rfl rfl ?_
    refine J_app (L3 := [(98, .inr (12, (.int (zI (-1)) :: .int (zI mv) :: .ref 99 :: .ref 100 :: .ref 101 :: .ref 102 :: .ref 103 :: .ref 104 :: .ref 105 :: .int (zI mt) :: .int (zI mfa) :: .ref 106 :: .ref 107 :: .ref 108 :: .int (zI mtn) :: .int (zI mtk) :: .int (zI mlv) :: .int (zI mbd) :: .int (zI mgo) :: .int (zI mge) :: .int (zI mbk) :: .ref 109 :: .int (zI mtt) :: .int (zI mtl) :: .ref 110 :: .ref 111 :: .ref 112 :: .ref 113 :: .ref 114 :: .ref 115 :: .ref 116 :: .ref 117 :: .int (zI hm) :: .int (zI pm) :: .int (zI hb) :: .int (zI sb) :: .ref 118 :: .ref 119 :: .ref 120 :: .ref 121 :: .ref 122 :: .ref 123 :: .ref 124 :: .ref 125 :: .ref 126 :: .ref 127 :: .ref 128 :: .ref 129 :: .int (zI mfu) :: .ref 130 :: .ref 131 :: .ref 132 :: .ref 133 :: .ref 134 :: .int (zI mdm) :: .int (zI mla) :: []))), (99, .inl (0, 7, .inl (zA f34)))]) rfl ?_
    exact J_iret dX12_terms_32 rfl rfl (Nat.le_of_ble_eq_true rfl) (Nat.le_of_ble_eq_true rfl) (Or.inl ⟨f34, rfl, rfl, (fun q => absurd q.1 (v_dccefa8cdf h3))⟩)
  · refine J_nf (nh2 := nh) (ck2 := 0) (sk2 := 0) (st2 := [.int (zI 0)]) rfl rfl rfl rfl ?_
    refine Z_if_eq (tgt := 27) dX12_terms_6 (by decide) v_b17331891f (fun h35 => ?_) (fun h35 => absurd h35 (fun q => q v_2ca2bbca1f))
    refine J_aload_n dX12_terms_27 rfl rfl ?_
    refine Z_iconst (n := -1) dX12_terms_28 ?_
    refine J_callV (st := []) dX12_terms_29 cv_X12_142 (k_refuses (-1) rf7 ms mv mt mfa mtn mtk mlv mbd mgo mge mbk mtt mtl hm pm hb sb mfu mdm mla v_ef59c9c3d8 v_646fb950f3 hk98 hk99) hk98 rfl rfl (Nat.le_of_ble_eq_true rfl) ⟨(Nat.le_of_ble_eq_true rfl), (Nat.le_of_ble_eq_true rfl)⟩ ⟨(Nat.le_of_ble_eq_true rfl), (Nat.le_of_ble_eq_true rfl)⟩ (fun r h9 hp => ?_)
    obtain ⟨f36, rfl, rfl⟩ := hp
    refine J_nf (nh2 := nh) (ck2 := 0) (sk2 := 0) (st2 := [.int (zI (-1))]) rfl rfl rfl rfl ?_
    refine J_app (L3 := [(98, .inr (12, (.int (zI (-1)) :: .int (zI mv) :: .ref 99 :: .ref 100 :: .ref 101 :: .ref 102 :: .ref 103 :: .ref 104 :: .ref 105 :: .int (zI mt) :: .int (zI mfa) :: .ref 106 :: .ref 107 :: .ref 108 :: .int (zI mtn) :: .int (zI mtk) :: .int (zI mlv) :: .int (zI mbd) :: .int (zI mgo) :: .int (zI mge) :: .int (zI mbk) :: .ref 109 :: .int (zI mtt) :: .int (zI mtl) :: .ref 110 :: .ref 111 :: .ref 112 :: .ref 113 :: .ref 114 :: .ref 115 :: .ref 116 :: .ref 117 :: .int (zI hm) :: .int (zI pm) :: .int (zI hb) :: .int (zI sb) :: .ref 118 :: .ref 119 :: .ref 120 :: .ref 121 :: .ref 122 :: .ref 123 :: .ref 124 :: .ref 125 :: .ref 126 :: .ref 127 :: .ref 128 :: .ref 129 :: .int (zI mfu) :: .ref 130 :: .ref 131 :: .ref 132 :: .ref 133 :: .ref 134 :: .int (zI mdm) :: .int (zI mla) :: []))), (99, .inl (0, 7, .inl (zA f36)))]) rfl ?_
    exact J_iret dX12_terms_32 rfl rfl (Nat.le_of_ble_eq_true rfl) (Nat.le_of_ble_eq_true rfl) (Or.inl ⟨f36, rfl, rfl, (fun q => absurd q.2.1 (v_9664088974 h4))⟩)
set_option maxHeartbeats 4000000 in
set_option maxRecDepth 100000 in
theorem k_force {l : Launch} {G : jG} {nh : Nat} {fh : Nat → Option va_E} (x : Int) (ms : Int) (mv : Int) (mt : Int) (mfa : Int) (mtn : Int) (mtk : Int) (mlv : Int) (mbd : Int) (mgo : Int) (mge : Int) (mbk : Int) (mtt : Int) (mtl : Int) (hm : Int) (pm : Int) (hb : Int) (sb : Int) (mfu : Int) (mdm : Int) (mla : Int) (K : Int → Int) (rf7 : Int → Int) (q0 : zr x) (q1 : KOK K) (hk98 : fh 98 = some (.inr (12, (.int (zI ms) :: .int (zI mv) :: .ref 99 :: .ref 100 :: .ref 101 :: .ref 102 :: .ref 103 :: .ref 104 :: .ref 105 :: .int (zI mt) :: .int (zI mfa) :: .ref 106 :: .ref 107 :: .ref 108 :: .int (zI mtn) :: .int (zI mtk) :: .int (zI mlv) :: .int (zI mbd) :: .int (zI mgo) :: .int (zI mge) :: .int (zI mbk) :: .ref 109 :: .int (zI mtt) :: .int (zI mtl) :: .ref 110 :: .ref 111 :: .ref 112 :: .ref 113 :: .ref 114 :: .ref 115 :: .ref 116 :: .ref 117 :: .int (zI hm) :: .int (zI pm) :: .int (zI hb) :: .int (zI sb) :: .ref 118 :: .ref 119 :: .ref 120 :: .ref 121 :: .ref 122 :: .ref 123 :: .ref 124 :: .ref 125 :: .ref 126 :: .ref 127 :: .ref 128 :: .ref 129 :: .int (zI mfu) :: .ref 130 :: .ref 131 :: .ref 132 :: .ref 133 :: .ref 134 :: .int (zI mdm) :: .int (zI mla) :: [])))) (hk100 : fh 100 = some (.inl (0, 4870, .inl (zA K)))) (hk99 : fh 99 = some (.inl (0, 7, .inl (zA rf7)))) : JM l G yX12_force MX12_force { frames := 1, cells := 0, slots := 0, locals := 22 } [.ref 98, .int (zI x)] (nh, fh) (fun rr h9 => (∃ rg7 : Int → Int, rr = some (.int (zI (-2))) ∧ h9 = (nh, hc fh [(98, .inr (12, (.int (zI (-2)) :: .int (zI mv) :: .ref 99 :: .ref 100 :: .ref 101 :: .ref 102 :: .ref 103 :: .ref 104 :: .ref 105 :: .int (zI mt) :: .int (zI mfa) :: .ref 106 :: .ref 107 :: .ref 108 :: .int (zI mtn) :: .int (zI mtk) :: .int (zI mlv) :: .int (zI mbd) :: .int (zI mgo) :: .int (zI mge) :: .int (zI mbk) :: .ref 109 :: .int (zI mtt) :: .int (zI mtl) :: .ref 110 :: .ref 111 :: .ref 112 :: .ref 113 :: .ref 114 :: .ref 115 :: .ref 116 :: .ref 117 :: .int (zI hm) :: .int (zI pm) :: .int (zI hb) :: .int (zI sb) :: .ref 118 :: .ref 119 :: .ref 120 :: .ref 121 :: .ref 122 :: .ref 123 :: .ref 124 :: .ref 125 :: .ref 126 :: .ref 127 :: .ref 128 :: .ref 129 :: .int (zI mfu) :: .ref 130 :: .ref 131 :: .ref 132 :: .ref 133 :: .ref 134 :: .int (zI mdm) :: .int (zI mla) :: []))), (99, .inl (0, 7, .inl (zA rg7)))]) ∧ (x < -1)) ∨ (∃ rg7 : Int → Int, rr = some (.int (zI (-2))) ∧ h9 = (nh, hc fh [(98, .inr (12, (.int (zI (-2)) :: .int (zI mv) :: .ref 99 :: .ref 100 :: .ref 101 :: .ref 102 :: .ref 103 :: .ref 104 :: .ref 105 :: .int (zI mt) :: .int (zI mfa) :: .ref 106 :: .ref 107 :: .ref 108 :: .int (zI mtn) :: .int (zI mtk) :: .int (zI mlv) :: .int (zI mbd) :: .int (zI mgo) :: .int (zI mge) :: .int (zI mbk) :: .ref 109 :: .int (zI mtt) :: .int (zI mtl) :: .ref 110 :: .ref 111 :: .ref 112 :: .ref 113 :: .ref 114 :: .ref 115 :: .ref 116 :: .ref 117 :: .int (zI hm) :: .int (zI pm) :: .int (zI hb) :: .int (zI sb) :: .ref 118 :: .ref 119 :: .ref 120 :: .ref 121 :: .ref 122 :: .ref 123 :: .ref 124 :: .ref 125 :: .ref 126 :: .ref 127 :: .ref 128 :: .ref 129 :: .int (zI mfu) :: .ref 130 :: .ref 131 :: .ref 132 :: .ref 133 :: .ref 134 :: .int (zI mdm) :: .int (zI mla) :: []))), (99, .inl (0, 7, .inl (zA rg7)))]) ∧ (K 62 ≤ x)) ∨ (∃ K2 : Int → Int, ∃ r : Int, rr = some (.int (zI r)) ∧ h9 = (nh, hc fh [(98, .inr (12, (.int (zI 0) :: .int (zI (mv + 1)) :: .ref 99 :: .ref 100 :: .ref 101 :: .ref 102 :: .ref 103 :: .ref 104 :: .ref 105 :: .int (zI mt) :: .int (zI mfa) :: .ref 106 :: .ref 107 :: .ref 108 :: .int (zI mtn) :: .int (zI mtk) :: .int (zI mlv) :: .int (zI mbd) :: .int (zI mgo) :: .int (zI mge) :: .int (zI mbk) :: .ref 109 :: .int (zI mtt) :: .int (zI mtl) :: .ref 110 :: .ref 111 :: .ref 112 :: .ref 113 :: .ref 114 :: .ref 115 :: .ref 116 :: .ref 117 :: .int (zI hm) :: .int (zI pm) :: .int (zI hb) :: .int (zI sb) :: .ref 118 :: .ref 119 :: .ref 120 :: .ref 121 :: .ref 122 :: .ref 123 :: .ref 124 :: .ref 125 :: .ref 126 :: .ref 127 :: .ref 128 :: .ref 129 :: .int (zI mfu) :: .ref 130 :: .ref 131 :: .ref 132 :: .ref 133 :: .ref 134 :: .int (zI mdm) :: .int (zI mla) :: []))), (100, .inl (0, 4870, .inl (zA K2)))]) ∧ (KOK K2) ∧ (-1 ≤ x) ∧ (x < K 62) ∧ (K 63 = r) ∧ ((K2 = up K 63 x)))) := by
  refine JM.of (by decide) rfl (fun h => by cases h) (Nat.le_of_ble_eq_true rfl) ⟨1, rfl⟩ ?_
  refine J_hc0 (J_ls (ls2 := [some (.ref 98), some (.int (zI x)), none]) rfl ?_)
  refine J_iload_n dX12_force_0 rfl rfl ?_
  refine Z_iconst (n := -1) dX12_force_1 ?_
  refine J_aload_n dX12_force_2 rfl rfl ?_
  refine J_get (v := .ref 100) dX12_force_3 fl_X12_20 hk98 rfl ?_
  refine Z_bipush (n := 62) dX12_force_6 (by decide +kernel) ?_
  obtain ⟨z1, ez1⟩ : ∃ z : Int, K 62 = z := ⟨_, rfl⟩
  have h2 := Rg.at q1.2.2.2.2.2.2.2.2.1 v_722c6b3941 v_1c3d7f81dc ez1
  refine Y_iald (z := z1) 4870 dX12_force_8 hk100 rfl (by decide) v_722c6b3941 v_1c3d7f81dc ez1 ?_
  refine Z_iconst (n := 1) dX12_force_9 ?_
  refine Z_isub (c := z1 - 1) dX12_force_10 rfl ?_
  refine J_callS (st := []) dX12_force_11 cs_X12_138 (k_lies x (-1) (z1 - 1) q0 v_d64efa60f9 (v_4b515e41e1 q1.2.2.2.2.2.2.1.1 ez1 h2.2)) rfl rfl (Nat.le_of_ble_eq_true rfl) ⟨(Nat.le_of_ble_eq_true rfl), (Nat.le_of_ble_eq_true rfl)⟩ ⟨(Nat.le_of_ble_eq_true rfl), (Nat.le_of_ble_eq_true rfl)⟩ (fun r h9 hp => ?_)
  rcases hp with ⟨rfl, rfl, h3, h4⟩ | ⟨rfl, rfl, h5⟩ | ⟨rfl, rfl, h6⟩
  · refine J_nf (nh2 := nh) (ck2 := 0) (sk2 := 0) (st2 := [.int (zI 1)]) rfl rfl rfl rfl ?_
    refine Z_if_ne (tgt := 24) dX12_force_14 (by decide) v_4dcc24baa7 (fun h7 => ?_) (fun h7 => absurd h7 v_3a47bfd896)
    refine J_aload_n dX12_force_24 rfl rfl ?_
    refine J_get (v := .ref 100) dX12_force_25 fl_X12_20 hk98 rfl ?_
    refine Z_bipush (n := 63) dX12_force_28 (by decide +kernel) ?_
    obtain ⟨z8, ez8⟩ : ∃ z : Int, K 63 = z := ⟨_, rfl⟩
    have h9 := Rg.at q1.2.2.2.2.2.2.2.2.1 v_6d68fb9760 v_256388ed94 ez8
    refine Y_iald (z := z8) 4870 dX12_force_30 hk100 rfl (by decide) v_6d68fb9760 v_256388ed94 ez8 ?_
    refine J_istore_n dX12_force_31 rfl (Nat.le_of_ble_eq_true rfl) rfl ?_
    refine J_ls (ls2 := [some (.ref 98), some (.int (zI x)), some (.int (zI z8))]) rfl ?_
    refine J_aload_n dX12_force_32 rfl rfl ?_
    refine J_get (v := .ref 100) dX12_force_33 fl_X12_20 hk98 rfl ?_
    refine Z_bipush (n := 63) dX12_force_36 (by decide +kernel) ?_
    refine J_iload_n dX12_force_38 rfl rfl ?_
    refine Y_iast (v := x) 4870 dX12_force_39 hk100 rfl (by decide) v_6d68fb9760 v_256388ed94 (fun f10 ef10 => ?_)
    have h11 : Rg f10 4870 (-2147483648) 2147483647 := Rg.ups q1.2.2.2.2.2.2.2.2.1 ef10 (v_f69834dffb h3) (v_602fda786b q0)
    refine J_aload_n dX12_force_40 rfl rfl ?_
    refine J_iload_n dX12_force_41 rfl rfl ?_
    refine J_callV (st := []) dX12_force_42 cv_X12_146 (k_good z8 ms mv mt mfa mtn mtk mlv mbd mgo mge mbk mtt mtl hm pm hb sb mfu mdm mla hk98) hk98 rfl rfl (Nat.le_of_ble_eq_true rfl) ⟨(Nat.le_of_ble_eq_true rfl), (Nat.le_of_ble_eq_true rfl)⟩ ⟨(Nat.le_of_ble_eq_true rfl), (Nat.le_of_ble_eq_true rfl)⟩ (fun r h9 hp => ?_)
    obtain ⟨rfl, rfl⟩ := hp
    refine J_nf (nh2 := nh) (ck2 := 0) (sk2 := 0) (st2 := [.int (zI z8)]) rfl rfl rfl rfl ?_
    refine J_app (L3 := [(98, .inr (12, (.int (zI 0) :: .int (zI (mv + 1)) :: .ref 99 :: .ref 100 :: .ref 101 :: .ref 102 :: .ref 103 :: .ref 104 :: .ref 105 :: .int (zI mt) :: .int (zI mfa) :: .ref 106 :: .ref 107 :: .ref 108 :: .int (zI mtn) :: .int (zI mtk) :: .int (zI mlv) :: .int (zI mbd) :: .int (zI mgo) :: .int (zI mge) :: .int (zI mbk) :: .ref 109 :: .int (zI mtt) :: .int (zI mtl) :: .ref 110 :: .ref 111 :: .ref 112 :: .ref 113 :: .ref 114 :: .ref 115 :: .ref 116 :: .ref 117 :: .int (zI hm) :: .int (zI pm) :: .int (zI hb) :: .int (zI sb) :: .ref 118 :: .ref 119 :: .ref 120 :: .ref 121 :: .ref 122 :: .ref 123 :: .ref 124 :: .ref 125 :: .ref 126 :: .ref 127 :: .ref 128 :: .ref 129 :: .int (zI mfu) :: .ref 130 :: .ref 131 :: .ref 132 :: .ref 133 :: .ref 134 :: .int (zI mdm) :: .int (zI mla) :: []))), (100, .inl (0, 4870, .inl (zA f10)))]) rfl ?_
    exact J_iret dX12_force_45 rfl rfl (Nat.le_of_ble_eq_true rfl) (Nat.le_of_ble_eq_true rfl) (Or.inr (Or.inr ⟨f10, z8, rfl, rfl, (KOK.force q1 ef10 (v_f751c1580b h3) (v_753a00cdcb ez1 h4)), h3, (v_753a00cdcb ez1 h4), ez8, ef10⟩))
  · refine J_nf (nh2 := nh) (ck2 := 0) (sk2 := 0) (st2 := [.int (zI 0)]) rfl rfl rfl rfl ?_
    refine Z_if_ne (tgt := 24) dX12_force_14 (by decide) v_b17331891f (fun h12 => absurd h12 (fun q => q v_2ca2bbca1f)) (fun h12 => ?_)
    refine J_aload_n dX12_force_17 rfl rfl ?_
    refine Z_bipush (n := -2) dX12_force_18 (by decide +kernel) ?_
    refine J_callV (st := []) dX12_force_20 cv_X12_142 (k_refuses (-2) rf7 ms mv mt mfa mtn mtk mlv mbd mgo mge mbk mtt mtl hm pm hb sb mfu mdm mla v_c15e852b74 v_e7867eeafa hk98 hk99) hk98 rfl rfl (Nat.le_of_ble_eq_true rfl) ⟨(Nat.le_of_ble_eq_true rfl), (Nat.le_of_ble_eq_true rfl)⟩ ⟨(Nat.le_of_ble_eq_true rfl), (Nat.le_of_ble_eq_true rfl)⟩ (fun r h9 hp => ?_)
    obtain ⟨f13, rfl, rfl⟩ := hp
    refine J_nf (nh2 := nh) (ck2 := 0) (sk2 := 0) (st2 := [.int (zI (-2))]) rfl rfl rfl rfl ?_
    refine J_app (L3 := [(98, .inr (12, (.int (zI (-2)) :: .int (zI mv) :: .ref 99 :: .ref 100 :: .ref 101 :: .ref 102 :: .ref 103 :: .ref 104 :: .ref 105 :: .int (zI mt) :: .int (zI mfa) :: .ref 106 :: .ref 107 :: .ref 108 :: .int (zI mtn) :: .int (zI mtk) :: .int (zI mlv) :: .int (zI mbd) :: .int (zI mgo) :: .int (zI mge) :: .int (zI mbk) :: .ref 109 :: .int (zI mtt) :: .int (zI mtl) :: .ref 110 :: .ref 111 :: .ref 112 :: .ref 113 :: .ref 114 :: .ref 115 :: .ref 116 :: .ref 117 :: .int (zI hm) :: .int (zI pm) :: .int (zI hb) :: .int (zI sb) :: .ref 118 :: .ref 119 :: .ref 120 :: .ref 121 :: .ref 122 :: .ref 123 :: .ref 124 :: .ref 125 :: .ref 126 :: .ref 127 :: .ref 128 :: .ref 129 :: .int (zI mfu) :: .ref 130 :: .ref 131 :: .ref 132 :: .ref 133 :: .ref 134 :: .int (zI mdm) :: .int (zI mla) :: []))), (99, .inl (0, 7, .inl (zA f13)))]) rfl ?_
    exact J_iret dX12_force_23 rfl rfl (Nat.le_of_ble_eq_true rfl) (Nat.le_of_ble_eq_true rfl) (Or.inl ⟨f13, rfl, rfl, h5⟩)
  · refine J_nf (nh2 := nh) (ck2 := 0) (sk2 := 0) (st2 := [.int (zI 0)]) rfl rfl rfl rfl ?_
    refine Z_if_ne (tgt := 24) dX12_force_14 (by decide) v_b17331891f (fun h14 => absurd h14 (fun q => q v_2ca2bbca1f)) (fun h14 => ?_)
    refine J_aload_n dX12_force_17 rfl rfl ?_
    refine Z_bipush (n := -2) dX12_force_18 (by decide +kernel) ?_
    refine J_callV (st := []) dX12_force_20 cv_X12_142 (k_refuses (-2) rf7 ms mv mt mfa mtn mtk mlv mbd mgo mge mbk mtt mtl hm pm hb sb mfu mdm mla v_c15e852b74 v_e7867eeafa hk98 hk99) hk98 rfl rfl (Nat.le_of_ble_eq_true rfl) ⟨(Nat.le_of_ble_eq_true rfl), (Nat.le_of_ble_eq_true rfl)⟩ ⟨(Nat.le_of_ble_eq_true rfl), (Nat.le_of_ble_eq_true rfl)⟩ (fun r h9 hp => ?_)
    obtain ⟨f15, rfl, rfl⟩ := hp
    refine J_nf (nh2 := nh) (ck2 := 0) (sk2 := 0) (st2 := [.int (zI (-2))]) rfl rfl rfl rfl ?_
    refine J_app (L3 := [(98, .inr (12, (.int (zI (-2)) :: .int (zI mv) :: .ref 99 :: .ref 100 :: .ref 101 :: .ref 102 :: .ref 103 :: .ref 104 :: .ref 105 :: .int (zI mt) :: .int (zI mfa) :: .ref 106 :: .ref 107 :: .ref 108 :: .int (zI mtn) :: .int (zI mtk) :: .int (zI mlv) :: .int (zI mbd) :: .int (zI mgo) :: .int (zI mge) :: .int (zI mbk) :: .ref 109 :: .int (zI mtt) :: .int (zI mtl) :: .ref 110 :: .ref 111 :: .ref 112 :: .ref 113 :: .ref 114 :: .ref 115 :: .ref 116 :: .ref 117 :: .int (zI hm) :: .int (zI pm) :: .int (zI hb) :: .int (zI sb) :: .ref 118 :: .ref 119 :: .ref 120 :: .ref 121 :: .ref 122 :: .ref 123 :: .ref 124 :: .ref 125 :: .ref 126 :: .ref 127 :: .ref 128 :: .ref 129 :: .int (zI mfu) :: .ref 130 :: .ref 131 :: .ref 132 :: .ref 133 :: .ref 134 :: .int (zI mdm) :: .int (zI mla) :: []))), (99, .inl (0, 7, .inl (zA f15)))]) rfl ?_
    exact J_iret dX12_force_23 rfl rfl (Nat.le_of_ble_eq_true rfl) (Nat.le_of_ble_eq_true rfl) (Or.inr (Or.inl ⟨f15, rfl, rfl, (v_712152639f ez1 h6)⟩))
set_option maxHeartbeats 4000000 in
set_option maxRecDepth 100000 in
theorem k_keep {l : Launch} {G : jG} {nh : Nat} {fh : Nat → Option va_E} (x : Int) (ms : Int) (mv : Int) (mt : Int) (mfa : Int) (mtn : Int) (mtk : Int) (mlv : Int) (mbd : Int) (mgo : Int) (mge : Int) (mbk : Int) (mtt : Int) (mtl : Int) (hm : Int) (pm : Int) (hb : Int) (sb : Int) (mfu : Int) (mdm : Int) (mla : Int) (K : Int → Int) (rf7 : Int → Int) (q0 : zr x) (q1 : KOK K) (hk98 : fh 98 = some (.inr (12, (.int (zI ms) :: .int (zI mv) :: .ref 99 :: .ref 100 :: .ref 101 :: .ref 102 :: .ref 103 :: .ref 104 :: .ref 105 :: .int (zI mt) :: .int (zI mfa) :: .ref 106 :: .ref 107 :: .ref 108 :: .int (zI mtn) :: .int (zI mtk) :: .int (zI mlv) :: .int (zI mbd) :: .int (zI mgo) :: .int (zI mge) :: .int (zI mbk) :: .ref 109 :: .int (zI mtt) :: .int (zI mtl) :: .ref 110 :: .ref 111 :: .ref 112 :: .ref 113 :: .ref 114 :: .ref 115 :: .ref 116 :: .ref 117 :: .int (zI hm) :: .int (zI pm) :: .int (zI hb) :: .int (zI sb) :: .ref 118 :: .ref 119 :: .ref 120 :: .ref 121 :: .ref 122 :: .ref 123 :: .ref 124 :: .ref 125 :: .ref 126 :: .ref 127 :: .ref 128 :: .ref 129 :: .int (zI mfu) :: .ref 130 :: .ref 131 :: .ref 132 :: .ref 133 :: .ref 134 :: .int (zI mdm) :: .int (zI mla) :: [])))) (hk100 : fh 100 = some (.inl (0, 4870, .inl (zA K)))) (hk99 : fh 99 = some (.inl (0, 7, .inl (zA rf7)))) : JM l G yX12_keep MX12_keep { frames := 1, cells := 0, slots := 0, locals := 22 } [.ref 98, .int (zI x)] (nh, fh) (fun rr h9 => (∃ rg7 : Int → Int, rr = some (.int (zI (-1))) ∧ h9 = (nh, hc fh [(98, .inr (12, (.int (zI (-1)) :: .int (zI mv) :: .ref 99 :: .ref 100 :: .ref 101 :: .ref 102 :: .ref 103 :: .ref 104 :: .ref 105 :: .int (zI mt) :: .int (zI mfa) :: .ref 106 :: .ref 107 :: .ref 108 :: .int (zI mtn) :: .int (zI mtk) :: .int (zI mlv) :: .int (zI mbd) :: .int (zI mgo) :: .int (zI mge) :: .int (zI mbk) :: .ref 109 :: .int (zI mtt) :: .int (zI mtl) :: .ref 110 :: .ref 111 :: .ref 112 :: .ref 113 :: .ref 114 :: .ref 115 :: .ref 116 :: .ref 117 :: .int (zI hm) :: .int (zI pm) :: .int (zI hb) :: .int (zI sb) :: .ref 118 :: .ref 119 :: .ref 120 :: .ref 121 :: .ref 122 :: .ref 123 :: .ref 124 :: .ref 125 :: .ref 126 :: .ref 127 :: .ref 128 :: .ref 129 :: .int (zI mfu) :: .ref 130 :: .ref 131 :: .ref 132 :: .ref 133 :: .ref 134 :: .int (zI mdm) :: .int (zI mla) :: []))), (99, .inl (0, 7, .inl (zA rg7)))]) ∧ (¬ kpk x (K 60))) ∨ (∃ K2 : Int → Int, ∃ r : Int, rr = some (.int (zI r)) ∧ h9 = (nh, hc fh [(98, .inr (12, (.int (zI 0) :: .int (zI (mv + 1)) :: .ref 99 :: .ref 100 :: .ref 101 :: .ref 102 :: .ref 103 :: .ref 104 :: .ref 105 :: .int (zI mt) :: .int (zI mfa) :: .ref 106 :: .ref 107 :: .ref 108 :: .int (zI mtn) :: .int (zI mtk) :: .int (zI mlv) :: .int (zI mbd) :: .int (zI mgo) :: .int (zI mge) :: .int (zI mbk) :: .ref 109 :: .int (zI mtt) :: .int (zI mtl) :: .ref 110 :: .ref 111 :: .ref 112 :: .ref 113 :: .ref 114 :: .ref 115 :: .ref 116 :: .ref 117 :: .int (zI hm) :: .int (zI pm) :: .int (zI hb) :: .int (zI sb) :: .ref 118 :: .ref 119 :: .ref 120 :: .ref 121 :: .ref 122 :: .ref 123 :: .ref 124 :: .ref 125 :: .ref 126 :: .ref 127 :: .ref 128 :: .ref 129 :: .int (zI mfu) :: .ref 130 :: .ref 131 :: .ref 132 :: .ref 133 :: .ref 134 :: .int (zI mdm) :: .int (zI mla) :: []))), (100, .inl (0, 4870, .inl (zA K2)))]) ∧ (KOK K2) ∧ (kpk x (K 60)) ∧ (K 60 = r) ∧ ((K2 = up K 60 x)))) := by
  refine JM.of (by decide) rfl (fun h => by cases h) (Nat.le_of_ble_eq_true rfl) ⟨1, rfl⟩ ?_
  refine J_hc0 (J_ls (ls2 := [some (.ref 98), some (.int (zI x)), none]) rfl ?_)
  refine J_aload_n dX12_keep_0 rfl rfl ?_
  refine J_get (v := .ref 100) dX12_keep_1 fl_X12_20 hk98 rfl ?_
  refine Z_bipush (n := 60) dX12_keep_4 (by decide +kernel) ?_
  obtain ⟨z1, ez1⟩ : ∃ z : Int, K 60 = z := ⟨_, rfl⟩
  have h2 := Rg.at q1.2.2.2.2.2.2.2.2.1 v_eb2f5e1e3a v_db2e89ee0b ez1
  refine Y_iald (z := z1) 4870 dX12_keep_6 hk100 rfl (by decide) v_eb2f5e1e3a v_db2e89ee0b ez1 ?_
  refine J_istore_n dX12_keep_7 rfl (Nat.le_of_ble_eq_true rfl) rfl ?_
  refine J_ls (ls2 := [some (.ref 98), some (.int (zI x)), some (.int (zI z1))]) rfl ?_
  refine J_iload_n dX12_keep_8 rfl rfl ?_
  refine Z_iconst (n := 0) dX12_keep_9 ?_
  refine J_iload_n dX12_keep_10 rfl rfl ?_
  refine J_callS (st := []) dX12_keep_11 cs_X12_138 (k_lies x 0 z1 q0 v_b17331891f (v_f306e1cdb8 h2.1 h2.2)) rfl rfl (Nat.le_of_ble_eq_true rfl) ⟨(Nat.le_of_ble_eq_true rfl), (Nat.le_of_ble_eq_true rfl)⟩ ⟨(Nat.le_of_ble_eq_true rfl), (Nat.le_of_ble_eq_true rfl)⟩ (fun r h9 hp => ?_)
  rcases hp with ⟨rfl, rfl, h3, h4⟩ | ⟨rfl, rfl, h5⟩ | ⟨rfl, rfl, h6⟩
  · refine J_nf (nh2 := nh) (ck2 := 0) (sk2 := 0) (st2 := [.int (zI 1)]) rfl rfl rfl rfl ?_
    refine Z_if_ne (tgt := 23) dX12_keep_14 (by decide) v_4dcc24baa7 (fun h7 => ?_) (fun h7 => absurd h7 v_3a47bfd896)
    refine J_aload_n dX12_keep_23 rfl rfl ?_
    refine J_get (v := .ref 100) dX12_keep_24 fl_X12_20 hk98 rfl ?_
    refine Z_bipush (n := 60) dX12_keep_27 (by decide +kernel) ?_
    refine J_iload_n dX12_keep_29 rfl rfl ?_
    refine Y_iast (v := x) 4870 dX12_keep_30 hk100 rfl (by decide) v_eb2f5e1e3a v_db2e89ee0b (fun f8 ef8 => ?_)
    have h9 : Rg f8 4870 (-2147483648) 2147483647 := Rg.ups q1.2.2.2.2.2.2.2.2.1 ef8 (v_c11e42827f h3) (v_602fda786b q0)
    refine J_aload_n dX12_keep_31 rfl rfl ?_
    refine J_iload_n dX12_keep_32 rfl rfl ?_
    refine J_callV (st := []) dX12_keep_33 cv_X12_146 (k_good z1 ms mv mt mfa mtn mtk mlv mbd mgo mge mbk mtt mtl hm pm hb sb mfu mdm mla hk98) hk98 rfl rfl (Nat.le_of_ble_eq_true rfl) ⟨(Nat.le_of_ble_eq_true rfl), (Nat.le_of_ble_eq_true rfl)⟩ ⟨(Nat.le_of_ble_eq_true rfl), (Nat.le_of_ble_eq_true rfl)⟩ (fun r h9 hp => ?_)
    obtain ⟨rfl, rfl⟩ := hp
    refine J_nf (nh2 := nh) (ck2 := 0) (sk2 := 0) (st2 := [.int (zI z1)]) rfl rfl rfl rfl ?_
    refine J_app (L3 := [(98, .inr (12, (.int (zI 0) :: .int (zI (mv + 1)) :: .ref 99 :: .ref 100 :: .ref 101 :: .ref 102 :: .ref 103 :: .ref 104 :: .ref 105 :: .int (zI mt) :: .int (zI mfa) :: .ref 106 :: .ref 107 :: .ref 108 :: .int (zI mtn) :: .int (zI mtk) :: .int (zI mlv) :: .int (zI mbd) :: .int (zI mgo) :: .int (zI mge) :: .int (zI mbk) :: .ref 109 :: .int (zI mtt) :: .int (zI mtl) :: .ref 110 :: .ref 111 :: .ref 112 :: .ref 113 :: .ref 114 :: .ref 115 :: .ref 116 :: .ref 117 :: .int (zI hm) :: .int (zI pm) :: .int (zI hb) :: .int (zI sb) :: .ref 118 :: .ref 119 :: .ref 120 :: .ref 121 :: .ref 122 :: .ref 123 :: .ref 124 :: .ref 125 :: .ref 126 :: .ref 127 :: .ref 128 :: .ref 129 :: .int (zI mfu) :: .ref 130 :: .ref 131 :: .ref 132 :: .ref 133 :: .ref 134 :: .int (zI mdm) :: .int (zI mla) :: []))), (100, .inl (0, 4870, .inl (zA f8)))]) rfl ?_
    exact J_iret dX12_keep_36 rfl rfl (Nat.le_of_ble_eq_true rfl) (Nat.le_of_ble_eq_true rfl) (Or.inr ⟨f8, z1, rfl, rfl, (KOK.keep q1 ef8 (v_2b02420001 h3) (v_50dd57b968 ez1 h4)), (⟨(v_2b02420001 h3), (v_50dd57b968 ez1 h4)⟩), ez1, ef8⟩)
  · refine J_nf (nh2 := nh) (ck2 := 0) (sk2 := 0) (st2 := [.int (zI 0)]) rfl rfl rfl rfl ?_
    refine Z_if_ne (tgt := 23) dX12_keep_14 (by decide) v_b17331891f (fun h10 => absurd h10 (fun q => q v_2ca2bbca1f)) (fun h10 => ?_)
    refine J_aload_n dX12_keep_17 rfl rfl ?_
    refine Z_iconst (n := -1) dX12_keep_18 ?_
    refine J_callV (st := []) dX12_keep_19 cv_X12_142 (k_refuses (-1) rf7 ms mv mt mfa mtn mtk mlv mbd mgo mge mbk mtt mtl hm pm hb sb mfu mdm mla v_ef59c9c3d8 v_646fb950f3 hk98 hk99) hk98 rfl rfl (Nat.le_of_ble_eq_true rfl) ⟨(Nat.le_of_ble_eq_true rfl), (Nat.le_of_ble_eq_true rfl)⟩ ⟨(Nat.le_of_ble_eq_true rfl), (Nat.le_of_ble_eq_true rfl)⟩ (fun r h9 hp => ?_)
    obtain ⟨f11, rfl, rfl⟩ := hp
    refine J_nf (nh2 := nh) (ck2 := 0) (sk2 := 0) (st2 := [.int (zI (-1))]) rfl rfl rfl rfl ?_
    refine J_app (L3 := [(98, .inr (12, (.int (zI (-1)) :: .int (zI mv) :: .ref 99 :: .ref 100 :: .ref 101 :: .ref 102 :: .ref 103 :: .ref 104 :: .ref 105 :: .int (zI mt) :: .int (zI mfa) :: .ref 106 :: .ref 107 :: .ref 108 :: .int (zI mtn) :: .int (zI mtk) :: .int (zI mlv) :: .int (zI mbd) :: .int (zI mgo) :: .int (zI mge) :: .int (zI mbk) :: .ref 109 :: .int (zI mtt) :: .int (zI mtl) :: .ref 110 :: .ref 111 :: .ref 112 :: .ref 113 :: .ref 114 :: .ref 115 :: .ref 116 :: .ref 117 :: .int (zI hm) :: .int (zI pm) :: .int (zI hb) :: .int (zI sb) :: .ref 118 :: .ref 119 :: .ref 120 :: .ref 121 :: .ref 122 :: .ref 123 :: .ref 124 :: .ref 125 :: .ref 126 :: .ref 127 :: .ref 128 :: .ref 129 :: .int (zI mfu) :: .ref 130 :: .ref 131 :: .ref 132 :: .ref 133 :: .ref 134 :: .int (zI mdm) :: .int (zI mla) :: []))), (99, .inl (0, 7, .inl (zA f11)))]) rfl ?_
    exact J_iret dX12_keep_22 rfl rfl (Nat.le_of_ble_eq_true rfl) (Nat.le_of_ble_eq_true rfl) (Or.inl ⟨f11, rfl, rfl, (fun q => absurd q.1 (v_dccefa8cdf h5))⟩)
  · refine J_nf (nh2 := nh) (ck2 := 0) (sk2 := 0) (st2 := [.int (zI 0)]) rfl rfl rfl rfl ?_
    refine Z_if_ne (tgt := 23) dX12_keep_14 (by decide) v_b17331891f (fun h12 => absurd h12 (fun q => q v_2ca2bbca1f)) (fun h12 => ?_)
    refine J_aload_n dX12_keep_17 rfl rfl ?_
    refine Z_iconst (n := -1) dX12_keep_18 ?_
    refine J_callV (st := []) dX12_keep_19 cv_X12_142 (k_refuses (-1) rf7 ms mv mt mfa mtn mtk mlv mbd mgo mge mbk mtt mtl hm pm hb sb mfu mdm mla v_ef59c9c3d8 v_646fb950f3 hk98 hk99) hk98 rfl rfl (Nat.le_of_ble_eq_true rfl) ⟨(Nat.le_of_ble_eq_true rfl), (Nat.le_of_ble_eq_true rfl)⟩ ⟨(Nat.le_of_ble_eq_true rfl), (Nat.le_of_ble_eq_true rfl)⟩ (fun r h9 hp => ?_)
    obtain ⟨f13, rfl, rfl⟩ := hp
    refine J_nf (nh2 := nh) (ck2 := 0) (sk2 := 0) (st2 := [.int (zI (-1))]) rfl rfl rfl rfl ?_
    refine J_app (L3 := [(98, .inr (12, (.int (zI (-1)) :: .int (zI mv) :: .ref 99 :: .ref 100 :: .ref 101 :: .ref 102 :: .ref 103 :: .ref 104 :: .ref 105 :: .int (zI mt) :: .int (zI mfa) :: .ref 106 :: .ref 107 :: .ref 108 :: .int (zI mtn) :: .int (zI mtk) :: .int (zI mlv) :: .int (zI mbd) :: .int (zI mgo) :: .int (zI mge) :: .int (zI mbk) :: .ref 109 :: .int (zI mtt) :: .int (zI mtl) :: .ref 110 :: .ref 111 :: .ref 112 :: .ref 113 :: .ref 114 :: .ref 115 :: .ref 116 :: .ref 117 :: .int (zI hm) :: .int (zI pm) :: .int (zI hb) :: .int (zI sb) :: .ref 118 :: .ref 119 :: .ref 120 :: .ref 121 :: .ref 122 :: .ref 123 :: .ref 124 :: .ref 125 :: .ref 126 :: .ref 127 :: .ref 128 :: .ref 129 :: .int (zI mfu) :: .ref 130 :: .ref 131 :: .ref 132 :: .ref 133 :: .ref 134 :: .int (zI mdm) :: .int (zI mla) :: []))), (99, .inl (0, 7, .inl (zA f13)))]) rfl ?_
    exact J_iret dX12_keep_22 rfl rfl (Nat.le_of_ble_eq_true rfl) (Nat.le_of_ble_eq_true rfl) (Or.inl ⟨f13, rfl, rfl, (fun q => absurd q.2 (v_cd797ba4dd ez1 h6))⟩)
set_option maxHeartbeats 4000000 in
set_option maxRecDepth 100000 in
theorem k_forget {l : Launch} {G : jG} {nh : Nat} {fh : Nat → Option va_E} (ms : Int) (mv : Int) (mt : Int) (mfa : Int) (mtn : Int) (mtk : Int) (mlv : Int) (mbd : Int) (mgo : Int) (mge : Int) (mbk : Int) (mtt : Int) (mtl : Int) (hm : Int) (pm : Int) (hb : Int) (sb : Int) (mfu : Int) (mdm : Int) (mla : Int) (K : Int → Int) (q0 : KOK K) (hk98 : fh 98 = some (.inr (12, (.int (zI ms) :: .int (zI mv) :: .ref 99 :: .ref 100 :: .ref 101 :: .ref 102 :: .ref 103 :: .ref 104 :: .ref 105 :: .int (zI mt) :: .int (zI mfa) :: .ref 106 :: .ref 107 :: .ref 108 :: .int (zI mtn) :: .int (zI mtk) :: .int (zI mlv) :: .int (zI mbd) :: .int (zI mgo) :: .int (zI mge) :: .int (zI mbk) :: .ref 109 :: .int (zI mtt) :: .int (zI mtl) :: .ref 110 :: .ref 111 :: .ref 112 :: .ref 113 :: .ref 114 :: .ref 115 :: .ref 116 :: .ref 117 :: .int (zI hm) :: .int (zI pm) :: .int (zI hb) :: .int (zI sb) :: .ref 118 :: .ref 119 :: .ref 120 :: .ref 121 :: .ref 122 :: .ref 123 :: .ref 124 :: .ref 125 :: .ref 126 :: .ref 127 :: .ref 128 :: .ref 129 :: .int (zI mfu) :: .ref 130 :: .ref 131 :: .ref 132 :: .ref 133 :: .ref 134 :: .int (zI mdm) :: .int (zI mla) :: [])))) (hk100 : fh 100 = some (.inl (0, 4870, .inl (zA K)))) : JM l G yX12_forget MX12_forget { frames := 0, cells := 0, slots := 0, locals := 0 } [.ref 98] (nh, fh) (fun rr h9 => ∃ K2 : Int → Int, ∃ r : Int, rr = some (.int (zI r)) ∧ h9 = (nh, hc fh [(98, .inr (12, (.int (zI ms) :: .int (zI (mv + 1)) :: .ref 99 :: .ref 100 :: .ref 101 :: .ref 102 :: .ref 103 :: .ref 104 :: .ref 105 :: .int (zI mt) :: .int (zI mfa) :: .ref 106 :: .ref 107 :: .ref 108 :: .int (zI mtn) :: .int (zI mtk) :: .int (zI mlv) :: .int (zI mbd) :: .int (zI mgo) :: .int (zI mge) :: .int (zI mbk) :: .ref 109 :: .int (zI mtt) :: .int (zI mtl) :: .ref 110 :: .ref 111 :: .ref 112 :: .ref 113 :: .ref 114 :: .ref 115 :: .ref 116 :: .ref 117 :: .int (zI hm) :: .int (zI pm) :: .int (zI hb) :: .int (zI sb) :: .ref 118 :: .ref 119 :: .ref 120 :: .ref 121 :: .ref 122 :: .ref 123 :: .ref 124 :: .ref 125 :: .ref 126 :: .ref 127 :: .ref 128 :: .ref 129 :: .int (zI mfu) :: .ref 130 :: .ref 131 :: .ref 132 :: .ref 133 :: .ref 134 :: .int (zI mdm) :: .int (zI mla) :: []))), (100, .inl (0, 4870, .inl (zA K2)))]) ∧ (KOK K2) ∧ (K 61 = r) ∧ ((K2 = up K 61 0))) := by
  refine JM.of (by decide) rfl (fun h => by cases h) (Nat.le_of_ble_eq_true rfl) ⟨1, rfl⟩ ?_
  refine J_hc0 (J_ls (ls2 := [some (.ref 98), none]) rfl ?_)
  refine J_aload_n dX12_forget_0 rfl rfl ?_
  refine J_get (v := .ref 100) dX12_forget_1 fl_X12_20 hk98 rfl ?_
  refine Z_bipush (n := 61) dX12_forget_4 (by decide +kernel) ?_
  obtain ⟨z1, ez1⟩ : ∃ z : Int, K 61 = z := ⟨_, rfl⟩
  have h2 := Rg.at q0.2.2.2.2.2.2.2.2.1 v_b92a3c53b8 v_ee60c78ede ez1
  refine Y_iald (z := z1) 4870 dX12_forget_6 hk100 rfl (by decide) v_b92a3c53b8 v_ee60c78ede ez1 ?_
  refine J_istore_n dX12_forget_7 rfl (Nat.le_of_ble_eq_true rfl) rfl ?_
  refine J_ls (ls2 := [some (.ref 98), some (.int (zI z1))]) rfl ?_
  refine J_aload_n dX12_forget_8 rfl rfl ?_
  refine J_get (v := .ref 100) dX12_forget_9 fl_X12_20 hk98 rfl ?_
  refine Z_bipush (n := 61) dX12_forget_12 (by decide +kernel) ?_
  refine Z_iconst (n := 0) dX12_forget_14 ?_
  refine Y_iast (v := 0) 4870 dX12_forget_15 hk100 rfl (by decide) v_b92a3c53b8 v_ee60c78ede (fun f3 ef3 => ?_)
  have h4 : Rg f3 4870 (-2147483648) 2147483647 := Rg.ups q0.2.2.2.2.2.2.2.2.1 ef3 v_9c5011c36f v_cd342b47c7
  refine J_aload_n dX12_forget_16 rfl rfl ?_
  refine J_dup dX12_forget_17 rfl ?_
  refine J_get (v := .int (zI mv)) dX12_forget_18 fl_X12_11 hk98 rfl ?_
  refine Z_iconst (n := 1) dX12_forget_21 ?_
  refine Z_iadd (c := mv + 1) dX12_forget_22 rfl ?_
  refine K_put (fs2 := (.int (zI ms) :: .int (zI (mv + 1)) :: .ref 99 :: .ref 100 :: .ref 101 :: .ref 102 :: .ref 103 :: .ref 104 :: .ref 105 :: .int (zI mt) :: .int (zI mfa) :: .ref 106 :: .ref 107 :: .ref 108 :: .int (zI mtn) :: .int (zI mtk) :: .int (zI mlv) :: .int (zI mbd) :: .int (zI mgo) :: .int (zI mge) :: .int (zI mbk) :: .ref 109 :: .int (zI mtt) :: .int (zI mtl) :: .ref 110 :: .ref 111 :: .ref 112 :: .ref 113 :: .ref 114 :: .ref 115 :: .ref 116 :: .ref 117 :: .int (zI hm) :: .int (zI pm) :: .int (zI hb) :: .int (zI sb) :: .ref 118 :: .ref 119 :: .ref 120 :: .ref 121 :: .ref 122 :: .ref 123 :: .ref 124 :: .ref 125 :: .ref 126 :: .ref 127 :: .ref 128 :: .ref 129 :: .int (zI mfu) :: .ref 130 :: .ref 131 :: .ref 132 :: .ref 133 :: .ref 134 :: .int (zI mdm) :: .int (zI mla) :: [])) dX12_forget_23 fw_X12_11 hk98 (Nat.le_of_ble_eq_true rfl) (fun _ => ⟨rfl, rfl⟩) rfl ?_
  refine J_iload_n dX12_forget_26 rfl rfl ?_
  exact J_iret dX12_forget_27 rfl rfl (Nat.le_of_ble_eq_true rfl) (Nat.le_of_ble_eq_true rfl) ⟨f3, z1, rfl, rfl, (KOK.c61 q0 ef3 rfl), ez1, ef3⟩
set_option maxHeartbeats 4000000 in
set_option maxRecDepth 100000 in
theorem k_swapIf {l : Launch} {G : jG} {nh : Nat} {fh : Nat → Option va_E} (x : Int) (y : Int) (ms : Int) (mv : Int) (mt : Int) (mfa : Int) (mtn : Int) (mtk : Int) (mlv : Int) (mbd : Int) (mgo : Int) (mge : Int) (mbk : Int) (mtt : Int) (mtl : Int) (hm : Int) (pm : Int) (hb : Int) (sb : Int) (mfu : Int) (mdm : Int) (mla : Int) (K : Int → Int) (rf7 : Int → Int) (q0 : zr x) (q1 : zr y) (q2 : KOK K) (hk98 : fh 98 = some (.inr (12, (.int (zI ms) :: .int (zI mv) :: .ref 99 :: .ref 100 :: .ref 101 :: .ref 102 :: .ref 103 :: .ref 104 :: .ref 105 :: .int (zI mt) :: .int (zI mfa) :: .ref 106 :: .ref 107 :: .ref 108 :: .int (zI mtn) :: .int (zI mtk) :: .int (zI mlv) :: .int (zI mbd) :: .int (zI mgo) :: .int (zI mge) :: .int (zI mbk) :: .ref 109 :: .int (zI mtt) :: .int (zI mtl) :: .ref 110 :: .ref 111 :: .ref 112 :: .ref 113 :: .ref 114 :: .ref 115 :: .ref 116 :: .ref 117 :: .int (zI hm) :: .int (zI pm) :: .int (zI hb) :: .int (zI sb) :: .ref 118 :: .ref 119 :: .ref 120 :: .ref 121 :: .ref 122 :: .ref 123 :: .ref 124 :: .ref 125 :: .ref 126 :: .ref 127 :: .ref 128 :: .ref 129 :: .int (zI mfu) :: .ref 130 :: .ref 131 :: .ref 132 :: .ref 133 :: .ref 134 :: .int (zI mdm) :: .int (zI mla) :: [])))) (hk100 : fh 100 = some (.inl (0, 4870, .inl (zA K)))) (hk99 : fh 99 = some (.inl (0, 7, .inl (zA rf7)))) : JM l G yX12_swapIf MX12_swapIf { frames := 1, cells := 0, slots := 0, locals := 22 } [.ref 98, .int (zI x), .int (zI y)] (nh, fh) (fun rr h9 => (∃ rg7 : Int → Int, rr = some (.int (zI (-1))) ∧ h9 = (nh, hc fh [(98, .inr (12, (.int (zI (-1)) :: .int (zI mv) :: .ref 99 :: .ref 100 :: .ref 101 :: .ref 102 :: .ref 103 :: .ref 104 :: .ref 105 :: .int (zI mt) :: .int (zI mfa) :: .ref 106 :: .ref 107 :: .ref 108 :: .int (zI mtn) :: .int (zI mtk) :: .int (zI mlv) :: .int (zI mbd) :: .int (zI mgo) :: .int (zI mge) :: .int (zI mbk) :: .ref 109 :: .int (zI mtt) :: .int (zI mtl) :: .ref 110 :: .ref 111 :: .ref 112 :: .ref 113 :: .ref 114 :: .ref 115 :: .ref 116 :: .ref 117 :: .int (zI hm) :: .int (zI pm) :: .int (zI hb) :: .int (zI sb) :: .ref 118 :: .ref 119 :: .ref 120 :: .ref 121 :: .ref 122 :: .ref 123 :: .ref 124 :: .ref 125 :: .ref 126 :: .ref 127 :: .ref 128 :: .ref 129 :: .int (zI mfu) :: .ref 130 :: .ref 131 :: .ref 132 :: .ref 133 :: .ref 134 :: .int (zI mdm) :: .int (zI mla) :: []))), (99, .inl (0, 7, .inl (zA rg7)))]) ∧ (¬ swk x y (bsum K))) ∨ (∃ rg7 : Int → Int, rr = some (.int (zI (-5))) ∧ h9 = (nh, hc fh [(98, .inr (12, (.int (zI (-5)) :: .int (zI mv) :: .ref 99 :: .ref 100 :: .ref 101 :: .ref 102 :: .ref 103 :: .ref 104 :: .ref 105 :: .int (zI mt) :: .int (zI mfa) :: .ref 106 :: .ref 107 :: .ref 108 :: .int (zI mtn) :: .int (zI mtk) :: .int (zI mlv) :: .int (zI mbd) :: .int (zI mgo) :: .int (zI mge) :: .int (zI mbk) :: .ref 109 :: .int (zI mtt) :: .int (zI mtl) :: .ref 110 :: .ref 111 :: .ref 112 :: .ref 113 :: .ref 114 :: .ref 115 :: .ref 116 :: .ref 117 :: .int (zI hm) :: .int (zI pm) :: .int (zI hb) :: .int (zI sb) :: .ref 118 :: .ref 119 :: .ref 120 :: .ref 121 :: .ref 122 :: .ref 123 :: .ref 124 :: .ref 125 :: .ref 126 :: .ref 127 :: .ref 128 :: .ref 129 :: .int (zI mfu) :: .ref 130 :: .ref 131 :: .ref 132 :: .ref 133 :: .ref 134 :: .int (zI mdm) :: .int (zI mla) :: []))), (99, .inl (0, 7, .inl (zA rg7)))]) ∧ (swk x y (bsum K)) ∧ (12 ≤ K 60)) ∨ (∃ K2 : Int → Int, ∃ r : Int, rr = some (.int (zI r)) ∧ h9 = (nh, hc fh [(98, .inr (12, (.int (zI 0) :: .int (zI (mv + 1)) :: .ref 99 :: .ref 100 :: .ref 101 :: .ref 102 :: .ref 103 :: .ref 104 :: .ref 105 :: .int (zI mt) :: .int (zI mfa) :: .ref 106 :: .ref 107 :: .ref 108 :: .int (zI mtn) :: .int (zI mtk) :: .int (zI mlv) :: .int (zI mbd) :: .int (zI mgo) :: .int (zI mge) :: .int (zI mbk) :: .ref 109 :: .int (zI mtt) :: .int (zI mtl) :: .ref 110 :: .ref 111 :: .ref 112 :: .ref 113 :: .ref 114 :: .ref 115 :: .ref 116 :: .ref 117 :: .int (zI hm) :: .int (zI pm) :: .int (zI hb) :: .int (zI sb) :: .ref 118 :: .ref 119 :: .ref 120 :: .ref 121 :: .ref 122 :: .ref 123 :: .ref 124 :: .ref 125 :: .ref 126 :: .ref 127 :: .ref 128 :: .ref 129 :: .int (zI mfu) :: .ref 130 :: .ref 131 :: .ref 132 :: .ref 133 :: .ref 134 :: .int (zI mdm) :: .int (zI mla) :: []))), (100, .inl (0, 4870, .inl (zA K2)))]) ∧ (KOK K2) ∧ (swk x y (bsum K)) ∧ (K 60 < 12) ∧ (r = K 60 + 1) ∧ ((K2 = pu3 K 23 60 x y)))) := by
  refine JM.of (by decide) rfl (fun h => by cases h) (Nat.le_of_ble_eq_true rfl) ⟨1, rfl⟩ ?_
  refine J_hc0 (J_ls (ls2 := [some (.ref 98), some (.int (zI x)), some (.int (zI y)), none]) rfl ?_)
  refine J_iload_n dX12_swapIf_0 rfl rfl ?_
  refine Z_if_lt (tgt := 17) dX12_swapIf_1 (by decide) (v_b25fa51a85 q0) (fun h1 => ?_) (fun h1 => ?_)
  · refine J_aload_n dX12_swapIf_17 rfl rfl ?_
    refine Z_iconst (n := -1) dX12_swapIf_18 ?_
    refine J_callV (st := []) dX12_swapIf_19 cv_X12_142 (k_refuses (-1) rf7 ms mv mt mfa mtn mtk mlv mbd mgo mge mbk mtt mtl hm pm hb sb mfu mdm mla v_ef59c9c3d8 v_646fb950f3 hk98 hk99) hk98 rfl rfl (Nat.le_of_ble_eq_true rfl) ⟨(Nat.le_of_ble_eq_true rfl), (Nat.le_of_ble_eq_true rfl)⟩ ⟨(Nat.le_of_ble_eq_true rfl), (Nat.le_of_ble_eq_true rfl)⟩ (fun r h9 hp => ?_)
    obtain ⟨f2, rfl, rfl⟩ := hp
    refine J_nf (nh2 := nh) (ck2 := 0) (sk2 := 0) (st2 := [.int (zI (-1))]) rfl rfl rfl rfl ?_
    refine J_app (L3 := [(98, .inr (12, (.int (zI (-1)) :: .int (zI mv) :: .ref 99 :: .ref 100 :: .ref 101 :: .ref 102 :: .ref 103 :: .ref 104 :: .ref 105 :: .int (zI mt) :: .int (zI mfa) :: .ref 106 :: .ref 107 :: .ref 108 :: .int (zI mtn) :: .int (zI mtk) :: .int (zI mlv) :: .int (zI mbd) :: .int (zI mgo) :: .int (zI mge) :: .int (zI mbk) :: .ref 109 :: .int (zI mtt) :: .int (zI mtl) :: .ref 110 :: .ref 111 :: .ref 112 :: .ref 113 :: .ref 114 :: .ref 115 :: .ref 116 :: .ref 117 :: .int (zI hm) :: .int (zI pm) :: .int (zI hb) :: .int (zI sb) :: .ref 118 :: .ref 119 :: .ref 120 :: .ref 121 :: .ref 122 :: .ref 123 :: .ref 124 :: .ref 125 :: .ref 126 :: .ref 127 :: .ref 128 :: .ref 129 :: .int (zI mfu) :: .ref 130 :: .ref 131 :: .ref 132 :: .ref 133 :: .ref 134 :: .int (zI mdm) :: .int (zI mla) :: []))), (99, .inl (0, 7, .inl (zA f2)))]) rfl ?_
    exact J_iret dX12_swapIf_22 rfl rfl (Nat.le_of_ble_eq_true rfl) (Nat.le_of_ble_eq_true rfl) (Or.inl ⟨f2, rfl, rfl, (fun q => absurd q.1 (v_dccefa8cdf h1))⟩)
  · refine J_iload_n dX12_swapIf_4 rfl rfl ?_
    refine J_iload_n dX12_swapIf_5 rfl rfl ?_
    refine Z_icmp_le (tgt := 17) dX12_swapIf_6 (by decide) (v_b25fa51a85 q1) (v_edc92e96e6 q0 h1) (fun h3 => ?_) (fun h3 => ?_)
    · refine J_aload_n dX12_swapIf_17 rfl rfl ?_
      refine Z_iconst (n := -1) dX12_swapIf_18 ?_
      refine J_callV (st := []) dX12_swapIf_19 cv_X12_142 (k_refuses (-1) rf7 ms mv mt mfa mtn mtk mlv mbd mgo mge mbk mtt mtl hm pm hb sb mfu mdm mla v_ef59c9c3d8 v_646fb950f3 hk98 hk99) hk98 rfl rfl (Nat.le_of_ble_eq_true rfl) ⟨(Nat.le_of_ble_eq_true rfl), (Nat.le_of_ble_eq_true rfl)⟩ ⟨(Nat.le_of_ble_eq_true rfl), (Nat.le_of_ble_eq_true rfl)⟩ (fun r h9 hp => ?_)
      obtain ⟨f4, rfl, rfl⟩ := hp
      refine J_nf (nh2 := nh) (ck2 := 0) (sk2 := 0) (st2 := [.int (zI (-1))]) rfl rfl rfl rfl ?_
      refine J_app (L3 := [(98, .inr (12, (.int (zI (-1)) :: .int (zI mv) :: .ref 99 :: .ref 100 :: .ref 101 :: .ref 102 :: .ref 103 :: .ref 104 :: .ref 105 :: .int (zI mt) :: .int (zI mfa) :: .ref 106 :: .ref 107 :: .ref 108 :: .int (zI mtn) :: .int (zI mtk) :: .int (zI mlv) :: .int (zI mbd) :: .int (zI mgo) :: .int (zI mge) :: .int (zI mbk) :: .ref 109 :: .int (zI mtt) :: .int (zI mtl) :: .ref 110 :: .ref 111 :: .ref 112 :: .ref 113 :: .ref 114 :: .ref 115 :: .ref 116 :: .ref 117 :: .int (zI hm) :: .int (zI pm) :: .int (zI hb) :: .int (zI sb) :: .ref 118 :: .ref 119 :: .ref 120 :: .ref 121 :: .ref 122 :: .ref 123 :: .ref 124 :: .ref 125 :: .ref 126 :: .ref 127 :: .ref 128 :: .ref 129 :: .int (zI mfu) :: .ref 130 :: .ref 131 :: .ref 132 :: .ref 133 :: .ref 134 :: .int (zI mdm) :: .int (zI mla) :: []))), (99, .inl (0, 7, .inl (zA f4)))]) rfl ?_
      exact J_iret dX12_swapIf_22 rfl rfl (Nat.le_of_ble_eq_true rfl) (Nat.le_of_ble_eq_true rfl) (Or.inl ⟨f4, rfl, rfl, (fun q => absurd q.2.1 (v_b598cf8bfa h3))⟩)
    · refine J_iload_n dX12_swapIf_9 rfl rfl ?_
      refine J_aload_n dX12_swapIf_10 rfl rfl ?_
      refine J_callV (st := [.int (zI y)]) dX12_swapIf_11 cv_X12_149 (k_places ms mv mt mfa mtn mtk mlv mbd mgo mge mbk mtt mtl hm pm hb sb mfu mdm mla K hk98 hk100) hk98 rfl rfl (Nat.le_of_ble_eq_true rfl) ⟨(Nat.le_of_ble_eq_true rfl), (Nat.le_of_ble_eq_true rfl)⟩ ⟨(Nat.le_of_ble_eq_true rfl), (Nat.le_of_ble_eq_true rfl)⟩ (fun r h9 hp => ?_)
      obtain ⟨z5, rfl, rfl, h6⟩ := hp
      refine J_nf (nh2 := nh) (ck2 := 0) (sk2 := 0) (st2 := [.int (zI z5), .int (zI y)]) rfl rfl rfl rfl ?_
      have g7 : 0 ≤ z5 ∧ z5 ≤ 7 := by rw [h6]; exact bsum_rng q2.1
      refine Z_icmp_lt (tgt := 23) dX12_swapIf_14 (by decide) (v_b25fa51a85 q1) (v_2ee1de483d g7.1 g7.2) (fun h8 => ?_) (fun h8 => ?_)
      · refine J_aload_n dX12_swapIf_23 rfl rfl ?_
        refine J_get (v := .ref 100) dX12_swapIf_24 fl_X12_20 hk98 rfl ?_
        refine Z_bipush (n := 60) dX12_swapIf_27 (by decide +kernel) ?_
        obtain ⟨z9, ez9⟩ : ∃ z : Int, K 60 = z := ⟨_, rfl⟩
        have h10 := Rg.at q2.2.2.2.2.2.2.2.2.1 v_eb2f5e1e3a v_db2e89ee0b ez9
        refine Y_iald (z := z9) 4870 dX12_swapIf_29 hk100 rfl (by decide) v_eb2f5e1e3a v_db2e89ee0b ez9 ?_
        refine J_istore_n dX12_swapIf_30 rfl (Nat.le_of_ble_eq_true rfl) rfl ?_
        refine J_ls (ls2 := [some (.ref 98), some (.int (zI x)), some (.int (zI y)), some (.int (zI z9))]) rfl ?_
        refine J_iload_n dX12_swapIf_31 rfl rfl ?_
        refine Z_bipush (n := 12) dX12_swapIf_32 (by decide +kernel) ?_
        refine Z_icmp_ne (tgt := 44) dX12_swapIf_34 (by decide) (v_f306e1cdb8 h10.1 h10.2) v_1288359c70 (fun h11 => ?_) (fun h11 => ?_)
        · refine J_aload_n dX12_swapIf_44 rfl rfl ?_
          refine J_get (v := .ref 100) dX12_swapIf_45 fl_X12_20 hk98 rfl ?_
          refine Z_bipush (n := 23) dX12_swapIf_48 (by decide +kernel) ?_
          refine Z_iconst (n := 2) dX12_swapIf_50 ?_
          refine J_iload_n dX12_swapIf_51 rfl rfl ?_
          refine Z_imul (c := 2 * z9) dX12_swapIf_52 rfl ?_
          refine Z_iadd (c := 2 * z9 + 23) dX12_swapIf_53 v_1e1da0d12e ?_
          refine J_iload_n dX12_swapIf_54 rfl rfl ?_
          refine Y_iast (v := x) 4870 dX12_swapIf_55 hk100 rfl (by decide) (v_5d41ef3176 q2.2.2.1.1 ez9) (v_2ce97c054e q2.2.2.1.2 ez9) (fun f12 ef12 => ?_)
          have h13 : Rg f12 4870 (-2147483648) 2147483647 := Rg.ups q2.2.2.2.2.2.2.2.2.1 ef12 (v_867eef6787 h1) (v_602fda786b q0)
          refine J_aload_n dX12_swapIf_56 rfl rfl ?_
          refine J_get (v := .ref 100) dX12_swapIf_57 fl_X12_20 hk98 rfl ?_
          refine Z_bipush (n := 23) dX12_swapIf_60 (by decide +kernel) ?_
          refine Z_iconst (n := 2) dX12_swapIf_62 ?_
          refine J_iload_n dX12_swapIf_63 rfl rfl ?_
          refine Z_imul (c := 2 * z9) dX12_swapIf_64 rfl ?_
          refine Z_iadd (c := 2 * z9 + 23) dX12_swapIf_65 v_1e1da0d12e ?_
          refine Z_iconst (n := 1) dX12_swapIf_66 ?_
          refine Z_iadd (c := 2 * z9 + 24) dX12_swapIf_67 v_2b7c6ee0d2 ?_
          refine J_iload_n dX12_swapIf_68 rfl rfl ?_
          refine Y_iast (v := y) 4870 dX12_swapIf_69 rfl rfl (by decide) (v_9d2643bf6c q2.2.2.1.1 ez9) (v_fe11e6244a q2.2.2.1.2 ez9) (fun f14 ef14 => ?_)
          have h15 : Rg f14 4870 (-2147483648) 2147483647 := Rg.ups h13 ef14 (v_9c631c66d9 q1) (v_602fda786b q1)
          refine J_aload_n dX12_swapIf_70 rfl rfl ?_
          refine J_get (v := .ref 100) dX12_swapIf_71 fl_X12_20 hk98 rfl ?_
          refine Z_bipush (n := 60) dX12_swapIf_74 (by decide +kernel) ?_
          refine J_dup2_11 dX12_swapIf_76 rfl rfl ?_
          obtain ⟨z16, ez16⟩ : ∃ z : Int, f14 60 = z := ⟨_, rfl⟩
          have h17 := Rg.at h15 v_eb2f5e1e3a v_db2e89ee0b ez16
          have e18 : f12 60 = z16 := rd_ne ef14 (v_2e50f802b8 q2.2.2.1.2 ez9) ez16
          have h19 := Rg.at h13 v_eb2f5e1e3a v_db2e89ee0b e18
          have e20 : K 60 = z16 := rd_ne ef12 (v_f3a14de7e3 q2.2.2.1.2 ez9) e18
          have h21 : z16 = z9 := e20.symm.trans ez9
          refine Y_iald (z := z16) 4870 dX12_swapIf_77 rfl rfl (by decide) v_eb2f5e1e3a v_db2e89ee0b ez16 ?_
          refine Z_iconst (n := 1) dX12_swapIf_78 ?_
          refine Z_iadd (c := z16 + 1) dX12_swapIf_79 rfl ?_
          refine Y_iast (v := z16 + 1) 4870 dX12_swapIf_80 rfl rfl (by decide) v_eb2f5e1e3a v_db2e89ee0b (fun f22 ef22 => ?_)
          have h23 : Rg f22 4870 (-2147483648) 2147483647 := Rg.ups h15 ef22 (v_adc19ed266 h17.1) (v_217e615720 q2.2.2.1.2 e20)
          refine J_aload_n dX12_swapIf_81 rfl rfl ?_
          refine J_iload_n dX12_swapIf_82 rfl rfl ?_
          refine Z_iconst (n := 1) dX12_swapIf_83 ?_
          refine Z_iadd (c := z9 + 1) dX12_swapIf_84 rfl ?_
          refine J_callV (st := []) dX12_swapIf_85 cv_X12_146 (k_good (z9 + 1) ms mv mt mfa mtn mtk mlv mbd mgo mge mbk mtt mtl hm pm hb sb mfu mdm mla hk98) hk98 rfl rfl (Nat.le_of_ble_eq_true rfl) ⟨(Nat.le_of_ble_eq_true rfl), (Nat.le_of_ble_eq_true rfl)⟩ ⟨(Nat.le_of_ble_eq_true rfl), (Nat.le_of_ble_eq_true rfl)⟩ (fun r h9 hp => ?_)
          obtain ⟨rfl, rfl⟩ := hp
          refine J_nf (nh2 := nh) (ck2 := 0) (sk2 := 0) (st2 := [.int (zI (z9 + 1))]) rfl rfl rfl rfl ?_
          refine J_app (L3 := [(98, .inr (12, (.int (zI 0) :: .int (zI (mv + 1)) :: .ref 99 :: .ref 100 :: .ref 101 :: .ref 102 :: .ref 103 :: .ref 104 :: .ref 105 :: .int (zI mt) :: .int (zI mfa) :: .ref 106 :: .ref 107 :: .ref 108 :: .int (zI mtn) :: .int (zI mtk) :: .int (zI mlv) :: .int (zI mbd) :: .int (zI mgo) :: .int (zI mge) :: .int (zI mbk) :: .ref 109 :: .int (zI mtt) :: .int (zI mtl) :: .ref 110 :: .ref 111 :: .ref 112 :: .ref 113 :: .ref 114 :: .ref 115 :: .ref 116 :: .ref 117 :: .int (zI hm) :: .int (zI pm) :: .int (zI hb) :: .int (zI sb) :: .ref 118 :: .ref 119 :: .ref 120 :: .ref 121 :: .ref 122 :: .ref 123 :: .ref 124 :: .ref 125 :: .ref 126 :: .ref 127 :: .ref 128 :: .ref 129 :: .int (zI mfu) :: .ref 130 :: .ref 131 :: .ref 132 :: .ref 133 :: .ref 134 :: .int (zI mdm) :: .int (zI mla) :: []))), (100, .inl (0, 4870, .inl (zA f22))), (100, .inl (0, 4870, .inl (zA f14))), (100, .inl (0, 4870, .inl (zA f12)))]) rfl ?_
          refine J_mask (L2 := [(98, .inr (12, (.int (zI 0) :: .int (zI (mv + 1)) :: .ref 99 :: .ref 100 :: .ref 101 :: .ref 102 :: .ref 103 :: .ref 104 :: .ref 105 :: .int (zI mt) :: .int (zI mfa) :: .ref 106 :: .ref 107 :: .ref 108 :: .int (zI mtn) :: .int (zI mtk) :: .int (zI mlv) :: .int (zI mbd) :: .int (zI mgo) :: .int (zI mge) :: .int (zI mbk) :: .ref 109 :: .int (zI mtt) :: .int (zI mtl) :: .ref 110 :: .ref 111 :: .ref 112 :: .ref 113 :: .ref 114 :: .ref 115 :: .ref 116 :: .ref 117 :: .int (zI hm) :: .int (zI pm) :: .int (zI hb) :: .int (zI sb) :: .ref 118 :: .ref 119 :: .ref 120 :: .ref 121 :: .ref 122 :: .ref 123 :: .ref 124 :: .ref 125 :: .ref 126 :: .ref 127 :: .ref 128 :: .ref 129 :: .int (zI mfu) :: .ref 130 :: .ref 131 :: .ref 132 :: .ref 133 :: .ref 134 :: .int (zI mdm) :: .int (zI mla) :: []))), (100, .inl (0, 4870, .inl (zA f22)))]) (ks := [98, 100, 100, 100]) [true, true, false, false] rfl (by decide +kernel) rfl ?_
          exact J_iret dX12_swapIf_88 rfl rfl (Nat.le_of_ble_eq_true rfl) (Nat.le_of_ble_eq_true rfl) (Or.inr (Or.inr ⟨f22, (z9 + 1), rfl, rfl, (KOK.swap q2 ez9 (v_4b969892e9 q2.2.2.1.2 ez9 h11) v_3ff3280dbb v_dece2bd13f ef12 ef14 ef22 (v_826844c169 h21) (v_b2d8922659 h1) (v_fe9ea41faa h3) (v_b9aca61388 h8) h6), (⟨(v_b2d8922659 h1), (v_fe9ea41faa h3), (v_d7c2909a09 h6 h8)⟩), (v_a9db0a1ddb q2.2.2.1.2 ez9 h11), (v_129dc755f0 ez9), (pu3_of ez9 ef12 v_ba9c24064d ef14 v_91dc6b4041 ef22 (v_826844c169 h21))⟩))
        · refine J_aload_n dX12_swapIf_37 rfl rfl ?_
          refine Z_bipush (n := -5) dX12_swapIf_38 (by decide +kernel) ?_
          refine J_callV (st := []) dX12_swapIf_40 cv_X12_142 (k_refuses (-5) rf7 ms mv mt mfa mtn mtk mlv mbd mgo mge mbk mtt mtl hm pm hb sb mfu mdm mla v_23c38dd6f5 v_711bb4d976 hk98 hk99) hk98 rfl rfl (Nat.le_of_ble_eq_true rfl) ⟨(Nat.le_of_ble_eq_true rfl), (Nat.le_of_ble_eq_true rfl)⟩ ⟨(Nat.le_of_ble_eq_true rfl), (Nat.le_of_ble_eq_true rfl)⟩ (fun r h9 hp => ?_)
          obtain ⟨f24, rfl, rfl⟩ := hp
          refine J_nf (nh2 := nh) (ck2 := 0) (sk2 := 0) (st2 := [.int (zI (-5))]) rfl rfl rfl rfl ?_
          refine J_app (L3 := [(98, .inr (12, (.int (zI (-5)) :: .int (zI mv) :: .ref 99 :: .ref 100 :: .ref 101 :: .ref 102 :: .ref 103 :: .ref 104 :: .ref 105 :: .int (zI mt) :: .int (zI mfa) :: .ref 106 :: .ref 107 :: .ref 108 :: .int (zI mtn) :: .int (zI mtk) :: .int (zI mlv) :: .int (zI mbd) :: .int (zI mgo) :: .int (zI mge) :: .int (zI mbk) :: .ref 109 :: .int (zI mtt) :: .int (zI mtl) :: .ref 110 :: .ref 111 :: .ref 112 :: .ref 113 :: .ref 114 :: .ref 115 :: .ref 116 :: .ref 117 :: .int (zI hm) :: .int (zI pm) :: .int (zI hb) :: .int (zI sb) :: .ref 118 :: .ref 119 :: .ref 120 :: .ref 121 :: .ref 122 :: .ref 123 :: .ref 124 :: .ref 125 :: .ref 126 :: .ref 127 :: .ref 128 :: .ref 129 :: .int (zI mfu) :: .ref 130 :: .ref 131 :: .ref 132 :: .ref 133 :: .ref 134 :: .int (zI mdm) :: .int (zI mla) :: []))), (99, .inl (0, 7, .inl (zA f24)))]) rfl ?_
          exact J_iret dX12_swapIf_43 rfl rfl (Nat.le_of_ble_eq_true rfl) (Nat.le_of_ble_eq_true rfl) (Or.inr (Or.inl ⟨f24, rfl, rfl, (⟨(v_b2d8922659 h1), (v_fe9ea41faa h3), (v_d7c2909a09 h6 h8)⟩), (v_500c41044e ez9 h11)⟩))
      · refine J_aload_n dX12_swapIf_17 rfl rfl ?_
        refine Z_iconst (n := -1) dX12_swapIf_18 ?_
        refine J_callV (st := []) dX12_swapIf_19 cv_X12_142 (k_refuses (-1) rf7 ms mv mt mfa mtn mtk mlv mbd mgo mge mbk mtt mtl hm pm hb sb mfu mdm mla v_ef59c9c3d8 v_646fb950f3 hk98 hk99) hk98 rfl rfl (Nat.le_of_ble_eq_true rfl) ⟨(Nat.le_of_ble_eq_true rfl), (Nat.le_of_ble_eq_true rfl)⟩ ⟨(Nat.le_of_ble_eq_true rfl), (Nat.le_of_ble_eq_true rfl)⟩ (fun r h9 hp => ?_)
        obtain ⟨f25, rfl, rfl⟩ := hp
        refine J_nf (nh2 := nh) (ck2 := 0) (sk2 := 0) (st2 := [.int (zI (-1))]) rfl rfl rfl rfl ?_
        refine J_app (L3 := [(98, .inr (12, (.int (zI (-1)) :: .int (zI mv) :: .ref 99 :: .ref 100 :: .ref 101 :: .ref 102 :: .ref 103 :: .ref 104 :: .ref 105 :: .int (zI mt) :: .int (zI mfa) :: .ref 106 :: .ref 107 :: .ref 108 :: .int (zI mtn) :: .int (zI mtk) :: .int (zI mlv) :: .int (zI mbd) :: .int (zI mgo) :: .int (zI mge) :: .int (zI mbk) :: .ref 109 :: .int (zI mtt) :: .int (zI mtl) :: .ref 110 :: .ref 111 :: .ref 112 :: .ref 113 :: .ref 114 :: .ref 115 :: .ref 116 :: .ref 117 :: .int (zI hm) :: .int (zI pm) :: .int (zI hb) :: .int (zI sb) :: .ref 118 :: .ref 119 :: .ref 120 :: .ref 121 :: .ref 122 :: .ref 123 :: .ref 124 :: .ref 125 :: .ref 126 :: .ref 127 :: .ref 128 :: .ref 129 :: .int (zI mfu) :: .ref 130 :: .ref 131 :: .ref 132 :: .ref 133 :: .ref 134 :: .int (zI mdm) :: .int (zI mla) :: []))), (99, .inl (0, 7, .inl (zA f25)))]) rfl ?_
        exact J_iret dX12_swapIf_22 rfl rfl (Nat.le_of_ble_eq_true rfl) (Nat.le_of_ble_eq_true rfl) (Or.inl ⟨f25, rfl, rfl, (fun q => absurd q.2.2 (v_8b3df8f0b9 h6 h8))⟩)
set_option maxHeartbeats 4000000 in
set_option maxRecDepth 100000 in
theorem k_clue {l : Launch} {G : jG} {nh : Nat} {fh : Nat → Option va_E} (x : Int) (y : Int) (ms : Int) (mv : Int) (mt : Int) (mfa : Int) (mtn : Int) (mtk : Int) (mlv : Int) (mbd : Int) (mgo : Int) (mge : Int) (mbk : Int) (mtt : Int) (mtl : Int) (hm : Int) (pm : Int) (hb : Int) (sb : Int) (mfu : Int) (mdm : Int) (mla : Int) (K : Int → Int) (co : Int → Int) (cd : Int → Int) (of : Int → Int) (rf7 : Int → Int) (q0 : zr x) (q1 : zr y) (q2 : KOK K) (q3 : hb ≤ mv) (q4 : Rg of 7 0 4) (q5 : zr hb) (q6 : zr mv) (q7 : hb = mv → HouT co cd K hm ∧ hm = Hi K ∧ pm = bsum K) (hk98 : fh 98 = some (.inr (12, (.int (zI ms) :: .int (zI mv) :: .ref 99 :: .ref 100 :: .ref 101 :: .ref 102 :: .ref 103 :: .ref 104 :: .ref 105 :: .int (zI mt) :: .int (zI mfa) :: .ref 106 :: .ref 107 :: .ref 108 :: .int (zI mtn) :: .int (zI mtk) :: .int (zI mlv) :: .int (zI mbd) :: .int (zI mgo) :: .int (zI mge) :: .int (zI mbk) :: .ref 109 :: .int (zI mtt) :: .int (zI mtl) :: .ref 110 :: .ref 111 :: .ref 112 :: .ref 113 :: .ref 114 :: .ref 115 :: .ref 116 :: .ref 117 :: .int (zI hm) :: .int (zI pm) :: .int (zI hb) :: .int (zI sb) :: .ref 118 :: .ref 119 :: .ref 120 :: .ref 121 :: .ref 122 :: .ref 123 :: .ref 124 :: .ref 125 :: .ref 126 :: .ref 127 :: .ref 128 :: .ref 129 :: .int (zI mfu) :: .ref 130 :: .ref 131 :: .ref 132 :: .ref 133 :: .ref 134 :: .int (zI mdm) :: .int (zI mla) :: [])))) (hk100 : fh 100 = some (.inl (0, 4870, .inl (zA K)))) (hk99 : fh 99 = some (.inl (0, 7, .inl (zA rf7)))) (hk110 : fh 110 = some (.inl (0, 8820, .inl (zA co)))) (hk111 : fh 111 = some (.inl (0, 1260, .inl (zA cd)))) (hk117 : fh 117 = some (.inl (0, 7, .inl (zA of)))) : JM l G yX12_clue MX12_clue { frames := 4, cells := 0, slots := 0, locals := 92 } [.ref 98, .int (zI x), .int (zI y)] (nh, fh) (fun rr h9 => (∃ rg7 : Int → Int, rr = some (.int (zI (-1))) ∧ h9 = (nh, hc fh [(98, .inr (12, (.int (zI (-1)) :: .int (zI mv) :: .ref 99 :: .ref 100 :: .ref 101 :: .ref 102 :: .ref 103 :: .ref 104 :: .ref 105 :: .int (zI mt) :: .int (zI mfa) :: .ref 106 :: .ref 107 :: .ref 108 :: .int (zI mtn) :: .int (zI mtk) :: .int (zI mlv) :: .int (zI mbd) :: .int (zI mgo) :: .int (zI mge) :: .int (zI mbk) :: .ref 109 :: .int (zI mtt) :: .int (zI mtl) :: .ref 110 :: .ref 111 :: .ref 112 :: .ref 113 :: .ref 114 :: .ref 115 :: .ref 116 :: .ref 117 :: .int (zI hm) :: .int (zI pm) :: .int (zI hb) :: .int (zI sb) :: .ref 118 :: .ref 119 :: .ref 120 :: .ref 121 :: .ref 122 :: .ref 123 :: .ref 124 :: .ref 125 :: .ref 126 :: .ref 127 :: .ref 128 :: .ref 129 :: .int (zI mfu) :: .ref 130 :: .ref 131 :: .ref 132 :: .ref 133 :: .ref 134 :: .int (zI mdm) :: .int (zI mla) :: []))), (99, .inl (0, 7, .inl (zA rg7)))]) ∧ (y < -1)) ∨ (∃ rg7 : Int → Int, ∃ hm2 : Int, ∃ pm2 : Int, ∃ hb2 : Int, ∃ co2 : Int → Int, ∃ cd2 : Int → Int, ∃ of2 : Int → Int, rr = some (.int (zI (-2))) ∧ h9 = (nh, hc fh [(98, .inr (12, (.int (zI (-2)) :: .int (zI mv) :: .ref 99 :: .ref 100 :: .ref 101 :: .ref 102 :: .ref 103 :: .ref 104 :: .ref 105 :: .int (zI mt) :: .int (zI mfa) :: .ref 106 :: .ref 107 :: .ref 108 :: .int (zI mtn) :: .int (zI mtk) :: .int (zI mlv) :: .int (zI mbd) :: .int (zI mgo) :: .int (zI mge) :: .int (zI mbk) :: .ref 109 :: .int (zI mtt) :: .int (zI mtl) :: .ref 110 :: .ref 111 :: .ref 112 :: .ref 113 :: .ref 114 :: .ref 115 :: .ref 116 :: .ref 117 :: .int (zI hm2) :: .int (zI pm2) :: .int (zI hb2) :: .int (zI sb) :: .ref 118 :: .ref 119 :: .ref 120 :: .ref 121 :: .ref 122 :: .ref 123 :: .ref 124 :: .ref 125 :: .ref 126 :: .ref 127 :: .ref 128 :: .ref 129 :: .int (zI mfu) :: .ref 130 :: .ref 131 :: .ref 132 :: .ref 133 :: .ref 134 :: .int (zI mdm) :: .int (zI mla) :: []))), (99, .inl (0, 7, .inl (zA rg7))), (110, .inl (0, 8820, .inl (zA co2))), (111, .inl (0, 1260, .inl (zA cd2))), (117, .inl (0, 7, .inl (zA of2)))]) ∧ (-1 ≤ y) ∧ (¬ isA x (Hi K)) ∧ (Rg of2 7 0 4) ∧ (zr hb2) ∧ (hb2 = mv → HouT co2 cd2 K hm2 ∧ hm2 = Hi K ∧ pm2 = bsum K) ∧ (hb2 ≤ mv)) ∨ (∃ rg7 : Int → Int, ∃ hm2 : Int, ∃ pm2 : Int, ∃ hb2 : Int, ∃ co2 : Int → Int, ∃ cd2 : Int → Int, ∃ of2 : Int → Int, rr = some (.int (zI (-5))) ∧ h9 = (nh, hc fh [(98, .inr (12, (.int (zI (-5)) :: .int (zI mv) :: .ref 99 :: .ref 100 :: .ref 101 :: .ref 102 :: .ref 103 :: .ref 104 :: .ref 105 :: .int (zI mt) :: .int (zI mfa) :: .ref 106 :: .ref 107 :: .ref 108 :: .int (zI mtn) :: .int (zI mtk) :: .int (zI mlv) :: .int (zI mbd) :: .int (zI mgo) :: .int (zI mge) :: .int (zI mbk) :: .ref 109 :: .int (zI mtt) :: .int (zI mtl) :: .ref 110 :: .ref 111 :: .ref 112 :: .ref 113 :: .ref 114 :: .ref 115 :: .ref 116 :: .ref 117 :: .int (zI hm2) :: .int (zI pm2) :: .int (zI hb2) :: .int (zI sb) :: .ref 118 :: .ref 119 :: .ref 120 :: .ref 121 :: .ref 122 :: .ref 123 :: .ref 124 :: .ref 125 :: .ref 126 :: .ref 127 :: .ref 128 :: .ref 129 :: .int (zI mfu) :: .ref 130 :: .ref 131 :: .ref 132 :: .ref 133 :: .ref 134 :: .int (zI mdm) :: .int (zI mla) :: []))), (99, .inl (0, 7, .inl (zA rg7))), (110, .inl (0, 8820, .inl (zA co2))), (111, .inl (0, 1260, .inl (zA cd2))), (117, .inl (0, 7, .inl (zA of2)))]) ∧ (-1 ≤ y) ∧ (isA x (Hi K)) ∧ (6 ≤ K 61) ∧ (Rg of2 7 0 4) ∧ (zr hb2) ∧ (hb2 = mv → HouT co2 cd2 K hm2 ∧ hm2 = Hi K ∧ pm2 = bsum K) ∧ (hb2 ≤ mv)) ∨ (∃ K2 : Int → Int, ∃ r : Int, ∃ hm2 : Int, ∃ pm2 : Int, ∃ hb2 : Int, ∃ co2 : Int → Int, ∃ cd2 : Int → Int, ∃ of2 : Int → Int, rr = some (.int (zI r)) ∧ h9 = (nh, hc fh [(98, .inr (12, (.int (zI 0) :: .int (zI (mv + 1)) :: .ref 99 :: .ref 100 :: .ref 101 :: .ref 102 :: .ref 103 :: .ref 104 :: .ref 105 :: .int (zI mt) :: .int (zI mfa) :: .ref 106 :: .ref 107 :: .ref 108 :: .int (zI mtn) :: .int (zI mtk) :: .int (zI mlv) :: .int (zI mbd) :: .int (zI mgo) :: .int (zI mge) :: .int (zI mbk) :: .ref 109 :: .int (zI mtt) :: .int (zI mtl) :: .ref 110 :: .ref 111 :: .ref 112 :: .ref 113 :: .ref 114 :: .ref 115 :: .ref 116 :: .ref 117 :: .int (zI hm2) :: .int (zI pm2) :: .int (zI hb2) :: .int (zI sb) :: .ref 118 :: .ref 119 :: .ref 120 :: .ref 121 :: .ref 122 :: .ref 123 :: .ref 124 :: .ref 125 :: .ref 126 :: .ref 127 :: .ref 128 :: .ref 129 :: .int (zI mfu) :: .ref 130 :: .ref 131 :: .ref 132 :: .ref 133 :: .ref 134 :: .int (zI mdm) :: .int (zI mla) :: []))), (100, .inl (0, 4870, .inl (zA K2))), (110, .inl (0, 8820, .inl (zA co2))), (111, .inl (0, 1260, .inl (zA cd2))), (117, .inl (0, 7, .inl (zA of2)))]) ∧ (KOK K2) ∧ (-1 ≤ y) ∧ (isA x (Hi K)) ∧ (K 61 < 6) ∧ (r = K 61 + 1) ∧ ((K2 = pu3 K 47 61 x y)) ∧ (Rg of2 7 0 4) ∧ (zr hb2) ∧ (hb2 = mv → HouT co2 cd2 K hm2 ∧ hm2 = Hi K ∧ pm2 = bsum K) ∧ (hb2 ≤ mv))) := by
  refine JM.of (by decide) rfl (fun h => by cases h) (Nat.le_of_ble_eq_true rfl) ⟨1, rfl⟩ ?_
  refine J_hc0 (J_ls (ls2 := [some (.ref 98), some (.int (zI x)), some (.int (zI y)), none]) rfl ?_)
  refine J_iload_n dX12_clue_0 rfl rfl ?_
  refine Z_iconst (n := -1) dX12_clue_1 ?_
  refine Z_icmp_ge (tgt := 11) dX12_clue_2 (by decide) (v_b25fa51a85 q1) v_d64efa60f9 (fun h1 => ?_) (fun h1 => ?_)
  · refine J_aload_n dX12_clue_11 rfl rfl ?_
    refine J_iload_n dX12_clue_12 rfl rfl ?_
    refine J_callV (st := []) dX12_clue_13 cv_X12_325 (k_isHouse x ms mv mt mfa mtn mtk mlv mbd mgo mge mbk mtt mtl hm pm hb sb mfu mdm mla K co cd of q0 q2.1 q4 q5 q6 q7 hk98 hk100 hk110 hk111 hk117) hk98 rfl rfl (Nat.le_of_ble_eq_true rfl) ⟨(Nat.le_of_ble_eq_true rfl), (Nat.le_of_ble_eq_true rfl)⟩ ⟨(Nat.le_of_ble_eq_true rfl), (Nat.le_of_ble_eq_true rfl)⟩ (fun r h9 hp => ?_)
    rcases hp with ⟨z2, z3, z4, f5, f6, f7, rfl, rfl, h8, h9, h10, h11, h12, h13, h14, h15, h16, h17, h18⟩ | ⟨z19, z20, z21, f22, f23, f24, rfl, rfl, h25, h26, h27, h28, h29, h30, h31, h32, h33, h34⟩ | ⟨z35, z36, z37, f38, f39, f40, rfl, rfl, h41, h42, h43, h44, h45, h46, h47, h48, h49, h50⟩
    · refine J_nf (nh2 := nh) (ck2 := 0) (sk2 := 0) (st2 := [.int (zI 1)]) rfl rfl rfl rfl ?_
      refine J_app (L3 := [(98, .inr (12, (.int (zI ms) :: .int (zI mv) :: .ref 99 :: .ref 100 :: .ref 101 :: .ref 102 :: .ref 103 :: .ref 104 :: .ref 105 :: .int (zI mt) :: .int (zI mfa) :: .ref 106 :: .ref 107 :: .ref 108 :: .int (zI mtn) :: .int (zI mtk) :: .int (zI mlv) :: .int (zI mbd) :: .int (zI mgo) :: .int (zI mge) :: .int (zI mbk) :: .ref 109 :: .int (zI mtt) :: .int (zI mtl) :: .ref 110 :: .ref 111 :: .ref 112 :: .ref 113 :: .ref 114 :: .ref 115 :: .ref 116 :: .ref 117 :: .int (zI z2) :: .int (zI z3) :: .int (zI z4) :: .int (zI sb) :: .ref 118 :: .ref 119 :: .ref 120 :: .ref 121 :: .ref 122 :: .ref 123 :: .ref 124 :: .ref 125 :: .ref 126 :: .ref 127 :: .ref 128 :: .ref 129 :: .int (zI mfu) :: .ref 130 :: .ref 131 :: .ref 132 :: .ref 133 :: .ref 134 :: .int (zI mdm) :: .int (zI mla) :: []))), (110, .inl (0, 8820, .inl (zA f5))), (111, .inl (0, 1260, .inl (zA f6))), (117, .inl (0, 7, .inl (zA f7)))]) rfl ?_
      refine Z_if_ne (tgt := 26) dX12_clue_16 (by decide) v_4dcc24baa7 (fun h51 => ?_) (fun h51 => absurd h51 v_3a47bfd896)
      refine J_aload_n dX12_clue_26 rfl rfl ?_
      refine J_get (v := .ref 100) dX12_clue_27 fl_X12_20 rfl rfl ?_
      refine Z_bipush (n := 61) dX12_clue_30 (by decide +kernel) ?_
      obtain ⟨z52, ez52⟩ : ∃ z : Int, K 61 = z := ⟨_, rfl⟩
      have h53 := Rg.at q2.2.2.2.2.2.2.2.2.1 v_b92a3c53b8 v_ee60c78ede ez52
      refine Y_iald (z := z52) 4870 dX12_clue_32 hk100 rfl (by decide) v_b92a3c53b8 v_ee60c78ede ez52 ?_
      refine J_istore_n dX12_clue_33 rfl (Nat.le_of_ble_eq_true rfl) rfl ?_
      refine J_ls (ls2 := [some (.ref 98), some (.int (zI x)), some (.int (zI y)), some (.int (zI z52))]) rfl ?_
      refine J_iload_n dX12_clue_34 rfl rfl ?_
      refine Z_bipush (n := 6) dX12_clue_35 (by decide +kernel) ?_
      refine Z_icmp_ne (tgt := 47) dX12_clue_37 (by decide) (v_f306e1cdb8 h53.1 h53.2) v_8f5ecbc95e (fun h54 => ?_) (fun h54 => ?_)
      · refine J_aload_n dX12_clue_47 rfl rfl ?_
        refine J_get (v := .ref 100) dX12_clue_48 fl_X12_20 rfl rfl ?_
        refine Z_bipush (n := 47) dX12_clue_51 (by decide +kernel) ?_
        refine Z_iconst (n := 2) dX12_clue_53 ?_
        refine J_iload_n dX12_clue_54 rfl rfl ?_
        refine Z_imul (c := 2 * z52) dX12_clue_55 rfl ?_
        refine Z_iadd (c := 2 * z52 + 47) dX12_clue_56 v_1920de26d1 ?_
        refine J_iload_n dX12_clue_57 rfl rfl ?_
        refine Y_iast (v := x) 4870 dX12_clue_58 hk100 rfl (by decide) (v_bc01600c3a q2.2.2.2.2.1.1 ez52) (v_e0b273eb5e q2.2.2.2.2.1.2 ez52) (fun f55 ef55 => ?_)
        have h56 : Rg f55 4870 (-2147483648) 2147483647 := Rg.ups q2.2.2.2.2.2.2.2.2.1 ef55 (v_c11e42827f h17) (v_602fda786b q0)
        refine J_aload_n dX12_clue_59 rfl rfl ?_
        refine J_get (v := .ref 100) dX12_clue_60 fl_X12_20 rfl rfl ?_
        refine Z_bipush (n := 47) dX12_clue_63 (by decide +kernel) ?_
        refine Z_iconst (n := 2) dX12_clue_65 ?_
        refine J_iload_n dX12_clue_66 rfl rfl ?_
        refine Z_imul (c := 2 * z52) dX12_clue_67 rfl ?_
        refine Z_iadd (c := 2 * z52 + 47) dX12_clue_68 v_1920de26d1 ?_
        refine Z_iconst (n := 1) dX12_clue_69 ?_
        refine Z_iadd (c := 2 * z52 + 48) dX12_clue_70 v_befdbcd050 ?_
        refine J_iload_n dX12_clue_71 rfl rfl ?_
        refine Y_iast (v := y) 4870 dX12_clue_72 rfl rfl (by decide) (v_bb26b1ffaf q2.2.2.2.2.1.1 ez52) (v_98b8cf2929 q2.2.2.2.2.1.2 ez52) (fun f57 ef57 => ?_)
        have h58 : Rg f57 4870 (-2147483648) 2147483647 := Rg.ups h56 ef57 (v_ec8ecd1a60 h1) (v_602fda786b q1)
        refine J_aload_n dX12_clue_73 rfl rfl ?_
        refine J_get (v := .ref 100) dX12_clue_74 fl_X12_20 rfl rfl ?_
        refine Z_bipush (n := 61) dX12_clue_77 (by decide +kernel) ?_
        refine J_dup2_11 dX12_clue_79 rfl rfl ?_
        obtain ⟨z59, ez59⟩ : ∃ z : Int, f57 61 = z := ⟨_, rfl⟩
        have h60 := Rg.at h58 v_b92a3c53b8 v_ee60c78ede ez59
        have e61 : f55 61 = z59 := rd_ne ef57 (v_dc12fc2378 q2.2.2.2.2.1.2 ez52) ez59
        have h62 := Rg.at h56 v_b92a3c53b8 v_ee60c78ede e61
        have e63 : K 61 = z59 := rd_ne ef55 (v_1172afe5d0 q2.2.2.2.2.1.2 ez52) e61
        have h64 : z59 = z52 := e63.symm.trans ez52
        refine Y_iald (z := z59) 4870 dX12_clue_80 rfl rfl (by decide) v_b92a3c53b8 v_ee60c78ede ez59 ?_
        refine Z_iconst (n := 1) dX12_clue_81 ?_
        refine Z_iadd (c := z59 + 1) dX12_clue_82 rfl ?_
        refine Y_iast (v := z59 + 1) 4870 dX12_clue_83 rfl rfl (by decide) v_b92a3c53b8 v_ee60c78ede (fun f65 ef65 => ?_)
        have h66 : Rg f65 4870 (-2147483648) 2147483647 := Rg.ups h58 ef65 (v_adc19ed266 h60.1) (v_c4b867c344 q2.2.2.2.2.1.2 e63)
        refine J_aload_n dX12_clue_84 rfl rfl ?_
        refine J_iload_n dX12_clue_85 rfl rfl ?_
        refine Z_iconst (n := 1) dX12_clue_86 ?_
        refine Z_iadd (c := z52 + 1) dX12_clue_87 rfl ?_
        refine J_callV (st := []) dX12_clue_88 cv_X12_146 (k_good (z52 + 1) ms mv mt mfa mtn mtk mlv mbd mgo mge mbk mtt mtl z2 z3 z4 sb mfu mdm mla rfl) rfl rfl rfl (Nat.le_of_ble_eq_true rfl) ⟨(Nat.le_of_ble_eq_true rfl), (Nat.le_of_ble_eq_true rfl)⟩ ⟨(Nat.le_of_ble_eq_true rfl), (Nat.le_of_ble_eq_true rfl)⟩ (fun r h9 hp => ?_)
        obtain ⟨rfl, rfl⟩ := hp
        refine J_nf (nh2 := nh) (ck2 := 0) (sk2 := 0) (st2 := [.int (zI (z52 + 1))]) rfl rfl rfl rfl ?_
        refine J_app (L3 := [(98, .inr (12, (.int (zI 0) :: .int (zI (mv + 1)) :: .ref 99 :: .ref 100 :: .ref 101 :: .ref 102 :: .ref 103 :: .ref 104 :: .ref 105 :: .int (zI mt) :: .int (zI mfa) :: .ref 106 :: .ref 107 :: .ref 108 :: .int (zI mtn) :: .int (zI mtk) :: .int (zI mlv) :: .int (zI mbd) :: .int (zI mgo) :: .int (zI mge) :: .int (zI mbk) :: .ref 109 :: .int (zI mtt) :: .int (zI mtl) :: .ref 110 :: .ref 111 :: .ref 112 :: .ref 113 :: .ref 114 :: .ref 115 :: .ref 116 :: .ref 117 :: .int (zI z2) :: .int (zI z3) :: .int (zI z4) :: .int (zI sb) :: .ref 118 :: .ref 119 :: .ref 120 :: .ref 121 :: .ref 122 :: .ref 123 :: .ref 124 :: .ref 125 :: .ref 126 :: .ref 127 :: .ref 128 :: .ref 129 :: .int (zI mfu) :: .ref 130 :: .ref 131 :: .ref 132 :: .ref 133 :: .ref 134 :: .int (zI mdm) :: .int (zI mla) :: []))), (100, .inl (0, 4870, .inl (zA f65))), (100, .inl (0, 4870, .inl (zA f57))), (100, .inl (0, 4870, .inl (zA f55))), (98, .inr (12, (.int (zI ms) :: .int (zI mv) :: .ref 99 :: .ref 100 :: .ref 101 :: .ref 102 :: .ref 103 :: .ref 104 :: .ref 105 :: .int (zI mt) :: .int (zI mfa) :: .ref 106 :: .ref 107 :: .ref 108 :: .int (zI mtn) :: .int (zI mtk) :: .int (zI mlv) :: .int (zI mbd) :: .int (zI mgo) :: .int (zI mge) :: .int (zI mbk) :: .ref 109 :: .int (zI mtt) :: .int (zI mtl) :: .ref 110 :: .ref 111 :: .ref 112 :: .ref 113 :: .ref 114 :: .ref 115 :: .ref 116 :: .ref 117 :: .int (zI z2) :: .int (zI z3) :: .int (zI z4) :: .int (zI sb) :: .ref 118 :: .ref 119 :: .ref 120 :: .ref 121 :: .ref 122 :: .ref 123 :: .ref 124 :: .ref 125 :: .ref 126 :: .ref 127 :: .ref 128 :: .ref 129 :: .int (zI mfu) :: .ref 130 :: .ref 131 :: .ref 132 :: .ref 133 :: .ref 134 :: .int (zI mdm) :: .int (zI mla) :: []))), (110, .inl (0, 8820, .inl (zA f5))), (111, .inl (0, 1260, .inl (zA f6))), (117, .inl (0, 7, .inl (zA f7)))]) rfl ?_
        refine J_mask (L2 := [(98, .inr (12, (.int (zI 0) :: .int (zI (mv + 1)) :: .ref 99 :: .ref 100 :: .ref 101 :: .ref 102 :: .ref 103 :: .ref 104 :: .ref 105 :: .int (zI mt) :: .int (zI mfa) :: .ref 106 :: .ref 107 :: .ref 108 :: .int (zI mtn) :: .int (zI mtk) :: .int (zI mlv) :: .int (zI mbd) :: .int (zI mgo) :: .int (zI mge) :: .int (zI mbk) :: .ref 109 :: .int (zI mtt) :: .int (zI mtl) :: .ref 110 :: .ref 111 :: .ref 112 :: .ref 113 :: .ref 114 :: .ref 115 :: .ref 116 :: .ref 117 :: .int (zI z2) :: .int (zI z3) :: .int (zI z4) :: .int (zI sb) :: .ref 118 :: .ref 119 :: .ref 120 :: .ref 121 :: .ref 122 :: .ref 123 :: .ref 124 :: .ref 125 :: .ref 126 :: .ref 127 :: .ref 128 :: .ref 129 :: .int (zI mfu) :: .ref 130 :: .ref 131 :: .ref 132 :: .ref 133 :: .ref 134 :: .int (zI mdm) :: .int (zI mla) :: []))), (100, .inl (0, 4870, .inl (zA f65))), (110, .inl (0, 8820, .inl (zA f5))), (111, .inl (0, 1260, .inl (zA f6))), (117, .inl (0, 7, .inl (zA f7)))]) (ks := [98, 100, 100, 100, 98, 110, 111, 117]) [true, true, false, false, false, true, true, true] rfl (by decide +kernel) rfl ?_
        exact J_iret dX12_clue_91 rfl rfl (Nat.le_of_ble_eq_true rfl) (Nat.le_of_ble_eq_true rfl) (Or.inr (Or.inr (Or.inr ⟨f65, (z52 + 1), z2, z3, z4, f5, f6, f7, rfl, rfl, (KOK.clue q2 ez52 (v_693793745c q2.2.2.2.2.1.2 ez52 h54) v_2e6ef3bcf6 v_5c530f6baa ef55 ef57 ef65 (v_826844c169 h64) (v_2b02420001 h17) (v_b9aca61388 h18) h8 (v_ec8ecd1a60 h1) (v_602fda786b q1)), h1, (⟨(v_2b02420001 h17), (v_d7c2909a09 h8 h18)⟩), (v_47b9fc1ab1 q2.2.2.2.2.1.2 ez52 h54), (v_129dc755f0 ez52), (pu3_of ez52 ef55 v_d2a8a316e3 ef57 v_8265438d6b ef65 (v_826844c169 h64)), h11, (v_621074fb26 q6 h16), (fun _ => ⟨h10, h8, h9⟩), (v_94d6d099ed h16)⟩)))
      · refine J_aload_n dX12_clue_40 rfl rfl ?_
        refine Z_bipush (n := -5) dX12_clue_41 (by decide +kernel) ?_
        refine J_callV (st := []) dX12_clue_43 cv_X12_142 (k_refuses (-5) rf7 ms mv mt mfa mtn mtk mlv mbd mgo mge mbk mtt mtl z2 z3 z4 sb mfu mdm mla v_23c38dd6f5 v_711bb4d976 rfl hk99) rfl rfl rfl (Nat.le_of_ble_eq_true rfl) ⟨(Nat.le_of_ble_eq_true rfl), (Nat.le_of_ble_eq_true rfl)⟩ ⟨(Nat.le_of_ble_eq_true rfl), (Nat.le_of_ble_eq_true rfl)⟩ (fun r h9 hp => ?_)
        obtain ⟨f67, rfl, rfl⟩ := hp
        refine J_nf (nh2 := nh) (ck2 := 0) (sk2 := 0) (st2 := [.int (zI (-5))]) rfl rfl rfl rfl ?_
        refine J_app (L3 := [(98, .inr (12, (.int (zI (-5)) :: .int (zI mv) :: .ref 99 :: .ref 100 :: .ref 101 :: .ref 102 :: .ref 103 :: .ref 104 :: .ref 105 :: .int (zI mt) :: .int (zI mfa) :: .ref 106 :: .ref 107 :: .ref 108 :: .int (zI mtn) :: .int (zI mtk) :: .int (zI mlv) :: .int (zI mbd) :: .int (zI mgo) :: .int (zI mge) :: .int (zI mbk) :: .ref 109 :: .int (zI mtt) :: .int (zI mtl) :: .ref 110 :: .ref 111 :: .ref 112 :: .ref 113 :: .ref 114 :: .ref 115 :: .ref 116 :: .ref 117 :: .int (zI z2) :: .int (zI z3) :: .int (zI z4) :: .int (zI sb) :: .ref 118 :: .ref 119 :: .ref 120 :: .ref 121 :: .ref 122 :: .ref 123 :: .ref 124 :: .ref 125 :: .ref 126 :: .ref 127 :: .ref 128 :: .ref 129 :: .int (zI mfu) :: .ref 130 :: .ref 131 :: .ref 132 :: .ref 133 :: .ref 134 :: .int (zI mdm) :: .int (zI mla) :: []))), (99, .inl (0, 7, .inl (zA f67))), (98, .inr (12, (.int (zI ms) :: .int (zI mv) :: .ref 99 :: .ref 100 :: .ref 101 :: .ref 102 :: .ref 103 :: .ref 104 :: .ref 105 :: .int (zI mt) :: .int (zI mfa) :: .ref 106 :: .ref 107 :: .ref 108 :: .int (zI mtn) :: .int (zI mtk) :: .int (zI mlv) :: .int (zI mbd) :: .int (zI mgo) :: .int (zI mge) :: .int (zI mbk) :: .ref 109 :: .int (zI mtt) :: .int (zI mtl) :: .ref 110 :: .ref 111 :: .ref 112 :: .ref 113 :: .ref 114 :: .ref 115 :: .ref 116 :: .ref 117 :: .int (zI z2) :: .int (zI z3) :: .int (zI z4) :: .int (zI sb) :: .ref 118 :: .ref 119 :: .ref 120 :: .ref 121 :: .ref 122 :: .ref 123 :: .ref 124 :: .ref 125 :: .ref 126 :: .ref 127 :: .ref 128 :: .ref 129 :: .int (zI mfu) :: .ref 130 :: .ref 131 :: .ref 132 :: .ref 133 :: .ref 134 :: .int (zI mdm) :: .int (zI mla) :: []))), (110, .inl (0, 8820, .inl (zA f5))), (111, .inl (0, 1260, .inl (zA f6))), (117, .inl (0, 7, .inl (zA f7)))]) rfl ?_
        refine J_mask (L2 := [(98, .inr (12, (.int (zI (-5)) :: .int (zI mv) :: .ref 99 :: .ref 100 :: .ref 101 :: .ref 102 :: .ref 103 :: .ref 104 :: .ref 105 :: .int (zI mt) :: .int (zI mfa) :: .ref 106 :: .ref 107 :: .ref 108 :: .int (zI mtn) :: .int (zI mtk) :: .int (zI mlv) :: .int (zI mbd) :: .int (zI mgo) :: .int (zI mge) :: .int (zI mbk) :: .ref 109 :: .int (zI mtt) :: .int (zI mtl) :: .ref 110 :: .ref 111 :: .ref 112 :: .ref 113 :: .ref 114 :: .ref 115 :: .ref 116 :: .ref 117 :: .int (zI z2) :: .int (zI z3) :: .int (zI z4) :: .int (zI sb) :: .ref 118 :: .ref 119 :: .ref 120 :: .ref 121 :: .ref 122 :: .ref 123 :: .ref 124 :: .ref 125 :: .ref 126 :: .ref 127 :: .ref 128 :: .ref 129 :: .int (zI mfu) :: .ref 130 :: .ref 131 :: .ref 132 :: .ref 133 :: .ref 134 :: .int (zI mdm) :: .int (zI mla) :: []))), (99, .inl (0, 7, .inl (zA f67))), (110, .inl (0, 8820, .inl (zA f5))), (111, .inl (0, 1260, .inl (zA f6))), (117, .inl (0, 7, .inl (zA f7)))]) (ks := [98, 99, 98, 110, 111, 117]) [true, true, false, true, true, true] rfl (by decide +kernel) rfl ?_
        exact J_iret dX12_clue_46 rfl rfl (Nat.le_of_ble_eq_true rfl) (Nat.le_of_ble_eq_true rfl) (Or.inr (Or.inr (Or.inl ⟨f67, z2, z3, z4, f5, f6, f7, rfl, rfl, h1, (⟨(v_2b02420001 h17), (v_d7c2909a09 h8 h18)⟩), (v_227e7bcb1c ez52 h54), h11, (v_621074fb26 q6 h16), (fun _ => ⟨h10, h8, h9⟩), (v_94d6d099ed h16)⟩)))
    · refine J_nf (nh2 := nh) (ck2 := 0) (sk2 := 0) (st2 := [.int (zI 0)]) rfl rfl rfl rfl ?_
      refine J_app (L3 := [(98, .inr (12, (.int (zI ms) :: .int (zI mv) :: .ref 99 :: .ref 100 :: .ref 101 :: .ref 102 :: .ref 103 :: .ref 104 :: .ref 105 :: .int (zI mt) :: .int (zI mfa) :: .ref 106 :: .ref 107 :: .ref 108 :: .int (zI mtn) :: .int (zI mtk) :: .int (zI mlv) :: .int (zI mbd) :: .int (zI mgo) :: .int (zI mge) :: .int (zI mbk) :: .ref 109 :: .int (zI mtt) :: .int (zI mtl) :: .ref 110 :: .ref 111 :: .ref 112 :: .ref 113 :: .ref 114 :: .ref 115 :: .ref 116 :: .ref 117 :: .int (zI z19) :: .int (zI z20) :: .int (zI z21) :: .int (zI sb) :: .ref 118 :: .ref 119 :: .ref 120 :: .ref 121 :: .ref 122 :: .ref 123 :: .ref 124 :: .ref 125 :: .ref 126 :: .ref 127 :: .ref 128 :: .ref 129 :: .int (zI mfu) :: .ref 130 :: .ref 131 :: .ref 132 :: .ref 133 :: .ref 134 :: .int (zI mdm) :: .int (zI mla) :: []))), (110, .inl (0, 8820, .inl (zA f22))), (111, .inl (0, 1260, .inl (zA f23))), (117, .inl (0, 7, .inl (zA f24)))]) rfl ?_
      refine Z_if_ne (tgt := 26) dX12_clue_16 (by decide) v_b17331891f (fun h68 => absurd h68 (fun q => q v_2ca2bbca1f)) (fun h68 => ?_)
      refine J_aload_n dX12_clue_19 rfl rfl ?_
      refine Z_bipush (n := -2) dX12_clue_20 (by decide +kernel) ?_
      refine J_callV (st := []) dX12_clue_22 cv_X12_142 (k_refuses (-2) rf7 ms mv mt mfa mtn mtk mlv mbd mgo mge mbk mtt mtl z19 z20 z21 sb mfu mdm mla v_c15e852b74 v_e7867eeafa rfl hk99) rfl rfl rfl (Nat.le_of_ble_eq_true rfl) ⟨(Nat.le_of_ble_eq_true rfl), (Nat.le_of_ble_eq_true rfl)⟩ ⟨(Nat.le_of_ble_eq_true rfl), (Nat.le_of_ble_eq_true rfl)⟩ (fun r h9 hp => ?_)
      obtain ⟨f69, rfl, rfl⟩ := hp
      refine J_nf (nh2 := nh) (ck2 := 0) (sk2 := 0) (st2 := [.int (zI (-2))]) rfl rfl rfl rfl ?_
      refine J_app (L3 := [(98, .inr (12, (.int (zI (-2)) :: .int (zI mv) :: .ref 99 :: .ref 100 :: .ref 101 :: .ref 102 :: .ref 103 :: .ref 104 :: .ref 105 :: .int (zI mt) :: .int (zI mfa) :: .ref 106 :: .ref 107 :: .ref 108 :: .int (zI mtn) :: .int (zI mtk) :: .int (zI mlv) :: .int (zI mbd) :: .int (zI mgo) :: .int (zI mge) :: .int (zI mbk) :: .ref 109 :: .int (zI mtt) :: .int (zI mtl) :: .ref 110 :: .ref 111 :: .ref 112 :: .ref 113 :: .ref 114 :: .ref 115 :: .ref 116 :: .ref 117 :: .int (zI z19) :: .int (zI z20) :: .int (zI z21) :: .int (zI sb) :: .ref 118 :: .ref 119 :: .ref 120 :: .ref 121 :: .ref 122 :: .ref 123 :: .ref 124 :: .ref 125 :: .ref 126 :: .ref 127 :: .ref 128 :: .ref 129 :: .int (zI mfu) :: .ref 130 :: .ref 131 :: .ref 132 :: .ref 133 :: .ref 134 :: .int (zI mdm) :: .int (zI mla) :: []))), (99, .inl (0, 7, .inl (zA f69))), (98, .inr (12, (.int (zI ms) :: .int (zI mv) :: .ref 99 :: .ref 100 :: .ref 101 :: .ref 102 :: .ref 103 :: .ref 104 :: .ref 105 :: .int (zI mt) :: .int (zI mfa) :: .ref 106 :: .ref 107 :: .ref 108 :: .int (zI mtn) :: .int (zI mtk) :: .int (zI mlv) :: .int (zI mbd) :: .int (zI mgo) :: .int (zI mge) :: .int (zI mbk) :: .ref 109 :: .int (zI mtt) :: .int (zI mtl) :: .ref 110 :: .ref 111 :: .ref 112 :: .ref 113 :: .ref 114 :: .ref 115 :: .ref 116 :: .ref 117 :: .int (zI z19) :: .int (zI z20) :: .int (zI z21) :: .int (zI sb) :: .ref 118 :: .ref 119 :: .ref 120 :: .ref 121 :: .ref 122 :: .ref 123 :: .ref 124 :: .ref 125 :: .ref 126 :: .ref 127 :: .ref 128 :: .ref 129 :: .int (zI mfu) :: .ref 130 :: .ref 131 :: .ref 132 :: .ref 133 :: .ref 134 :: .int (zI mdm) :: .int (zI mla) :: []))), (110, .inl (0, 8820, .inl (zA f22))), (111, .inl (0, 1260, .inl (zA f23))), (117, .inl (0, 7, .inl (zA f24)))]) rfl ?_
      refine J_mask (L2 := [(98, .inr (12, (.int (zI (-2)) :: .int (zI mv) :: .ref 99 :: .ref 100 :: .ref 101 :: .ref 102 :: .ref 103 :: .ref 104 :: .ref 105 :: .int (zI mt) :: .int (zI mfa) :: .ref 106 :: .ref 107 :: .ref 108 :: .int (zI mtn) :: .int (zI mtk) :: .int (zI mlv) :: .int (zI mbd) :: .int (zI mgo) :: .int (zI mge) :: .int (zI mbk) :: .ref 109 :: .int (zI mtt) :: .int (zI mtl) :: .ref 110 :: .ref 111 :: .ref 112 :: .ref 113 :: .ref 114 :: .ref 115 :: .ref 116 :: .ref 117 :: .int (zI z19) :: .int (zI z20) :: .int (zI z21) :: .int (zI sb) :: .ref 118 :: .ref 119 :: .ref 120 :: .ref 121 :: .ref 122 :: .ref 123 :: .ref 124 :: .ref 125 :: .ref 126 :: .ref 127 :: .ref 128 :: .ref 129 :: .int (zI mfu) :: .ref 130 :: .ref 131 :: .ref 132 :: .ref 133 :: .ref 134 :: .int (zI mdm) :: .int (zI mla) :: []))), (99, .inl (0, 7, .inl (zA f69))), (110, .inl (0, 8820, .inl (zA f22))), (111, .inl (0, 1260, .inl (zA f23))), (117, .inl (0, 7, .inl (zA f24)))]) (ks := [98, 99, 98, 110, 111, 117]) [true, true, false, true, true, true] rfl (by decide +kernel) rfl ?_
      exact J_iret dX12_clue_25 rfl rfl (Nat.le_of_ble_eq_true rfl) (Nat.le_of_ble_eq_true rfl) (Or.inr (Or.inl ⟨f69, z19, z20, z21, f22, f23, f24, rfl, rfl, h1, (fun q => absurd q.1 (v_dccefa8cdf h34)), h28, (v_621074fb26 q6 h33), (fun _ => ⟨h27, h25, h26⟩), (v_94d6d099ed h33)⟩))
    · refine J_nf (nh2 := nh) (ck2 := 0) (sk2 := 0) (st2 := [.int (zI 0)]) rfl rfl rfl rfl ?_
      refine J_app (L3 := [(98, .inr (12, (.int (zI ms) :: .int (zI mv) :: .ref 99 :: .ref 100 :: .ref 101 :: .ref 102 :: .ref 103 :: .ref 104 :: .ref 105 :: .int (zI mt) :: .int (zI mfa) :: .ref 106 :: .ref 107 :: .ref 108 :: .int (zI mtn) :: .int (zI mtk) :: .int (zI mlv) :: .int (zI mbd) :: .int (zI mgo) :: .int (zI mge) :: .int (zI mbk) :: .ref 109 :: .int (zI mtt) :: .int (zI mtl) :: .ref 110 :: .ref 111 :: .ref 112 :: .ref 113 :: .ref 114 :: .ref 115 :: .ref 116 :: .ref 117 :: .int (zI z35) :: .int (zI z36) :: .int (zI z37) :: .int (zI sb) :: .ref 118 :: .ref 119 :: .ref 120 :: .ref 121 :: .ref 122 :: .ref 123 :: .ref 124 :: .ref 125 :: .ref 126 :: .ref 127 :: .ref 128 :: .ref 129 :: .int (zI mfu) :: .ref 130 :: .ref 131 :: .ref 132 :: .ref 133 :: .ref 134 :: .int (zI mdm) :: .int (zI mla) :: []))), (110, .inl (0, 8820, .inl (zA f38))), (111, .inl (0, 1260, .inl (zA f39))), (117, .inl (0, 7, .inl (zA f40)))]) rfl ?_
      refine Z_if_ne (tgt := 26) dX12_clue_16 (by decide) v_b17331891f (fun h70 => absurd h70 (fun q => q v_2ca2bbca1f)) (fun h70 => ?_)
      refine J_aload_n dX12_clue_19 rfl rfl ?_
      refine Z_bipush (n := -2) dX12_clue_20 (by decide +kernel) ?_
      refine J_callV (st := []) dX12_clue_22 cv_X12_142 (k_refuses (-2) rf7 ms mv mt mfa mtn mtk mlv mbd mgo mge mbk mtt mtl z35 z36 z37 sb mfu mdm mla v_c15e852b74 v_e7867eeafa rfl hk99) rfl rfl rfl (Nat.le_of_ble_eq_true rfl) ⟨(Nat.le_of_ble_eq_true rfl), (Nat.le_of_ble_eq_true rfl)⟩ ⟨(Nat.le_of_ble_eq_true rfl), (Nat.le_of_ble_eq_true rfl)⟩ (fun r h9 hp => ?_)
      obtain ⟨f71, rfl, rfl⟩ := hp
      refine J_nf (nh2 := nh) (ck2 := 0) (sk2 := 0) (st2 := [.int (zI (-2))]) rfl rfl rfl rfl ?_
      refine J_app (L3 := [(98, .inr (12, (.int (zI (-2)) :: .int (zI mv) :: .ref 99 :: .ref 100 :: .ref 101 :: .ref 102 :: .ref 103 :: .ref 104 :: .ref 105 :: .int (zI mt) :: .int (zI mfa) :: .ref 106 :: .ref 107 :: .ref 108 :: .int (zI mtn) :: .int (zI mtk) :: .int (zI mlv) :: .int (zI mbd) :: .int (zI mgo) :: .int (zI mge) :: .int (zI mbk) :: .ref 109 :: .int (zI mtt) :: .int (zI mtl) :: .ref 110 :: .ref 111 :: .ref 112 :: .ref 113 :: .ref 114 :: .ref 115 :: .ref 116 :: .ref 117 :: .int (zI z35) :: .int (zI z36) :: .int (zI z37) :: .int (zI sb) :: .ref 118 :: .ref 119 :: .ref 120 :: .ref 121 :: .ref 122 :: .ref 123 :: .ref 124 :: .ref 125 :: .ref 126 :: .ref 127 :: .ref 128 :: .ref 129 :: .int (zI mfu) :: .ref 130 :: .ref 131 :: .ref 132 :: .ref 133 :: .ref 134 :: .int (zI mdm) :: .int (zI mla) :: []))), (99, .inl (0, 7, .inl (zA f71))), (98, .inr (12, (.int (zI ms) :: .int (zI mv) :: .ref 99 :: .ref 100 :: .ref 101 :: .ref 102 :: .ref 103 :: .ref 104 :: .ref 105 :: .int (zI mt) :: .int (zI mfa) :: .ref 106 :: .ref 107 :: .ref 108 :: .int (zI mtn) :: .int (zI mtk) :: .int (zI mlv) :: .int (zI mbd) :: .int (zI mgo) :: .int (zI mge) :: .int (zI mbk) :: .ref 109 :: .int (zI mtt) :: .int (zI mtl) :: .ref 110 :: .ref 111 :: .ref 112 :: .ref 113 :: .ref 114 :: .ref 115 :: .ref 116 :: .ref 117 :: .int (zI z35) :: .int (zI z36) :: .int (zI z37) :: .int (zI sb) :: .ref 118 :: .ref 119 :: .ref 120 :: .ref 121 :: .ref 122 :: .ref 123 :: .ref 124 :: .ref 125 :: .ref 126 :: .ref 127 :: .ref 128 :: .ref 129 :: .int (zI mfu) :: .ref 130 :: .ref 131 :: .ref 132 :: .ref 133 :: .ref 134 :: .int (zI mdm) :: .int (zI mla) :: []))), (110, .inl (0, 8820, .inl (zA f38))), (111, .inl (0, 1260, .inl (zA f39))), (117, .inl (0, 7, .inl (zA f40)))]) rfl ?_
      refine J_mask (L2 := [(98, .inr (12, (.int (zI (-2)) :: .int (zI mv) :: .ref 99 :: .ref 100 :: .ref 101 :: .ref 102 :: .ref 103 :: .ref 104 :: .ref 105 :: .int (zI mt) :: .int (zI mfa) :: .ref 106 :: .ref 107 :: .ref 108 :: .int (zI mtn) :: .int (zI mtk) :: .int (zI mlv) :: .int (zI mbd) :: .int (zI mgo) :: .int (zI mge) :: .int (zI mbk) :: .ref 109 :: .int (zI mtt) :: .int (zI mtl) :: .ref 110 :: .ref 111 :: .ref 112 :: .ref 113 :: .ref 114 :: .ref 115 :: .ref 116 :: .ref 117 :: .int (zI z35) :: .int (zI z36) :: .int (zI z37) :: .int (zI sb) :: .ref 118 :: .ref 119 :: .ref 120 :: .ref 121 :: .ref 122 :: .ref 123 :: .ref 124 :: .ref 125 :: .ref 126 :: .ref 127 :: .ref 128 :: .ref 129 :: .int (zI mfu) :: .ref 130 :: .ref 131 :: .ref 132 :: .ref 133 :: .ref 134 :: .int (zI mdm) :: .int (zI mla) :: []))), (99, .inl (0, 7, .inl (zA f71))), (110, .inl (0, 8820, .inl (zA f38))), (111, .inl (0, 1260, .inl (zA f39))), (117, .inl (0, 7, .inl (zA f40)))]) (ks := [98, 99, 98, 110, 111, 117]) [true, true, false, true, true, true] rfl (by decide +kernel) rfl ?_
      exact J_iret dX12_clue_25 rfl rfl (Nat.le_of_ble_eq_true rfl) (Nat.le_of_ble_eq_true rfl) (Or.inr (Or.inl ⟨f71, z35, z36, z37, f38, f39, f40, rfl, rfl, h1, (fun q => absurd q.2 (v_f9e33a7fad h41 h50)), h44, (v_621074fb26 q6 h49), (fun _ => ⟨h43, h41, h42⟩), (v_94d6d099ed h49)⟩))
  · refine J_aload_n dX12_clue_5 rfl rfl ?_
    refine Z_iconst (n := -1) dX12_clue_6 ?_
    refine J_callV (st := []) dX12_clue_7 cv_X12_142 (k_refuses (-1) rf7 ms mv mt mfa mtn mtk mlv mbd mgo mge mbk mtt mtl hm pm hb sb mfu mdm mla v_ef59c9c3d8 v_646fb950f3 hk98 hk99) hk98 rfl rfl (Nat.le_of_ble_eq_true rfl) ⟨(Nat.le_of_ble_eq_true rfl), (Nat.le_of_ble_eq_true rfl)⟩ ⟨(Nat.le_of_ble_eq_true rfl), (Nat.le_of_ble_eq_true rfl)⟩ (fun r h9 hp => ?_)
    obtain ⟨f72, rfl, rfl⟩ := hp
    refine J_nf (nh2 := nh) (ck2 := 0) (sk2 := 0) (st2 := [.int (zI (-1))]) rfl rfl rfl rfl ?_
    refine J_app (L3 := [(98, .inr (12, (.int (zI (-1)) :: .int (zI mv) :: .ref 99 :: .ref 100 :: .ref 101 :: .ref 102 :: .ref 103 :: .ref 104 :: .ref 105 :: .int (zI mt) :: .int (zI mfa) :: .ref 106 :: .ref 107 :: .ref 108 :: .int (zI mtn) :: .int (zI mtk) :: .int (zI mlv) :: .int (zI mbd) :: .int (zI mgo) :: .int (zI mge) :: .int (zI mbk) :: .ref 109 :: .int (zI mtt) :: .int (zI mtl) :: .ref 110 :: .ref 111 :: .ref 112 :: .ref 113 :: .ref 114 :: .ref 115 :: .ref 116 :: .ref 117 :: .int (zI hm) :: .int (zI pm) :: .int (zI hb) :: .int (zI sb) :: .ref 118 :: .ref 119 :: .ref 120 :: .ref 121 :: .ref 122 :: .ref 123 :: .ref 124 :: .ref 125 :: .ref 126 :: .ref 127 :: .ref 128 :: .ref 129 :: .int (zI mfu) :: .ref 130 :: .ref 131 :: .ref 132 :: .ref 133 :: .ref 134 :: .int (zI mdm) :: .int (zI mla) :: []))), (99, .inl (0, 7, .inl (zA f72)))]) rfl ?_
    exact J_iret dX12_clue_10 rfl rfl (Nat.le_of_ble_eq_true rfl) (Nat.le_of_ble_eq_true rfl) (Or.inl ⟨f72, rfl, rfl, (v_ca1e8193e3 h1)⟩)
set_option maxHeartbeats 4000000 in
set_option maxRecDepth 100000 in
theorem k_wall {l : Launch} {G : jG} {nh : Nat} {fh : Nat → Option va_E} (x : Int) (y : Int) (ms : Int) (mv : Int) (mt : Int) (mfa : Int) (mtn : Int) (mtk : Int) (mlv : Int) (mbd : Int) (mgo : Int) (mge : Int) (mbk : Int) (mtt : Int) (mtl : Int) (hm : Int) (pm : Int) (hb : Int) (sb : Int) (mfu : Int) (mdm : Int) (mla : Int) (K : Int → Int) (co : Int → Int) (cd : Int → Int) (of : Int → Int) (rf7 : Int → Int) (q0 : zr x) (q1 : zr y) (q2 : KOK K) (q3 : hb ≤ mv) (q4 : Rg of 7 0 4) (q5 : zr hb) (q6 : zr mv) (q7 : hb = mv → HouT co cd K hm ∧ hm = Hi K ∧ pm = bsum K) (hk98 : fh 98 = some (.inr (12, (.int (zI ms) :: .int (zI mv) :: .ref 99 :: .ref 100 :: .ref 101 :: .ref 102 :: .ref 103 :: .ref 104 :: .ref 105 :: .int (zI mt) :: .int (zI mfa) :: .ref 106 :: .ref 107 :: .ref 108 :: .int (zI mtn) :: .int (zI mtk) :: .int (zI mlv) :: .int (zI mbd) :: .int (zI mgo) :: .int (zI mge) :: .int (zI mbk) :: .ref 109 :: .int (zI mtt) :: .int (zI mtl) :: .ref 110 :: .ref 111 :: .ref 112 :: .ref 113 :: .ref 114 :: .ref 115 :: .ref 116 :: .ref 117 :: .int (zI hm) :: .int (zI pm) :: .int (zI hb) :: .int (zI sb) :: .ref 118 :: .ref 119 :: .ref 120 :: .ref 121 :: .ref 122 :: .ref 123 :: .ref 124 :: .ref 125 :: .ref 126 :: .ref 127 :: .ref 128 :: .ref 129 :: .int (zI mfu) :: .ref 130 :: .ref 131 :: .ref 132 :: .ref 133 :: .ref 134 :: .int (zI mdm) :: .int (zI mla) :: [])))) (hk100 : fh 100 = some (.inl (0, 4870, .inl (zA K)))) (hk99 : fh 99 = some (.inl (0, 7, .inl (zA rf7)))) (hk110 : fh 110 = some (.inl (0, 8820, .inl (zA co)))) (hk111 : fh 111 = some (.inl (0, 1260, .inl (zA cd)))) (hk117 : fh 117 = some (.inl (0, 7, .inl (zA of)))) : JM l G yX12_wall MX12_wall { frames := 4, cells := 0, slots := 0, locals := 92 } [.ref 98, .int (zI x), .int (zI y)] (nh, fh) (fun rr h9 => (∃ rg7 : Int → Int, ∃ hm2 : Int, ∃ pm2 : Int, ∃ hb2 : Int, ∃ co2 : Int → Int, ∃ cd2 : Int → Int, ∃ of2 : Int → Int, rr = some (.int (zI (-2))) ∧ h9 = (nh, hc fh [(98, .inr (12, (.int (zI (-2)) :: .int (zI mv) :: .ref 99 :: .ref 100 :: .ref 101 :: .ref 102 :: .ref 103 :: .ref 104 :: .ref 105 :: .int (zI mt) :: .int (zI mfa) :: .ref 106 :: .ref 107 :: .ref 108 :: .int (zI mtn) :: .int (zI mtk) :: .int (zI mlv) :: .int (zI mbd) :: .int (zI mgo) :: .int (zI mge) :: .int (zI mbk) :: .ref 109 :: .int (zI mtt) :: .int (zI mtl) :: .ref 110 :: .ref 111 :: .ref 112 :: .ref 113 :: .ref 114 :: .ref 115 :: .ref 116 :: .ref 117 :: .int (zI hm2) :: .int (zI pm2) :: .int (zI hb2) :: .int (zI sb) :: .ref 118 :: .ref 119 :: .ref 120 :: .ref 121 :: .ref 122 :: .ref 123 :: .ref 124 :: .ref 125 :: .ref 126 :: .ref 127 :: .ref 128 :: .ref 129 :: .int (zI mfu) :: .ref 130 :: .ref 131 :: .ref 132 :: .ref 133 :: .ref 134 :: .int (zI mdm) :: .int (zI mla) :: []))), (99, .inl (0, 7, .inl (zA rg7))), (110, .inl (0, 8820, .inl (zA co2))), (111, .inl (0, 1260, .inl (zA cd2))), (117, .inl (0, 7, .inl (zA of2)))]) ∧ (¬ isB x y (Hi K)) ∧ (Rg of2 7 0 4) ∧ (zr hb2) ∧ (hb2 = mv → HouT co2 cd2 K hm2 ∧ hm2 = Hi K ∧ pm2 = bsum K) ∧ (hb2 ≤ mv)) ∨ (∃ rg7 : Int → Int, ∃ hm2 : Int, ∃ pm2 : Int, ∃ hb2 : Int, ∃ co2 : Int → Int, ∃ cd2 : Int → Int, ∃ of2 : Int → Int, rr = some (.int (zI (-3))) ∧ h9 = (nh, hc fh [(98, .inr (12, (.int (zI (-3)) :: .int (zI mv) :: .ref 99 :: .ref 100 :: .ref 101 :: .ref 102 :: .ref 103 :: .ref 104 :: .ref 105 :: .int (zI mt) :: .int (zI mfa) :: .ref 106 :: .ref 107 :: .ref 108 :: .int (zI mtn) :: .int (zI mtk) :: .int (zI mlv) :: .int (zI mbd) :: .int (zI mgo) :: .int (zI mge) :: .int (zI mbk) :: .ref 109 :: .int (zI mtt) :: .int (zI mtl) :: .ref 110 :: .ref 111 :: .ref 112 :: .ref 113 :: .ref 114 :: .ref 115 :: .ref 116 :: .ref 117 :: .int (zI hm2) :: .int (zI pm2) :: .int (zI hb2) :: .int (zI sb) :: .ref 118 :: .ref 119 :: .ref 120 :: .ref 121 :: .ref 122 :: .ref 123 :: .ref 124 :: .ref 125 :: .ref 126 :: .ref 127 :: .ref 128 :: .ref 129 :: .int (zI mfu) :: .ref 130 :: .ref 131 :: .ref 132 :: .ref 133 :: .ref 134 :: .int (zI mdm) :: .int (zI mla) :: []))), (99, .inl (0, 7, .inl (zA rg7))), (110, .inl (0, 8820, .inl (zA co2))), (111, .inl (0, 1260, .inl (zA cd2))), (117, .inl (0, 7, .inl (zA of2)))]) ∧ (isB x y (Hi K)) ∧ (x = y ∨ ¬ WNo (od K 7) (od K 8) (K 59) x y) ∧ (Rg of2 7 0 4) ∧ (zr hb2) ∧ (hb2 = mv → HouT co2 cd2 K hm2 ∧ hm2 = Hi K ∧ pm2 = bsum K) ∧ (hb2 ≤ mv)) ∨ (∃ rg7 : Int → Int, ∃ hm2 : Int, ∃ pm2 : Int, ∃ hb2 : Int, ∃ co2 : Int → Int, ∃ cd2 : Int → Int, ∃ of2 : Int → Int, rr = some (.int (zI (-5))) ∧ h9 = (nh, hc fh [(98, .inr (12, (.int (zI (-5)) :: .int (zI mv) :: .ref 99 :: .ref 100 :: .ref 101 :: .ref 102 :: .ref 103 :: .ref 104 :: .ref 105 :: .int (zI mt) :: .int (zI mfa) :: .ref 106 :: .ref 107 :: .ref 108 :: .int (zI mtn) :: .int (zI mtk) :: .int (zI mlv) :: .int (zI mbd) :: .int (zI mgo) :: .int (zI mge) :: .int (zI mbk) :: .ref 109 :: .int (zI mtt) :: .int (zI mtl) :: .ref 110 :: .ref 111 :: .ref 112 :: .ref 113 :: .ref 114 :: .ref 115 :: .ref 116 :: .ref 117 :: .int (zI hm2) :: .int (zI pm2) :: .int (zI hb2) :: .int (zI sb) :: .ref 118 :: .ref 119 :: .ref 120 :: .ref 121 :: .ref 122 :: .ref 123 :: .ref 124 :: .ref 125 :: .ref 126 :: .ref 127 :: .ref 128 :: .ref 129 :: .int (zI mfu) :: .ref 130 :: .ref 131 :: .ref 132 :: .ref 133 :: .ref 134 :: .int (zI mdm) :: .int (zI mla) :: []))), (99, .inl (0, 7, .inl (zA rg7))), (110, .inl (0, 8820, .inl (zA co2))), (111, .inl (0, 1260, .inl (zA cd2))), (117, .inl (0, 7, .inl (zA of2)))]) ∧ (isB x y (Hi K)) ∧ (¬ x = y) ∧ (WNo (od K 7) (od K 8) (K 59) x y) ∧ (8 ≤ K 59) ∧ (Rg of2 7 0 4) ∧ (zr hb2) ∧ (hb2 = mv → HouT co2 cd2 K hm2 ∧ hm2 = Hi K ∧ pm2 = bsum K) ∧ (hb2 ≤ mv)) ∨ (∃ K2 : Int → Int, ∃ r : Int, ∃ hm2 : Int, ∃ pm2 : Int, ∃ hb2 : Int, ∃ co2 : Int → Int, ∃ cd2 : Int → Int, ∃ of2 : Int → Int, rr = some (.int (zI r)) ∧ h9 = (nh, hc fh [(98, .inr (12, (.int (zI 0) :: .int (zI (mv + 1)) :: .ref 99 :: .ref 100 :: .ref 101 :: .ref 102 :: .ref 103 :: .ref 104 :: .ref 105 :: .int (zI mt) :: .int (zI mfa) :: .ref 106 :: .ref 107 :: .ref 108 :: .int (zI mtn) :: .int (zI mtk) :: .int (zI mlv) :: .int (zI mbd) :: .int (zI mgo) :: .int (zI mge) :: .int (zI mbk) :: .ref 109 :: .int (zI mtt) :: .int (zI mtl) :: .ref 110 :: .ref 111 :: .ref 112 :: .ref 113 :: .ref 114 :: .ref 115 :: .ref 116 :: .ref 117 :: .int (zI hm2) :: .int (zI pm2) :: .int (zI hb2) :: .int (zI sb) :: .ref 118 :: .ref 119 :: .ref 120 :: .ref 121 :: .ref 122 :: .ref 123 :: .ref 124 :: .ref 125 :: .ref 126 :: .ref 127 :: .ref 128 :: .ref 129 :: .int (zI mfu) :: .ref 130 :: .ref 131 :: .ref 132 :: .ref 133 :: .ref 134 :: .int (zI mdm) :: .int (zI mla) :: []))), (100, .inl (0, 4870, .inl (zA K2))), (110, .inl (0, 8820, .inl (zA co2))), (111, .inl (0, 1260, .inl (zA cd2))), (117, .inl (0, 7, .inl (zA of2)))]) ∧ (KOK K2) ∧ (isB x y (Hi K)) ∧ (¬ x = y) ∧ (WNo (od K 7) (od K 8) (K 59) x y) ∧ (K 59 < 8) ∧ (r = K 59 + 1) ∧ ((K2 = pu3 K 7 59 x y)) ∧ (Rg of2 7 0 4) ∧ (zr hb2) ∧ (hb2 = mv → HouT co2 cd2 K hm2 ∧ hm2 = Hi K ∧ pm2 = bsum K) ∧ (hb2 ≤ mv))) := by
  refine JM.of (by decide) rfl (fun h => by cases h) (Nat.le_of_ble_eq_true rfl) ⟨1, rfl⟩ ?_
  refine J_hc0 (J_ls (ls2 := [some (.ref 98), some (.int (zI x)), some (.int (zI y)), none]) rfl ?_)
  refine J_aload_n dX12_wall_0 rfl rfl ?_
  refine J_iload_n dX12_wall_1 rfl rfl ?_
  refine J_callV (st := []) dX12_wall_2 cv_X12_325 (k_isHouse x ms mv mt mfa mtn mtk mlv mbd mgo mge mbk mtt mtl hm pm hb sb mfu mdm mla K co cd of q0 q2.1 q4 q5 q6 q7 hk98 hk100 hk110 hk111 hk117) hk98 rfl rfl (Nat.le_of_ble_eq_true rfl) ⟨(Nat.le_of_ble_eq_true rfl), (Nat.le_of_ble_eq_true rfl)⟩ ⟨(Nat.le_of_ble_eq_true rfl), (Nat.le_of_ble_eq_true rfl)⟩ (fun r h9 hp => ?_)
  rcases hp with ⟨z1, z2, z3, f4, f5, f6, rfl, rfl, h7, h8, h9, h10, h11, h12, h13, h14, h15, h16, h17⟩ | ⟨z18, z19, z20, f21, f22, f23, rfl, rfl, h24, h25, h26, h27, h28, h29, h30, h31, h32, h33⟩ | ⟨z34, z35, z36, f37, f38, f39, rfl, rfl, h40, h41, h42, h43, h44, h45, h46, h47, h48, h49⟩
  · refine J_nf (nh2 := nh) (ck2 := 0) (sk2 := 0) (st2 := [.int (zI 1)]) rfl rfl rfl rfl ?_
    refine J_app (L3 := [(98, .inr (12, (.int (zI ms) :: .int (zI mv) :: .ref 99 :: .ref 100 :: .ref 101 :: .ref 102 :: .ref 103 :: .ref 104 :: .ref 105 :: .int (zI mt) :: .int (zI mfa) :: .ref 106 :: .ref 107 :: .ref 108 :: .int (zI mtn) :: .int (zI mtk) :: .int (zI mlv) :: .int (zI mbd) :: .int (zI mgo) :: .int (zI mge) :: .int (zI mbk) :: .ref 109 :: .int (zI mtt) :: .int (zI mtl) :: .ref 110 :: .ref 111 :: .ref 112 :: .ref 113 :: .ref 114 :: .ref 115 :: .ref 116 :: .ref 117 :: .int (zI z1) :: .int (zI z2) :: .int (zI z3) :: .int (zI sb) :: .ref 118 :: .ref 119 :: .ref 120 :: .ref 121 :: .ref 122 :: .ref 123 :: .ref 124 :: .ref 125 :: .ref 126 :: .ref 127 :: .ref 128 :: .ref 129 :: .int (zI mfu) :: .ref 130 :: .ref 131 :: .ref 132 :: .ref 133 :: .ref 134 :: .int (zI mdm) :: .int (zI mla) :: []))), (110, .inl (0, 8820, .inl (zA f4))), (111, .inl (0, 1260, .inl (zA f5))), (117, .inl (0, 7, .inl (zA f6)))]) rfl ?_
    refine Z_if_eq (tgt := 16) dX12_wall_5 (by decide) v_4dcc24baa7 (fun h50 => absurd h50 v_3a47bfd896) (fun h50 => ?_)
    refine J_aload_n dX12_wall_8 rfl rfl ?_
    refine J_iload_n dX12_wall_9 rfl rfl ?_
    refine J_callV (st := []) dX12_wall_10 cv_X12_325 (k_isHouse y ms mv mt mfa mtn mtk mlv mbd mgo mge mbk mtt mtl z1 z2 z3 sb mfu mdm mla K f4 f5 f6 q1 q2.1 h10 (v_621074fb26 q6 h15) q6 (fun _ => ⟨h9, h7, h8⟩) rfl hk100 rfl rfl rfl) rfl rfl rfl (Nat.le_of_ble_eq_true rfl) ⟨(Nat.le_of_ble_eq_true rfl), (Nat.le_of_ble_eq_true rfl)⟩ ⟨(Nat.le_of_ble_eq_true rfl), (Nat.le_of_ble_eq_true rfl)⟩ (fun r h9 hp => ?_)
    rcases hp with ⟨z51, z52, z53, f54, f55, f56, rfl, rfl, h57, h58, h59, h60, h61, h62, h63, h64, h65, h66, h67⟩ | ⟨z68, z69, z70, f71, f72, f73, rfl, rfl, h74, h75, h76, h77, h78, h79, h80, h81, h82, h83⟩ | ⟨z84, z85, z86, f87, f88, f89, rfl, rfl, h90, h91, h92, h93, h94, h95, h96, h97, h98, h99⟩
    · refine J_nf (nh2 := nh) (ck2 := 0) (sk2 := 0) (st2 := [.int (zI 1)]) rfl rfl rfl rfl ?_
      refine J_app (L3 := [(98, .inr (12, (.int (zI ms) :: .int (zI mv) :: .ref 99 :: .ref 100 :: .ref 101 :: .ref 102 :: .ref 103 :: .ref 104 :: .ref 105 :: .int (zI mt) :: .int (zI mfa) :: .ref 106 :: .ref 107 :: .ref 108 :: .int (zI mtn) :: .int (zI mtk) :: .int (zI mlv) :: .int (zI mbd) :: .int (zI mgo) :: .int (zI mge) :: .int (zI mbk) :: .ref 109 :: .int (zI mtt) :: .int (zI mtl) :: .ref 110 :: .ref 111 :: .ref 112 :: .ref 113 :: .ref 114 :: .ref 115 :: .ref 116 :: .ref 117 :: .int (zI z51) :: .int (zI z52) :: .int (zI z53) :: .int (zI sb) :: .ref 118 :: .ref 119 :: .ref 120 :: .ref 121 :: .ref 122 :: .ref 123 :: .ref 124 :: .ref 125 :: .ref 126 :: .ref 127 :: .ref 128 :: .ref 129 :: .int (zI mfu) :: .ref 130 :: .ref 131 :: .ref 132 :: .ref 133 :: .ref 134 :: .int (zI mdm) :: .int (zI mla) :: []))), (110, .inl (0, 8820, .inl (zA f54))), (111, .inl (0, 1260, .inl (zA f55))), (117, .inl (0, 7, .inl (zA f56))), (98, .inr (12, (.int (zI ms) :: .int (zI mv) :: .ref 99 :: .ref 100 :: .ref 101 :: .ref 102 :: .ref 103 :: .ref 104 :: .ref 105 :: .int (zI mt) :: .int (zI mfa) :: .ref 106 :: .ref 107 :: .ref 108 :: .int (zI mtn) :: .int (zI mtk) :: .int (zI mlv) :: .int (zI mbd) :: .int (zI mgo) :: .int (zI mge) :: .int (zI mbk) :: .ref 109 :: .int (zI mtt) :: .int (zI mtl) :: .ref 110 :: .ref 111 :: .ref 112 :: .ref 113 :: .ref 114 :: .ref 115 :: .ref 116 :: .ref 117 :: .int (zI z1) :: .int (zI z2) :: .int (zI z3) :: .int (zI sb) :: .ref 118 :: .ref 119 :: .ref 120 :: .ref 121 :: .ref 122 :: .ref 123 :: .ref 124 :: .ref 125 :: .ref 126 :: .ref 127 :: .ref 128 :: .ref 129 :: .int (zI mfu) :: .ref 130 :: .ref 131 :: .ref 132 :: .ref 133 :: .ref 134 :: .int (zI mdm) :: .int (zI mla) :: []))), (110, .inl (0, 8820, .inl (zA f4))), (111, .inl (0, 1260, .inl (zA f5))), (117, .inl (0, 7, .inl (zA f6)))]) rfl ?_
      refine J_mask (L2 := [(98, .inr (12, (.int (zI ms) :: .int (zI mv) :: .ref 99 :: .ref 100 :: .ref 101 :: .ref 102 :: .ref 103 :: .ref 104 :: .ref 105 :: .int (zI mt) :: .int (zI mfa) :: .ref 106 :: .ref 107 :: .ref 108 :: .int (zI mtn) :: .int (zI mtk) :: .int (zI mlv) :: .int (zI mbd) :: .int (zI mgo) :: .int (zI mge) :: .int (zI mbk) :: .ref 109 :: .int (zI mtt) :: .int (zI mtl) :: .ref 110 :: .ref 111 :: .ref 112 :: .ref 113 :: .ref 114 :: .ref 115 :: .ref 116 :: .ref 117 :: .int (zI z51) :: .int (zI z52) :: .int (zI z53) :: .int (zI sb) :: .ref 118 :: .ref 119 :: .ref 120 :: .ref 121 :: .ref 122 :: .ref 123 :: .ref 124 :: .ref 125 :: .ref 126 :: .ref 127 :: .ref 128 :: .ref 129 :: .int (zI mfu) :: .ref 130 :: .ref 131 :: .ref 132 :: .ref 133 :: .ref 134 :: .int (zI mdm) :: .int (zI mla) :: []))), (110, .inl (0, 8820, .inl (zA f54))), (111, .inl (0, 1260, .inl (zA f55))), (117, .inl (0, 7, .inl (zA f56)))]) (ks := [98, 110, 111, 117, 98, 110, 111, 117]) [true, true, true, true, false, false, false, false] rfl (by decide +kernel) rfl ?_
      refine Z_if_ne (tgt := 23) dX12_wall_13 (by decide) v_4dcc24baa7 (fun h100 => ?_) (fun h100 => absurd h100 v_3a47bfd896)
      refine J_iload_n dX12_wall_23 rfl rfl ?_
      refine J_iload_n dX12_wall_24 rfl rfl ?_
      refine Z_icmp_eq (tgt := 37) dX12_wall_25 (by decide) (v_e33502de53 q0 h16) (v_e33502de53 q1 h66) (fun h101 => ?_) (fun h101 => ?_)
      · refine J_aload_n dX12_wall_37 rfl rfl ?_
        refine Z_bipush (n := -3) dX12_wall_38 (by decide +kernel) ?_
        refine J_callV (st := []) dX12_wall_40 cv_X12_142 (k_refuses (-3) rf7 ms mv mt mfa mtn mtk mlv mbd mgo mge mbk mtt mtl z51 z52 z53 sb mfu mdm mla v_36df96dc2b v_6d3f6df9c9 rfl hk99) rfl rfl rfl (Nat.le_of_ble_eq_true rfl) ⟨(Nat.le_of_ble_eq_true rfl), (Nat.le_of_ble_eq_true rfl)⟩ ⟨(Nat.le_of_ble_eq_true rfl), (Nat.le_of_ble_eq_true rfl)⟩ (fun r h9 hp => ?_)
        obtain ⟨f102, rfl, rfl⟩ := hp
        refine J_nf (nh2 := nh) (ck2 := 0) (sk2 := 0) (st2 := [.int (zI (-3))]) rfl rfl rfl rfl ?_
        refine J_app (L3 := [(98, .inr (12, (.int (zI (-3)) :: .int (zI mv) :: .ref 99 :: .ref 100 :: .ref 101 :: .ref 102 :: .ref 103 :: .ref 104 :: .ref 105 :: .int (zI mt) :: .int (zI mfa) :: .ref 106 :: .ref 107 :: .ref 108 :: .int (zI mtn) :: .int (zI mtk) :: .int (zI mlv) :: .int (zI mbd) :: .int (zI mgo) :: .int (zI mge) :: .int (zI mbk) :: .ref 109 :: .int (zI mtt) :: .int (zI mtl) :: .ref 110 :: .ref 111 :: .ref 112 :: .ref 113 :: .ref 114 :: .ref 115 :: .ref 116 :: .ref 117 :: .int (zI z51) :: .int (zI z52) :: .int (zI z53) :: .int (zI sb) :: .ref 118 :: .ref 119 :: .ref 120 :: .ref 121 :: .ref 122 :: .ref 123 :: .ref 124 :: .ref 125 :: .ref 126 :: .ref 127 :: .ref 128 :: .ref 129 :: .int (zI mfu) :: .ref 130 :: .ref 131 :: .ref 132 :: .ref 133 :: .ref 134 :: .int (zI mdm) :: .int (zI mla) :: []))), (99, .inl (0, 7, .inl (zA f102))), (98, .inr (12, (.int (zI ms) :: .int (zI mv) :: .ref 99 :: .ref 100 :: .ref 101 :: .ref 102 :: .ref 103 :: .ref 104 :: .ref 105 :: .int (zI mt) :: .int (zI mfa) :: .ref 106 :: .ref 107 :: .ref 108 :: .int (zI mtn) :: .int (zI mtk) :: .int (zI mlv) :: .int (zI mbd) :: .int (zI mgo) :: .int (zI mge) :: .int (zI mbk) :: .ref 109 :: .int (zI mtt) :: .int (zI mtl) :: .ref 110 :: .ref 111 :: .ref 112 :: .ref 113 :: .ref 114 :: .ref 115 :: .ref 116 :: .ref 117 :: .int (zI z51) :: .int (zI z52) :: .int (zI z53) :: .int (zI sb) :: .ref 118 :: .ref 119 :: .ref 120 :: .ref 121 :: .ref 122 :: .ref 123 :: .ref 124 :: .ref 125 :: .ref 126 :: .ref 127 :: .ref 128 :: .ref 129 :: .int (zI mfu) :: .ref 130 :: .ref 131 :: .ref 132 :: .ref 133 :: .ref 134 :: .int (zI mdm) :: .int (zI mla) :: []))), (110, .inl (0, 8820, .inl (zA f54))), (111, .inl (0, 1260, .inl (zA f55))), (117, .inl (0, 7, .inl (zA f56)))]) rfl ?_
        refine J_mask (L2 := [(98, .inr (12, (.int (zI (-3)) :: .int (zI mv) :: .ref 99 :: .ref 100 :: .ref 101 :: .ref 102 :: .ref 103 :: .ref 104 :: .ref 105 :: .int (zI mt) :: .int (zI mfa) :: .ref 106 :: .ref 107 :: .ref 108 :: .int (zI mtn) :: .int (zI mtk) :: .int (zI mlv) :: .int (zI mbd) :: .int (zI mgo) :: .int (zI mge) :: .int (zI mbk) :: .ref 109 :: .int (zI mtt) :: .int (zI mtl) :: .ref 110 :: .ref 111 :: .ref 112 :: .ref 113 :: .ref 114 :: .ref 115 :: .ref 116 :: .ref 117 :: .int (zI z51) :: .int (zI z52) :: .int (zI z53) :: .int (zI sb) :: .ref 118 :: .ref 119 :: .ref 120 :: .ref 121 :: .ref 122 :: .ref 123 :: .ref 124 :: .ref 125 :: .ref 126 :: .ref 127 :: .ref 128 :: .ref 129 :: .int (zI mfu) :: .ref 130 :: .ref 131 :: .ref 132 :: .ref 133 :: .ref 134 :: .int (zI mdm) :: .int (zI mla) :: []))), (99, .inl (0, 7, .inl (zA f102))), (110, .inl (0, 8820, .inl (zA f54))), (111, .inl (0, 1260, .inl (zA f55))), (117, .inl (0, 7, .inl (zA f56)))]) (ks := [98, 99, 98, 110, 111, 117]) [true, true, false, true, true, true] rfl (by decide +kernel) rfl ?_
        exact J_iret dX12_wall_43 rfl rfl (Nat.le_of_ble_eq_true rfl) (Nat.le_of_ble_eq_true rfl) (Or.inr (Or.inl ⟨f102, z51, z52, z53, f54, f55, f56, rfl, rfl, (⟨(v_2b02420001 h16), (v_d7c2909a09 h7 h17), (v_2b02420001 h66), (v_d7c2909a09 h57 h67)⟩), (Or.inl (v_cd91a95e4e h101)), h60, (v_621074fb26 q6 h65), (fun _ => ⟨h59, h57, h58⟩), (v_94d6d099ed h65)⟩))
      · refine J_aload_n dX12_wall_28 rfl rfl ?_
        refine J_iload_n dX12_wall_29 rfl rfl ?_
        refine J_iload_n dX12_wall_30 rfl rfl ?_
        refine J_callV (st := []) dX12_wall_31 cv_X12_308 (k_hasWall x y K ms mv mt mfa mtn mtk mlv mbd mgo mge mbk mtt mtl z51 z52 z53 sb mfu mdm mla q0 q1 q2.2.1.1 q2.2.1.2 q2.2.2.2.2.2.2.2.2.1 rfl hk100) rfl rfl rfl (Nat.le_of_ble_eq_true rfl) ⟨(Nat.le_of_ble_eq_true rfl), (Nat.le_of_ble_eq_true rfl)⟩ ⟨(Nat.le_of_ble_eq_true rfl), (Nat.le_of_ble_eq_true rfl)⟩ (fun r h9 hp => ?_)
        rcases hp with ⟨rfl, rfl, h103⟩ | ⟨rfl, rfl, h104⟩
        · refine J_nf (nh2 := nh) (ck2 := 0) (sk2 := 0) (st2 := [.int (zI 1)]) rfl rfl rfl rfl ?_
          refine Z_if_eq (tgt := 44) dX12_wall_34 (by decide) v_4dcc24baa7 (fun h105 => absurd h105 v_3a47bfd896) (fun h105 => ?_)
          refine J_aload_n dX12_wall_37 rfl rfl ?_
          refine Z_bipush (n := -3) dX12_wall_38 (by decide +kernel) ?_
          refine J_callV (st := []) dX12_wall_40 cv_X12_142 (k_refuses (-3) rf7 ms mv mt mfa mtn mtk mlv mbd mgo mge mbk mtt mtl z51 z52 z53 sb mfu mdm mla v_36df96dc2b v_6d3f6df9c9 rfl hk99) rfl rfl rfl (Nat.le_of_ble_eq_true rfl) ⟨(Nat.le_of_ble_eq_true rfl), (Nat.le_of_ble_eq_true rfl)⟩ ⟨(Nat.le_of_ble_eq_true rfl), (Nat.le_of_ble_eq_true rfl)⟩ (fun r h9 hp => ?_)
          obtain ⟨f106, rfl, rfl⟩ := hp
          refine J_nf (nh2 := nh) (ck2 := 0) (sk2 := 0) (st2 := [.int (zI (-3))]) rfl rfl rfl rfl ?_
          refine J_app (L3 := [(98, .inr (12, (.int (zI (-3)) :: .int (zI mv) :: .ref 99 :: .ref 100 :: .ref 101 :: .ref 102 :: .ref 103 :: .ref 104 :: .ref 105 :: .int (zI mt) :: .int (zI mfa) :: .ref 106 :: .ref 107 :: .ref 108 :: .int (zI mtn) :: .int (zI mtk) :: .int (zI mlv) :: .int (zI mbd) :: .int (zI mgo) :: .int (zI mge) :: .int (zI mbk) :: .ref 109 :: .int (zI mtt) :: .int (zI mtl) :: .ref 110 :: .ref 111 :: .ref 112 :: .ref 113 :: .ref 114 :: .ref 115 :: .ref 116 :: .ref 117 :: .int (zI z51) :: .int (zI z52) :: .int (zI z53) :: .int (zI sb) :: .ref 118 :: .ref 119 :: .ref 120 :: .ref 121 :: .ref 122 :: .ref 123 :: .ref 124 :: .ref 125 :: .ref 126 :: .ref 127 :: .ref 128 :: .ref 129 :: .int (zI mfu) :: .ref 130 :: .ref 131 :: .ref 132 :: .ref 133 :: .ref 134 :: .int (zI mdm) :: .int (zI mla) :: []))), (99, .inl (0, 7, .inl (zA f106))), (98, .inr (12, (.int (zI ms) :: .int (zI mv) :: .ref 99 :: .ref 100 :: .ref 101 :: .ref 102 :: .ref 103 :: .ref 104 :: .ref 105 :: .int (zI mt) :: .int (zI mfa) :: .ref 106 :: .ref 107 :: .ref 108 :: .int (zI mtn) :: .int (zI mtk) :: .int (zI mlv) :: .int (zI mbd) :: .int (zI mgo) :: .int (zI mge) :: .int (zI mbk) :: .ref 109 :: .int (zI mtt) :: .int (zI mtl) :: .ref 110 :: .ref 111 :: .ref 112 :: .ref 113 :: .ref 114 :: .ref 115 :: .ref 116 :: .ref 117 :: .int (zI z51) :: .int (zI z52) :: .int (zI z53) :: .int (zI sb) :: .ref 118 :: .ref 119 :: .ref 120 :: .ref 121 :: .ref 122 :: .ref 123 :: .ref 124 :: .ref 125 :: .ref 126 :: .ref 127 :: .ref 128 :: .ref 129 :: .int (zI mfu) :: .ref 130 :: .ref 131 :: .ref 132 :: .ref 133 :: .ref 134 :: .int (zI mdm) :: .int (zI mla) :: []))), (110, .inl (0, 8820, .inl (zA f54))), (111, .inl (0, 1260, .inl (zA f55))), (117, .inl (0, 7, .inl (zA f56)))]) rfl ?_
          refine J_mask (L2 := [(98, .inr (12, (.int (zI (-3)) :: .int (zI mv) :: .ref 99 :: .ref 100 :: .ref 101 :: .ref 102 :: .ref 103 :: .ref 104 :: .ref 105 :: .int (zI mt) :: .int (zI mfa) :: .ref 106 :: .ref 107 :: .ref 108 :: .int (zI mtn) :: .int (zI mtk) :: .int (zI mlv) :: .int (zI mbd) :: .int (zI mgo) :: .int (zI mge) :: .int (zI mbk) :: .ref 109 :: .int (zI mtt) :: .int (zI mtl) :: .ref 110 :: .ref 111 :: .ref 112 :: .ref 113 :: .ref 114 :: .ref 115 :: .ref 116 :: .ref 117 :: .int (zI z51) :: .int (zI z52) :: .int (zI z53) :: .int (zI sb) :: .ref 118 :: .ref 119 :: .ref 120 :: .ref 121 :: .ref 122 :: .ref 123 :: .ref 124 :: .ref 125 :: .ref 126 :: .ref 127 :: .ref 128 :: .ref 129 :: .int (zI mfu) :: .ref 130 :: .ref 131 :: .ref 132 :: .ref 133 :: .ref 134 :: .int (zI mdm) :: .int (zI mla) :: []))), (99, .inl (0, 7, .inl (zA f106))), (110, .inl (0, 8820, .inl (zA f54))), (111, .inl (0, 1260, .inl (zA f55))), (117, .inl (0, 7, .inl (zA f56)))]) (ks := [98, 99, 98, 110, 111, 117]) [true, true, false, true, true, true] rfl (by decide +kernel) rfl ?_
          exact J_iret dX12_wall_43 rfl rfl (Nat.le_of_ble_eq_true rfl) (Nat.le_of_ble_eq_true rfl) (Or.inr (Or.inl ⟨f106, z51, z52, z53, f54, f55, f56, rfl, rfl, (⟨(v_2b02420001 h16), (v_d7c2909a09 h7 h17), (v_2b02420001 h66), (v_d7c2909a09 h57 h67)⟩), (Or.inr h103), h60, (v_621074fb26 q6 h65), (fun _ => ⟨h59, h57, h58⟩), (v_94d6d099ed h65)⟩))
        · refine J_nf (nh2 := nh) (ck2 := 0) (sk2 := 0) (st2 := [.int (zI 0)]) rfl rfl rfl rfl ?_
          refine Z_if_eq (tgt := 44) dX12_wall_34 (by decide) v_b17331891f (fun h107 => ?_) (fun h107 => absurd h107 (fun q => q v_2ca2bbca1f))
          refine J_aload_n dX12_wall_44 rfl rfl ?_
          refine J_get (v := .ref 100) dX12_wall_45 fl_X12_20 rfl rfl ?_
          refine Z_bipush (n := 59) dX12_wall_48 (by decide +kernel) ?_
          obtain ⟨z108, ez108⟩ : ∃ z : Int, K 59 = z := ⟨_, rfl⟩
          have h109 := Rg.at q2.2.2.2.2.2.2.2.2.1 v_891b05d1c3 v_028d633eb8 ez108
          refine Y_iald (z := z108) 4870 dX12_wall_50 hk100 rfl (by decide) v_891b05d1c3 v_028d633eb8 ez108 ?_
          refine J_istore_n dX12_wall_51 rfl (Nat.le_of_ble_eq_true rfl) rfl ?_
          refine J_ls (ls2 := [some (.ref 98), some (.int (zI x)), some (.int (zI y)), some (.int (zI z108))]) rfl ?_
          refine J_iload_n dX12_wall_52 rfl rfl ?_
          refine Z_bipush (n := 8) dX12_wall_53 (by decide +kernel) ?_
          refine Z_icmp_ne (tgt := 65) dX12_wall_55 (by decide) (v_f306e1cdb8 h109.1 h109.2) v_665891e294 (fun h110 => ?_) (fun h110 => ?_)
          · refine J_aload_n dX12_wall_65 rfl rfl ?_
            refine J_get (v := .ref 100) dX12_wall_66 fl_X12_20 rfl rfl ?_
            refine Z_bipush (n := 7) dX12_wall_69 (by decide +kernel) ?_
            refine Z_iconst (n := 2) dX12_wall_71 ?_
            refine J_iload_n dX12_wall_72 rfl rfl ?_
            refine Z_imul (c := 2 * z108) dX12_wall_73 rfl ?_
            refine Z_iadd (c := 2 * z108 + 7) dX12_wall_74 v_3e4b903c63 ?_
            refine J_iload_n dX12_wall_75 rfl rfl ?_
            refine Y_iast (v := x) 4870 dX12_wall_76 hk100 rfl (by decide) (v_c229ebe3b1 q2.2.1.1 ez108) (v_ccb9fbc785 q2.2.1.2 ez108) (fun f111 ef111 => ?_)
            have h112 : Rg f111 4870 (-2147483648) 2147483647 := Rg.ups q2.2.2.2.2.2.2.2.2.1 ef111 (v_c11e42827f h16) (v_602fda786b q0)
            refine J_aload_n dX12_wall_77 rfl rfl ?_
            refine J_get (v := .ref 100) dX12_wall_78 fl_X12_20 rfl rfl ?_
            refine Z_bipush (n := 7) dX12_wall_81 (by decide +kernel) ?_
            refine Z_iconst (n := 2) dX12_wall_83 ?_
            refine J_iload_n dX12_wall_84 rfl rfl ?_
            refine Z_imul (c := 2 * z108) dX12_wall_85 rfl ?_
            refine Z_iadd (c := 2 * z108 + 7) dX12_wall_86 v_3e4b903c63 ?_
            refine Z_iconst (n := 1) dX12_wall_87 ?_
            refine Z_iadd (c := 2 * z108 + 8) dX12_wall_88 v_7118128835 ?_
            refine J_iload_n dX12_wall_89 rfl rfl ?_
            refine Y_iast (v := y) 4870 dX12_wall_90 rfl rfl (by decide) (v_9acfa54392 q2.2.1.1 ez108) (v_ddcfd9e4c1 q2.2.1.2 ez108) (fun f113 ef113 => ?_)
            have h114 : Rg f113 4870 (-2147483648) 2147483647 := Rg.ups h112 ef113 (v_c11e42827f h66) (v_602fda786b q1)
            refine J_aload_n dX12_wall_91 rfl rfl ?_
            refine J_get (v := .ref 100) dX12_wall_92 fl_X12_20 rfl rfl ?_
            refine Z_bipush (n := 59) dX12_wall_95 (by decide +kernel) ?_
            refine J_dup2_11 dX12_wall_97 rfl rfl ?_
            obtain ⟨z115, ez115⟩ : ∃ z : Int, f113 59 = z := ⟨_, rfl⟩
            have h116 := Rg.at h114 v_891b05d1c3 v_028d633eb8 ez115
            have e117 : f111 59 = z115 := rd_ne ef113 (v_8f8b134037 q2.2.1.2 ez108) ez115
            have h118 := Rg.at h112 v_891b05d1c3 v_028d633eb8 e117
            have e119 : K 59 = z115 := rd_ne ef111 (v_d8218a841c q2.2.1.2 ez108) e117
            have h120 : z115 = z108 := e119.symm.trans ez108
            refine Y_iald (z := z115) 4870 dX12_wall_98 rfl rfl (by decide) v_891b05d1c3 v_028d633eb8 ez115 ?_
            refine Z_iconst (n := 1) dX12_wall_99 ?_
            refine Z_iadd (c := z115 + 1) dX12_wall_100 rfl ?_
            refine Y_iast (v := z115 + 1) 4870 dX12_wall_101 rfl rfl (by decide) v_891b05d1c3 v_028d633eb8 (fun f121 ef121 => ?_)
            have h122 : Rg f121 4870 (-2147483648) 2147483647 := Rg.ups h114 ef121 (v_adc19ed266 h116.1) (v_08c074e313 q2.2.1.2 e119)
            refine J_aload_n dX12_wall_102 rfl rfl ?_
            refine J_iload_n dX12_wall_103 rfl rfl ?_
            refine Z_iconst (n := 1) dX12_wall_104 ?_
            refine Z_iadd (c := z108 + 1) dX12_wall_105 rfl ?_
            refine J_callV (st := []) dX12_wall_106 cv_X12_146 (k_good (z108 + 1) ms mv mt mfa mtn mtk mlv mbd mgo mge mbk mtt mtl z51 z52 z53 sb mfu mdm mla rfl) rfl rfl rfl (Nat.le_of_ble_eq_true rfl) ⟨(Nat.le_of_ble_eq_true rfl), (Nat.le_of_ble_eq_true rfl)⟩ ⟨(Nat.le_of_ble_eq_true rfl), (Nat.le_of_ble_eq_true rfl)⟩ (fun r h9 hp => ?_)
            obtain ⟨rfl, rfl⟩ := hp
            refine J_nf (nh2 := nh) (ck2 := 0) (sk2 := 0) (st2 := [.int (zI (z108 + 1))]) rfl rfl rfl rfl ?_
            refine J_app (L3 := [(98, .inr (12, (.int (zI 0) :: .int (zI (mv + 1)) :: .ref 99 :: .ref 100 :: .ref 101 :: .ref 102 :: .ref 103 :: .ref 104 :: .ref 105 :: .int (zI mt) :: .int (zI mfa) :: .ref 106 :: .ref 107 :: .ref 108 :: .int (zI mtn) :: .int (zI mtk) :: .int (zI mlv) :: .int (zI mbd) :: .int (zI mgo) :: .int (zI mge) :: .int (zI mbk) :: .ref 109 :: .int (zI mtt) :: .int (zI mtl) :: .ref 110 :: .ref 111 :: .ref 112 :: .ref 113 :: .ref 114 :: .ref 115 :: .ref 116 :: .ref 117 :: .int (zI z51) :: .int (zI z52) :: .int (zI z53) :: .int (zI sb) :: .ref 118 :: .ref 119 :: .ref 120 :: .ref 121 :: .ref 122 :: .ref 123 :: .ref 124 :: .ref 125 :: .ref 126 :: .ref 127 :: .ref 128 :: .ref 129 :: .int (zI mfu) :: .ref 130 :: .ref 131 :: .ref 132 :: .ref 133 :: .ref 134 :: .int (zI mdm) :: .int (zI mla) :: []))), (100, .inl (0, 4870, .inl (zA f121))), (100, .inl (0, 4870, .inl (zA f113))), (100, .inl (0, 4870, .inl (zA f111))), (98, .inr (12, (.int (zI ms) :: .int (zI mv) :: .ref 99 :: .ref 100 :: .ref 101 :: .ref 102 :: .ref 103 :: .ref 104 :: .ref 105 :: .int (zI mt) :: .int (zI mfa) :: .ref 106 :: .ref 107 :: .ref 108 :: .int (zI mtn) :: .int (zI mtk) :: .int (zI mlv) :: .int (zI mbd) :: .int (zI mgo) :: .int (zI mge) :: .int (zI mbk) :: .ref 109 :: .int (zI mtt) :: .int (zI mtl) :: .ref 110 :: .ref 111 :: .ref 112 :: .ref 113 :: .ref 114 :: .ref 115 :: .ref 116 :: .ref 117 :: .int (zI z51) :: .int (zI z52) :: .int (zI z53) :: .int (zI sb) :: .ref 118 :: .ref 119 :: .ref 120 :: .ref 121 :: .ref 122 :: .ref 123 :: .ref 124 :: .ref 125 :: .ref 126 :: .ref 127 :: .ref 128 :: .ref 129 :: .int (zI mfu) :: .ref 130 :: .ref 131 :: .ref 132 :: .ref 133 :: .ref 134 :: .int (zI mdm) :: .int (zI mla) :: []))), (110, .inl (0, 8820, .inl (zA f54))), (111, .inl (0, 1260, .inl (zA f55))), (117, .inl (0, 7, .inl (zA f56)))]) rfl ?_
            refine J_mask (L2 := [(98, .inr (12, (.int (zI 0) :: .int (zI (mv + 1)) :: .ref 99 :: .ref 100 :: .ref 101 :: .ref 102 :: .ref 103 :: .ref 104 :: .ref 105 :: .int (zI mt) :: .int (zI mfa) :: .ref 106 :: .ref 107 :: .ref 108 :: .int (zI mtn) :: .int (zI mtk) :: .int (zI mlv) :: .int (zI mbd) :: .int (zI mgo) :: .int (zI mge) :: .int (zI mbk) :: .ref 109 :: .int (zI mtt) :: .int (zI mtl) :: .ref 110 :: .ref 111 :: .ref 112 :: .ref 113 :: .ref 114 :: .ref 115 :: .ref 116 :: .ref 117 :: .int (zI z51) :: .int (zI z52) :: .int (zI z53) :: .int (zI sb) :: .ref 118 :: .ref 119 :: .ref 120 :: .ref 121 :: .ref 122 :: .ref 123 :: .ref 124 :: .ref 125 :: .ref 126 :: .ref 127 :: .ref 128 :: .ref 129 :: .int (zI mfu) :: .ref 130 :: .ref 131 :: .ref 132 :: .ref 133 :: .ref 134 :: .int (zI mdm) :: .int (zI mla) :: []))), (100, .inl (0, 4870, .inl (zA f121))), (110, .inl (0, 8820, .inl (zA f54))), (111, .inl (0, 1260, .inl (zA f55))), (117, .inl (0, 7, .inl (zA f56)))]) (ks := [98, 100, 100, 100, 98, 110, 111, 117]) [true, true, false, false, false, true, true, true] rfl (by decide +kernel) rfl ?_
            exact J_iret dX12_wall_109 rfl rfl (Nat.le_of_ble_eq_true rfl) (Nat.le_of_ble_eq_true rfl) (Or.inr (Or.inr (Or.inr ⟨f121, (z108 + 1), z51, z52, z53, f54, f55, f56, rfl, rfl, (KOK.w59 (KOK.put (KOK.put q2 ef111 (v_c393e7103f q2.2.1.1 ez108) (v_d393afc53f q2.2.1.2 ez108 h110) (v_c11e42827f h16) (v_602fda786b q0)) ef113 (v_2f97d25aaf q2.2.1.1 ez108) (v_bb08e8b7c6 q2.2.1.2 ez108 h110) (v_c11e42827f h66) (v_602fda786b q1)) ef121 (v_09e3a9c0cf q2.2.1.1 e119) (v_5dd69face7 q2.2.1.2 ez108 h110 h120)), (⟨(v_2b02420001 h16), (v_d7c2909a09 h7 h17), (v_2b02420001 h66), (v_d7c2909a09 h57 h67)⟩), h101, h104, (v_21165bc8f6 q2.2.1.2 ez108 h110), (v_129dc755f0 ez108), (pu3_of ez108 ef111 v_539b1ad598 ef113 v_d6e74d39d7 ef121 (v_826844c169 h120)), h60, (v_621074fb26 q6 h65), (fun _ => ⟨h59, h57, h58⟩), (v_94d6d099ed h65)⟩)))
          · refine J_aload_n dX12_wall_58 rfl rfl ?_
            refine Z_bipush (n := -5) dX12_wall_59 (by decide +kernel) ?_
            refine J_callV (st := []) dX12_wall_61 cv_X12_142 (k_refuses (-5) rf7 ms mv mt mfa mtn mtk mlv mbd mgo mge mbk mtt mtl z51 z52 z53 sb mfu mdm mla v_23c38dd6f5 v_711bb4d976 rfl hk99) rfl rfl rfl (Nat.le_of_ble_eq_true rfl) ⟨(Nat.le_of_ble_eq_true rfl), (Nat.le_of_ble_eq_true rfl)⟩ ⟨(Nat.le_of_ble_eq_true rfl), (Nat.le_of_ble_eq_true rfl)⟩ (fun r h9 hp => ?_)
            obtain ⟨f123, rfl, rfl⟩ := hp
            refine J_nf (nh2 := nh) (ck2 := 0) (sk2 := 0) (st2 := [.int (zI (-5))]) rfl rfl rfl rfl ?_
            refine J_app (L3 := [(98, .inr (12, (.int (zI (-5)) :: .int (zI mv) :: .ref 99 :: .ref 100 :: .ref 101 :: .ref 102 :: .ref 103 :: .ref 104 :: .ref 105 :: .int (zI mt) :: .int (zI mfa) :: .ref 106 :: .ref 107 :: .ref 108 :: .int (zI mtn) :: .int (zI mtk) :: .int (zI mlv) :: .int (zI mbd) :: .int (zI mgo) :: .int (zI mge) :: .int (zI mbk) :: .ref 109 :: .int (zI mtt) :: .int (zI mtl) :: .ref 110 :: .ref 111 :: .ref 112 :: .ref 113 :: .ref 114 :: .ref 115 :: .ref 116 :: .ref 117 :: .int (zI z51) :: .int (zI z52) :: .int (zI z53) :: .int (zI sb) :: .ref 118 :: .ref 119 :: .ref 120 :: .ref 121 :: .ref 122 :: .ref 123 :: .ref 124 :: .ref 125 :: .ref 126 :: .ref 127 :: .ref 128 :: .ref 129 :: .int (zI mfu) :: .ref 130 :: .ref 131 :: .ref 132 :: .ref 133 :: .ref 134 :: .int (zI mdm) :: .int (zI mla) :: []))), (99, .inl (0, 7, .inl (zA f123))), (98, .inr (12, (.int (zI ms) :: .int (zI mv) :: .ref 99 :: .ref 100 :: .ref 101 :: .ref 102 :: .ref 103 :: .ref 104 :: .ref 105 :: .int (zI mt) :: .int (zI mfa) :: .ref 106 :: .ref 107 :: .ref 108 :: .int (zI mtn) :: .int (zI mtk) :: .int (zI mlv) :: .int (zI mbd) :: .int (zI mgo) :: .int (zI mge) :: .int (zI mbk) :: .ref 109 :: .int (zI mtt) :: .int (zI mtl) :: .ref 110 :: .ref 111 :: .ref 112 :: .ref 113 :: .ref 114 :: .ref 115 :: .ref 116 :: .ref 117 :: .int (zI z51) :: .int (zI z52) :: .int (zI z53) :: .int (zI sb) :: .ref 118 :: .ref 119 :: .ref 120 :: .ref 121 :: .ref 122 :: .ref 123 :: .ref 124 :: .ref 125 :: .ref 126 :: .ref 127 :: .ref 128 :: .ref 129 :: .int (zI mfu) :: .ref 130 :: .ref 131 :: .ref 132 :: .ref 133 :: .ref 134 :: .int (zI mdm) :: .int (zI mla) :: []))), (110, .inl (0, 8820, .inl (zA f54))), (111, .inl (0, 1260, .inl (zA f55))), (117, .inl (0, 7, .inl (zA f56)))]) rfl ?_
            refine J_mask (L2 := [(98, .inr (12, (.int (zI (-5)) :: .int (zI mv) :: .ref 99 :: .ref 100 :: .ref 101 :: .ref 102 :: .ref 103 :: .ref 104 :: .ref 105 :: .int (zI mt) :: .int (zI mfa) :: .ref 106 :: .ref 107 :: .ref 108 :: .int (zI mtn) :: .int (zI mtk) :: .int (zI mlv) :: .int (zI mbd) :: .int (zI mgo) :: .int (zI mge) :: .int (zI mbk) :: .ref 109 :: .int (zI mtt) :: .int (zI mtl) :: .ref 110 :: .ref 111 :: .ref 112 :: .ref 113 :: .ref 114 :: .ref 115 :: .ref 116 :: .ref 117 :: .int (zI z51) :: .int (zI z52) :: .int (zI z53) :: .int (zI sb) :: .ref 118 :: .ref 119 :: .ref 120 :: .ref 121 :: .ref 122 :: .ref 123 :: .ref 124 :: .ref 125 :: .ref 126 :: .ref 127 :: .ref 128 :: .ref 129 :: .int (zI mfu) :: .ref 130 :: .ref 131 :: .ref 132 :: .ref 133 :: .ref 134 :: .int (zI mdm) :: .int (zI mla) :: []))), (99, .inl (0, 7, .inl (zA f123))), (110, .inl (0, 8820, .inl (zA f54))), (111, .inl (0, 1260, .inl (zA f55))), (117, .inl (0, 7, .inl (zA f56)))]) (ks := [98, 99, 98, 110, 111, 117]) [true, true, false, true, true, true] rfl (by decide +kernel) rfl ?_
            exact J_iret dX12_wall_64 rfl rfl (Nat.le_of_ble_eq_true rfl) (Nat.le_of_ble_eq_true rfl) (Or.inr (Or.inr (Or.inl ⟨f123, z51, z52, z53, f54, f55, f56, rfl, rfl, (⟨(v_2b02420001 h16), (v_d7c2909a09 h7 h17), (v_2b02420001 h66), (v_d7c2909a09 h57 h67)⟩), h101, h104, (v_799c266a10 ez108 h110), h60, (v_621074fb26 q6 h65), (fun _ => ⟨h59, h57, h58⟩), (v_94d6d099ed h65)⟩)))
    · refine J_nf (nh2 := nh) (ck2 := 0) (sk2 := 0) (st2 := [.int (zI 0)]) rfl rfl rfl rfl ?_
      refine J_app (L3 := [(98, .inr (12, (.int (zI ms) :: .int (zI mv) :: .ref 99 :: .ref 100 :: .ref 101 :: .ref 102 :: .ref 103 :: .ref 104 :: .ref 105 :: .int (zI mt) :: .int (zI mfa) :: .ref 106 :: .ref 107 :: .ref 108 :: .int (zI mtn) :: .int (zI mtk) :: .int (zI mlv) :: .int (zI mbd) :: .int (zI mgo) :: .int (zI mge) :: .int (zI mbk) :: .ref 109 :: .int (zI mtt) :: .int (zI mtl) :: .ref 110 :: .ref 111 :: .ref 112 :: .ref 113 :: .ref 114 :: .ref 115 :: .ref 116 :: .ref 117 :: .int (zI z68) :: .int (zI z69) :: .int (zI z70) :: .int (zI sb) :: .ref 118 :: .ref 119 :: .ref 120 :: .ref 121 :: .ref 122 :: .ref 123 :: .ref 124 :: .ref 125 :: .ref 126 :: .ref 127 :: .ref 128 :: .ref 129 :: .int (zI mfu) :: .ref 130 :: .ref 131 :: .ref 132 :: .ref 133 :: .ref 134 :: .int (zI mdm) :: .int (zI mla) :: []))), (110, .inl (0, 8820, .inl (zA f71))), (111, .inl (0, 1260, .inl (zA f72))), (117, .inl (0, 7, .inl (zA f73))), (98, .inr (12, (.int (zI ms) :: .int (zI mv) :: .ref 99 :: .ref 100 :: .ref 101 :: .ref 102 :: .ref 103 :: .ref 104 :: .ref 105 :: .int (zI mt) :: .int (zI mfa) :: .ref 106 :: .ref 107 :: .ref 108 :: .int (zI mtn) :: .int (zI mtk) :: .int (zI mlv) :: .int (zI mbd) :: .int (zI mgo) :: .int (zI mge) :: .int (zI mbk) :: .ref 109 :: .int (zI mtt) :: .int (zI mtl) :: .ref 110 :: .ref 111 :: .ref 112 :: .ref 113 :: .ref 114 :: .ref 115 :: .ref 116 :: .ref 117 :: .int (zI z1) :: .int (zI z2) :: .int (zI z3) :: .int (zI sb) :: .ref 118 :: .ref 119 :: .ref 120 :: .ref 121 :: .ref 122 :: .ref 123 :: .ref 124 :: .ref 125 :: .ref 126 :: .ref 127 :: .ref 128 :: .ref 129 :: .int (zI mfu) :: .ref 130 :: .ref 131 :: .ref 132 :: .ref 133 :: .ref 134 :: .int (zI mdm) :: .int (zI mla) :: []))), (110, .inl (0, 8820, .inl (zA f4))), (111, .inl (0, 1260, .inl (zA f5))), (117, .inl (0, 7, .inl (zA f6)))]) rfl ?_
      refine J_mask (L2 := [(98, .inr (12, (.int (zI ms) :: .int (zI mv) :: .ref 99 :: .ref 100 :: .ref 101 :: .ref 102 :: .ref 103 :: .ref 104 :: .ref 105 :: .int (zI mt) :: .int (zI mfa) :: .ref 106 :: .ref 107 :: .ref 108 :: .int (zI mtn) :: .int (zI mtk) :: .int (zI mlv) :: .int (zI mbd) :: .int (zI mgo) :: .int (zI mge) :: .int (zI mbk) :: .ref 109 :: .int (zI mtt) :: .int (zI mtl) :: .ref 110 :: .ref 111 :: .ref 112 :: .ref 113 :: .ref 114 :: .ref 115 :: .ref 116 :: .ref 117 :: .int (zI z68) :: .int (zI z69) :: .int (zI z70) :: .int (zI sb) :: .ref 118 :: .ref 119 :: .ref 120 :: .ref 121 :: .ref 122 :: .ref 123 :: .ref 124 :: .ref 125 :: .ref 126 :: .ref 127 :: .ref 128 :: .ref 129 :: .int (zI mfu) :: .ref 130 :: .ref 131 :: .ref 132 :: .ref 133 :: .ref 134 :: .int (zI mdm) :: .int (zI mla) :: []))), (110, .inl (0, 8820, .inl (zA f71))), (111, .inl (0, 1260, .inl (zA f72))), (117, .inl (0, 7, .inl (zA f73)))]) (ks := [98, 110, 111, 117, 98, 110, 111, 117]) [true, true, true, true, false, false, false, false] rfl (by decide +kernel) rfl ?_
      refine Z_if_ne (tgt := 23) dX12_wall_13 (by decide) v_b17331891f (fun h124 => absurd h124 (fun q => q v_2ca2bbca1f)) (fun h124 => ?_)
      refine J_aload_n dX12_wall_16 rfl rfl ?_
      refine Z_bipush (n := -2) dX12_wall_17 (by decide +kernel) ?_
      refine J_callV (st := []) dX12_wall_19 cv_X12_142 (k_refuses (-2) rf7 ms mv mt mfa mtn mtk mlv mbd mgo mge mbk mtt mtl z68 z69 z70 sb mfu mdm mla v_c15e852b74 v_e7867eeafa rfl hk99) rfl rfl rfl (Nat.le_of_ble_eq_true rfl) ⟨(Nat.le_of_ble_eq_true rfl), (Nat.le_of_ble_eq_true rfl)⟩ ⟨(Nat.le_of_ble_eq_true rfl), (Nat.le_of_ble_eq_true rfl)⟩ (fun r h9 hp => ?_)
      obtain ⟨f125, rfl, rfl⟩ := hp
      refine J_nf (nh2 := nh) (ck2 := 0) (sk2 := 0) (st2 := [.int (zI (-2))]) rfl rfl rfl rfl ?_
      refine J_app (L3 := [(98, .inr (12, (.int (zI (-2)) :: .int (zI mv) :: .ref 99 :: .ref 100 :: .ref 101 :: .ref 102 :: .ref 103 :: .ref 104 :: .ref 105 :: .int (zI mt) :: .int (zI mfa) :: .ref 106 :: .ref 107 :: .ref 108 :: .int (zI mtn) :: .int (zI mtk) :: .int (zI mlv) :: .int (zI mbd) :: .int (zI mgo) :: .int (zI mge) :: .int (zI mbk) :: .ref 109 :: .int (zI mtt) :: .int (zI mtl) :: .ref 110 :: .ref 111 :: .ref 112 :: .ref 113 :: .ref 114 :: .ref 115 :: .ref 116 :: .ref 117 :: .int (zI z68) :: .int (zI z69) :: .int (zI z70) :: .int (zI sb) :: .ref 118 :: .ref 119 :: .ref 120 :: .ref 121 :: .ref 122 :: .ref 123 :: .ref 124 :: .ref 125 :: .ref 126 :: .ref 127 :: .ref 128 :: .ref 129 :: .int (zI mfu) :: .ref 130 :: .ref 131 :: .ref 132 :: .ref 133 :: .ref 134 :: .int (zI mdm) :: .int (zI mla) :: []))), (99, .inl (0, 7, .inl (zA f125))), (98, .inr (12, (.int (zI ms) :: .int (zI mv) :: .ref 99 :: .ref 100 :: .ref 101 :: .ref 102 :: .ref 103 :: .ref 104 :: .ref 105 :: .int (zI mt) :: .int (zI mfa) :: .ref 106 :: .ref 107 :: .ref 108 :: .int (zI mtn) :: .int (zI mtk) :: .int (zI mlv) :: .int (zI mbd) :: .int (zI mgo) :: .int (zI mge) :: .int (zI mbk) :: .ref 109 :: .int (zI mtt) :: .int (zI mtl) :: .ref 110 :: .ref 111 :: .ref 112 :: .ref 113 :: .ref 114 :: .ref 115 :: .ref 116 :: .ref 117 :: .int (zI z68) :: .int (zI z69) :: .int (zI z70) :: .int (zI sb) :: .ref 118 :: .ref 119 :: .ref 120 :: .ref 121 :: .ref 122 :: .ref 123 :: .ref 124 :: .ref 125 :: .ref 126 :: .ref 127 :: .ref 128 :: .ref 129 :: .int (zI mfu) :: .ref 130 :: .ref 131 :: .ref 132 :: .ref 133 :: .ref 134 :: .int (zI mdm) :: .int (zI mla) :: []))), (110, .inl (0, 8820, .inl (zA f71))), (111, .inl (0, 1260, .inl (zA f72))), (117, .inl (0, 7, .inl (zA f73)))]) rfl ?_
      refine J_mask (L2 := [(98, .inr (12, (.int (zI (-2)) :: .int (zI mv) :: .ref 99 :: .ref 100 :: .ref 101 :: .ref 102 :: .ref 103 :: .ref 104 :: .ref 105 :: .int (zI mt) :: .int (zI mfa) :: .ref 106 :: .ref 107 :: .ref 108 :: .int (zI mtn) :: .int (zI mtk) :: .int (zI mlv) :: .int (zI mbd) :: .int (zI mgo) :: .int (zI mge) :: .int (zI mbk) :: .ref 109 :: .int (zI mtt) :: .int (zI mtl) :: .ref 110 :: .ref 111 :: .ref 112 :: .ref 113 :: .ref 114 :: .ref 115 :: .ref 116 :: .ref 117 :: .int (zI z68) :: .int (zI z69) :: .int (zI z70) :: .int (zI sb) :: .ref 118 :: .ref 119 :: .ref 120 :: .ref 121 :: .ref 122 :: .ref 123 :: .ref 124 :: .ref 125 :: .ref 126 :: .ref 127 :: .ref 128 :: .ref 129 :: .int (zI mfu) :: .ref 130 :: .ref 131 :: .ref 132 :: .ref 133 :: .ref 134 :: .int (zI mdm) :: .int (zI mla) :: []))), (99, .inl (0, 7, .inl (zA f125))), (110, .inl (0, 8820, .inl (zA f71))), (111, .inl (0, 1260, .inl (zA f72))), (117, .inl (0, 7, .inl (zA f73)))]) (ks := [98, 99, 98, 110, 111, 117]) [true, true, false, true, true, true] rfl (by decide +kernel) rfl ?_
      exact J_iret dX12_wall_22 rfl rfl (Nat.le_of_ble_eq_true rfl) (Nat.le_of_ble_eq_true rfl) (Or.inl ⟨f125, z68, z69, z70, f71, f72, f73, rfl, rfl, (fun q => absurd q.2.2.1 (v_dccefa8cdf h83)), h77, (v_621074fb26 q6 h82), (fun _ => ⟨h76, h74, h75⟩), (v_94d6d099ed h82)⟩)
    · refine J_nf (nh2 := nh) (ck2 := 0) (sk2 := 0) (st2 := [.int (zI 0)]) rfl rfl rfl rfl ?_
      refine J_app (L3 := [(98, .inr (12, (.int (zI ms) :: .int (zI mv) :: .ref 99 :: .ref 100 :: .ref 101 :: .ref 102 :: .ref 103 :: .ref 104 :: .ref 105 :: .int (zI mt) :: .int (zI mfa) :: .ref 106 :: .ref 107 :: .ref 108 :: .int (zI mtn) :: .int (zI mtk) :: .int (zI mlv) :: .int (zI mbd) :: .int (zI mgo) :: .int (zI mge) :: .int (zI mbk) :: .ref 109 :: .int (zI mtt) :: .int (zI mtl) :: .ref 110 :: .ref 111 :: .ref 112 :: .ref 113 :: .ref 114 :: .ref 115 :: .ref 116 :: .ref 117 :: .int (zI z84) :: .int (zI z85) :: .int (zI z86) :: .int (zI sb) :: .ref 118 :: .ref 119 :: .ref 120 :: .ref 121 :: .ref 122 :: .ref 123 :: .ref 124 :: .ref 125 :: .ref 126 :: .ref 127 :: .ref 128 :: .ref 129 :: .int (zI mfu) :: .ref 130 :: .ref 131 :: .ref 132 :: .ref 133 :: .ref 134 :: .int (zI mdm) :: .int (zI mla) :: []))), (110, .inl (0, 8820, .inl (zA f87))), (111, .inl (0, 1260, .inl (zA f88))), (117, .inl (0, 7, .inl (zA f89))), (98, .inr (12, (.int (zI ms) :: .int (zI mv) :: .ref 99 :: .ref 100 :: .ref 101 :: .ref 102 :: .ref 103 :: .ref 104 :: .ref 105 :: .int (zI mt) :: .int (zI mfa) :: .ref 106 :: .ref 107 :: .ref 108 :: .int (zI mtn) :: .int (zI mtk) :: .int (zI mlv) :: .int (zI mbd) :: .int (zI mgo) :: .int (zI mge) :: .int (zI mbk) :: .ref 109 :: .int (zI mtt) :: .int (zI mtl) :: .ref 110 :: .ref 111 :: .ref 112 :: .ref 113 :: .ref 114 :: .ref 115 :: .ref 116 :: .ref 117 :: .int (zI z1) :: .int (zI z2) :: .int (zI z3) :: .int (zI sb) :: .ref 118 :: .ref 119 :: .ref 120 :: .ref 121 :: .ref 122 :: .ref 123 :: .ref 124 :: .ref 125 :: .ref 126 :: .ref 127 :: .ref 128 :: .ref 129 :: .int (zI mfu) :: .ref 130 :: .ref 131 :: .ref 132 :: .ref 133 :: .ref 134 :: .int (zI mdm) :: .int (zI mla) :: []))), (110, .inl (0, 8820, .inl (zA f4))), (111, .inl (0, 1260, .inl (zA f5))), (117, .inl (0, 7, .inl (zA f6)))]) rfl ?_
      refine J_mask (L2 := [(98, .inr (12, (.int (zI ms) :: .int (zI mv) :: .ref 99 :: .ref 100 :: .ref 101 :: .ref 102 :: .ref 103 :: .ref 104 :: .ref 105 :: .int (zI mt) :: .int (zI mfa) :: .ref 106 :: .ref 107 :: .ref 108 :: .int (zI mtn) :: .int (zI mtk) :: .int (zI mlv) :: .int (zI mbd) :: .int (zI mgo) :: .int (zI mge) :: .int (zI mbk) :: .ref 109 :: .int (zI mtt) :: .int (zI mtl) :: .ref 110 :: .ref 111 :: .ref 112 :: .ref 113 :: .ref 114 :: .ref 115 :: .ref 116 :: .ref 117 :: .int (zI z84) :: .int (zI z85) :: .int (zI z86) :: .int (zI sb) :: .ref 118 :: .ref 119 :: .ref 120 :: .ref 121 :: .ref 122 :: .ref 123 :: .ref 124 :: .ref 125 :: .ref 126 :: .ref 127 :: .ref 128 :: .ref 129 :: .int (zI mfu) :: .ref 130 :: .ref 131 :: .ref 132 :: .ref 133 :: .ref 134 :: .int (zI mdm) :: .int (zI mla) :: []))), (110, .inl (0, 8820, .inl (zA f87))), (111, .inl (0, 1260, .inl (zA f88))), (117, .inl (0, 7, .inl (zA f89)))]) (ks := [98, 110, 111, 117, 98, 110, 111, 117]) [true, true, true, true, false, false, false, false] rfl (by decide +kernel) rfl ?_
      refine Z_if_ne (tgt := 23) dX12_wall_13 (by decide) v_b17331891f (fun h126 => absurd h126 (fun q => q v_2ca2bbca1f)) (fun h126 => ?_)
      refine J_aload_n dX12_wall_16 rfl rfl ?_
      refine Z_bipush (n := -2) dX12_wall_17 (by decide +kernel) ?_
      refine J_callV (st := []) dX12_wall_19 cv_X12_142 (k_refuses (-2) rf7 ms mv mt mfa mtn mtk mlv mbd mgo mge mbk mtt mtl z84 z85 z86 sb mfu mdm mla v_c15e852b74 v_e7867eeafa rfl hk99) rfl rfl rfl (Nat.le_of_ble_eq_true rfl) ⟨(Nat.le_of_ble_eq_true rfl), (Nat.le_of_ble_eq_true rfl)⟩ ⟨(Nat.le_of_ble_eq_true rfl), (Nat.le_of_ble_eq_true rfl)⟩ (fun r h9 hp => ?_)
      obtain ⟨f127, rfl, rfl⟩ := hp
      refine J_nf (nh2 := nh) (ck2 := 0) (sk2 := 0) (st2 := [.int (zI (-2))]) rfl rfl rfl rfl ?_
      refine J_app (L3 := [(98, .inr (12, (.int (zI (-2)) :: .int (zI mv) :: .ref 99 :: .ref 100 :: .ref 101 :: .ref 102 :: .ref 103 :: .ref 104 :: .ref 105 :: .int (zI mt) :: .int (zI mfa) :: .ref 106 :: .ref 107 :: .ref 108 :: .int (zI mtn) :: .int (zI mtk) :: .int (zI mlv) :: .int (zI mbd) :: .int (zI mgo) :: .int (zI mge) :: .int (zI mbk) :: .ref 109 :: .int (zI mtt) :: .int (zI mtl) :: .ref 110 :: .ref 111 :: .ref 112 :: .ref 113 :: .ref 114 :: .ref 115 :: .ref 116 :: .ref 117 :: .int (zI z84) :: .int (zI z85) :: .int (zI z86) :: .int (zI sb) :: .ref 118 :: .ref 119 :: .ref 120 :: .ref 121 :: .ref 122 :: .ref 123 :: .ref 124 :: .ref 125 :: .ref 126 :: .ref 127 :: .ref 128 :: .ref 129 :: .int (zI mfu) :: .ref 130 :: .ref 131 :: .ref 132 :: .ref 133 :: .ref 134 :: .int (zI mdm) :: .int (zI mla) :: []))), (99, .inl (0, 7, .inl (zA f127))), (98, .inr (12, (.int (zI ms) :: .int (zI mv) :: .ref 99 :: .ref 100 :: .ref 101 :: .ref 102 :: .ref 103 :: .ref 104 :: .ref 105 :: .int (zI mt) :: .int (zI mfa) :: .ref 106 :: .ref 107 :: .ref 108 :: .int (zI mtn) :: .int (zI mtk) :: .int (zI mlv) :: .int (zI mbd) :: .int (zI mgo) :: .int (zI mge) :: .int (zI mbk) :: .ref 109 :: .int (zI mtt) :: .int (zI mtl) :: .ref 110 :: .ref 111 :: .ref 112 :: .ref 113 :: .ref 114 :: .ref 115 :: .ref 116 :: .ref 117 :: .int (zI z84) :: .int (zI z85) :: .int (zI z86) :: .int (zI sb) :: .ref 118 :: .ref 119 :: .ref 120 :: .ref 121 :: .ref 122 :: .ref 123 :: .ref 124 :: .ref 125 :: .ref 126 :: .ref 127 :: .ref 128 :: .ref 129 :: .int (zI mfu) :: .ref 130 :: .ref 131 :: .ref 132 :: .ref 133 :: .ref 134 :: .int (zI mdm) :: .int (zI mla) :: []))), (110, .inl (0, 8820, .inl (zA f87))), (111, .inl (0, 1260, .inl (zA f88))), (117, .inl (0, 7, .inl (zA f89)))]) rfl ?_
      refine J_mask (L2 := [(98, .inr (12, (.int (zI (-2)) :: .int (zI mv) :: .ref 99 :: .ref 100 :: .ref 101 :: .ref 102 :: .ref 103 :: .ref 104 :: .ref 105 :: .int (zI mt) :: .int (zI mfa) :: .ref 106 :: .ref 107 :: .ref 108 :: .int (zI mtn) :: .int (zI mtk) :: .int (zI mlv) :: .int (zI mbd) :: .int (zI mgo) :: .int (zI mge) :: .int (zI mbk) :: .ref 109 :: .int (zI mtt) :: .int (zI mtl) :: .ref 110 :: .ref 111 :: .ref 112 :: .ref 113 :: .ref 114 :: .ref 115 :: .ref 116 :: .ref 117 :: .int (zI z84) :: .int (zI z85) :: .int (zI z86) :: .int (zI sb) :: .ref 118 :: .ref 119 :: .ref 120 :: .ref 121 :: .ref 122 :: .ref 123 :: .ref 124 :: .ref 125 :: .ref 126 :: .ref 127 :: .ref 128 :: .ref 129 :: .int (zI mfu) :: .ref 130 :: .ref 131 :: .ref 132 :: .ref 133 :: .ref 134 :: .int (zI mdm) :: .int (zI mla) :: []))), (99, .inl (0, 7, .inl (zA f127))), (110, .inl (0, 8820, .inl (zA f87))), (111, .inl (0, 1260, .inl (zA f88))), (117, .inl (0, 7, .inl (zA f89)))]) (ks := [98, 99, 98, 110, 111, 117]) [true, true, false, true, true, true] rfl (by decide +kernel) rfl ?_
      exact J_iret dX12_wall_22 rfl rfl (Nat.le_of_ble_eq_true rfl) (Nat.le_of_ble_eq_true rfl) (Or.inl ⟨f127, z84, z85, z86, f87, f88, f89, rfl, rfl, (fun q => absurd q.2.2.2 (v_f9e33a7fad h90 h99)), h93, (v_621074fb26 q6 h98), (fun _ => ⟨h92, h90, h91⟩), (v_94d6d099ed h98)⟩)
  · refine J_nf (nh2 := nh) (ck2 := 0) (sk2 := 0) (st2 := [.int (zI 0)]) rfl rfl rfl rfl ?_
    refine J_app (L3 := [(98, .inr (12, (.int (zI ms) :: .int (zI mv) :: .ref 99 :: .ref 100 :: .ref 101 :: .ref 102 :: .ref 103 :: .ref 104 :: .ref 105 :: .int (zI mt) :: .int (zI mfa) :: .ref 106 :: .ref 107 :: .ref 108 :: .int (zI mtn) :: .int (zI mtk) :: .int (zI mlv) :: .int (zI mbd) :: .int (zI mgo) :: .int (zI mge) :: .int (zI mbk) :: .ref 109 :: .int (zI mtt) :: .int (zI mtl) :: .ref 110 :: .ref 111 :: .ref 112 :: .ref 113 :: .ref 114 :: .ref 115 :: .ref 116 :: .ref 117 :: .int (zI z18) :: .int (zI z19) :: .int (zI z20) :: .int (zI sb) :: .ref 118 :: .ref 119 :: .ref 120 :: .ref 121 :: .ref 122 :: .ref 123 :: .ref 124 :: .ref 125 :: .ref 126 :: .ref 127 :: .ref 128 :: .ref 129 :: .int (zI mfu) :: .ref 130 :: .ref 131 :: .ref 132 :: .ref 133 :: .ref 134 :: .int (zI mdm) :: .int (zI mla) :: []))), (110, .inl (0, 8820, .inl (zA f21))), (111, .inl (0, 1260, .inl (zA f22))), (117, .inl (0, 7, .inl (zA f23)))]) rfl ?_
    refine Z_if_eq (tgt := 16) dX12_wall_5 (by decide) v_b17331891f (fun h128 => ?_) (fun h128 => absurd h128 (fun q => q v_2ca2bbca1f))
    refine J_aload_n dX12_wall_16 rfl rfl ?_
    refine Z_bipush (n := -2) dX12_wall_17 (by decide +kernel) ?_
    refine J_callV (st := []) dX12_wall_19 cv_X12_142 (k_refuses (-2) rf7 ms mv mt mfa mtn mtk mlv mbd mgo mge mbk mtt mtl z18 z19 z20 sb mfu mdm mla v_c15e852b74 v_e7867eeafa rfl hk99) rfl rfl rfl (Nat.le_of_ble_eq_true rfl) ⟨(Nat.le_of_ble_eq_true rfl), (Nat.le_of_ble_eq_true rfl)⟩ ⟨(Nat.le_of_ble_eq_true rfl), (Nat.le_of_ble_eq_true rfl)⟩ (fun r h9 hp => ?_)
    obtain ⟨f129, rfl, rfl⟩ := hp
    refine J_nf (nh2 := nh) (ck2 := 0) (sk2 := 0) (st2 := [.int (zI (-2))]) rfl rfl rfl rfl ?_
    refine J_app (L3 := [(98, .inr (12, (.int (zI (-2)) :: .int (zI mv) :: .ref 99 :: .ref 100 :: .ref 101 :: .ref 102 :: .ref 103 :: .ref 104 :: .ref 105 :: .int (zI mt) :: .int (zI mfa) :: .ref 106 :: .ref 107 :: .ref 108 :: .int (zI mtn) :: .int (zI mtk) :: .int (zI mlv) :: .int (zI mbd) :: .int (zI mgo) :: .int (zI mge) :: .int (zI mbk) :: .ref 109 :: .int (zI mtt) :: .int (zI mtl) :: .ref 110 :: .ref 111 :: .ref 112 :: .ref 113 :: .ref 114 :: .ref 115 :: .ref 116 :: .ref 117 :: .int (zI z18) :: .int (zI z19) :: .int (zI z20) :: .int (zI sb) :: .ref 118 :: .ref 119 :: .ref 120 :: .ref 121 :: .ref 122 :: .ref 123 :: .ref 124 :: .ref 125 :: .ref 126 :: .ref 127 :: .ref 128 :: .ref 129 :: .int (zI mfu) :: .ref 130 :: .ref 131 :: .ref 132 :: .ref 133 :: .ref 134 :: .int (zI mdm) :: .int (zI mla) :: []))), (99, .inl (0, 7, .inl (zA f129))), (98, .inr (12, (.int (zI ms) :: .int (zI mv) :: .ref 99 :: .ref 100 :: .ref 101 :: .ref 102 :: .ref 103 :: .ref 104 :: .ref 105 :: .int (zI mt) :: .int (zI mfa) :: .ref 106 :: .ref 107 :: .ref 108 :: .int (zI mtn) :: .int (zI mtk) :: .int (zI mlv) :: .int (zI mbd) :: .int (zI mgo) :: .int (zI mge) :: .int (zI mbk) :: .ref 109 :: .int (zI mtt) :: .int (zI mtl) :: .ref 110 :: .ref 111 :: .ref 112 :: .ref 113 :: .ref 114 :: .ref 115 :: .ref 116 :: .ref 117 :: .int (zI z18) :: .int (zI z19) :: .int (zI z20) :: .int (zI sb) :: .ref 118 :: .ref 119 :: .ref 120 :: .ref 121 :: .ref 122 :: .ref 123 :: .ref 124 :: .ref 125 :: .ref 126 :: .ref 127 :: .ref 128 :: .ref 129 :: .int (zI mfu) :: .ref 130 :: .ref 131 :: .ref 132 :: .ref 133 :: .ref 134 :: .int (zI mdm) :: .int (zI mla) :: []))), (110, .inl (0, 8820, .inl (zA f21))), (111, .inl (0, 1260, .inl (zA f22))), (117, .inl (0, 7, .inl (zA f23)))]) rfl ?_
    refine J_mask (L2 := [(98, .inr (12, (.int (zI (-2)) :: .int (zI mv) :: .ref 99 :: .ref 100 :: .ref 101 :: .ref 102 :: .ref 103 :: .ref 104 :: .ref 105 :: .int (zI mt) :: .int (zI mfa) :: .ref 106 :: .ref 107 :: .ref 108 :: .int (zI mtn) :: .int (zI mtk) :: .int (zI mlv) :: .int (zI mbd) :: .int (zI mgo) :: .int (zI mge) :: .int (zI mbk) :: .ref 109 :: .int (zI mtt) :: .int (zI mtl) :: .ref 110 :: .ref 111 :: .ref 112 :: .ref 113 :: .ref 114 :: .ref 115 :: .ref 116 :: .ref 117 :: .int (zI z18) :: .int (zI z19) :: .int (zI z20) :: .int (zI sb) :: .ref 118 :: .ref 119 :: .ref 120 :: .ref 121 :: .ref 122 :: .ref 123 :: .ref 124 :: .ref 125 :: .ref 126 :: .ref 127 :: .ref 128 :: .ref 129 :: .int (zI mfu) :: .ref 130 :: .ref 131 :: .ref 132 :: .ref 133 :: .ref 134 :: .int (zI mdm) :: .int (zI mla) :: []))), (99, .inl (0, 7, .inl (zA f129))), (110, .inl (0, 8820, .inl (zA f21))), (111, .inl (0, 1260, .inl (zA f22))), (117, .inl (0, 7, .inl (zA f23)))]) (ks := [98, 99, 98, 110, 111, 117]) [true, true, false, true, true, true] rfl (by decide +kernel) rfl ?_
    exact J_iret dX12_wall_22 rfl rfl (Nat.le_of_ble_eq_true rfl) (Nat.le_of_ble_eq_true rfl) (Or.inl ⟨f129, z18, z19, z20, f21, f22, f23, rfl, rfl, (fun q => absurd q.1 (v_dccefa8cdf h33)), h27, (v_621074fb26 q6 h32), (fun _ => ⟨h26, h24, h25⟩), (v_94d6d099ed h32)⟩)
  · refine J_nf (nh2 := nh) (ck2 := 0) (sk2 := 0) (st2 := [.int (zI 0)]) rfl rfl rfl rfl ?_
    refine J_app (L3 := [(98, .inr (12, (.int (zI ms) :: .int (zI mv) :: .ref 99 :: .ref 100 :: .ref 101 :: .ref 102 :: .ref 103 :: .ref 104 :: .ref 105 :: .int (zI mt) :: .int (zI mfa) :: .ref 106 :: .ref 107 :: .ref 108 :: .int (zI mtn) :: .int (zI mtk) :: .int (zI mlv) :: .int (zI mbd) :: .int (zI mgo) :: .int (zI mge) :: .int (zI mbk) :: .ref 109 :: .int (zI mtt) :: .int (zI mtl) :: .ref 110 :: .ref 111 :: .ref 112 :: .ref 113 :: .ref 114 :: .ref 115 :: .ref 116 :: .ref 117 :: .int (zI z34) :: .int (zI z35) :: .int (zI z36) :: .int (zI sb) :: .ref 118 :: .ref 119 :: .ref 120 :: .ref 121 :: .ref 122 :: .ref 123 :: .ref 124 :: .ref 125 :: .ref 126 :: .ref 127 :: .ref 128 :: .ref 129 :: .int (zI mfu) :: .ref 130 :: .ref 131 :: .ref 132 :: .ref 133 :: .ref 134 :: .int (zI mdm) :: .int (zI mla) :: []))), (110, .inl (0, 8820, .inl (zA f37))), (111, .inl (0, 1260, .inl (zA f38))), (117, .inl (0, 7, .inl (zA f39)))]) rfl ?_
    refine Z_if_eq (tgt := 16) dX12_wall_5 (by decide) v_b17331891f (fun h130 => ?_) (fun h130 => absurd h130 (fun q => q v_2ca2bbca1f))
    refine J_aload_n dX12_wall_16 rfl rfl ?_
    refine Z_bipush (n := -2) dX12_wall_17 (by decide +kernel) ?_
    refine J_callV (st := []) dX12_wall_19 cv_X12_142 (k_refuses (-2) rf7 ms mv mt mfa mtn mtk mlv mbd mgo mge mbk mtt mtl z34 z35 z36 sb mfu mdm mla v_c15e852b74 v_e7867eeafa rfl hk99) rfl rfl rfl (Nat.le_of_ble_eq_true rfl) ⟨(Nat.le_of_ble_eq_true rfl), (Nat.le_of_ble_eq_true rfl)⟩ ⟨(Nat.le_of_ble_eq_true rfl), (Nat.le_of_ble_eq_true rfl)⟩ (fun r h9 hp => ?_)
    obtain ⟨f131, rfl, rfl⟩ := hp
    refine J_nf (nh2 := nh) (ck2 := 0) (sk2 := 0) (st2 := [.int (zI (-2))]) rfl rfl rfl rfl ?_
    refine J_app (L3 := [(98, .inr (12, (.int (zI (-2)) :: .int (zI mv) :: .ref 99 :: .ref 100 :: .ref 101 :: .ref 102 :: .ref 103 :: .ref 104 :: .ref 105 :: .int (zI mt) :: .int (zI mfa) :: .ref 106 :: .ref 107 :: .ref 108 :: .int (zI mtn) :: .int (zI mtk) :: .int (zI mlv) :: .int (zI mbd) :: .int (zI mgo) :: .int (zI mge) :: .int (zI mbk) :: .ref 109 :: .int (zI mtt) :: .int (zI mtl) :: .ref 110 :: .ref 111 :: .ref 112 :: .ref 113 :: .ref 114 :: .ref 115 :: .ref 116 :: .ref 117 :: .int (zI z34) :: .int (zI z35) :: .int (zI z36) :: .int (zI sb) :: .ref 118 :: .ref 119 :: .ref 120 :: .ref 121 :: .ref 122 :: .ref 123 :: .ref 124 :: .ref 125 :: .ref 126 :: .ref 127 :: .ref 128 :: .ref 129 :: .int (zI mfu) :: .ref 130 :: .ref 131 :: .ref 132 :: .ref 133 :: .ref 134 :: .int (zI mdm) :: .int (zI mla) :: []))), (99, .inl (0, 7, .inl (zA f131))), (98, .inr (12, (.int (zI ms) :: .int (zI mv) :: .ref 99 :: .ref 100 :: .ref 101 :: .ref 102 :: .ref 103 :: .ref 104 :: .ref 105 :: .int (zI mt) :: .int (zI mfa) :: .ref 106 :: .ref 107 :: .ref 108 :: .int (zI mtn) :: .int (zI mtk) :: .int (zI mlv) :: .int (zI mbd) :: .int (zI mgo) :: .int (zI mge) :: .int (zI mbk) :: .ref 109 :: .int (zI mtt) :: .int (zI mtl) :: .ref 110 :: .ref 111 :: .ref 112 :: .ref 113 :: .ref 114 :: .ref 115 :: .ref 116 :: .ref 117 :: .int (zI z34) :: .int (zI z35) :: .int (zI z36) :: .int (zI sb) :: .ref 118 :: .ref 119 :: .ref 120 :: .ref 121 :: .ref 122 :: .ref 123 :: .ref 124 :: .ref 125 :: .ref 126 :: .ref 127 :: .ref 128 :: .ref 129 :: .int (zI mfu) :: .ref 130 :: .ref 131 :: .ref 132 :: .ref 133 :: .ref 134 :: .int (zI mdm) :: .int (zI mla) :: []))), (110, .inl (0, 8820, .inl (zA f37))), (111, .inl (0, 1260, .inl (zA f38))), (117, .inl (0, 7, .inl (zA f39)))]) rfl ?_
    refine J_mask (L2 := [(98, .inr (12, (.int (zI (-2)) :: .int (zI mv) :: .ref 99 :: .ref 100 :: .ref 101 :: .ref 102 :: .ref 103 :: .ref 104 :: .ref 105 :: .int (zI mt) :: .int (zI mfa) :: .ref 106 :: .ref 107 :: .ref 108 :: .int (zI mtn) :: .int (zI mtk) :: .int (zI mlv) :: .int (zI mbd) :: .int (zI mgo) :: .int (zI mge) :: .int (zI mbk) :: .ref 109 :: .int (zI mtt) :: .int (zI mtl) :: .ref 110 :: .ref 111 :: .ref 112 :: .ref 113 :: .ref 114 :: .ref 115 :: .ref 116 :: .ref 117 :: .int (zI z34) :: .int (zI z35) :: .int (zI z36) :: .int (zI sb) :: .ref 118 :: .ref 119 :: .ref 120 :: .ref 121 :: .ref 122 :: .ref 123 :: .ref 124 :: .ref 125 :: .ref 126 :: .ref 127 :: .ref 128 :: .ref 129 :: .int (zI mfu) :: .ref 130 :: .ref 131 :: .ref 132 :: .ref 133 :: .ref 134 :: .int (zI mdm) :: .int (zI mla) :: []))), (99, .inl (0, 7, .inl (zA f131))), (110, .inl (0, 8820, .inl (zA f37))), (111, .inl (0, 1260, .inl (zA f38))), (117, .inl (0, 7, .inl (zA f39)))]) (ks := [98, 99, 98, 110, 111, 117]) [true, true, false, true, true, true] rfl (by decide +kernel) rfl ?_
    exact J_iret dX12_wall_22 rfl rfl (Nat.le_of_ble_eq_true rfl) (Nat.le_of_ble_eq_true rfl) (Or.inl ⟨f131, z34, z35, z36, f37, f38, f39, rfl, rfl, (fun q => absurd q.2.1 (v_f9e33a7fad h40 h49)), h43, (v_621074fb26 q6 h48), (fun _ => ⟨h42, h40, h41⟩), (v_94d6d099ed h48)⟩)
set_option maxHeartbeats 4000000 in
set_option maxRecDepth 100000 in
theorem k_breach {l : Launch} {G : jG} {nh : Nat} {fh : Nat → Option va_E} (x : Int) (y : Int) (ms : Int) (mv : Int) (mt : Int) (mfa : Int) (mtn : Int) (mtk : Int) (mlv : Int) (mbd : Int) (mgo : Int) (mge : Int) (mbk : Int) (mtt : Int) (mtl : Int) (hm : Int) (pm : Int) (hb : Int) (sb : Int) (mfu : Int) (mdm : Int) (mla : Int) (K : Int → Int) (co : Int → Int) (cd : Int → Int) (of : Int → Int) (rf7 : Int → Int) (q0 : zr x) (q1 : zr y) (q2 : KOK K) (q3 : hb ≤ mv) (q4 : Rg of 7 0 4) (q5 : zr hb) (q6 : zr mv) (q7 : hb = mv → HouT co cd K hm ∧ hm = Hi K ∧ pm = bsum K) (hk98 : fh 98 = some (.inr (12, (.int (zI ms) :: .int (zI mv) :: .ref 99 :: .ref 100 :: .ref 101 :: .ref 102 :: .ref 103 :: .ref 104 :: .ref 105 :: .int (zI mt) :: .int (zI mfa) :: .ref 106 :: .ref 107 :: .ref 108 :: .int (zI mtn) :: .int (zI mtk) :: .int (zI mlv) :: .int (zI mbd) :: .int (zI mgo) :: .int (zI mge) :: .int (zI mbk) :: .ref 109 :: .int (zI mtt) :: .int (zI mtl) :: .ref 110 :: .ref 111 :: .ref 112 :: .ref 113 :: .ref 114 :: .ref 115 :: .ref 116 :: .ref 117 :: .int (zI hm) :: .int (zI pm) :: .int (zI hb) :: .int (zI sb) :: .ref 118 :: .ref 119 :: .ref 120 :: .ref 121 :: .ref 122 :: .ref 123 :: .ref 124 :: .ref 125 :: .ref 126 :: .ref 127 :: .ref 128 :: .ref 129 :: .int (zI mfu) :: .ref 130 :: .ref 131 :: .ref 132 :: .ref 133 :: .ref 134 :: .int (zI mdm) :: .int (zI mla) :: [])))) (hk100 : fh 100 = some (.inl (0, 4870, .inl (zA K)))) (hk99 : fh 99 = some (.inl (0, 7, .inl (zA rf7)))) (hk110 : fh 110 = some (.inl (0, 8820, .inl (zA co)))) (hk111 : fh 111 = some (.inl (0, 1260, .inl (zA cd)))) (hk117 : fh 117 = some (.inl (0, 7, .inl (zA of)))) : JM l G yX12_breach MX12_breach { frames := 4, cells := 0, slots := 0, locals := 92 } [.ref 98, .int (zI x), .int (zI y)] (nh, fh) (fun rr h9 => (∃ rg7 : Int → Int, ∃ hm2 : Int, ∃ pm2 : Int, ∃ hb2 : Int, ∃ co2 : Int → Int, ∃ cd2 : Int → Int, ∃ of2 : Int → Int, rr = some (.int (zI (-2))) ∧ h9 = (nh, hc fh [(98, .inr (12, (.int (zI (-2)) :: .int (zI mv) :: .ref 99 :: .ref 100 :: .ref 101 :: .ref 102 :: .ref 103 :: .ref 104 :: .ref 105 :: .int (zI mt) :: .int (zI mfa) :: .ref 106 :: .ref 107 :: .ref 108 :: .int (zI mtn) :: .int (zI mtk) :: .int (zI mlv) :: .int (zI mbd) :: .int (zI mgo) :: .int (zI mge) :: .int (zI mbk) :: .ref 109 :: .int (zI mtt) :: .int (zI mtl) :: .ref 110 :: .ref 111 :: .ref 112 :: .ref 113 :: .ref 114 :: .ref 115 :: .ref 116 :: .ref 117 :: .int (zI hm2) :: .int (zI pm2) :: .int (zI hb2) :: .int (zI sb) :: .ref 118 :: .ref 119 :: .ref 120 :: .ref 121 :: .ref 122 :: .ref 123 :: .ref 124 :: .ref 125 :: .ref 126 :: .ref 127 :: .ref 128 :: .ref 129 :: .int (zI mfu) :: .ref 130 :: .ref 131 :: .ref 132 :: .ref 133 :: .ref 134 :: .int (zI mdm) :: .int (zI mla) :: []))), (99, .inl (0, 7, .inl (zA rg7))), (110, .inl (0, 8820, .inl (zA co2))), (111, .inl (0, 1260, .inl (zA cd2))), (117, .inl (0, 7, .inl (zA of2)))]) ∧ (¬ isB x y (Hi K)) ∧ (Rg of2 7 0 4) ∧ (zr hb2) ∧ (hb2 = mv → HouT co2 cd2 K hm2 ∧ hm2 = Hi K ∧ pm2 = bsum K) ∧ (hb2 ≤ mv)) ∨ (∃ rg7 : Int → Int, ∃ hm2 : Int, ∃ pm2 : Int, ∃ hb2 : Int, ∃ co2 : Int → Int, ∃ cd2 : Int → Int, ∃ of2 : Int → Int, rr = some (.int (zI (-3))) ∧ h9 = (nh, hc fh [(98, .inr (12, (.int (zI (-3)) :: .int (zI mv) :: .ref 99 :: .ref 100 :: .ref 101 :: .ref 102 :: .ref 103 :: .ref 104 :: .ref 105 :: .int (zI mt) :: .int (zI mfa) :: .ref 106 :: .ref 107 :: .ref 108 :: .int (zI mtn) :: .int (zI mtk) :: .int (zI mlv) :: .int (zI mbd) :: .int (zI mgo) :: .int (zI mge) :: .int (zI mbk) :: .ref 109 :: .int (zI mtt) :: .int (zI mtl) :: .ref 110 :: .ref 111 :: .ref 112 :: .ref 113 :: .ref 114 :: .ref 115 :: .ref 116 :: .ref 117 :: .int (zI hm2) :: .int (zI pm2) :: .int (zI hb2) :: .int (zI sb) :: .ref 118 :: .ref 119 :: .ref 120 :: .ref 121 :: .ref 122 :: .ref 123 :: .ref 124 :: .ref 125 :: .ref 126 :: .ref 127 :: .ref 128 :: .ref 129 :: .int (zI mfu) :: .ref 130 :: .ref 131 :: .ref 132 :: .ref 133 :: .ref 134 :: .int (zI mdm) :: .int (zI mla) :: []))), (99, .inl (0, 7, .inl (zA rg7))), (110, .inl (0, 8820, .inl (zA co2))), (111, .inl (0, 1260, .inl (zA cd2))), (117, .inl (0, 7, .inl (zA of2)))]) ∧ (isB x y (Hi K)) ∧ (x = y ∨ WNo (od K 7) (od K 8) (K 59) x y) ∧ (Rg of2 7 0 4) ∧ (zr hb2) ∧ (hb2 = mv → HouT co2 cd2 K hm2 ∧ hm2 = Hi K ∧ pm2 = bsum K) ∧ (hb2 ≤ mv)) ∨ (∃ K2 : Int → Int, ∃ r : Int, ∃ hm2 : Int, ∃ pm2 : Int, ∃ hb2 : Int, ∃ co2 : Int → Int, ∃ cd2 : Int → Int, ∃ of2 : Int → Int, rr = some (.int (zI r)) ∧ h9 = (nh, hc fh [(98, .inr (12, (.int (zI 0) :: .int (zI (mv + 1)) :: .ref 99 :: .ref 100 :: .ref 101 :: .ref 102 :: .ref 103 :: .ref 104 :: .ref 105 :: .int (zI mt) :: .int (zI mfa) :: .ref 106 :: .ref 107 :: .ref 108 :: .int (zI mtn) :: .int (zI mtk) :: .int (zI mlv) :: .int (zI mbd) :: .int (zI mgo) :: .int (zI mge) :: .int (zI mbk) :: .ref 109 :: .int (zI mtt) :: .int (zI mtl) :: .ref 110 :: .ref 111 :: .ref 112 :: .ref 113 :: .ref 114 :: .ref 115 :: .ref 116 :: .ref 117 :: .int (zI hm2) :: .int (zI pm2) :: .int (zI hb2) :: .int (zI sb) :: .ref 118 :: .ref 119 :: .ref 120 :: .ref 121 :: .ref 122 :: .ref 123 :: .ref 124 :: .ref 125 :: .ref 126 :: .ref 127 :: .ref 128 :: .ref 129 :: .int (zI mfu) :: .ref 130 :: .ref 131 :: .ref 132 :: .ref 133 :: .ref 134 :: .int (zI mdm) :: .int (zI mla) :: []))), (100, .inl (0, 4870, .inl (zA K2))), (110, .inl (0, 8820, .inl (zA co2))), (111, .inl (0, 1260, .inl (zA cd2))), (117, .inl (0, 7, .inl (zA of2)))]) ∧ (KOK K2) ∧ (isB x y (Hi K)) ∧ (¬ x = y) ∧ (¬ WNo (od K 7) (od K 8) (K 59) x y) ∧ (BrX K K2 x y) ∧ (K2 59 = r) ∧ (Rg of2 7 0 4) ∧ (zr hb2) ∧ (hb2 = mv → HouT co2 cd2 K hm2 ∧ hm2 = Hi K ∧ pm2 = bsum K) ∧ (hb2 ≤ mv))) := by
  refine JM.of (by decide) rfl (fun h => by cases h) (Nat.le_of_ble_eq_true rfl) ⟨4, rfl⟩ ?_
  refine J_hc0 (J_ls (ls2 := [some (.ref 98), some (.int (zI x)), some (.int (zI y)), none, none, none, none]) rfl ?_)
  refine J_aload_n dX12_breach_0 rfl rfl ?_
  refine J_iload_n dX12_breach_1 rfl rfl ?_
  refine J_callV (st := []) dX12_breach_2 cv_X12_325 (k_isHouse x ms mv mt mfa mtn mtk mlv mbd mgo mge mbk mtt mtl hm pm hb sb mfu mdm mla K co cd of q0 q2.1 q4 q5 q6 q7 hk98 hk100 hk110 hk111 hk117) hk98 rfl rfl (Nat.le_of_ble_eq_true rfl) ⟨(Nat.le_of_ble_eq_true rfl), (Nat.le_of_ble_eq_true rfl)⟩ ⟨(Nat.le_of_ble_eq_true rfl), (Nat.le_of_ble_eq_true rfl)⟩ (fun r h9 hp => ?_)
  rcases hp with ⟨z1, z2, z3, f4, f5, f6, rfl, rfl, h7, h8, h9, h10, h11, h12, h13, h14, h15, h16, h17⟩ | ⟨z18, z19, z20, f21, f22, f23, rfl, rfl, h24, h25, h26, h27, h28, h29, h30, h31, h32, h33⟩ | ⟨z34, z35, z36, f37, f38, f39, rfl, rfl, h40, h41, h42, h43, h44, h45, h46, h47, h48, h49⟩
  · refine J_nf (nh2 := nh) (ck2 := 0) (sk2 := 0) (st2 := [.int (zI 1)]) rfl rfl rfl rfl ?_
    refine J_app (L3 := [(98, .inr (12, (.int (zI ms) :: .int (zI mv) :: .ref 99 :: .ref 100 :: .ref 101 :: .ref 102 :: .ref 103 :: .ref 104 :: .ref 105 :: .int (zI mt) :: .int (zI mfa) :: .ref 106 :: .ref 107 :: .ref 108 :: .int (zI mtn) :: .int (zI mtk) :: .int (zI mlv) :: .int (zI mbd) :: .int (zI mgo) :: .int (zI mge) :: .int (zI mbk) :: .ref 109 :: .int (zI mtt) :: .int (zI mtl) :: .ref 110 :: .ref 111 :: .ref 112 :: .ref 113 :: .ref 114 :: .ref 115 :: .ref 116 :: .ref 117 :: .int (zI z1) :: .int (zI z2) :: .int (zI z3) :: .int (zI sb) :: .ref 118 :: .ref 119 :: .ref 120 :: .ref 121 :: .ref 122 :: .ref 123 :: .ref 124 :: .ref 125 :: .ref 126 :: .ref 127 :: .ref 128 :: .ref 129 :: .int (zI mfu) :: .ref 130 :: .ref 131 :: .ref 132 :: .ref 133 :: .ref 134 :: .int (zI mdm) :: .int (zI mla) :: []))), (110, .inl (0, 8820, .inl (zA f4))), (111, .inl (0, 1260, .inl (zA f5))), (117, .inl (0, 7, .inl (zA f6)))]) rfl ?_
    refine Z_if_eq (tgt := 16) dX12_breach_5 (by decide) v_4dcc24baa7 (fun h50 => absurd h50 v_3a47bfd896) (fun h50 => ?_)
    refine J_aload_n dX12_breach_8 rfl rfl ?_
    refine J_iload_n dX12_breach_9 rfl rfl ?_
    refine J_callV (st := []) dX12_breach_10 cv_X12_325 (k_isHouse y ms mv mt mfa mtn mtk mlv mbd mgo mge mbk mtt mtl z1 z2 z3 sb mfu mdm mla K f4 f5 f6 q1 q2.1 h10 (v_621074fb26 q6 h15) q6 (fun _ => ⟨h9, h7, h8⟩) rfl hk100 rfl rfl rfl) rfl rfl rfl (Nat.le_of_ble_eq_true rfl) ⟨(Nat.le_of_ble_eq_true rfl), (Nat.le_of_ble_eq_true rfl)⟩ ⟨(Nat.le_of_ble_eq_true rfl), (Nat.le_of_ble_eq_true rfl)⟩ (fun r h9 hp => ?_)
    rcases hp with ⟨z51, z52, z53, f54, f55, f56, rfl, rfl, h57, h58, h59, h60, h61, h62, h63, h64, h65, h66, h67⟩ | ⟨z68, z69, z70, f71, f72, f73, rfl, rfl, h74, h75, h76, h77, h78, h79, h80, h81, h82, h83⟩ | ⟨z84, z85, z86, f87, f88, f89, rfl, rfl, h90, h91, h92, h93, h94, h95, h96, h97, h98, h99⟩
    · refine J_nf (nh2 := nh) (ck2 := 0) (sk2 := 0) (st2 := [.int (zI 1)]) rfl rfl rfl rfl ?_
      refine J_app (L3 := [(98, .inr (12, (.int (zI ms) :: .int (zI mv) :: .ref 99 :: .ref 100 :: .ref 101 :: .ref 102 :: .ref 103 :: .ref 104 :: .ref 105 :: .int (zI mt) :: .int (zI mfa) :: .ref 106 :: .ref 107 :: .ref 108 :: .int (zI mtn) :: .int (zI mtk) :: .int (zI mlv) :: .int (zI mbd) :: .int (zI mgo) :: .int (zI mge) :: .int (zI mbk) :: .ref 109 :: .int (zI mtt) :: .int (zI mtl) :: .ref 110 :: .ref 111 :: .ref 112 :: .ref 113 :: .ref 114 :: .ref 115 :: .ref 116 :: .ref 117 :: .int (zI z51) :: .int (zI z52) :: .int (zI z53) :: .int (zI sb) :: .ref 118 :: .ref 119 :: .ref 120 :: .ref 121 :: .ref 122 :: .ref 123 :: .ref 124 :: .ref 125 :: .ref 126 :: .ref 127 :: .ref 128 :: .ref 129 :: .int (zI mfu) :: .ref 130 :: .ref 131 :: .ref 132 :: .ref 133 :: .ref 134 :: .int (zI mdm) :: .int (zI mla) :: []))), (110, .inl (0, 8820, .inl (zA f54))), (111, .inl (0, 1260, .inl (zA f55))), (117, .inl (0, 7, .inl (zA f56))), (98, .inr (12, (.int (zI ms) :: .int (zI mv) :: .ref 99 :: .ref 100 :: .ref 101 :: .ref 102 :: .ref 103 :: .ref 104 :: .ref 105 :: .int (zI mt) :: .int (zI mfa) :: .ref 106 :: .ref 107 :: .ref 108 :: .int (zI mtn) :: .int (zI mtk) :: .int (zI mlv) :: .int (zI mbd) :: .int (zI mgo) :: .int (zI mge) :: .int (zI mbk) :: .ref 109 :: .int (zI mtt) :: .int (zI mtl) :: .ref 110 :: .ref 111 :: .ref 112 :: .ref 113 :: .ref 114 :: .ref 115 :: .ref 116 :: .ref 117 :: .int (zI z1) :: .int (zI z2) :: .int (zI z3) :: .int (zI sb) :: .ref 118 :: .ref 119 :: .ref 120 :: .ref 121 :: .ref 122 :: .ref 123 :: .ref 124 :: .ref 125 :: .ref 126 :: .ref 127 :: .ref 128 :: .ref 129 :: .int (zI mfu) :: .ref 130 :: .ref 131 :: .ref 132 :: .ref 133 :: .ref 134 :: .int (zI mdm) :: .int (zI mla) :: []))), (110, .inl (0, 8820, .inl (zA f4))), (111, .inl (0, 1260, .inl (zA f5))), (117, .inl (0, 7, .inl (zA f6)))]) rfl ?_
      refine J_mask (L2 := [(98, .inr (12, (.int (zI ms) :: .int (zI mv) :: .ref 99 :: .ref 100 :: .ref 101 :: .ref 102 :: .ref 103 :: .ref 104 :: .ref 105 :: .int (zI mt) :: .int (zI mfa) :: .ref 106 :: .ref 107 :: .ref 108 :: .int (zI mtn) :: .int (zI mtk) :: .int (zI mlv) :: .int (zI mbd) :: .int (zI mgo) :: .int (zI mge) :: .int (zI mbk) :: .ref 109 :: .int (zI mtt) :: .int (zI mtl) :: .ref 110 :: .ref 111 :: .ref 112 :: .ref 113 :: .ref 114 :: .ref 115 :: .ref 116 :: .ref 117 :: .int (zI z51) :: .int (zI z52) :: .int (zI z53) :: .int (zI sb) :: .ref 118 :: .ref 119 :: .ref 120 :: .ref 121 :: .ref 122 :: .ref 123 :: .ref 124 :: .ref 125 :: .ref 126 :: .ref 127 :: .ref 128 :: .ref 129 :: .int (zI mfu) :: .ref 130 :: .ref 131 :: .ref 132 :: .ref 133 :: .ref 134 :: .int (zI mdm) :: .int (zI mla) :: []))), (110, .inl (0, 8820, .inl (zA f54))), (111, .inl (0, 1260, .inl (zA f55))), (117, .inl (0, 7, .inl (zA f56)))]) (ks := [98, 110, 111, 117, 98, 110, 111, 117]) [true, true, true, true, false, false, false, false] rfl (by decide +kernel) rfl ?_
      refine Z_if_ne (tgt := 23) dX12_breach_13 (by decide) v_4dcc24baa7 (fun h100 => ?_) (fun h100 => absurd h100 v_3a47bfd896)
      refine J_iload_n dX12_breach_23 rfl rfl ?_
      refine J_iload_n dX12_breach_24 rfl rfl ?_
      refine Z_icmp_eq (tgt := 37) dX12_breach_25 (by decide) (v_e33502de53 q0 h16) (v_e33502de53 q1 h66) (fun h101 => ?_) (fun h101 => ?_)
      · refine J_aload_n dX12_breach_37 rfl rfl ?_
        refine Z_bipush (n := -3) dX12_breach_38 (by decide +kernel) ?_
        refine J_callV (st := []) dX12_breach_40 cv_X12_142 (k_refuses (-3) rf7 ms mv mt mfa mtn mtk mlv mbd mgo mge mbk mtt mtl z51 z52 z53 sb mfu mdm mla v_36df96dc2b v_6d3f6df9c9 rfl hk99) rfl rfl rfl (Nat.le_of_ble_eq_true rfl) ⟨(Nat.le_of_ble_eq_true rfl), (Nat.le_of_ble_eq_true rfl)⟩ ⟨(Nat.le_of_ble_eq_true rfl), (Nat.le_of_ble_eq_true rfl)⟩ (fun r h9 hp => ?_)
        obtain ⟨f102, rfl, rfl⟩ := hp
        refine J_nf (nh2 := nh) (ck2 := 0) (sk2 := 0) (st2 := [.int (zI (-3))]) rfl rfl rfl rfl ?_
        refine J_app (L3 := [(98, .inr (12, (.int (zI (-3)) :: .int (zI mv) :: .ref 99 :: .ref 100 :: .ref 101 :: .ref 102 :: .ref 103 :: .ref 104 :: .ref 105 :: .int (zI mt) :: .int (zI mfa) :: .ref 106 :: .ref 107 :: .ref 108 :: .int (zI mtn) :: .int (zI mtk) :: .int (zI mlv) :: .int (zI mbd) :: .int (zI mgo) :: .int (zI mge) :: .int (zI mbk) :: .ref 109 :: .int (zI mtt) :: .int (zI mtl) :: .ref 110 :: .ref 111 :: .ref 112 :: .ref 113 :: .ref 114 :: .ref 115 :: .ref 116 :: .ref 117 :: .int (zI z51) :: .int (zI z52) :: .int (zI z53) :: .int (zI sb) :: .ref 118 :: .ref 119 :: .ref 120 :: .ref 121 :: .ref 122 :: .ref 123 :: .ref 124 :: .ref 125 :: .ref 126 :: .ref 127 :: .ref 128 :: .ref 129 :: .int (zI mfu) :: .ref 130 :: .ref 131 :: .ref 132 :: .ref 133 :: .ref 134 :: .int (zI mdm) :: .int (zI mla) :: []))), (99, .inl (0, 7, .inl (zA f102))), (98, .inr (12, (.int (zI ms) :: .int (zI mv) :: .ref 99 :: .ref 100 :: .ref 101 :: .ref 102 :: .ref 103 :: .ref 104 :: .ref 105 :: .int (zI mt) :: .int (zI mfa) :: .ref 106 :: .ref 107 :: .ref 108 :: .int (zI mtn) :: .int (zI mtk) :: .int (zI mlv) :: .int (zI mbd) :: .int (zI mgo) :: .int (zI mge) :: .int (zI mbk) :: .ref 109 :: .int (zI mtt) :: .int (zI mtl) :: .ref 110 :: .ref 111 :: .ref 112 :: .ref 113 :: .ref 114 :: .ref 115 :: .ref 116 :: .ref 117 :: .int (zI z51) :: .int (zI z52) :: .int (zI z53) :: .int (zI sb) :: .ref 118 :: .ref 119 :: .ref 120 :: .ref 121 :: .ref 122 :: .ref 123 :: .ref 124 :: .ref 125 :: .ref 126 :: .ref 127 :: .ref 128 :: .ref 129 :: .int (zI mfu) :: .ref 130 :: .ref 131 :: .ref 132 :: .ref 133 :: .ref 134 :: .int (zI mdm) :: .int (zI mla) :: []))), (110, .inl (0, 8820, .inl (zA f54))), (111, .inl (0, 1260, .inl (zA f55))), (117, .inl (0, 7, .inl (zA f56)))]) rfl ?_
        refine J_mask (L2 := [(98, .inr (12, (.int (zI (-3)) :: .int (zI mv) :: .ref 99 :: .ref 100 :: .ref 101 :: .ref 102 :: .ref 103 :: .ref 104 :: .ref 105 :: .int (zI mt) :: .int (zI mfa) :: .ref 106 :: .ref 107 :: .ref 108 :: .int (zI mtn) :: .int (zI mtk) :: .int (zI mlv) :: .int (zI mbd) :: .int (zI mgo) :: .int (zI mge) :: .int (zI mbk) :: .ref 109 :: .int (zI mtt) :: .int (zI mtl) :: .ref 110 :: .ref 111 :: .ref 112 :: .ref 113 :: .ref 114 :: .ref 115 :: .ref 116 :: .ref 117 :: .int (zI z51) :: .int (zI z52) :: .int (zI z53) :: .int (zI sb) :: .ref 118 :: .ref 119 :: .ref 120 :: .ref 121 :: .ref 122 :: .ref 123 :: .ref 124 :: .ref 125 :: .ref 126 :: .ref 127 :: .ref 128 :: .ref 129 :: .int (zI mfu) :: .ref 130 :: .ref 131 :: .ref 132 :: .ref 133 :: .ref 134 :: .int (zI mdm) :: .int (zI mla) :: []))), (99, .inl (0, 7, .inl (zA f102))), (110, .inl (0, 8820, .inl (zA f54))), (111, .inl (0, 1260, .inl (zA f55))), (117, .inl (0, 7, .inl (zA f56)))]) (ks := [98, 99, 98, 110, 111, 117]) [true, true, false, true, true, true] rfl (by decide +kernel) rfl ?_
        exact J_iret dX12_breach_43 rfl rfl (Nat.le_of_ble_eq_true rfl) (Nat.le_of_ble_eq_true rfl) (Or.inr (Or.inl ⟨f102, z51, z52, z53, f54, f55, f56, rfl, rfl, (⟨(v_2b02420001 h16), (v_d7c2909a09 h7 h17), (v_2b02420001 h66), (v_d7c2909a09 h57 h67)⟩), (Or.inl (v_cd91a95e4e h101)), h60, (v_621074fb26 q6 h65), (fun _ => ⟨h59, h57, h58⟩), (v_94d6d099ed h65)⟩))
      · refine J_aload_n dX12_breach_28 rfl rfl ?_
        refine J_iload_n dX12_breach_29 rfl rfl ?_
        refine J_iload_n dX12_breach_30 rfl rfl ?_
        refine J_callV (st := []) dX12_breach_31 cv_X12_308 (k_hasWall x y K ms mv mt mfa mtn mtk mlv mbd mgo mge mbk mtt mtl z51 z52 z53 sb mfu mdm mla q0 q1 q2.2.1.1 q2.2.1.2 q2.2.2.2.2.2.2.2.2.1 rfl hk100) rfl rfl rfl (Nat.le_of_ble_eq_true rfl) ⟨(Nat.le_of_ble_eq_true rfl), (Nat.le_of_ble_eq_true rfl)⟩ ⟨(Nat.le_of_ble_eq_true rfl), (Nat.le_of_ble_eq_true rfl)⟩ (fun r h9 hp => ?_)
        rcases hp with ⟨rfl, rfl, h103⟩ | ⟨rfl, rfl, h104⟩
        · refine J_nf (nh2 := nh) (ck2 := 0) (sk2 := 0) (st2 := [.int (zI 1)]) rfl rfl rfl rfl ?_
          refine Z_if_ne (tgt := 44) dX12_breach_34 (by decide) v_4dcc24baa7 (fun h105 => ?_) (fun h105 => absurd h105 v_3a47bfd896)
          refine Z_iconst (n := 0) dX12_breach_44 ?_
          refine J_istore_n dX12_breach_45 rfl (Nat.le_of_ble_eq_true rfl) rfl ?_
          refine J_ls (ls2 := [some (.ref 98), some (.int (zI x)), some (.int (zI y)), some (.int (zI 0)), none, none, none]) rfl ?_
          refine Z_iconst (n := 0) dX12_breach_46 ?_
          refine J_istore dX12_breach_47 (Nat.le_of_ble_eq_true rfl) rfl ?_
          refine J_ls (ls2 := [some (.ref 98), some (.int (zI x)), some (.int (zI y)), some (.int (zI 0)), some (.int (zI 0)), none, none]) rfl ?_
          refine J_touch (k := 100) (e := .inl (0, 4870, .inl (zA K))) hk100 ?_
          have lp49 : ∀ (N49 : Nat) (n_49 : Int) (k_49 : Int) (Kx_49 : Int → Int), (0 ≤ n_49) → (n_49 ≤ k_49) → (k_49 ≤ K 59) → (KOK Kx_49) → (Kx_49 59 = K 59) → (OutW Kx_49 K) → (FlK K Kx_49 n_49 k_49 x y) → (K 59 - k_49).toNat < N49 → J l G MX12_breach { frames := 4, cells := 0, slots := 0, locals := 92 } jE (jMQ G { frames := 4, cells := 0, slots := 0, locals := 92 } (fun rr h9 => (∃ rg7 : Int → Int, ∃ hm2 : Int, ∃ pm2 : Int, ∃ hb2 : Int, ∃ co2 : Int → Int, ∃ cd2 : Int → Int, ∃ of2 : Int → Int, rr = some (.int (zI (-2))) ∧ h9 = (nh, hc fh [(98, .inr (12, (.int (zI (-2)) :: .int (zI mv) :: .ref 99 :: .ref 100 :: .ref 101 :: .ref 102 :: .ref 103 :: .ref 104 :: .ref 105 :: .int (zI mt) :: .int (zI mfa) :: .ref 106 :: .ref 107 :: .ref 108 :: .int (zI mtn) :: .int (zI mtk) :: .int (zI mlv) :: .int (zI mbd) :: .int (zI mgo) :: .int (zI mge) :: .int (zI mbk) :: .ref 109 :: .int (zI mtt) :: .int (zI mtl) :: .ref 110 :: .ref 111 :: .ref 112 :: .ref 113 :: .ref 114 :: .ref 115 :: .ref 116 :: .ref 117 :: .int (zI hm2) :: .int (zI pm2) :: .int (zI hb2) :: .int (zI sb) :: .ref 118 :: .ref 119 :: .ref 120 :: .ref 121 :: .ref 122 :: .ref 123 :: .ref 124 :: .ref 125 :: .ref 126 :: .ref 127 :: .ref 128 :: .ref 129 :: .int (zI mfu) :: .ref 130 :: .ref 131 :: .ref 132 :: .ref 133 :: .ref 134 :: .int (zI mdm) :: .int (zI mla) :: []))), (99, .inl (0, 7, .inl (zA rg7))), (110, .inl (0, 8820, .inl (zA co2))), (111, .inl (0, 1260, .inl (zA cd2))), (117, .inl (0, 7, .inl (zA of2)))]) ∧ (¬ isB x y (Hi K)) ∧ (Rg of2 7 0 4) ∧ (zr hb2) ∧ (hb2 = mv → HouT co2 cd2 K hm2 ∧ hm2 = Hi K ∧ pm2 = bsum K) ∧ (hb2 ≤ mv)) ∨ (∃ rg7 : Int → Int, ∃ hm2 : Int, ∃ pm2 : Int, ∃ hb2 : Int, ∃ co2 : Int → Int, ∃ cd2 : Int → Int, ∃ of2 : Int → Int, rr = some (.int (zI (-3))) ∧ h9 = (nh, hc fh [(98, .inr (12, (.int (zI (-3)) :: .int (zI mv) :: .ref 99 :: .ref 100 :: .ref 101 :: .ref 102 :: .ref 103 :: .ref 104 :: .ref 105 :: .int (zI mt) :: .int (zI mfa) :: .ref 106 :: .ref 107 :: .ref 108 :: .int (zI mtn) :: .int (zI mtk) :: .int (zI mlv) :: .int (zI mbd) :: .int (zI mgo) :: .int (zI mge) :: .int (zI mbk) :: .ref 109 :: .int (zI mtt) :: .int (zI mtl) :: .ref 110 :: .ref 111 :: .ref 112 :: .ref 113 :: .ref 114 :: .ref 115 :: .ref 116 :: .ref 117 :: .int (zI hm2) :: .int (zI pm2) :: .int (zI hb2) :: .int (zI sb) :: .ref 118 :: .ref 119 :: .ref 120 :: .ref 121 :: .ref 122 :: .ref 123 :: .ref 124 :: .ref 125 :: .ref 126 :: .ref 127 :: .ref 128 :: .ref 129 :: .int (zI mfu) :: .ref 130 :: .ref 131 :: .ref 132 :: .ref 133 :: .ref 134 :: .int (zI mdm) :: .int (zI mla) :: []))), (99, .inl (0, 7, .inl (zA rg7))), (110, .inl (0, 8820, .inl (zA co2))), (111, .inl (0, 1260, .inl (zA cd2))), (117, .inl (0, 7, .inl (zA of2)))]) ∧ (isB x y (Hi K)) ∧ (x = y ∨ WNo (od K 7) (od K 8) (K 59) x y) ∧ (Rg of2 7 0 4) ∧ (zr hb2) ∧ (hb2 = mv → HouT co2 cd2 K hm2 ∧ hm2 = Hi K ∧ pm2 = bsum K) ∧ (hb2 ≤ mv)) ∨ (∃ K2 : Int → Int, ∃ r : Int, ∃ hm2 : Int, ∃ pm2 : Int, ∃ hb2 : Int, ∃ co2 : Int → Int, ∃ cd2 : Int → Int, ∃ of2 : Int → Int, rr = some (.int (zI r)) ∧ h9 = (nh, hc fh [(98, .inr (12, (.int (zI 0) :: .int (zI (mv + 1)) :: .ref 99 :: .ref 100 :: .ref 101 :: .ref 102 :: .ref 103 :: .ref 104 :: .ref 105 :: .int (zI mt) :: .int (zI mfa) :: .ref 106 :: .ref 107 :: .ref 108 :: .int (zI mtn) :: .int (zI mtk) :: .int (zI mlv) :: .int (zI mbd) :: .int (zI mgo) :: .int (zI mge) :: .int (zI mbk) :: .ref 109 :: .int (zI mtt) :: .int (zI mtl) :: .ref 110 :: .ref 111 :: .ref 112 :: .ref 113 :: .ref 114 :: .ref 115 :: .ref 116 :: .ref 117 :: .int (zI hm2) :: .int (zI pm2) :: .int (zI hb2) :: .int (zI sb) :: .ref 118 :: .ref 119 :: .ref 120 :: .ref 121 :: .ref 122 :: .ref 123 :: .ref 124 :: .ref 125 :: .ref 126 :: .ref 127 :: .ref 128 :: .ref 129 :: .int (zI mfu) :: .ref 130 :: .ref 131 :: .ref 132 :: .ref 133 :: .ref 134 :: .int (zI mdm) :: .int (zI mla) :: []))), (100, .inl (0, 4870, .inl (zA K2))), (110, .inl (0, 8820, .inl (zA co2))), (111, .inl (0, 1260, .inl (zA cd2))), (117, .inl (0, 7, .inl (zA of2)))]) ∧ (KOK K2) ∧ (isB x y (Hi K)) ∧ (¬ x = y) ∧ (¬ WNo (od K 7) (od K 8) (K 59) x y) ∧ (BrX K K2 x y) ∧ (K2 59 = r) ∧ (Rg of2 7 0 4) ∧ (zr hb2) ∧ (hb2 = mv → HouT co2 cd2 K hm2 ∧ hm2 = Hi K ∧ pm2 = bsum K) ∧ (hb2 ≤ mv)))) (nh, hc fh [(100, .inl (0, 4870, .inl (zA Kx_49))), (98, .inr (12, (.int (zI ms) :: .int (zI mv) :: .ref 99 :: .ref 100 :: .ref 101 :: .ref 102 :: .ref 103 :: .ref 104 :: .ref 105 :: .int (zI mt) :: .int (zI mfa) :: .ref 106 :: .ref 107 :: .ref 108 :: .int (zI mtn) :: .int (zI mtk) :: .int (zI mlv) :: .int (zI mbd) :: .int (zI mgo) :: .int (zI mge) :: .int (zI mbk) :: .ref 109 :: .int (zI mtt) :: .int (zI mtl) :: .ref 110 :: .ref 111 :: .ref 112 :: .ref 113 :: .ref 114 :: .ref 115 :: .ref 116 :: .ref 117 :: .int (zI z51) :: .int (zI z52) :: .int (zI z53) :: .int (zI sb) :: .ref 118 :: .ref 119 :: .ref 120 :: .ref 121 :: .ref 122 :: .ref 123 :: .ref 124 :: .ref 125 :: .ref 126 :: .ref 127 :: .ref 128 :: .ref 129 :: .int (zI mfu) :: .ref 130 :: .ref 131 :: .ref 132 :: .ref 133 :: .ref 134 :: .int (zI mdm) :: .int (zI mla) :: []))), (110, .inl (0, 8820, .inl (zA f54))), (111, .inl (0, 1260, .inl (zA f55))), (117, .inl (0, 7, .inl (zA f56)))]) 0 0 49 [some (.ref 98), some (.int (zI x)), some (.int (zI y)), some (.int (zI n_49)), some (.int (zI k_49)), none, none] [] := by
            intro N49
            induction N49 with
            | zero => intro n_49 k_49 Kx_49 i49_0 i49_1 i49_2 i49_3 i49_4 i49_5 i49_6 hm; exact absurd hm (Nat.not_lt_zero _)
            | succ N49 ih49 =>
              intro n_49 k_49 Kx_49 i49_0 i49_1 i49_2 i49_3 i49_4 i49_5 i49_6 hm49
              refine J_iload dX12_breach_49 rfl ?_
              refine J_aload_n dX12_breach_51 rfl rfl ?_
              refine J_get (v := .ref 100) dX12_breach_52 fl_X12_20 rfl rfl ?_
              refine Z_bipush (n := 59) dX12_breach_55 (by decide +kernel) ?_
              obtain ⟨z106, ez106⟩ : ∃ z : Int, Kx_49 59 = z := ⟨_, rfl⟩
              have h107 := Rg.at i49_3.2.2.2.2.2.2.2.2.1 v_891b05d1c3 v_028d633eb8 ez106
              refine Y_iald (z := z106) 4870 dX12_breach_57 rfl rfl (by decide) v_891b05d1c3 v_028d633eb8 ez106 ?_
              refine Z_icmp_ge (tgt := 155) dX12_breach_58 (by decide) (v_99b8374d62 q2.2.1.2 i49_0 i49_1 i49_2) (v_f306e1cdb8 h107.1 h107.2) (fun h108 => ?_) (fun h108 => ?_)
              · refine J_aload_n dX12_breach_155 rfl rfl ?_
                refine J_get (v := .ref 100) dX12_breach_156 fl_X12_20 rfl rfl ?_
                refine Z_bipush (n := 59) dX12_breach_159 (by decide +kernel) ?_
                refine J_iload_n dX12_breach_161 rfl rfl ?_
                refine Y_iast (v := n_49) 4870 dX12_breach_162 rfl rfl (by decide) v_891b05d1c3 v_028d633eb8 (fun f109 ef109 => ?_)
                have h110 : Rg f109 4870 (-2147483648) 2147483647 := Rg.ups i49_3.2.2.2.2.2.2.2.2.1 ef109 (v_c11e42827f i49_0) (v_dc84ea83fb q2.2.1.2 i49_1 i49_2)
                refine J_aload_n dX12_breach_163 rfl rfl ?_
                refine J_iload_n dX12_breach_164 rfl rfl ?_
                refine J_callV (st := []) dX12_breach_165 cv_X12_146 (k_good n_49 ms mv mt mfa mtn mtk mlv mbd mgo mge mbk mtt mtl z51 z52 z53 sb mfu mdm mla rfl) rfl rfl rfl (Nat.le_of_ble_eq_true rfl) ⟨(Nat.le_of_ble_eq_true rfl), (Nat.le_of_ble_eq_true rfl)⟩ ⟨(Nat.le_of_ble_eq_true rfl), (Nat.le_of_ble_eq_true rfl)⟩ (fun r h9 hp => ?_)
                obtain ⟨rfl, rfl⟩ := hp
                refine J_nf (nh2 := nh) (ck2 := 0) (sk2 := 0) (st2 := [.int (zI n_49)]) rfl rfl rfl rfl ?_
                refine J_app (L3 := [(98, .inr (12, (.int (zI 0) :: .int (zI (mv + 1)) :: .ref 99 :: .ref 100 :: .ref 101 :: .ref 102 :: .ref 103 :: .ref 104 :: .ref 105 :: .int (zI mt) :: .int (zI mfa) :: .ref 106 :: .ref 107 :: .ref 108 :: .int (zI mtn) :: .int (zI mtk) :: .int (zI mlv) :: .int (zI mbd) :: .int (zI mgo) :: .int (zI mge) :: .int (zI mbk) :: .ref 109 :: .int (zI mtt) :: .int (zI mtl) :: .ref 110 :: .ref 111 :: .ref 112 :: .ref 113 :: .ref 114 :: .ref 115 :: .ref 116 :: .ref 117 :: .int (zI z51) :: .int (zI z52) :: .int (zI z53) :: .int (zI sb) :: .ref 118 :: .ref 119 :: .ref 120 :: .ref 121 :: .ref 122 :: .ref 123 :: .ref 124 :: .ref 125 :: .ref 126 :: .ref 127 :: .ref 128 :: .ref 129 :: .int (zI mfu) :: .ref 130 :: .ref 131 :: .ref 132 :: .ref 133 :: .ref 134 :: .int (zI mdm) :: .int (zI mla) :: []))), (100, .inl (0, 4870, .inl (zA f109))), (100, .inl (0, 4870, .inl (zA Kx_49))), (98, .inr (12, (.int (zI ms) :: .int (zI mv) :: .ref 99 :: .ref 100 :: .ref 101 :: .ref 102 :: .ref 103 :: .ref 104 :: .ref 105 :: .int (zI mt) :: .int (zI mfa) :: .ref 106 :: .ref 107 :: .ref 108 :: .int (zI mtn) :: .int (zI mtk) :: .int (zI mlv) :: .int (zI mbd) :: .int (zI mgo) :: .int (zI mge) :: .int (zI mbk) :: .ref 109 :: .int (zI mtt) :: .int (zI mtl) :: .ref 110 :: .ref 111 :: .ref 112 :: .ref 113 :: .ref 114 :: .ref 115 :: .ref 116 :: .ref 117 :: .int (zI z51) :: .int (zI z52) :: .int (zI z53) :: .int (zI sb) :: .ref 118 :: .ref 119 :: .ref 120 :: .ref 121 :: .ref 122 :: .ref 123 :: .ref 124 :: .ref 125 :: .ref 126 :: .ref 127 :: .ref 128 :: .ref 129 :: .int (zI mfu) :: .ref 130 :: .ref 131 :: .ref 132 :: .ref 133 :: .ref 134 :: .int (zI mdm) :: .int (zI mla) :: []))), (110, .inl (0, 8820, .inl (zA f54))), (111, .inl (0, 1260, .inl (zA f55))), (117, .inl (0, 7, .inl (zA f56)))]) rfl ?_
                refine J_mask (L2 := [(98, .inr (12, (.int (zI 0) :: .int (zI (mv + 1)) :: .ref 99 :: .ref 100 :: .ref 101 :: .ref 102 :: .ref 103 :: .ref 104 :: .ref 105 :: .int (zI mt) :: .int (zI mfa) :: .ref 106 :: .ref 107 :: .ref 108 :: .int (zI mtn) :: .int (zI mtk) :: .int (zI mlv) :: .int (zI mbd) :: .int (zI mgo) :: .int (zI mge) :: .int (zI mbk) :: .ref 109 :: .int (zI mtt) :: .int (zI mtl) :: .ref 110 :: .ref 111 :: .ref 112 :: .ref 113 :: .ref 114 :: .ref 115 :: .ref 116 :: .ref 117 :: .int (zI z51) :: .int (zI z52) :: .int (zI z53) :: .int (zI sb) :: .ref 118 :: .ref 119 :: .ref 120 :: .ref 121 :: .ref 122 :: .ref 123 :: .ref 124 :: .ref 125 :: .ref 126 :: .ref 127 :: .ref 128 :: .ref 129 :: .int (zI mfu) :: .ref 130 :: .ref 131 :: .ref 132 :: .ref 133 :: .ref 134 :: .int (zI mdm) :: .int (zI mla) :: []))), (100, .inl (0, 4870, .inl (zA f109))), (110, .inl (0, 8820, .inl (zA f54))), (111, .inl (0, 1260, .inl (zA f55))), (117, .inl (0, 7, .inl (zA f56)))]) (ks := [98, 100, 100, 98, 110, 111, 117]) [true, true, false, false, true, true, true] rfl (by decide +kernel) rfl ?_
                exact J_iret dX12_breach_168 rfl rfl (Nat.le_of_ble_eq_true rfl) (Nat.le_of_ble_eq_true rfl) (Or.inr (Or.inr ⟨f109, n_49, z51, z52, z53, f54, f55, f56, rfl, rfl, (KOK.w59 i49_3 ef109 (v_2b02420001 i49_0) (v_e383326f8e q2.2.1.2 i49_1 i49_2)), (⟨(v_2b02420001 h16), (v_d7c2909a09 h7 h17), (v_2b02420001 h66), (v_d7c2909a09 h57 h67)⟩), h101, h103, (BrX_of i49_6 i49_5 ef109 (v_6657282877 i49_2 i49_4 ez106 h108)), (by rw [ef109]; exact up_same _ _ _), h60, (v_621074fb26 q6 h65), (fun _ => ⟨h59, h57, h58⟩), (v_94d6d099ed h65)⟩))
              · refine J_aload_n dX12_breach_61 rfl rfl ?_
                refine J_get (v := .ref 100) dX12_breach_62 fl_X12_20 rfl rfl ?_
                refine Z_bipush (n := 7) dX12_breach_65 (by decide +kernel) ?_
                refine Z_iconst (n := 2) dX12_breach_67 ?_
                refine J_iload dX12_breach_68 rfl ?_
                refine Z_imul (c := 2 * k_49) dX12_breach_70 rfl ?_
                refine Z_iadd (c := 2 * k_49 + 7) dX12_breach_71 v_3e4b903c63 ?_
                obtain ⟨z111, ez111⟩ : ∃ z : Int, Kx_49 (2 * k_49 + 7) = z := ⟨_, rfl⟩
                have h112 := Rg.at i49_3.2.2.2.2.2.2.2.2.1 (v_59303eb6ee i49_0 i49_1) (v_8cb1863ae6 q2.2.1.2 i49_2) ez111
                refine Y_iald (z := z111) 4870 dX12_breach_72 rfl rfl (by decide) (v_59303eb6ee i49_0 i49_1) (v_8cb1863ae6 q2.2.1.2 i49_2) ez111 ?_
                refine J_istore dX12_breach_73 (Nat.le_of_ble_eq_true rfl) rfl ?_
                refine J_ls (ls2 := [some (.ref 98), some (.int (zI x)), some (.int (zI y)), some (.int (zI n_49)), some (.int (zI k_49)), some (.int (zI z111)), none]) rfl ?_
                refine J_aload_n dX12_breach_75 rfl rfl ?_
                refine J_get (v := .ref 100) dX12_breach_76 fl_X12_20 rfl rfl ?_
                refine Z_bipush (n := 7) dX12_breach_79 (by decide +kernel) ?_
                refine Z_iconst (n := 2) dX12_breach_81 ?_
                refine J_iload dX12_breach_82 rfl ?_
                refine Z_imul (c := 2 * k_49) dX12_breach_84 rfl ?_
                refine Z_iadd (c := 2 * k_49 + 7) dX12_breach_85 v_3e4b903c63 ?_
                refine Z_iconst (n := 1) dX12_breach_86 ?_
                refine Z_iadd (c := 2 * k_49 + 8) dX12_breach_87 v_7118128835 ?_
                obtain ⟨z113, ez113⟩ : ∃ z : Int, Kx_49 (2 * k_49 + 8) = z := ⟨_, rfl⟩
                have h114 := Rg.at i49_3.2.2.2.2.2.2.2.2.1 (v_10c075efa1 i49_0 i49_1) (v_e3fa7f1e71 q2.2.1.2 i49_2) ez113
                refine Y_iald (z := z113) 4870 dX12_breach_88 rfl rfl (by decide) (v_10c075efa1 i49_0 i49_1) (v_e3fa7f1e71 q2.2.1.2 i49_2) ez113 ?_
                refine J_istore dX12_breach_89 (Nat.le_of_ble_eq_true rfl) rfl ?_
                refine J_ls (ls2 := [some (.ref 98), some (.int (zI x)), some (.int (zI y)), some (.int (zI n_49)), some (.int (zI k_49)), some (.int (zI z111)), some (.int (zI z113))]) rfl ?_
                refine J_iload dX12_breach_91 rfl ?_
                refine J_iload_n dX12_breach_93 rfl rfl ?_
                refine Z_icmp_ne (tgt := 103) dX12_breach_94 (by decide) (v_f306e1cdb8 h112.1 h112.2) (v_e33502de53 q0 h16) (fun h115 => ?_) (fun h115 => ?_)
                · refine J_iload dX12_breach_103 rfl ?_
                  refine J_iload_n dX12_breach_105 rfl rfl ?_
                  refine Z_icmp_ne (tgt := 118) dX12_breach_106 (by decide) (v_f306e1cdb8 h112.1 h112.2) (v_e33502de53 q1 h66) (fun h116 => ?_) (fun h116 => ?_)
                  · refine J_aload_n dX12_breach_118 rfl rfl ?_
                    refine J_get (v := .ref 100) dX12_breach_119 fl_X12_20 rfl rfl ?_
                    refine Z_bipush (n := 7) dX12_breach_122 (by decide +kernel) ?_
                    refine Z_iconst (n := 2) dX12_breach_124 ?_
                    refine J_iload_n dX12_breach_125 rfl rfl ?_
                    refine Z_imul (c := 2 * n_49) dX12_breach_126 rfl ?_
                    refine Z_iadd (c := 2 * n_49 + 7) dX12_breach_127 v_3e4b903c63 ?_
                    refine J_iload dX12_breach_128 rfl ?_
                    refine Y_iast (v := z111) 4870 dX12_breach_130 rfl rfl (by decide) (v_d8a521b453 i49_0) (v_b127e92e84 q2.2.1.2 i49_1 i49_2) (fun f117 ef117 => ?_)
                    have h118 : Rg f117 4870 (-2147483648) 2147483647 := Rg.ups i49_3.2.2.2.2.2.2.2.2.1 ef117 (v_d88ddc6924 h112.1) (v_1b64565166 h112.2)
                    refine J_aload_n dX12_breach_131 rfl rfl ?_
                    refine J_get (v := .ref 100) dX12_breach_132 fl_X12_20 rfl rfl ?_
                    refine Z_bipush (n := 7) dX12_breach_135 (by decide +kernel) ?_
                    refine Z_iconst (n := 2) dX12_breach_137 ?_
                    refine J_iload_n dX12_breach_138 rfl rfl ?_
                    refine Z_imul (c := 2 * n_49) dX12_breach_139 rfl ?_
                    refine Z_iadd (c := 2 * n_49 + 7) dX12_breach_140 v_3e4b903c63 ?_
                    refine Z_iconst (n := 1) dX12_breach_141 ?_
                    refine Z_iadd (c := 2 * n_49 + 8) dX12_breach_142 v_7118128835 ?_
                    refine J_iload dX12_breach_143 rfl ?_
                    refine Y_iast (v := z113) 4870 dX12_breach_145 rfl rfl (by decide) (v_ea20a10f10 i49_0) (v_feeddcd260 q2.2.1.2 i49_1 i49_2) (fun f119 ef119 => ?_)
                    have h120 : Rg f119 4870 (-2147483648) 2147483647 := Rg.ups h118 ef119 (v_d88ddc6924 h114.1) (v_1b64565166 h114.2)
                    refine Z_iinc (c := n_49 + 1) (ls2 := [some (.ref 98), some (.int (zI x)), some (.int (zI y)), some (.int (zI (n_49 + 1))), some (.int (zI k_49)), some (.int (zI z111)), some (.int (zI z113))]) dX12_breach_146 rfl (Nat.le_of_ble_eq_true rfl) rfl rfl rfl ?_
                    refine Z_iinc (c := k_49 + 1) (ls2 := [some (.ref 98), some (.int (zI x)), some (.int (zI y)), some (.int (zI (n_49 + 1))), some (.int (zI (k_49 + 1))), some (.int (zI z111)), some (.int (zI z113))]) dX12_breach_149 rfl (Nat.le_of_ble_eq_true rfl) rfl rfl rfl ?_
                    refine J_goto (tgt := 49) dX12_breach_152 (by decide) ?_
                    refine J_mask (L2 := [(100, .inl (0, 4870, .inl (zA f119))), (98, .inr (12, (.int (zI ms) :: .int (zI mv) :: .ref 99 :: .ref 100 :: .ref 101 :: .ref 102 :: .ref 103 :: .ref 104 :: .ref 105 :: .int (zI mt) :: .int (zI mfa) :: .ref 106 :: .ref 107 :: .ref 108 :: .int (zI mtn) :: .int (zI mtk) :: .int (zI mlv) :: .int (zI mbd) :: .int (zI mgo) :: .int (zI mge) :: .int (zI mbk) :: .ref 109 :: .int (zI mtt) :: .int (zI mtl) :: .ref 110 :: .ref 111 :: .ref 112 :: .ref 113 :: .ref 114 :: .ref 115 :: .ref 116 :: .ref 117 :: .int (zI z51) :: .int (zI z52) :: .int (zI z53) :: .int (zI sb) :: .ref 118 :: .ref 119 :: .ref 120 :: .ref 121 :: .ref 122 :: .ref 123 :: .ref 124 :: .ref 125 :: .ref 126 :: .ref 127 :: .ref 128 :: .ref 129 :: .int (zI mfu) :: .ref 130 :: .ref 131 :: .ref 132 :: .ref 133 :: .ref 134 :: .int (zI mdm) :: .int (zI mla) :: []))), (110, .inl (0, 8820, .inl (zA f54))), (111, .inl (0, 1260, .inl (zA f55))), (117, .inl (0, 7, .inl (zA f56)))]) (ks := [100, 100, 100, 98, 110, 111, 117]) [true, false, false, true, true, true, true] rfl (by decide +kernel) rfl ?_
                    refine J_drop (ls2 := [some (.ref 98), some (.int (zI x)), some (.int (zI y)), some (.int (zI (n_49 + 1))), some (.int (zI (k_49 + 1))), none, none]) [true, true, true, true, true, false, false] rfl ?_
                    exact ih49 (n_49 + 1) (k_49 + 1) f119 (v_da458fa48a i49_0) (v_14fc63d1f2 i49_1) (v_ed68225989 i49_4 ez106 h108) ((KOK.put (KOK.put i49_3 ef117 (v_9d0b01dfcf i49_0) (v_b6241fe5fd q2.2.1.2 i49_1 i49_4 ez106 h108) (v_d88ddc6924 h112.1) (v_1b64565166 h112.2)) ef119 (v_dde2124068 i49_0) (v_490f4bdb67 q2.2.1.2 i49_1 i49_4 ez106 h108) (v_d88ddc6924 h114.1) (v_1b64565166 h114.2))) (by rw [ef119, up_ne (v_02fca1104d q2.2.1.2 i49_1 i49_2), ef117, up_ne (v_dce11d5be0 q2.2.1.2 i49_1 i49_2)]; exact i49_4) (OutW.two i49_5 ef117 (v_dce9a314b4 i49_0) (v_53daa85aae q2.2.1.2 i49_1 i49_4 ez106 h108) ef119 (v_d28d210b1c i49_0) (v_4ab8372722 q2.2.1.2 i49_1 i49_4 ez106 h108)) (FlK.copy i49_6 (v_21976c7318 i49_0 i49_1) (v_35cdb1a1c7 q2.2.1.2 i49_4 ez106 h108) i49_0 i49_1 ez111 ez113 ef117 v_539b1ad598 ef119 v_d6e74d39d7 (by show ¬ WP z111 z113 x y; omega)) (meas_lt v_90eacd6fd4 (v_3a1fe48dfa i49_4 ez106 h108) hm49)
                  · refine J_iload dX12_breach_109 rfl ?_
                    refine J_iload_n dX12_breach_111 rfl rfl ?_
                    refine Z_icmp_ne (tgt := 118) dX12_breach_112 (by decide) (v_f306e1cdb8 h114.1 h114.2) (v_e33502de53 q0 h16) (fun h121 => ?_) (fun h121 => ?_)
                    · refine J_aload_n dX12_breach_118 rfl rfl ?_
                      refine J_get (v := .ref 100) dX12_breach_119 fl_X12_20 rfl rfl ?_
                      refine Z_bipush (n := 7) dX12_breach_122 (by decide +kernel) ?_
                      refine Z_iconst (n := 2) dX12_breach_124 ?_
                      refine J_iload_n dX12_breach_125 rfl rfl ?_
                      refine Z_imul (c := 2 * n_49) dX12_breach_126 rfl ?_
                      refine Z_iadd (c := 2 * n_49 + 7) dX12_breach_127 v_3e4b903c63 ?_
                      refine J_iload dX12_breach_128 rfl ?_
                      refine Y_iast (v := z111) 4870 dX12_breach_130 rfl rfl (by decide) (v_d8a521b453 i49_0) (v_b127e92e84 q2.2.1.2 i49_1 i49_2) (fun f122 ef122 => ?_)
                      have h123 : Rg f122 4870 (-2147483648) 2147483647 := Rg.ups i49_3.2.2.2.2.2.2.2.2.1 ef122 (v_d88ddc6924 h112.1) (v_1b64565166 h112.2)
                      refine J_aload_n dX12_breach_131 rfl rfl ?_
                      refine J_get (v := .ref 100) dX12_breach_132 fl_X12_20 rfl rfl ?_
                      refine Z_bipush (n := 7) dX12_breach_135 (by decide +kernel) ?_
                      refine Z_iconst (n := 2) dX12_breach_137 ?_
                      refine J_iload_n dX12_breach_138 rfl rfl ?_
                      refine Z_imul (c := 2 * n_49) dX12_breach_139 rfl ?_
                      refine Z_iadd (c := 2 * n_49 + 7) dX12_breach_140 v_3e4b903c63 ?_
                      refine Z_iconst (n := 1) dX12_breach_141 ?_
                      refine Z_iadd (c := 2 * n_49 + 8) dX12_breach_142 v_7118128835 ?_
                      refine J_iload dX12_breach_143 rfl ?_
                      refine Y_iast (v := z113) 4870 dX12_breach_145 rfl rfl (by decide) (v_ea20a10f10 i49_0) (v_feeddcd260 q2.2.1.2 i49_1 i49_2) (fun f124 ef124 => ?_)
                      have h125 : Rg f124 4870 (-2147483648) 2147483647 := Rg.ups h123 ef124 (v_d88ddc6924 h114.1) (v_1b64565166 h114.2)
                      refine Z_iinc (c := n_49 + 1) (ls2 := [some (.ref 98), some (.int (zI x)), some (.int (zI y)), some (.int (zI (n_49 + 1))), some (.int (zI k_49)), some (.int (zI z111)), some (.int (zI z113))]) dX12_breach_146 rfl (Nat.le_of_ble_eq_true rfl) rfl rfl rfl ?_
                      refine Z_iinc (c := k_49 + 1) (ls2 := [some (.ref 98), some (.int (zI x)), some (.int (zI y)), some (.int (zI (n_49 + 1))), some (.int (zI (k_49 + 1))), some (.int (zI z111)), some (.int (zI z113))]) dX12_breach_149 rfl (Nat.le_of_ble_eq_true rfl) rfl rfl rfl ?_
                      refine J_goto (tgt := 49) dX12_breach_152 (by decide) ?_
                      refine J_mask (L2 := [(100, .inl (0, 4870, .inl (zA f124))), (98, .inr (12, (.int (zI ms) :: .int (zI mv) :: .ref 99 :: .ref 100 :: .ref 101 :: .ref 102 :: .ref 103 :: .ref 104 :: .ref 105 :: .int (zI mt) :: .int (zI mfa) :: .ref 106 :: .ref 107 :: .ref 108 :: .int (zI mtn) :: .int (zI mtk) :: .int (zI mlv) :: .int (zI mbd) :: .int (zI mgo) :: .int (zI mge) :: .int (zI mbk) :: .ref 109 :: .int (zI mtt) :: .int (zI mtl) :: .ref 110 :: .ref 111 :: .ref 112 :: .ref 113 :: .ref 114 :: .ref 115 :: .ref 116 :: .ref 117 :: .int (zI z51) :: .int (zI z52) :: .int (zI z53) :: .int (zI sb) :: .ref 118 :: .ref 119 :: .ref 120 :: .ref 121 :: .ref 122 :: .ref 123 :: .ref 124 :: .ref 125 :: .ref 126 :: .ref 127 :: .ref 128 :: .ref 129 :: .int (zI mfu) :: .ref 130 :: .ref 131 :: .ref 132 :: .ref 133 :: .ref 134 :: .int (zI mdm) :: .int (zI mla) :: []))), (110, .inl (0, 8820, .inl (zA f54))), (111, .inl (0, 1260, .inl (zA f55))), (117, .inl (0, 7, .inl (zA f56)))]) (ks := [100, 100, 100, 98, 110, 111, 117]) [true, false, false, true, true, true, true] rfl (by decide +kernel) rfl ?_
                      refine J_drop (ls2 := [some (.ref 98), some (.int (zI x)), some (.int (zI y)), some (.int (zI (n_49 + 1))), some (.int (zI (k_49 + 1))), none, none]) [true, true, true, true, true, false, false] rfl ?_
                      exact ih49 (n_49 + 1) (k_49 + 1) f124 (v_da458fa48a i49_0) (v_14fc63d1f2 i49_1) (v_ed68225989 i49_4 ez106 h108) ((KOK.put (KOK.put i49_3 ef122 (v_9d0b01dfcf i49_0) (v_b6241fe5fd q2.2.1.2 i49_1 i49_4 ez106 h108) (v_d88ddc6924 h112.1) (v_1b64565166 h112.2)) ef124 (v_dde2124068 i49_0) (v_490f4bdb67 q2.2.1.2 i49_1 i49_4 ez106 h108) (v_d88ddc6924 h114.1) (v_1b64565166 h114.2))) (by rw [ef124, up_ne (v_02fca1104d q2.2.1.2 i49_1 i49_2), ef122, up_ne (v_dce11d5be0 q2.2.1.2 i49_1 i49_2)]; exact i49_4) (OutW.two i49_5 ef122 (v_dce9a314b4 i49_0) (v_53daa85aae q2.2.1.2 i49_1 i49_4 ez106 h108) ef124 (v_d28d210b1c i49_0) (v_4ab8372722 q2.2.1.2 i49_1 i49_4 ez106 h108)) (FlK.copy i49_6 (v_21976c7318 i49_0 i49_1) (v_35cdb1a1c7 q2.2.1.2 i49_4 ez106 h108) i49_0 i49_1 ez111 ez113 ef122 v_539b1ad598 ef124 v_d6e74d39d7 (by show ¬ WP z111 z113 x y; omega)) (meas_lt v_90eacd6fd4 (v_3a1fe48dfa i49_4 ez106 h108) hm49)
                    · refine J_goto (tgt := 149) dX12_breach_115 (by decide) ?_
                      refine Z_iinc (c := k_49 + 1) (ls2 := [some (.ref 98), some (.int (zI x)), some (.int (zI y)), some (.int (zI n_49)), some (.int (zI (k_49 + 1))), some (.int (zI z111)), some (.int (zI z113))]) dX12_breach_149 rfl (Nat.le_of_ble_eq_true rfl) rfl rfl rfl ?_
                      refine J_goto (tgt := 49) dX12_breach_152 (by decide) ?_
                      refine J_drop (ls2 := [some (.ref 98), some (.int (zI x)), some (.int (zI y)), some (.int (zI n_49)), some (.int (zI (k_49 + 1))), none, none]) [true, true, true, true, true, false, false] rfl ?_
                      exact ih49 n_49 (k_49 + 1) Kx_49 i49_0 (v_d50281bace i49_1) (v_ed68225989 i49_4 ez106 h108) (i49_3) (i49_4) (i49_5) (FlK.skip i49_6 (v_21976c7318 i49_0 i49_1) (v_35cdb1a1c7 q2.2.1.2 i49_4 ez106 h108) ez111 ez113 (by show WP z111 z113 x y; omega)) (meas_lt v_90eacd6fd4 (v_3a1fe48dfa i49_4 ez106 h108) hm49)
                · refine J_iload dX12_breach_97 rfl ?_
                  refine J_iload_n dX12_breach_99 rfl rfl ?_
                  refine Z_icmp_eq (tgt := 149) dX12_breach_100 (by decide) (v_f306e1cdb8 h114.1 h114.2) (v_e33502de53 q1 h66) (fun h126 => ?_) (fun h126 => ?_)
                  · refine Z_iinc (c := k_49 + 1) (ls2 := [some (.ref 98), some (.int (zI x)), some (.int (zI y)), some (.int (zI n_49)), some (.int (zI (k_49 + 1))), some (.int (zI z111)), some (.int (zI z113))]) dX12_breach_149 rfl (Nat.le_of_ble_eq_true rfl) rfl rfl rfl ?_
                    refine J_goto (tgt := 49) dX12_breach_152 (by decide) ?_
                    refine J_drop (ls2 := [some (.ref 98), some (.int (zI x)), some (.int (zI y)), some (.int (zI n_49)), some (.int (zI (k_49 + 1))), none, none]) [true, true, true, true, true, false, false] rfl ?_
                    exact ih49 n_49 (k_49 + 1) Kx_49 i49_0 (v_d50281bace i49_1) (v_ed68225989 i49_4 ez106 h108) (i49_3) (i49_4) (i49_5) (FlK.skip i49_6 (v_21976c7318 i49_0 i49_1) (v_35cdb1a1c7 q2.2.1.2 i49_4 ez106 h108) ez111 ez113 (by show WP z111 z113 x y; omega)) (meas_lt v_90eacd6fd4 (v_3a1fe48dfa i49_4 ez106 h108) hm49)
                  · refine J_iload dX12_breach_103 rfl ?_
                    refine J_iload_n dX12_breach_105 rfl rfl ?_
                    refine Z_icmp_ne (tgt := 118) dX12_breach_106 (by decide) (v_f306e1cdb8 h112.1 h112.2) (v_e33502de53 q1 h66) (fun h127 => ?_) (fun h127 => absurd h127 (v_c5bb7c5261 h101 h115))
                    refine J_aload_n dX12_breach_118 rfl rfl ?_
                    refine J_get (v := .ref 100) dX12_breach_119 fl_X12_20 rfl rfl ?_
                    refine Z_bipush (n := 7) dX12_breach_122 (by decide +kernel) ?_
                    refine Z_iconst (n := 2) dX12_breach_124 ?_
                    refine J_iload_n dX12_breach_125 rfl rfl ?_
                    refine Z_imul (c := 2 * n_49) dX12_breach_126 rfl ?_
                    refine Z_iadd (c := 2 * n_49 + 7) dX12_breach_127 v_3e4b903c63 ?_
                    refine J_iload dX12_breach_128 rfl ?_
                    refine Y_iast (v := z111) 4870 dX12_breach_130 rfl rfl (by decide) (v_d8a521b453 i49_0) (v_b127e92e84 q2.2.1.2 i49_1 i49_2) (fun f128 ef128 => ?_)
                    have h129 : Rg f128 4870 (-2147483648) 2147483647 := Rg.ups i49_3.2.2.2.2.2.2.2.2.1 ef128 (v_d88ddc6924 h112.1) (v_1b64565166 h112.2)
                    refine J_aload_n dX12_breach_131 rfl rfl ?_
                    refine J_get (v := .ref 100) dX12_breach_132 fl_X12_20 rfl rfl ?_
                    refine Z_bipush (n := 7) dX12_breach_135 (by decide +kernel) ?_
                    refine Z_iconst (n := 2) dX12_breach_137 ?_
                    refine J_iload_n dX12_breach_138 rfl rfl ?_
                    refine Z_imul (c := 2 * n_49) dX12_breach_139 rfl ?_
                    refine Z_iadd (c := 2 * n_49 + 7) dX12_breach_140 v_3e4b903c63 ?_
                    refine Z_iconst (n := 1) dX12_breach_141 ?_
                    refine Z_iadd (c := 2 * n_49 + 8) dX12_breach_142 v_7118128835 ?_
                    refine J_iload dX12_breach_143 rfl ?_
                    refine Y_iast (v := z113) 4870 dX12_breach_145 rfl rfl (by decide) (v_ea20a10f10 i49_0) (v_feeddcd260 q2.2.1.2 i49_1 i49_2) (fun f130 ef130 => ?_)
                    have h131 : Rg f130 4870 (-2147483648) 2147483647 := Rg.ups h129 ef130 (v_d88ddc6924 h114.1) (v_1b64565166 h114.2)
                    refine Z_iinc (c := n_49 + 1) (ls2 := [some (.ref 98), some (.int (zI x)), some (.int (zI y)), some (.int (zI (n_49 + 1))), some (.int (zI k_49)), some (.int (zI z111)), some (.int (zI z113))]) dX12_breach_146 rfl (Nat.le_of_ble_eq_true rfl) rfl rfl rfl ?_
                    refine Z_iinc (c := k_49 + 1) (ls2 := [some (.ref 98), some (.int (zI x)), some (.int (zI y)), some (.int (zI (n_49 + 1))), some (.int (zI (k_49 + 1))), some (.int (zI z111)), some (.int (zI z113))]) dX12_breach_149 rfl (Nat.le_of_ble_eq_true rfl) rfl rfl rfl ?_
                    refine J_goto (tgt := 49) dX12_breach_152 (by decide) ?_
                    refine J_mask (L2 := [(100, .inl (0, 4870, .inl (zA f130))), (98, .inr (12, (.int (zI ms) :: .int (zI mv) :: .ref 99 :: .ref 100 :: .ref 101 :: .ref 102 :: .ref 103 :: .ref 104 :: .ref 105 :: .int (zI mt) :: .int (zI mfa) :: .ref 106 :: .ref 107 :: .ref 108 :: .int (zI mtn) :: .int (zI mtk) :: .int (zI mlv) :: .int (zI mbd) :: .int (zI mgo) :: .int (zI mge) :: .int (zI mbk) :: .ref 109 :: .int (zI mtt) :: .int (zI mtl) :: .ref 110 :: .ref 111 :: .ref 112 :: .ref 113 :: .ref 114 :: .ref 115 :: .ref 116 :: .ref 117 :: .int (zI z51) :: .int (zI z52) :: .int (zI z53) :: .int (zI sb) :: .ref 118 :: .ref 119 :: .ref 120 :: .ref 121 :: .ref 122 :: .ref 123 :: .ref 124 :: .ref 125 :: .ref 126 :: .ref 127 :: .ref 128 :: .ref 129 :: .int (zI mfu) :: .ref 130 :: .ref 131 :: .ref 132 :: .ref 133 :: .ref 134 :: .int (zI mdm) :: .int (zI mla) :: []))), (110, .inl (0, 8820, .inl (zA f54))), (111, .inl (0, 1260, .inl (zA f55))), (117, .inl (0, 7, .inl (zA f56)))]) (ks := [100, 100, 100, 98, 110, 111, 117]) [true, false, false, true, true, true, true] rfl (by decide +kernel) rfl ?_
                    refine J_drop (ls2 := [some (.ref 98), some (.int (zI x)), some (.int (zI y)), some (.int (zI (n_49 + 1))), some (.int (zI (k_49 + 1))), none, none]) [true, true, true, true, true, false, false] rfl ?_
                    exact ih49 (n_49 + 1) (k_49 + 1) f130 (v_da458fa48a i49_0) (v_14fc63d1f2 i49_1) (v_ed68225989 i49_4 ez106 h108) ((KOK.put (KOK.put i49_3 ef128 (v_9d0b01dfcf i49_0) (v_b6241fe5fd q2.2.1.2 i49_1 i49_4 ez106 h108) (v_d88ddc6924 h112.1) (v_1b64565166 h112.2)) ef130 (v_dde2124068 i49_0) (v_490f4bdb67 q2.2.1.2 i49_1 i49_4 ez106 h108) (v_d88ddc6924 h114.1) (v_1b64565166 h114.2))) (by rw [ef130, up_ne (v_02fca1104d q2.2.1.2 i49_1 i49_2), ef128, up_ne (v_dce11d5be0 q2.2.1.2 i49_1 i49_2)]; exact i49_4) (OutW.two i49_5 ef128 (v_dce9a314b4 i49_0) (v_53daa85aae q2.2.1.2 i49_1 i49_4 ez106 h108) ef130 (v_d28d210b1c i49_0) (v_4ab8372722 q2.2.1.2 i49_1 i49_4 ez106 h108)) (FlK.copy i49_6 (v_21976c7318 i49_0 i49_1) (v_35cdb1a1c7 q2.2.1.2 i49_4 ez106 h108) i49_0 i49_1 ez111 ez113 ef128 v_539b1ad598 ef130 v_d6e74d39d7 (by show ¬ WP z111 z113 x y; omega)) (meas_lt v_90eacd6fd4 (v_3a1fe48dfa i49_4 ez106 h108) hm49)
          exact lp49 _ 0 0 K v_939070ca3f v_939070ca3f q2.2.1.1 (q2) (rfl) (fun _ _ => rfl) (FlK_0) (Nat.lt_succ_self _)
        · refine J_nf (nh2 := nh) (ck2 := 0) (sk2 := 0) (st2 := [.int (zI 0)]) rfl rfl rfl rfl ?_
          refine Z_if_ne (tgt := 44) dX12_breach_34 (by decide) v_b17331891f (fun h132 => absurd h132 (fun q => q v_2ca2bbca1f)) (fun h132 => ?_)
          refine J_aload_n dX12_breach_37 rfl rfl ?_
          refine Z_bipush (n := -3) dX12_breach_38 (by decide +kernel) ?_
          refine J_callV (st := []) dX12_breach_40 cv_X12_142 (k_refuses (-3) rf7 ms mv mt mfa mtn mtk mlv mbd mgo mge mbk mtt mtl z51 z52 z53 sb mfu mdm mla v_36df96dc2b v_6d3f6df9c9 rfl hk99) rfl rfl rfl (Nat.le_of_ble_eq_true rfl) ⟨(Nat.le_of_ble_eq_true rfl), (Nat.le_of_ble_eq_true rfl)⟩ ⟨(Nat.le_of_ble_eq_true rfl), (Nat.le_of_ble_eq_true rfl)⟩ (fun r h9 hp => ?_)
          obtain ⟨f133, rfl, rfl⟩ := hp
          refine J_nf (nh2 := nh) (ck2 := 0) (sk2 := 0) (st2 := [.int (zI (-3))]) rfl rfl rfl rfl ?_
          refine J_app (L3 := [(98, .inr (12, (.int (zI (-3)) :: .int (zI mv) :: .ref 99 :: .ref 100 :: .ref 101 :: .ref 102 :: .ref 103 :: .ref 104 :: .ref 105 :: .int (zI mt) :: .int (zI mfa) :: .ref 106 :: .ref 107 :: .ref 108 :: .int (zI mtn) :: .int (zI mtk) :: .int (zI mlv) :: .int (zI mbd) :: .int (zI mgo) :: .int (zI mge) :: .int (zI mbk) :: .ref 109 :: .int (zI mtt) :: .int (zI mtl) :: .ref 110 :: .ref 111 :: .ref 112 :: .ref 113 :: .ref 114 :: .ref 115 :: .ref 116 :: .ref 117 :: .int (zI z51) :: .int (zI z52) :: .int (zI z53) :: .int (zI sb) :: .ref 118 :: .ref 119 :: .ref 120 :: .ref 121 :: .ref 122 :: .ref 123 :: .ref 124 :: .ref 125 :: .ref 126 :: .ref 127 :: .ref 128 :: .ref 129 :: .int (zI mfu) :: .ref 130 :: .ref 131 :: .ref 132 :: .ref 133 :: .ref 134 :: .int (zI mdm) :: .int (zI mla) :: []))), (99, .inl (0, 7, .inl (zA f133))), (98, .inr (12, (.int (zI ms) :: .int (zI mv) :: .ref 99 :: .ref 100 :: .ref 101 :: .ref 102 :: .ref 103 :: .ref 104 :: .ref 105 :: .int (zI mt) :: .int (zI mfa) :: .ref 106 :: .ref 107 :: .ref 108 :: .int (zI mtn) :: .int (zI mtk) :: .int (zI mlv) :: .int (zI mbd) :: .int (zI mgo) :: .int (zI mge) :: .int (zI mbk) :: .ref 109 :: .int (zI mtt) :: .int (zI mtl) :: .ref 110 :: .ref 111 :: .ref 112 :: .ref 113 :: .ref 114 :: .ref 115 :: .ref 116 :: .ref 117 :: .int (zI z51) :: .int (zI z52) :: .int (zI z53) :: .int (zI sb) :: .ref 118 :: .ref 119 :: .ref 120 :: .ref 121 :: .ref 122 :: .ref 123 :: .ref 124 :: .ref 125 :: .ref 126 :: .ref 127 :: .ref 128 :: .ref 129 :: .int (zI mfu) :: .ref 130 :: .ref 131 :: .ref 132 :: .ref 133 :: .ref 134 :: .int (zI mdm) :: .int (zI mla) :: []))), (110, .inl (0, 8820, .inl (zA f54))), (111, .inl (0, 1260, .inl (zA f55))), (117, .inl (0, 7, .inl (zA f56)))]) rfl ?_
          refine J_mask (L2 := [(98, .inr (12, (.int (zI (-3)) :: .int (zI mv) :: .ref 99 :: .ref 100 :: .ref 101 :: .ref 102 :: .ref 103 :: .ref 104 :: .ref 105 :: .int (zI mt) :: .int (zI mfa) :: .ref 106 :: .ref 107 :: .ref 108 :: .int (zI mtn) :: .int (zI mtk) :: .int (zI mlv) :: .int (zI mbd) :: .int (zI mgo) :: .int (zI mge) :: .int (zI mbk) :: .ref 109 :: .int (zI mtt) :: .int (zI mtl) :: .ref 110 :: .ref 111 :: .ref 112 :: .ref 113 :: .ref 114 :: .ref 115 :: .ref 116 :: .ref 117 :: .int (zI z51) :: .int (zI z52) :: .int (zI z53) :: .int (zI sb) :: .ref 118 :: .ref 119 :: .ref 120 :: .ref 121 :: .ref 122 :: .ref 123 :: .ref 124 :: .ref 125 :: .ref 126 :: .ref 127 :: .ref 128 :: .ref 129 :: .int (zI mfu) :: .ref 130 :: .ref 131 :: .ref 132 :: .ref 133 :: .ref 134 :: .int (zI mdm) :: .int (zI mla) :: []))), (99, .inl (0, 7, .inl (zA f133))), (110, .inl (0, 8820, .inl (zA f54))), (111, .inl (0, 1260, .inl (zA f55))), (117, .inl (0, 7, .inl (zA f56)))]) (ks := [98, 99, 98, 110, 111, 117]) [true, true, false, true, true, true] rfl (by decide +kernel) rfl ?_
          exact J_iret dX12_breach_43 rfl rfl (Nat.le_of_ble_eq_true rfl) (Nat.le_of_ble_eq_true rfl) (Or.inr (Or.inl ⟨f133, z51, z52, z53, f54, f55, f56, rfl, rfl, (⟨(v_2b02420001 h16), (v_d7c2909a09 h7 h17), (v_2b02420001 h66), (v_d7c2909a09 h57 h67)⟩), (Or.inr h104), h60, (v_621074fb26 q6 h65), (fun _ => ⟨h59, h57, h58⟩), (v_94d6d099ed h65)⟩))
    · refine J_nf (nh2 := nh) (ck2 := 0) (sk2 := 0) (st2 := [.int (zI 0)]) rfl rfl rfl rfl ?_
      refine J_app (L3 := [(98, .inr (12, (.int (zI ms) :: .int (zI mv) :: .ref 99 :: .ref 100 :: .ref 101 :: .ref 102 :: .ref 103 :: .ref 104 :: .ref 105 :: .int (zI mt) :: .int (zI mfa) :: .ref 106 :: .ref 107 :: .ref 108 :: .int (zI mtn) :: .int (zI mtk) :: .int (zI mlv) :: .int (zI mbd) :: .int (zI mgo) :: .int (zI mge) :: .int (zI mbk) :: .ref 109 :: .int (zI mtt) :: .int (zI mtl) :: .ref 110 :: .ref 111 :: .ref 112 :: .ref 113 :: .ref 114 :: .ref 115 :: .ref 116 :: .ref 117 :: .int (zI z68) :: .int (zI z69) :: .int (zI z70) :: .int (zI sb) :: .ref 118 :: .ref 119 :: .ref 120 :: .ref 121 :: .ref 122 :: .ref 123 :: .ref 124 :: .ref 125 :: .ref 126 :: .ref 127 :: .ref 128 :: .ref 129 :: .int (zI mfu) :: .ref 130 :: .ref 131 :: .ref 132 :: .ref 133 :: .ref 134 :: .int (zI mdm) :: .int (zI mla) :: []))), (110, .inl (0, 8820, .inl (zA f71))), (111, .inl (0, 1260, .inl (zA f72))), (117, .inl (0, 7, .inl (zA f73))), (98, .inr (12, (.int (zI ms) :: .int (zI mv) :: .ref 99 :: .ref 100 :: .ref 101 :: .ref 102 :: .ref 103 :: .ref 104 :: .ref 105 :: .int (zI mt) :: .int (zI mfa) :: .ref 106 :: .ref 107 :: .ref 108 :: .int (zI mtn) :: .int (zI mtk) :: .int (zI mlv) :: .int (zI mbd) :: .int (zI mgo) :: .int (zI mge) :: .int (zI mbk) :: .ref 109 :: .int (zI mtt) :: .int (zI mtl) :: .ref 110 :: .ref 111 :: .ref 112 :: .ref 113 :: .ref 114 :: .ref 115 :: .ref 116 :: .ref 117 :: .int (zI z1) :: .int (zI z2) :: .int (zI z3) :: .int (zI sb) :: .ref 118 :: .ref 119 :: .ref 120 :: .ref 121 :: .ref 122 :: .ref 123 :: .ref 124 :: .ref 125 :: .ref 126 :: .ref 127 :: .ref 128 :: .ref 129 :: .int (zI mfu) :: .ref 130 :: .ref 131 :: .ref 132 :: .ref 133 :: .ref 134 :: .int (zI mdm) :: .int (zI mla) :: []))), (110, .inl (0, 8820, .inl (zA f4))), (111, .inl (0, 1260, .inl (zA f5))), (117, .inl (0, 7, .inl (zA f6)))]) rfl ?_
      refine J_mask (L2 := [(98, .inr (12, (.int (zI ms) :: .int (zI mv) :: .ref 99 :: .ref 100 :: .ref 101 :: .ref 102 :: .ref 103 :: .ref 104 :: .ref 105 :: .int (zI mt) :: .int (zI mfa) :: .ref 106 :: .ref 107 :: .ref 108 :: .int (zI mtn) :: .int (zI mtk) :: .int (zI mlv) :: .int (zI mbd) :: .int (zI mgo) :: .int (zI mge) :: .int (zI mbk) :: .ref 109 :: .int (zI mtt) :: .int (zI mtl) :: .ref 110 :: .ref 111 :: .ref 112 :: .ref 113 :: .ref 114 :: .ref 115 :: .ref 116 :: .ref 117 :: .int (zI z68) :: .int (zI z69) :: .int (zI z70) :: .int (zI sb) :: .ref 118 :: .ref 119 :: .ref 120 :: .ref 121 :: .ref 122 :: .ref 123 :: .ref 124 :: .ref 125 :: .ref 126 :: .ref 127 :: .ref 128 :: .ref 129 :: .int (zI mfu) :: .ref 130 :: .ref 131 :: .ref 132 :: .ref 133 :: .ref 134 :: .int (zI mdm) :: .int (zI mla) :: []))), (110, .inl (0, 8820, .inl (zA f71))), (111, .inl (0, 1260, .inl (zA f72))), (117, .inl (0, 7, .inl (zA f73)))]) (ks := [98, 110, 111, 117, 98, 110, 111, 117]) [true, true, true, true, false, false, false, false] rfl (by decide +kernel) rfl ?_
      refine Z_if_ne (tgt := 23) dX12_breach_13 (by decide) v_b17331891f (fun h134 => absurd h134 (fun q => q v_2ca2bbca1f)) (fun h134 => ?_)
      refine J_aload_n dX12_breach_16 rfl rfl ?_
      refine Z_bipush (n := -2) dX12_breach_17 (by decide +kernel) ?_
      refine J_callV (st := []) dX12_breach_19 cv_X12_142 (k_refuses (-2) rf7 ms mv mt mfa mtn mtk mlv mbd mgo mge mbk mtt mtl z68 z69 z70 sb mfu mdm mla v_c15e852b74 v_e7867eeafa rfl hk99) rfl rfl rfl (Nat.le_of_ble_eq_true rfl) ⟨(Nat.le_of_ble_eq_true rfl), (Nat.le_of_ble_eq_true rfl)⟩ ⟨(Nat.le_of_ble_eq_true rfl), (Nat.le_of_ble_eq_true rfl)⟩ (fun r h9 hp => ?_)
      obtain ⟨f135, rfl, rfl⟩ := hp
      refine J_nf (nh2 := nh) (ck2 := 0) (sk2 := 0) (st2 := [.int (zI (-2))]) rfl rfl rfl rfl ?_
      refine J_app (L3 := [(98, .inr (12, (.int (zI (-2)) :: .int (zI mv) :: .ref 99 :: .ref 100 :: .ref 101 :: .ref 102 :: .ref 103 :: .ref 104 :: .ref 105 :: .int (zI mt) :: .int (zI mfa) :: .ref 106 :: .ref 107 :: .ref 108 :: .int (zI mtn) :: .int (zI mtk) :: .int (zI mlv) :: .int (zI mbd) :: .int (zI mgo) :: .int (zI mge) :: .int (zI mbk) :: .ref 109 :: .int (zI mtt) :: .int (zI mtl) :: .ref 110 :: .ref 111 :: .ref 112 :: .ref 113 :: .ref 114 :: .ref 115 :: .ref 116 :: .ref 117 :: .int (zI z68) :: .int (zI z69) :: .int (zI z70) :: .int (zI sb) :: .ref 118 :: .ref 119 :: .ref 120 :: .ref 121 :: .ref 122 :: .ref 123 :: .ref 124 :: .ref 125 :: .ref 126 :: .ref 127 :: .ref 128 :: .ref 129 :: .int (zI mfu) :: .ref 130 :: .ref 131 :: .ref 132 :: .ref 133 :: .ref 134 :: .int (zI mdm) :: .int (zI mla) :: []))), (99, .inl (0, 7, .inl (zA f135))), (98, .inr (12, (.int (zI ms) :: .int (zI mv) :: .ref 99 :: .ref 100 :: .ref 101 :: .ref 102 :: .ref 103 :: .ref 104 :: .ref 105 :: .int (zI mt) :: .int (zI mfa) :: .ref 106 :: .ref 107 :: .ref 108 :: .int (zI mtn) :: .int (zI mtk) :: .int (zI mlv) :: .int (zI mbd) :: .int (zI mgo) :: .int (zI mge) :: .int (zI mbk) :: .ref 109 :: .int (zI mtt) :: .int (zI mtl) :: .ref 110 :: .ref 111 :: .ref 112 :: .ref 113 :: .ref 114 :: .ref 115 :: .ref 116 :: .ref 117 :: .int (zI z68) :: .int (zI z69) :: .int (zI z70) :: .int (zI sb) :: .ref 118 :: .ref 119 :: .ref 120 :: .ref 121 :: .ref 122 :: .ref 123 :: .ref 124 :: .ref 125 :: .ref 126 :: .ref 127 :: .ref 128 :: .ref 129 :: .int (zI mfu) :: .ref 130 :: .ref 131 :: .ref 132 :: .ref 133 :: .ref 134 :: .int (zI mdm) :: .int (zI mla) :: []))), (110, .inl (0, 8820, .inl (zA f71))), (111, .inl (0, 1260, .inl (zA f72))), (117, .inl (0, 7, .inl (zA f73)))]) rfl ?_
      refine J_mask (L2 := [(98, .inr (12, (.int (zI (-2)) :: .int (zI mv) :: .ref 99 :: .ref 100 :: .ref 101 :: .ref 102 :: .ref 103 :: .ref 104 :: .ref 105 :: .int (zI mt) :: .int (zI mfa) :: .ref 106 :: .ref 107 :: .ref 108 :: .int (zI mtn) :: .int (zI mtk) :: .int (zI mlv) :: .int (zI mbd) :: .int (zI mgo) :: .int (zI mge) :: .int (zI mbk) :: .ref 109 :: .int (zI mtt) :: .int (zI mtl) :: .ref 110 :: .ref 111 :: .ref 112 :: .ref 113 :: .ref 114 :: .ref 115 :: .ref 116 :: .ref 117 :: .int (zI z68) :: .int (zI z69) :: .int (zI z70) :: .int (zI sb) :: .ref 118 :: .ref 119 :: .ref 120 :: .ref 121 :: .ref 122 :: .ref 123 :: .ref 124 :: .ref 125 :: .ref 126 :: .ref 127 :: .ref 128 :: .ref 129 :: .int (zI mfu) :: .ref 130 :: .ref 131 :: .ref 132 :: .ref 133 :: .ref 134 :: .int (zI mdm) :: .int (zI mla) :: []))), (99, .inl (0, 7, .inl (zA f135))), (110, .inl (0, 8820, .inl (zA f71))), (111, .inl (0, 1260, .inl (zA f72))), (117, .inl (0, 7, .inl (zA f73)))]) (ks := [98, 99, 98, 110, 111, 117]) [true, true, false, true, true, true] rfl (by decide +kernel) rfl ?_
      exact J_iret dX12_breach_22 rfl rfl (Nat.le_of_ble_eq_true rfl) (Nat.le_of_ble_eq_true rfl) (Or.inl ⟨f135, z68, z69, z70, f71, f72, f73, rfl, rfl, (fun q => absurd q.2.2.1 (v_dccefa8cdf h83)), h77, (v_621074fb26 q6 h82), (fun _ => ⟨h76, h74, h75⟩), (v_94d6d099ed h82)⟩)
    · refine J_nf (nh2 := nh) (ck2 := 0) (sk2 := 0) (st2 := [.int (zI 0)]) rfl rfl rfl rfl ?_
      refine J_app (L3 := [(98, .inr (12, (.int (zI ms) :: .int (zI mv) :: .ref 99 :: .ref 100 :: .ref 101 :: .ref 102 :: .ref 103 :: .ref 104 :: .ref 105 :: .int (zI mt) :: .int (zI mfa) :: .ref 106 :: .ref 107 :: .ref 108 :: .int (zI mtn) :: .int (zI mtk) :: .int (zI mlv) :: .int (zI mbd) :: .int (zI mgo) :: .int (zI mge) :: .int (zI mbk) :: .ref 109 :: .int (zI mtt) :: .int (zI mtl) :: .ref 110 :: .ref 111 :: .ref 112 :: .ref 113 :: .ref 114 :: .ref 115 :: .ref 116 :: .ref 117 :: .int (zI z84) :: .int (zI z85) :: .int (zI z86) :: .int (zI sb) :: .ref 118 :: .ref 119 :: .ref 120 :: .ref 121 :: .ref 122 :: .ref 123 :: .ref 124 :: .ref 125 :: .ref 126 :: .ref 127 :: .ref 128 :: .ref 129 :: .int (zI mfu) :: .ref 130 :: .ref 131 :: .ref 132 :: .ref 133 :: .ref 134 :: .int (zI mdm) :: .int (zI mla) :: []))), (110, .inl (0, 8820, .inl (zA f87))), (111, .inl (0, 1260, .inl (zA f88))), (117, .inl (0, 7, .inl (zA f89))), (98, .inr (12, (.int (zI ms) :: .int (zI mv) :: .ref 99 :: .ref 100 :: .ref 101 :: .ref 102 :: .ref 103 :: .ref 104 :: .ref 105 :: .int (zI mt) :: .int (zI mfa) :: .ref 106 :: .ref 107 :: .ref 108 :: .int (zI mtn) :: .int (zI mtk) :: .int (zI mlv) :: .int (zI mbd) :: .int (zI mgo) :: .int (zI mge) :: .int (zI mbk) :: .ref 109 :: .int (zI mtt) :: .int (zI mtl) :: .ref 110 :: .ref 111 :: .ref 112 :: .ref 113 :: .ref 114 :: .ref 115 :: .ref 116 :: .ref 117 :: .int (zI z1) :: .int (zI z2) :: .int (zI z3) :: .int (zI sb) :: .ref 118 :: .ref 119 :: .ref 120 :: .ref 121 :: .ref 122 :: .ref 123 :: .ref 124 :: .ref 125 :: .ref 126 :: .ref 127 :: .ref 128 :: .ref 129 :: .int (zI mfu) :: .ref 130 :: .ref 131 :: .ref 132 :: .ref 133 :: .ref 134 :: .int (zI mdm) :: .int (zI mla) :: []))), (110, .inl (0, 8820, .inl (zA f4))), (111, .inl (0, 1260, .inl (zA f5))), (117, .inl (0, 7, .inl (zA f6)))]) rfl ?_
      refine J_mask (L2 := [(98, .inr (12, (.int (zI ms) :: .int (zI mv) :: .ref 99 :: .ref 100 :: .ref 101 :: .ref 102 :: .ref 103 :: .ref 104 :: .ref 105 :: .int (zI mt) :: .int (zI mfa) :: .ref 106 :: .ref 107 :: .ref 108 :: .int (zI mtn) :: .int (zI mtk) :: .int (zI mlv) :: .int (zI mbd) :: .int (zI mgo) :: .int (zI mge) :: .int (zI mbk) :: .ref 109 :: .int (zI mtt) :: .int (zI mtl) :: .ref 110 :: .ref 111 :: .ref 112 :: .ref 113 :: .ref 114 :: .ref 115 :: .ref 116 :: .ref 117 :: .int (zI z84) :: .int (zI z85) :: .int (zI z86) :: .int (zI sb) :: .ref 118 :: .ref 119 :: .ref 120 :: .ref 121 :: .ref 122 :: .ref 123 :: .ref 124 :: .ref 125 :: .ref 126 :: .ref 127 :: .ref 128 :: .ref 129 :: .int (zI mfu) :: .ref 130 :: .ref 131 :: .ref 132 :: .ref 133 :: .ref 134 :: .int (zI mdm) :: .int (zI mla) :: []))), (110, .inl (0, 8820, .inl (zA f87))), (111, .inl (0, 1260, .inl (zA f88))), (117, .inl (0, 7, .inl (zA f89)))]) (ks := [98, 110, 111, 117, 98, 110, 111, 117]) [true, true, true, true, false, false, false, false] rfl (by decide +kernel) rfl ?_
      refine Z_if_ne (tgt := 23) dX12_breach_13 (by decide) v_b17331891f (fun h136 => absurd h136 (fun q => q v_2ca2bbca1f)) (fun h136 => ?_)
      refine J_aload_n dX12_breach_16 rfl rfl ?_
      refine Z_bipush (n := -2) dX12_breach_17 (by decide +kernel) ?_
      refine J_callV (st := []) dX12_breach_19 cv_X12_142 (k_refuses (-2) rf7 ms mv mt mfa mtn mtk mlv mbd mgo mge mbk mtt mtl z84 z85 z86 sb mfu mdm mla v_c15e852b74 v_e7867eeafa rfl hk99) rfl rfl rfl (Nat.le_of_ble_eq_true rfl) ⟨(Nat.le_of_ble_eq_true rfl), (Nat.le_of_ble_eq_true rfl)⟩ ⟨(Nat.le_of_ble_eq_true rfl), (Nat.le_of_ble_eq_true rfl)⟩ (fun r h9 hp => ?_)
      obtain ⟨f137, rfl, rfl⟩ := hp
      refine J_nf (nh2 := nh) (ck2 := 0) (sk2 := 0) (st2 := [.int (zI (-2))]) rfl rfl rfl rfl ?_
      refine J_app (L3 := [(98, .inr (12, (.int (zI (-2)) :: .int (zI mv) :: .ref 99 :: .ref 100 :: .ref 101 :: .ref 102 :: .ref 103 :: .ref 104 :: .ref 105 :: .int (zI mt) :: .int (zI mfa) :: .ref 106 :: .ref 107 :: .ref 108 :: .int (zI mtn) :: .int (zI mtk) :: .int (zI mlv) :: .int (zI mbd) :: .int (zI mgo) :: .int (zI mge) :: .int (zI mbk) :: .ref 109 :: .int (zI mtt) :: .int (zI mtl) :: .ref 110 :: .ref 111 :: .ref 112 :: .ref 113 :: .ref 114 :: .ref 115 :: .ref 116 :: .ref 117 :: .int (zI z84) :: .int (zI z85) :: .int (zI z86) :: .int (zI sb) :: .ref 118 :: .ref 119 :: .ref 120 :: .ref 121 :: .ref 122 :: .ref 123 :: .ref 124 :: .ref 125 :: .ref 126 :: .ref 127 :: .ref 128 :: .ref 129 :: .int (zI mfu) :: .ref 130 :: .ref 131 :: .ref 132 :: .ref 133 :: .ref 134 :: .int (zI mdm) :: .int (zI mla) :: []))), (99, .inl (0, 7, .inl (zA f137))), (98, .inr (12, (.int (zI ms) :: .int (zI mv) :: .ref 99 :: .ref 100 :: .ref 101 :: .ref 102 :: .ref 103 :: .ref 104 :: .ref 105 :: .int (zI mt) :: .int (zI mfa) :: .ref 106 :: .ref 107 :: .ref 108 :: .int (zI mtn) :: .int (zI mtk) :: .int (zI mlv) :: .int (zI mbd) :: .int (zI mgo) :: .int (zI mge) :: .int (zI mbk) :: .ref 109 :: .int (zI mtt) :: .int (zI mtl) :: .ref 110 :: .ref 111 :: .ref 112 :: .ref 113 :: .ref 114 :: .ref 115 :: .ref 116 :: .ref 117 :: .int (zI z84) :: .int (zI z85) :: .int (zI z86) :: .int (zI sb) :: .ref 118 :: .ref 119 :: .ref 120 :: .ref 121 :: .ref 122 :: .ref 123 :: .ref 124 :: .ref 125 :: .ref 126 :: .ref 127 :: .ref 128 :: .ref 129 :: .int (zI mfu) :: .ref 130 :: .ref 131 :: .ref 132 :: .ref 133 :: .ref 134 :: .int (zI mdm) :: .int (zI mla) :: []))), (110, .inl (0, 8820, .inl (zA f87))), (111, .inl (0, 1260, .inl (zA f88))), (117, .inl (0, 7, .inl (zA f89)))]) rfl ?_
      refine J_mask (L2 := [(98, .inr (12, (.int (zI (-2)) :: .int (zI mv) :: .ref 99 :: .ref 100 :: .ref 101 :: .ref 102 :: .ref 103 :: .ref 104 :: .ref 105 :: .int (zI mt) :: .int (zI mfa) :: .ref 106 :: .ref 107 :: .ref 108 :: .int (zI mtn) :: .int (zI mtk) :: .int (zI mlv) :: .int (zI mbd) :: .int (zI mgo) :: .int (zI mge) :: .int (zI mbk) :: .ref 109 :: .int (zI mtt) :: .int (zI mtl) :: .ref 110 :: .ref 111 :: .ref 112 :: .ref 113 :: .ref 114 :: .ref 115 :: .ref 116 :: .ref 117 :: .int (zI z84) :: .int (zI z85) :: .int (zI z86) :: .int (zI sb) :: .ref 118 :: .ref 119 :: .ref 120 :: .ref 121 :: .ref 122 :: .ref 123 :: .ref 124 :: .ref 125 :: .ref 126 :: .ref 127 :: .ref 128 :: .ref 129 :: .int (zI mfu) :: .ref 130 :: .ref 131 :: .ref 132 :: .ref 133 :: .ref 134 :: .int (zI mdm) :: .int (zI mla) :: []))), (99, .inl (0, 7, .inl (zA f137))), (110, .inl (0, 8820, .inl (zA f87))), (111, .inl (0, 1260, .inl (zA f88))), (117, .inl (0, 7, .inl (zA f89)))]) (ks := [98, 99, 98, 110, 111, 117]) [true, true, false, true, true, true] rfl (by decide +kernel) rfl ?_
      exact J_iret dX12_breach_22 rfl rfl (Nat.le_of_ble_eq_true rfl) (Nat.le_of_ble_eq_true rfl) (Or.inl ⟨f137, z84, z85, z86, f87, f88, f89, rfl, rfl, (fun q => absurd q.2.2.2 (v_f9e33a7fad h90 h99)), h93, (v_621074fb26 q6 h98), (fun _ => ⟨h92, h90, h91⟩), (v_94d6d099ed h98)⟩)
  · refine J_nf (nh2 := nh) (ck2 := 0) (sk2 := 0) (st2 := [.int (zI 0)]) rfl rfl rfl rfl ?_
    refine J_app (L3 := [(98, .inr (12, (.int (zI ms) :: .int (zI mv) :: .ref 99 :: .ref 100 :: .ref 101 :: .ref 102 :: .ref 103 :: .ref 104 :: .ref 105 :: .int (zI mt) :: .int (zI mfa) :: .ref 106 :: .ref 107 :: .ref 108 :: .int (zI mtn) :: .int (zI mtk) :: .int (zI mlv) :: .int (zI mbd) :: .int (zI mgo) :: .int (zI mge) :: .int (zI mbk) :: .ref 109 :: .int (zI mtt) :: .int (zI mtl) :: .ref 110 :: .ref 111 :: .ref 112 :: .ref 113 :: .ref 114 :: .ref 115 :: .ref 116 :: .ref 117 :: .int (zI z18) :: .int (zI z19) :: .int (zI z20) :: .int (zI sb) :: .ref 118 :: .ref 119 :: .ref 120 :: .ref 121 :: .ref 122 :: .ref 123 :: .ref 124 :: .ref 125 :: .ref 126 :: .ref 127 :: .ref 128 :: .ref 129 :: .int (zI mfu) :: .ref 130 :: .ref 131 :: .ref 132 :: .ref 133 :: .ref 134 :: .int (zI mdm) :: .int (zI mla) :: []))), (110, .inl (0, 8820, .inl (zA f21))), (111, .inl (0, 1260, .inl (zA f22))), (117, .inl (0, 7, .inl (zA f23)))]) rfl ?_
    refine Z_if_eq (tgt := 16) dX12_breach_5 (by decide) v_b17331891f (fun h138 => ?_) (fun h138 => absurd h138 (fun q => q v_2ca2bbca1f))
    refine J_aload_n dX12_breach_16 rfl rfl ?_
    refine Z_bipush (n := -2) dX12_breach_17 (by decide +kernel) ?_
    refine J_callV (st := []) dX12_breach_19 cv_X12_142 (k_refuses (-2) rf7 ms mv mt mfa mtn mtk mlv mbd mgo mge mbk mtt mtl z18 z19 z20 sb mfu mdm mla v_c15e852b74 v_e7867eeafa rfl hk99) rfl rfl rfl (Nat.le_of_ble_eq_true rfl) ⟨(Nat.le_of_ble_eq_true rfl), (Nat.le_of_ble_eq_true rfl)⟩ ⟨(Nat.le_of_ble_eq_true rfl), (Nat.le_of_ble_eq_true rfl)⟩ (fun r h9 hp => ?_)
    obtain ⟨f139, rfl, rfl⟩ := hp
    refine J_nf (nh2 := nh) (ck2 := 0) (sk2 := 0) (st2 := [.int (zI (-2))]) rfl rfl rfl rfl ?_
    refine J_app (L3 := [(98, .inr (12, (.int (zI (-2)) :: .int (zI mv) :: .ref 99 :: .ref 100 :: .ref 101 :: .ref 102 :: .ref 103 :: .ref 104 :: .ref 105 :: .int (zI mt) :: .int (zI mfa) :: .ref 106 :: .ref 107 :: .ref 108 :: .int (zI mtn) :: .int (zI mtk) :: .int (zI mlv) :: .int (zI mbd) :: .int (zI mgo) :: .int (zI mge) :: .int (zI mbk) :: .ref 109 :: .int (zI mtt) :: .int (zI mtl) :: .ref 110 :: .ref 111 :: .ref 112 :: .ref 113 :: .ref 114 :: .ref 115 :: .ref 116 :: .ref 117 :: .int (zI z18) :: .int (zI z19) :: .int (zI z20) :: .int (zI sb) :: .ref 118 :: .ref 119 :: .ref 120 :: .ref 121 :: .ref 122 :: .ref 123 :: .ref 124 :: .ref 125 :: .ref 126 :: .ref 127 :: .ref 128 :: .ref 129 :: .int (zI mfu) :: .ref 130 :: .ref 131 :: .ref 132 :: .ref 133 :: .ref 134 :: .int (zI mdm) :: .int (zI mla) :: []))), (99, .inl (0, 7, .inl (zA f139))), (98, .inr (12, (.int (zI ms) :: .int (zI mv) :: .ref 99 :: .ref 100 :: .ref 101 :: .ref 102 :: .ref 103 :: .ref 104 :: .ref 105 :: .int (zI mt) :: .int (zI mfa) :: .ref 106 :: .ref 107 :: .ref 108 :: .int (zI mtn) :: .int (zI mtk) :: .int (zI mlv) :: .int (zI mbd) :: .int (zI mgo) :: .int (zI mge) :: .int (zI mbk) :: .ref 109 :: .int (zI mtt) :: .int (zI mtl) :: .ref 110 :: .ref 111 :: .ref 112 :: .ref 113 :: .ref 114 :: .ref 115 :: .ref 116 :: .ref 117 :: .int (zI z18) :: .int (zI z19) :: .int (zI z20) :: .int (zI sb) :: .ref 118 :: .ref 119 :: .ref 120 :: .ref 121 :: .ref 122 :: .ref 123 :: .ref 124 :: .ref 125 :: .ref 126 :: .ref 127 :: .ref 128 :: .ref 129 :: .int (zI mfu) :: .ref 130 :: .ref 131 :: .ref 132 :: .ref 133 :: .ref 134 :: .int (zI mdm) :: .int (zI mla) :: []))), (110, .inl (0, 8820, .inl (zA f21))), (111, .inl (0, 1260, .inl (zA f22))), (117, .inl (0, 7, .inl (zA f23)))]) rfl ?_
    refine J_mask (L2 := [(98, .inr (12, (.int (zI (-2)) :: .int (zI mv) :: .ref 99 :: .ref 100 :: .ref 101 :: .ref 102 :: .ref 103 :: .ref 104 :: .ref 105 :: .int (zI mt) :: .int (zI mfa) :: .ref 106 :: .ref 107 :: .ref 108 :: .int (zI mtn) :: .int (zI mtk) :: .int (zI mlv) :: .int (zI mbd) :: .int (zI mgo) :: .int (zI mge) :: .int (zI mbk) :: .ref 109 :: .int (zI mtt) :: .int (zI mtl) :: .ref 110 :: .ref 111 :: .ref 112 :: .ref 113 :: .ref 114 :: .ref 115 :: .ref 116 :: .ref 117 :: .int (zI z18) :: .int (zI z19) :: .int (zI z20) :: .int (zI sb) :: .ref 118 :: .ref 119 :: .ref 120 :: .ref 121 :: .ref 122 :: .ref 123 :: .ref 124 :: .ref 125 :: .ref 126 :: .ref 127 :: .ref 128 :: .ref 129 :: .int (zI mfu) :: .ref 130 :: .ref 131 :: .ref 132 :: .ref 133 :: .ref 134 :: .int (zI mdm) :: .int (zI mla) :: []))), (99, .inl (0, 7, .inl (zA f139))), (110, .inl (0, 8820, .inl (zA f21))), (111, .inl (0, 1260, .inl (zA f22))), (117, .inl (0, 7, .inl (zA f23)))]) (ks := [98, 99, 98, 110, 111, 117]) [true, true, false, true, true, true] rfl (by decide +kernel) rfl ?_
    exact J_iret dX12_breach_22 rfl rfl (Nat.le_of_ble_eq_true rfl) (Nat.le_of_ble_eq_true rfl) (Or.inl ⟨f139, z18, z19, z20, f21, f22, f23, rfl, rfl, (fun q => absurd q.1 (v_dccefa8cdf h33)), h27, (v_621074fb26 q6 h32), (fun _ => ⟨h26, h24, h25⟩), (v_94d6d099ed h32)⟩)
  · refine J_nf (nh2 := nh) (ck2 := 0) (sk2 := 0) (st2 := [.int (zI 0)]) rfl rfl rfl rfl ?_
    refine J_app (L3 := [(98, .inr (12, (.int (zI ms) :: .int (zI mv) :: .ref 99 :: .ref 100 :: .ref 101 :: .ref 102 :: .ref 103 :: .ref 104 :: .ref 105 :: .int (zI mt) :: .int (zI mfa) :: .ref 106 :: .ref 107 :: .ref 108 :: .int (zI mtn) :: .int (zI mtk) :: .int (zI mlv) :: .int (zI mbd) :: .int (zI mgo) :: .int (zI mge) :: .int (zI mbk) :: .ref 109 :: .int (zI mtt) :: .int (zI mtl) :: .ref 110 :: .ref 111 :: .ref 112 :: .ref 113 :: .ref 114 :: .ref 115 :: .ref 116 :: .ref 117 :: .int (zI z34) :: .int (zI z35) :: .int (zI z36) :: .int (zI sb) :: .ref 118 :: .ref 119 :: .ref 120 :: .ref 121 :: .ref 122 :: .ref 123 :: .ref 124 :: .ref 125 :: .ref 126 :: .ref 127 :: .ref 128 :: .ref 129 :: .int (zI mfu) :: .ref 130 :: .ref 131 :: .ref 132 :: .ref 133 :: .ref 134 :: .int (zI mdm) :: .int (zI mla) :: []))), (110, .inl (0, 8820, .inl (zA f37))), (111, .inl (0, 1260, .inl (zA f38))), (117, .inl (0, 7, .inl (zA f39)))]) rfl ?_
    refine Z_if_eq (tgt := 16) dX12_breach_5 (by decide) v_b17331891f (fun h140 => ?_) (fun h140 => absurd h140 (fun q => q v_2ca2bbca1f))
    refine J_aload_n dX12_breach_16 rfl rfl ?_
    refine Z_bipush (n := -2) dX12_breach_17 (by decide +kernel) ?_
    refine J_callV (st := []) dX12_breach_19 cv_X12_142 (k_refuses (-2) rf7 ms mv mt mfa mtn mtk mlv mbd mgo mge mbk mtt mtl z34 z35 z36 sb mfu mdm mla v_c15e852b74 v_e7867eeafa rfl hk99) rfl rfl rfl (Nat.le_of_ble_eq_true rfl) ⟨(Nat.le_of_ble_eq_true rfl), (Nat.le_of_ble_eq_true rfl)⟩ ⟨(Nat.le_of_ble_eq_true rfl), (Nat.le_of_ble_eq_true rfl)⟩ (fun r h9 hp => ?_)
    obtain ⟨f141, rfl, rfl⟩ := hp
    refine J_nf (nh2 := nh) (ck2 := 0) (sk2 := 0) (st2 := [.int (zI (-2))]) rfl rfl rfl rfl ?_
    refine J_app (L3 := [(98, .inr (12, (.int (zI (-2)) :: .int (zI mv) :: .ref 99 :: .ref 100 :: .ref 101 :: .ref 102 :: .ref 103 :: .ref 104 :: .ref 105 :: .int (zI mt) :: .int (zI mfa) :: .ref 106 :: .ref 107 :: .ref 108 :: .int (zI mtn) :: .int (zI mtk) :: .int (zI mlv) :: .int (zI mbd) :: .int (zI mgo) :: .int (zI mge) :: .int (zI mbk) :: .ref 109 :: .int (zI mtt) :: .int (zI mtl) :: .ref 110 :: .ref 111 :: .ref 112 :: .ref 113 :: .ref 114 :: .ref 115 :: .ref 116 :: .ref 117 :: .int (zI z34) :: .int (zI z35) :: .int (zI z36) :: .int (zI sb) :: .ref 118 :: .ref 119 :: .ref 120 :: .ref 121 :: .ref 122 :: .ref 123 :: .ref 124 :: .ref 125 :: .ref 126 :: .ref 127 :: .ref 128 :: .ref 129 :: .int (zI mfu) :: .ref 130 :: .ref 131 :: .ref 132 :: .ref 133 :: .ref 134 :: .int (zI mdm) :: .int (zI mla) :: []))), (99, .inl (0, 7, .inl (zA f141))), (98, .inr (12, (.int (zI ms) :: .int (zI mv) :: .ref 99 :: .ref 100 :: .ref 101 :: .ref 102 :: .ref 103 :: .ref 104 :: .ref 105 :: .int (zI mt) :: .int (zI mfa) :: .ref 106 :: .ref 107 :: .ref 108 :: .int (zI mtn) :: .int (zI mtk) :: .int (zI mlv) :: .int (zI mbd) :: .int (zI mgo) :: .int (zI mge) :: .int (zI mbk) :: .ref 109 :: .int (zI mtt) :: .int (zI mtl) :: .ref 110 :: .ref 111 :: .ref 112 :: .ref 113 :: .ref 114 :: .ref 115 :: .ref 116 :: .ref 117 :: .int (zI z34) :: .int (zI z35) :: .int (zI z36) :: .int (zI sb) :: .ref 118 :: .ref 119 :: .ref 120 :: .ref 121 :: .ref 122 :: .ref 123 :: .ref 124 :: .ref 125 :: .ref 126 :: .ref 127 :: .ref 128 :: .ref 129 :: .int (zI mfu) :: .ref 130 :: .ref 131 :: .ref 132 :: .ref 133 :: .ref 134 :: .int (zI mdm) :: .int (zI mla) :: []))), (110, .inl (0, 8820, .inl (zA f37))), (111, .inl (0, 1260, .inl (zA f38))), (117, .inl (0, 7, .inl (zA f39)))]) rfl ?_
    refine J_mask (L2 := [(98, .inr (12, (.int (zI (-2)) :: .int (zI mv) :: .ref 99 :: .ref 100 :: .ref 101 :: .ref 102 :: .ref 103 :: .ref 104 :: .ref 105 :: .int (zI mt) :: .int (zI mfa) :: .ref 106 :: .ref 107 :: .ref 108 :: .int (zI mtn) :: .int (zI mtk) :: .int (zI mlv) :: .int (zI mbd) :: .int (zI mgo) :: .int (zI mge) :: .int (zI mbk) :: .ref 109 :: .int (zI mtt) :: .int (zI mtl) :: .ref 110 :: .ref 111 :: .ref 112 :: .ref 113 :: .ref 114 :: .ref 115 :: .ref 116 :: .ref 117 :: .int (zI z34) :: .int (zI z35) :: .int (zI z36) :: .int (zI sb) :: .ref 118 :: .ref 119 :: .ref 120 :: .ref 121 :: .ref 122 :: .ref 123 :: .ref 124 :: .ref 125 :: .ref 126 :: .ref 127 :: .ref 128 :: .ref 129 :: .int (zI mfu) :: .ref 130 :: .ref 131 :: .ref 132 :: .ref 133 :: .ref 134 :: .int (zI mdm) :: .int (zI mla) :: []))), (99, .inl (0, 7, .inl (zA f141))), (110, .inl (0, 8820, .inl (zA f37))), (111, .inl (0, 1260, .inl (zA f38))), (117, .inl (0, 7, .inl (zA f39)))]) (ks := [98, 99, 98, 110, 111, 117]) [true, true, false, true, true, true] rfl (by decide +kernel) rfl ?_
    exact J_iret dX12_breach_22 rfl rfl (Nat.le_of_ble_eq_true rfl) (Nat.le_of_ble_eq_true rfl) (Or.inl ⟨f141, z34, z35, z36, f37, f38, f39, rfl, rfl, (fun q => absurd q.2.1 (v_f9e33a7fad h40 h49)), h43, (v_621074fb26 q6 h48), (fun _ => ⟨h42, h40, h41⟩), (v_94d6d099ed h48)⟩)
set_option maxHeartbeats 4000000 in
set_option maxRecDepth 100000 in
theorem k_end {l : Launch} {G : jG} {nh : Nat} {fh : Nat → Option va_E} (x : Int) (ms : Int) (mv : Int) (mt : Int) (mfa : Int) (mtn : Int) (mtk : Int) (mlv : Int) (mbd : Int) (mgo : Int) (mge : Int) (mbk : Int) (mtt : Int) (mtl : Int) (hm : Int) (pm : Int) (hb : Int) (sb : Int) (mfu : Int) (mdm : Int) (mla : Int) (q0 : zr x) (q1 : 0 ≤ mt) (q2 : mt ≤ 400) (hk98 : fh 98 = some (.inr (12, (.int (zI ms) :: .int (zI mv) :: .ref 99 :: .ref 100 :: .ref 101 :: .ref 102 :: .ref 103 :: .ref 104 :: .ref 105 :: .int (zI mt) :: .int (zI mfa) :: .ref 106 :: .ref 107 :: .ref 108 :: .int (zI mtn) :: .int (zI mtk) :: .int (zI mlv) :: .int (zI mbd) :: .int (zI mgo) :: .int (zI mge) :: .int (zI mbk) :: .ref 109 :: .int (zI mtt) :: .int (zI mtl) :: .ref 110 :: .ref 111 :: .ref 112 :: .ref 113 :: .ref 114 :: .ref 115 :: .ref 116 :: .ref 117 :: .int (zI hm) :: .int (zI pm) :: .int (zI hb) :: .int (zI sb) :: .ref 118 :: .ref 119 :: .ref 120 :: .ref 121 :: .ref 122 :: .ref 123 :: .ref 124 :: .ref 125 :: .ref 126 :: .ref 127 :: .ref 128 :: .ref 129 :: .int (zI mfu) :: .ref 130 :: .ref 131 :: .ref 132 :: .ref 133 :: .ref 134 :: .int (zI mdm) :: .int (zI mla) :: [])))) : JM l G yX12_end MX12_end { frames := 1, cells := 0, slots := 0, locals := 22 } [.ref 98, .int (zI x)] (nh, fh) (fun rr h9 => (rr = some (.int (zI x)) ∧ h9 = (nh, hc fh [(98, .inr (12, (.int (zI ms) :: .int (zI mv) :: .ref 99 :: .ref 100 :: .ref 101 :: .ref 102 :: .ref 103 :: .ref 104 :: .ref 105 :: .int (zI x) :: .int (zI mfa) :: .ref 106 :: .ref 107 :: .ref 108 :: .int (zI mtn) :: .int (zI mtk) :: .int (zI mlv) :: .int (zI mbd) :: .int (zI mgo) :: .int (zI mge) :: .int (zI mbk) :: .ref 109 :: .int (zI mtt) :: .int (zI mtl) :: .ref 110 :: .ref 111 :: .ref 112 :: .ref 113 :: .ref 114 :: .ref 115 :: .ref 116 :: .ref 117 :: .int (zI hm) :: .int (zI pm) :: .int (zI hb) :: .int (zI sb) :: .ref 118 :: .ref 119 :: .ref 120 :: .ref 121 :: .ref 122 :: .ref 123 :: .ref 124 :: .ref 125 :: .ref 126 :: .ref 127 :: .ref 128 :: .ref 129 :: .int (zI mfu) :: .ref 130 :: .ref 131 :: .ref 132 :: .ref 133 :: .ref 134 :: .int (zI mdm) :: .int (zI mla) :: [])))]) ∧ (0 ≤ x) ∧ (x ≤ mt)) ∨ (rr = some (.int (zI (-1))) ∧ h9 = (nh, fh) ∧ (x < 0)) ∨ (rr = some (.int (zI (-1))) ∧ h9 = (nh, fh) ∧ (mt < x))) := by
  refine JM.of (by decide) rfl (fun h => by cases h) (Nat.le_of_ble_eq_true rfl) ⟨0, rfl⟩ ?_
  refine J_hc0 (J_ls (ls2 := [some (.ref 98), some (.int (zI x))]) rfl ?_)
  refine J_iload_n dX12_end_0 rfl rfl ?_
  refine Z_iconst (n := 0) dX12_end_1 ?_
  refine J_aload_n dX12_end_2 rfl rfl ?_
  refine J_get (v := .int (zI mt)) dX12_end_3 fl_X12_156 hk98 rfl ?_
  refine J_callS (st := []) dX12_end_6 cs_X12_138 (k_lies x 0 mt q0 v_b17331891f (v_d7389cde0f q1 q2)) rfl rfl (Nat.le_of_ble_eq_true rfl) ⟨(Nat.le_of_ble_eq_true rfl), (Nat.le_of_ble_eq_true rfl)⟩ ⟨(Nat.le_of_ble_eq_true rfl), (Nat.le_of_ble_eq_true rfl)⟩ (fun r h9 hp => ?_)
  rcases hp with ⟨rfl, rfl, h1, h2⟩ | ⟨rfl, rfl, h3⟩ | ⟨rfl, rfl, h4⟩
  · refine J_nf (nh2 := nh) (ck2 := 0) (sk2 := 0) (st2 := [.int (zI 1)]) rfl rfl rfl rfl ?_
    refine Z_if_ne (tgt := 14) dX12_end_9 (by decide) v_4dcc24baa7 (fun h5 => ?_) (fun h5 => absurd h5 v_3a47bfd896)
    refine J_aload_n dX12_end_14 rfl rfl ?_
    refine J_iload_n dX12_end_15 rfl rfl ?_
    refine K_put (fs2 := (.int (zI ms) :: .int (zI mv) :: .ref 99 :: .ref 100 :: .ref 101 :: .ref 102 :: .ref 103 :: .ref 104 :: .ref 105 :: .int (zI x) :: .int (zI mfa) :: .ref 106 :: .ref 107 :: .ref 108 :: .int (zI mtn) :: .int (zI mtk) :: .int (zI mlv) :: .int (zI mbd) :: .int (zI mgo) :: .int (zI mge) :: .int (zI mbk) :: .ref 109 :: .int (zI mtt) :: .int (zI mtl) :: .ref 110 :: .ref 111 :: .ref 112 :: .ref 113 :: .ref 114 :: .ref 115 :: .ref 116 :: .ref 117 :: .int (zI hm) :: .int (zI pm) :: .int (zI hb) :: .int (zI sb) :: .ref 118 :: .ref 119 :: .ref 120 :: .ref 121 :: .ref 122 :: .ref 123 :: .ref 124 :: .ref 125 :: .ref 126 :: .ref 127 :: .ref 128 :: .ref 129 :: .int (zI mfu) :: .ref 130 :: .ref 131 :: .ref 132 :: .ref 133 :: .ref 134 :: .int (zI mdm) :: .int (zI mla) :: [])) dX12_end_16 fw_X12_156 hk98 (Nat.le_of_ble_eq_true rfl) (fun _ => ⟨rfl, rfl⟩) rfl ?_
    refine J_iload_n dX12_end_19 rfl rfl ?_
    exact J_iret dX12_end_20 rfl rfl (Nat.le_of_ble_eq_true rfl) (Nat.le_of_ble_eq_true rfl) (Or.inl ⟨rfl, rfl, h1, h2⟩)
  · refine J_nf (nh2 := nh) (ck2 := 0) (sk2 := 0) (st2 := [.int (zI 0)]) rfl rfl rfl rfl ?_
    refine Z_if_ne (tgt := 14) dX12_end_9 (by decide) v_b17331891f (fun h6 => absurd h6 (fun q => q v_2ca2bbca1f)) (fun h6 => ?_)
    refine Z_iconst (n := -1) dX12_end_12 ?_
    exact J_iret dX12_end_13 rfl rfl (Nat.le_of_ble_eq_true rfl) (Nat.le_of_ble_eq_true rfl) (Or.inr (Or.inl ⟨rfl, rfl, h3⟩))
  · refine J_nf (nh2 := nh) (ck2 := 0) (sk2 := 0) (st2 := [.int (zI 0)]) rfl rfl rfl rfl ?_
    refine Z_if_ne (tgt := 14) dX12_end_9 (by decide) v_b17331891f (fun h7 => absurd h7 (fun q => q v_2ca2bbca1f)) (fun h7 => ?_)
    refine Z_iconst (n := -1) dX12_end_12 ?_
    exact J_iret dX12_end_13 rfl rfl (Nat.le_of_ble_eq_true rfl) (Nat.le_of_ble_eq_true rfl) (Or.inr (Or.inr ⟨rfl, rfl, h4⟩))
set_option maxHeartbeats 4000000 in
set_option maxRecDepth 100000 in
theorem k_feed {l : Launch} {G : jG} {nh : Nat} {fh : Nat → Option va_E} (a : Int) (b : Int) (c : Int) (d : Int) (e : Int) (ta : Int → Int) (fv : Int → Int) (ms : Int) (mv : Int) (mt : Int) (mfa : Int) (mtn : Int) (mtk : Int) (mlv : Int) (mbd : Int) (mgo : Int) (mge : Int) (mbk : Int) (mtt : Int) (mtl : Int) (hm : Int) (pm : Int) (hb : Int) (sb : Int) (mfu : Int) (mdm : Int) (mla : Int) (q0 : zr a) (q1 : zr b) (q2 : zr c) (q3 : zr d) (q4 : zr e) (q5 : 0 ≤ mt) (q6 : mt ≤ 400) (q7 : Rg ta 400 (-128) 127) (hk98 : fh 98 = some (.inr (12, (.int (zI ms) :: .int (zI mv) :: .ref 99 :: .ref 100 :: .ref 101 :: .ref 102 :: .ref 103 :: .ref 104 :: .ref 105 :: .int (zI mt) :: .int (zI mfa) :: .ref 106 :: .ref 107 :: .ref 108 :: .int (zI mtn) :: .int (zI mtk) :: .int (zI mlv) :: .int (zI mbd) :: .int (zI mgo) :: .int (zI mge) :: .int (zI mbk) :: .ref 109 :: .int (zI mtt) :: .int (zI mtl) :: .ref 110 :: .ref 111 :: .ref 112 :: .ref 113 :: .ref 114 :: .ref 115 :: .ref 116 :: .ref 117 :: .int (zI hm) :: .int (zI pm) :: .int (zI hb) :: .int (zI sb) :: .ref 118 :: .ref 119 :: .ref 120 :: .ref 121 :: .ref 122 :: .ref 123 :: .ref 124 :: .ref 125 :: .ref 126 :: .ref 127 :: .ref 128 :: .ref 129 :: .int (zI mfu) :: .ref 130 :: .ref 131 :: .ref 132 :: .ref 133 :: .ref 134 :: .int (zI mdm) :: .int (zI mla) :: [])))) (hk104 : fh 104 = some (.inl (3, 400, .inl (zA ta)))) (hk105 : fh 105 = some (.inl (0, 5, .inl (zA fv)))) : JM l G yX12_feed MX12_feed { frames := 0, cells := 0, slots := 0, locals := 0 } [.ref 98, .int (zI a), .int (zI b), .int (zI c), .int (zI d), .int (zI e)] (nh, fh) (fun rr h9 => (∃ r : Int, ∃ mt2 : Int, ∃ ta2 : Int → Int, ∃ fv2 : Int → Int, rr = some (.int (zI r)) ∧ h9 = (nh, hc fh [(98, .inr (12, (.int (zI ms) :: .int (zI mv) :: .ref 99 :: .ref 100 :: .ref 101 :: .ref 102 :: .ref 103 :: .ref 104 :: .ref 105 :: .int (zI mt2) :: .int (zI mfa) :: .ref 106 :: .ref 107 :: .ref 108 :: .int (zI mtn) :: .int (zI mtk) :: .int (zI mlv) :: .int (zI mbd) :: .int (zI mgo) :: .int (zI mge) :: .int (zI mbk) :: .ref 109 :: .int (zI mtt) :: .int (zI mtl) :: .ref 110 :: .ref 111 :: .ref 112 :: .ref 113 :: .ref 114 :: .ref 115 :: .ref 116 :: .ref 117 :: .int (zI hm) :: .int (zI pm) :: .int (zI hb) :: .int (zI sb) :: .ref 118 :: .ref 119 :: .ref 120 :: .ref 121 :: .ref 122 :: .ref 123 :: .ref 124 :: .ref 125 :: .ref 126 :: .ref 127 :: .ref 128 :: .ref 129 :: .int (zI mfu) :: .ref 130 :: .ref 131 :: .ref 132 :: .ref 133 :: .ref 134 :: .int (zI mdm) :: .int (zI mla) :: []))), (104, .inl (3, 400, .inl (zA ta2))), (105, .inl (0, 5, .inl (zA fv2)))]) ∧ (0 ≤ mt2) ∧ (mt2 ≤ 400) ∧ (Rg ta2 400 (-128) 127) ∧ (mt2 = mt + 20) ∧ (mt ≤ 380) ∧ (r = mt2) ∧ (FdS ta2 ta mt a b c d e 20)) ∨ (rr = some (.int (zI (-1))) ∧ h9 = (nh, fh) ∧ (380 < mt))) := by
  refine JM.of (by decide) rfl (fun h => by cases h) (Nat.le_of_ble_eq_true rfl) ⟨1, rfl⟩ ?_
  refine J_hc0 (J_ls (ls2 := [some (.ref 98), some (.int (zI a)), some (.int (zI b)), some (.int (zI c)), some (.int (zI d)), some (.int (zI e)), none]) rfl ?_)
  refine J_aload_n dX12_feed_0 rfl rfl ?_
  refine J_get (v := .int (zI mt)) dX12_feed_1 fl_X12_156 hk98 rfl ?_
  refine Z_bipush (n := 20) dX12_feed_4 (by decide +kernel) ?_
  refine Z_iadd (c := mt + 20) dX12_feed_6 rfl ?_
  refine Z_sipush (n := 400) dX12_feed_7 (by decide +kernel) ?_
  refine Z_icmp_le (tgt := 15) dX12_feed_10 (by decide) (v_8e571d5ed4 q5 q6) v_d8dcd4dd52 (fun h1 => ?_) (fun h1 => ?_)
  · refine J_aload_n dX12_feed_15 rfl rfl ?_
    refine J_get (v := .ref 105) dX12_feed_16 fl_X12_37 hk98 rfl ?_
    refine Z_iconst (n := 0) dX12_feed_19 ?_
    refine J_iload_n dX12_feed_20 rfl rfl ?_
    refine Y_iast (v := a) 5 dX12_feed_21 hk105 rfl (by decide) v_939070ca3f v_9947d9f5ce (fun f2 ef2 => ?_)
    refine J_aload_n dX12_feed_22 rfl rfl ?_
    refine J_get (v := .ref 105) dX12_feed_23 fl_X12_37 hk98 rfl ?_
    refine Z_iconst (n := 1) dX12_feed_26 ?_
    refine J_iload_n dX12_feed_27 rfl rfl ?_
    refine Y_iast (v := b) 5 dX12_feed_28 rfl rfl (by decide) v_316afd7d0b v_fcc8007e99 (fun f3 ef3 => ?_)
    refine J_aload_n dX12_feed_29 rfl rfl ?_
    refine J_get (v := .ref 105) dX12_feed_30 fl_X12_37 hk98 rfl ?_
    refine Z_iconst (n := 2) dX12_feed_33 ?_
    refine J_iload_n dX12_feed_34 rfl rfl ?_
    refine Y_iast (v := c) 5 dX12_feed_35 rfl rfl (by decide) v_06d31e7a75 v_ca12309ff8 (fun f4 ef4 => ?_)
    refine J_aload_n dX12_feed_36 rfl rfl ?_
    refine J_get (v := .ref 105) dX12_feed_37 fl_X12_37 hk98 rfl ?_
    refine Z_iconst (n := 3) dX12_feed_40 ?_
    refine J_iload dX12_feed_41 rfl ?_
    refine Y_iast (v := d) 5 dX12_feed_43 rfl rfl (by decide) v_c33180d5d7 v_0359d7e19a (fun f5 ef5 => ?_)
    refine J_aload_n dX12_feed_44 rfl rfl ?_
    refine J_get (v := .ref 105) dX12_feed_45 fl_X12_37 hk98 rfl ?_
    refine Z_iconst (n := 4) dX12_feed_48 ?_
    refine J_iload dX12_feed_49 rfl ?_
    refine Y_iast (v := e) 5 dX12_feed_51 rfl rfl (by decide) v_92ab544b5f v_16c0fad730 (fun f6 ef6 => ?_)
    refine Z_iconst (n := 0) dX12_feed_52 ?_
    refine J_istore dX12_feed_53 (Nat.le_of_ble_eq_true rfl) rfl ?_
    refine J_ls (ls2 := [some (.ref 98), some (.int (zI a)), some (.int (zI b)), some (.int (zI c)), some (.int (zI d)), some (.int (zI e)), some (.int (zI 0))]) rfl ?_
    refine J_touch (k := 104) (e := .inl (3, 400, .inl (zA ta))) hk104 ?_
    refine J_mask (L2 := [(104, .inl (3, 400, .inl (zA ta))), (105, .inl (0, 5, .inl (zA f6)))]) (ks := [104, 105, 105, 105, 105, 105]) [true, true, false, false, false, false] rfl (by decide +kernel) rfl ?_
    have lp55 : ∀ (N55 : Nat) (k_55 : Int) (t_55 : Int → Int), (0 ≤ k_55) → (k_55 ≤ 20) → (Rg t_55 400 (-128) 127) → (FdS t_55 ta mt a b c d e k_55) → (20 - k_55).toNat < N55 → J l G MX12_feed { frames := 0, cells := 0, slots := 0, locals := 0 } jE (jMQ G { frames := 0, cells := 0, slots := 0, locals := 0 } (fun rr h9 => (∃ r : Int, ∃ mt2 : Int, ∃ ta2 : Int → Int, ∃ fv2 : Int → Int, rr = some (.int (zI r)) ∧ h9 = (nh, hc fh [(98, .inr (12, (.int (zI ms) :: .int (zI mv) :: .ref 99 :: .ref 100 :: .ref 101 :: .ref 102 :: .ref 103 :: .ref 104 :: .ref 105 :: .int (zI mt2) :: .int (zI mfa) :: .ref 106 :: .ref 107 :: .ref 108 :: .int (zI mtn) :: .int (zI mtk) :: .int (zI mlv) :: .int (zI mbd) :: .int (zI mgo) :: .int (zI mge) :: .int (zI mbk) :: .ref 109 :: .int (zI mtt) :: .int (zI mtl) :: .ref 110 :: .ref 111 :: .ref 112 :: .ref 113 :: .ref 114 :: .ref 115 :: .ref 116 :: .ref 117 :: .int (zI hm) :: .int (zI pm) :: .int (zI hb) :: .int (zI sb) :: .ref 118 :: .ref 119 :: .ref 120 :: .ref 121 :: .ref 122 :: .ref 123 :: .ref 124 :: .ref 125 :: .ref 126 :: .ref 127 :: .ref 128 :: .ref 129 :: .int (zI mfu) :: .ref 130 :: .ref 131 :: .ref 132 :: .ref 133 :: .ref 134 :: .int (zI mdm) :: .int (zI mla) :: []))), (104, .inl (3, 400, .inl (zA ta2))), (105, .inl (0, 5, .inl (zA fv2)))]) ∧ (0 ≤ mt2) ∧ (mt2 ≤ 400) ∧ (Rg ta2 400 (-128) 127) ∧ (mt2 = mt + 20) ∧ (mt ≤ 380) ∧ (r = mt2) ∧ (FdS ta2 ta mt a b c d e 20)) ∨ (rr = some (.int (zI (-1))) ∧ h9 = (nh, fh) ∧ (380 < mt)))) (nh, hc fh [(104, .inl (3, 400, .inl (zA t_55))), (105, .inl (0, 5, .inl (zA f6)))]) 0 0 55 [some (.ref 98), some (.int (zI a)), some (.int (zI b)), some (.int (zI c)), some (.int (zI d)), some (.int (zI e)), some (.int (zI k_55))] [] := by
      intro N55
      induction N55 with
      | zero => intro k_55 t_55 i55_0 i55_1 i55_2 i55_3 hm; exact absurd hm (Nat.not_lt_zero _)
      | succ N55 ih55 =>
        intro k_55 t_55 i55_0 i55_1 i55_2 i55_3 hm55
        refine J_iload dX12_feed_55 rfl ?_
        refine Z_bipush (n := 20) dX12_feed_57 (by decide +kernel) ?_
        refine Z_icmp_ge (tgt := 101) dX12_feed_59 (by decide) (v_94d89c1a36 i55_0 i55_1) v_82965bc4bd (fun h7 => ?_) (fun h7 => ?_)
        · refine J_aload_n dX12_feed_101 rfl rfl ?_
          refine J_dup dX12_feed_102 rfl ?_
          refine J_get (v := .int (zI mt)) dX12_feed_103 fl_X12_156 hk98 rfl ?_
          refine Z_bipush (n := 20) dX12_feed_106 (by decide +kernel) ?_
          refine Z_iadd (c := mt + 20) dX12_feed_108 rfl ?_
          refine K_put (fs2 := (.int (zI ms) :: .int (zI mv) :: .ref 99 :: .ref 100 :: .ref 101 :: .ref 102 :: .ref 103 :: .ref 104 :: .ref 105 :: .int (zI (mt + 20)) :: .int (zI mfa) :: .ref 106 :: .ref 107 :: .ref 108 :: .int (zI mtn) :: .int (zI mtk) :: .int (zI mlv) :: .int (zI mbd) :: .int (zI mgo) :: .int (zI mge) :: .int (zI mbk) :: .ref 109 :: .int (zI mtt) :: .int (zI mtl) :: .ref 110 :: .ref 111 :: .ref 112 :: .ref 113 :: .ref 114 :: .ref 115 :: .ref 116 :: .ref 117 :: .int (zI hm) :: .int (zI pm) :: .int (zI hb) :: .int (zI sb) :: .ref 118 :: .ref 119 :: .ref 120 :: .ref 121 :: .ref 122 :: .ref 123 :: .ref 124 :: .ref 125 :: .ref 126 :: .ref 127 :: .ref 128 :: .ref 129 :: .int (zI mfu) :: .ref 130 :: .ref 131 :: .ref 132 :: .ref 133 :: .ref 134 :: .int (zI mdm) :: .int (zI mla) :: [])) dX12_feed_109 fw_X12_156 hk98 (Nat.le_of_ble_eq_true rfl) (fun _ => ⟨rfl, rfl⟩) rfl ?_
          refine J_aload_n dX12_feed_112 rfl rfl ?_
          refine J_get (v := .int (zI (mt + 20))) dX12_feed_113 fl_X12_156 rfl rfl ?_
          exact J_iret dX12_feed_116 rfl rfl (Nat.le_of_ble_eq_true rfl) (Nat.le_of_ble_eq_true rfl) (Or.inl ⟨(mt + 20), (mt + 20), t_55, f6, rfl, rfl, (v_62a931ddb5 q5), h1, i55_2, v_fc25c0bb64, (v_8bec156621 h1), v_090f936125, (FdS.at i55_3 (v_02b8fe6d77 i55_1 h7))⟩)
        · refine J_aload_n dX12_feed_62 rfl rfl ?_
          refine J_get (v := .ref 104) dX12_feed_63 fl_X12_34 hk98 rfl ?_
          refine J_aload_n dX12_feed_66 rfl rfl ?_
          refine J_get (v := .int (zI mt)) dX12_feed_67 fl_X12_156 hk98 rfl ?_
          refine J_iload dX12_feed_70 rfl ?_
          refine Z_iadd (c := k_55 + mt) dX12_feed_72 v_cb13ccdbf3 ?_
          refine J_aload_n dX12_feed_73 rfl rfl ?_
          refine J_get (v := .ref 105) dX12_feed_74 fl_X12_37 hk98 rfl ?_
          refine J_iload dX12_feed_77 rfl ?_
          refine Z_iconst (n := 4) dX12_feed_79 ?_
          refine Z_idiv dX12_feed_80 (v_fcdfb0e464 i55_0 h7) v_ffb526fa28 (v_2b02420001 i55_0) v_1ab6243a29 ?_
          obtain ⟨z8, ez8⟩ : ∃ z : Int, k_55 / 4 = z := ⟨_, rfl⟩
          rw [ez8]
          have h9 : 4 * z8 ≤ k_55 ∧ k_55 ≤ 4 * z8 + 3 := dv_lem ez8 (by decide)
          obtain ⟨z10, ez10⟩ : ∃ z : Int, f6 z8 = z := ⟨_, rfl⟩
          refine Y_iald (z := z10) 5 dX12_feed_81 rfl rfl (by decide) (v_de49e1f5f6 i55_0 h9.2) (v_b9d7c9bfea h7 h9.1) ez10 ?_
          refine Z_bipush (n := 24) dX12_feed_82 (by decide +kernel) ?_
          refine Z_bipush (n := 8) dX12_feed_84 (by decide +kernel) ?_
          refine J_iload dX12_feed_86 rfl ?_
          refine Z_iconst (n := 4) dX12_feed_88 ?_
          refine Z_irem dX12_feed_89 (v_fcdfb0e464 i55_0 h7) v_ffb526fa28 (v_2b02420001 i55_0) v_1ab6243a29 ?_
          obtain ⟨z11, ez11⟩ : ∃ z : Int, k_55 % 4 = z := ⟨_, rfl⟩
          rw [ez11]
          have h12 : 0 ≤ z11 ∧ z11 < 4 := md_lem ez11 (by decide)
          have h13 : z11 ≤ k_55 := mdle_lem ez11 (v_2b02420001 i55_0) (by decide)
          have h14 : k_55 = 4 * z8 + z11 := dm_lem ez8 ez11
          refine Z_imul (c := 8 * z11) dX12_feed_90 rfl ?_
          refine Z_isub (c := -8 * z11 + 24) dX12_feed_91 v_3b8214974d ?_
          obtain ⟨z15, ez15⟩ : ∃ z : Int, zshr z10 (-8 * z11 + 24) = z := ⟨_, rfl⟩
          refine Y_ishr (z := z15) dX12_feed_92 ez15 ?_
          have h16 : zr z15 := by rw [← ez15]; exact zr_toInt _
          obtain ⟨z17, ez17⟩ : ∃ z : Int, zi2b z15 = z := ⟨_, rfl⟩
          refine Y_i2b (z := z17) dX12_feed_93 ez17 ?_
          have h18 : zr z17 := by rw [← ez17]; exact zr_toInt _
          refine Y_bast (v := z17) 400 dX12_feed_94 rfl rfl (by decide) (v_8d0a08ae71 q5 i55_0) (v_754c00a6f2 h1 h7) (fun f19 ef19 => ?_)
          obtain ⟨z20, ez20⟩ : ∃ z : Int, zi2b z17 = z := ⟨_, rfl⟩
          rw [ez20] at ef19
          have h21 : -128 ≤ z20 ∧ z20 ≤ 127 := zi2b_rng ez20
          have h22 : Rg f19 400 (-128) 127 := Rg.ups i55_2 ef19 (v_05adf37676 h21.1) (v_cb26ddd58d h21.2)
          refine Z_iinc (c := k_55 + 1) (ls2 := [some (.ref 98), some (.int (zI a)), some (.int (zI b)), some (.int (zI c)), some (.int (zI d)), some (.int (zI e)), some (.int (zI (k_55 + 1)))]) dX12_feed_95 rfl (Nat.le_of_ble_eq_true rfl) rfl rfl rfl ?_
          refine J_goto (tgt := 55) dX12_feed_98 (by decide) ?_
          refine J_mask (L2 := [(104, .inl (3, 400, .inl (zA f19))), (105, .inl (0, 5, .inl (zA f6)))]) (ks := [104, 104, 105]) [true, false, true] rfl (by decide +kernel) rfl ?_
          exact ih55 (k_55 + 1) f19 (v_da458fa48a i55_0) (v_15e9df531f h7) h22 (FdS.step i55_3 ef19 i55_0 v_cb13ccdbf3 (pk5_at ef2 ef3 ef4 ef5 ef6 ez10 (v_91c709622f h9.1) (v_3a1f4bbece h9.2) i55_0 (v_05685d02ed h7)) ez11.symm v_a2cbd29406 ez15 (zi2b_two ez17 ez20)) (meas_lt v_267c3e7ef8 (v_88c336f2d8 h7) hm55)
    exact lp55 _ 0 ta v_939070ca3f v_3771d22068 q7 (FdS_0) (Nat.lt_succ_self _)
  · refine Z_iconst (n := -1) dX12_feed_13 ?_
    exact J_iret dX12_feed_14 rfl rfl (Nat.le_of_ble_eq_true rfl) (Nat.le_of_ble_eq_true rfl) (Or.inr ⟨rfl, rfl, (v_4f829e1014 h1)⟩)
set_option maxHeartbeats 4000000 in
set_option maxRecDepth 100000 in
theorem k_row {l : Launch} {G : jG} {nh : Nat} {fh : Nat → Option va_E} (ms : Int) (mv : Int) (mt : Int) (mfa : Int) (mtn : Int) (mtk : Int) (mlv : Int) (mbd : Int) (mgo : Int) (mge : Int) (mbk : Int) (mtt : Int) (mtl : Int) (hm : Int) (pm : Int) (hb : Int) (sb : Int) (mfu : Int) (mdm : Int) (mla : Int) (K : Int → Int) (co : Int → Int) (cd : Int → Int) (of : Int → Int) (rf7 : Int → Int) (ta : Int → Int) (q0 : KOK K) (q1 : 0 ≤ mt) (q2 : mt ≤ 400) (q3 : Rg ta 400 (-128) 127) (q4 : zr mv) (q5 : mv ≤ 2000000) (q6 : hb = mv → HouT co cd K hm ∧ hm = Hi K ∧ pm = bsum K) (q7 : Rg of 7 0 4) (q8 : zr hb) (q9 : zr (mv + 1)) (q10 : hb ≤ mv) (q11 : 0 ≤ mv) (hk98 : fh 98 = some (.inr (12, (.int (zI ms) :: .int (zI mv) :: .ref 99 :: .ref 100 :: .ref 101 :: .ref 102 :: .ref 103 :: .ref 104 :: .ref 105 :: .int (zI mt) :: .int (zI mfa) :: .ref 106 :: .ref 107 :: .ref 108 :: .int (zI mtn) :: .int (zI mtk) :: .int (zI mlv) :: .int (zI mbd) :: .int (zI mgo) :: .int (zI mge) :: .int (zI mbk) :: .ref 109 :: .int (zI mtt) :: .int (zI mtl) :: .ref 110 :: .ref 111 :: .ref 112 :: .ref 113 :: .ref 114 :: .ref 115 :: .ref 116 :: .ref 117 :: .int (zI hm) :: .int (zI pm) :: .int (zI hb) :: .int (zI sb) :: .ref 118 :: .ref 119 :: .ref 120 :: .ref 121 :: .ref 122 :: .ref 123 :: .ref 124 :: .ref 125 :: .ref 126 :: .ref 127 :: .ref 128 :: .ref 129 :: .int (zI mfu) :: .ref 130 :: .ref 131 :: .ref 132 :: .ref 133 :: .ref 134 :: .int (zI mdm) :: .int (zI mla) :: [])))) (hk100 : fh 100 = some (.inl (0, 4870, .inl (zA K)))) (hk99 : fh 99 = some (.inl (0, 7, .inl (zA rf7)))) (hk110 : fh 110 = some (.inl (0, 8820, .inl (zA co)))) (hk111 : fh 111 = some (.inl (0, 1260, .inl (zA cd)))) (hk117 : fh 117 = some (.inl (0, 7, .inl (zA of)))) (hk104 : fh 104 = some (.inl (3, 400, .inl (zA ta)))) : JM l G yX12_row MX12_row { frames := 3, cells := 0, slots := 0, locals := 71 } [.ref 98] (nh, fh) (fun rr h9 => (∃ rg7 : Int → Int, rr = some (.int (zI (-6))) ∧ h9 = (nh, hc fh [(98, .inr (12, (.int (zI (-6)) :: .int (zI mv) :: .ref 99 :: .ref 100 :: .ref 101 :: .ref 102 :: .ref 103 :: .ref 104 :: .ref 105 :: .int (zI 0) :: .int (zI mfa) :: .ref 106 :: .ref 107 :: .ref 108 :: .int (zI mtn) :: .int (zI mtk) :: .int (zI mlv) :: .int (zI mbd) :: .int (zI mgo) :: .int (zI mge) :: .int (zI mbk) :: .ref 109 :: .int (zI mtt) :: .int (zI mtl) :: .ref 110 :: .ref 111 :: .ref 112 :: .ref 113 :: .ref 114 :: .ref 115 :: .ref 116 :: .ref 117 :: .int (zI hm) :: .int (zI pm) :: .int (zI hb) :: .int (zI sb) :: .ref 118 :: .ref 119 :: .ref 120 :: .ref 121 :: .ref 122 :: .ref 123 :: .ref 124 :: .ref 125 :: .ref 126 :: .ref 127 :: .ref 128 :: .ref 129 :: .int (zI mfu) :: .ref 130 :: .ref 131 :: .ref 132 :: .ref 133 :: .ref 134 :: .int (zI mdm) :: .int (zI mla) :: []))), (99, .inl (0, 7, .inl (zA rg7)))]) ∧ (rwk ta mt = false)) ∨ (∃ K2 : Int → Int, ∃ r : Int, ∃ hm2 : Int, ∃ pm2 : Int, ∃ hb2 : Int, ∃ co2 : Int → Int, ∃ cd2 : Int → Int, ∃ of2 : Int → Int, ∃ K1 : Int → Int, rr = some (.int (zI r)) ∧ h9 = (nh, hc fh [(98, .inr (12, (.int (zI 0) :: .int (zI (mv + 1)) :: .ref 99 :: .ref 100 :: .ref 101 :: .ref 102 :: .ref 103 :: .ref 104 :: .ref 105 :: .int (zI 0) :: .int (zI mfa) :: .ref 106 :: .ref 107 :: .ref 108 :: .int (zI mtn) :: .int (zI mtk) :: .int (zI mlv) :: .int (zI mbd) :: .int (zI mgo) :: .int (zI mge) :: .int (zI mbk) :: .ref 109 :: .int (zI mtt) :: .int (zI mtl) :: .ref 110 :: .ref 111 :: .ref 112 :: .ref 113 :: .ref 114 :: .ref 115 :: .ref 116 :: .ref 117 :: .int (zI hm2) :: .int (zI pm2) :: .int (zI hb2) :: .int (zI sb) :: .ref 118 :: .ref 119 :: .ref 120 :: .ref 121 :: .ref 122 :: .ref 123 :: .ref 124 :: .ref 125 :: .ref 126 :: .ref 127 :: .ref 128 :: .ref 129 :: .int (zI mfu) :: .ref 130 :: .ref 131 :: .ref 132 :: .ref 133 :: .ref 134 :: .int (zI mdm) :: .int (zI mla) :: []))), (100, .inl (0, 4870, .inl (zA K2))), (110, .inl (0, 8820, .inl (zA co2))), (111, .inl (0, 1260, .inl (zA cd2))), (117, .inl (0, 7, .inl (zA of2)))]) ∧ (KOK K2) ∧ (Rg of2 7 0 4) ∧ (zr hb2) ∧ (hb2 = mv + 1 → HouT co2 cd2 K2 hm2 ∧ hm2 = Hi K2 ∧ pm2 = bsum K2) ∧ (hb2 ≤ mv + 1) ∧ (rwk ta mt = true) ∧ (RwK K K1 ta mt) ∧ (NBS K1 K2) ∧ (NBX K1 K2) ∧ (bsum K2 = mt) ∧ (OrR K2 ta r))) := by
  refine JM.of (by decide) rfl (fun h => by cases h) (Nat.le_of_ble_eq_true rfl) ⟨4, rfl⟩ ?_
  refine J_hc0 (J_ls (ls2 := [some (.ref 98), none, none, none, none]) rfl ?_)
  refine J_aload_n dX12_row_0 rfl rfl ?_
  refine J_get (v := .int (zI mt)) dX12_row_1 fl_X12_156 hk98 rfl ?_
  refine J_istore_n dX12_row_4 rfl (Nat.le_of_ble_eq_true rfl) rfl ?_
  refine J_ls (ls2 := [some (.ref 98), some (.int (zI mt)), none, none, none]) rfl ?_
  refine J_aload_n dX12_row_5 rfl rfl ?_
  refine Z_iconst (n := 0) dX12_row_6 ?_
  refine K_put (fs2 := (.int (zI ms) :: .int (zI mv) :: .ref 99 :: .ref 100 :: .ref 101 :: .ref 102 :: .ref 103 :: .ref 104 :: .ref 105 :: .int (zI 0) :: .int (zI mfa) :: .ref 106 :: .ref 107 :: .ref 108 :: .int (zI mtn) :: .int (zI mtk) :: .int (zI mlv) :: .int (zI mbd) :: .int (zI mgo) :: .int (zI mge) :: .int (zI mbk) :: .ref 109 :: .int (zI mtt) :: .int (zI mtl) :: .ref 110 :: .ref 111 :: .ref 112 :: .ref 113 :: .ref 114 :: .ref 115 :: .ref 116 :: .ref 117 :: .int (zI hm) :: .int (zI pm) :: .int (zI hb) :: .int (zI sb) :: .ref 118 :: .ref 119 :: .ref 120 :: .ref 121 :: .ref 122 :: .ref 123 :: .ref 124 :: .ref 125 :: .ref 126 :: .ref 127 :: .ref 128 :: .ref 129 :: .int (zI mfu) :: .ref 130 :: .ref 131 :: .ref 132 :: .ref 133 :: .ref 134 :: .int (zI mdm) :: .int (zI mla) :: [])) dX12_row_7 fw_X12_156 hk98 (Nat.le_of_ble_eq_true rfl) (fun _ => ⟨rfl, rfl⟩) rfl ?_
  have jn17 : ∀ (t0_17j : Int), (0 ≤ t0_17j) → (t0_17j ≤ 1) → (t0_17j = 1 → 1 ≤ mt ∧ mt ≤ 7) → (t0_17j = 0 → rwk ta mt = false) → J l G MX12_row { frames := 3, cells := 0, slots := 0, locals := 71 } jE (jMQ G { frames := 3, cells := 0, slots := 0, locals := 71 } (fun rr h9 => (∃ rg7 : Int → Int, rr = some (.int (zI (-6))) ∧ h9 = (nh, hc fh [(98, .inr (12, (.int (zI (-6)) :: .int (zI mv) :: .ref 99 :: .ref 100 :: .ref 101 :: .ref 102 :: .ref 103 :: .ref 104 :: .ref 105 :: .int (zI 0) :: .int (zI mfa) :: .ref 106 :: .ref 107 :: .ref 108 :: .int (zI mtn) :: .int (zI mtk) :: .int (zI mlv) :: .int (zI mbd) :: .int (zI mgo) :: .int (zI mge) :: .int (zI mbk) :: .ref 109 :: .int (zI mtt) :: .int (zI mtl) :: .ref 110 :: .ref 111 :: .ref 112 :: .ref 113 :: .ref 114 :: .ref 115 :: .ref 116 :: .ref 117 :: .int (zI hm) :: .int (zI pm) :: .int (zI hb) :: .int (zI sb) :: .ref 118 :: .ref 119 :: .ref 120 :: .ref 121 :: .ref 122 :: .ref 123 :: .ref 124 :: .ref 125 :: .ref 126 :: .ref 127 :: .ref 128 :: .ref 129 :: .int (zI mfu) :: .ref 130 :: .ref 131 :: .ref 132 :: .ref 133 :: .ref 134 :: .int (zI mdm) :: .int (zI mla) :: []))), (99, .inl (0, 7, .inl (zA rg7)))]) ∧ (rwk ta mt = false)) ∨ (∃ K2 : Int → Int, ∃ r : Int, ∃ hm2 : Int, ∃ pm2 : Int, ∃ hb2 : Int, ∃ co2 : Int → Int, ∃ cd2 : Int → Int, ∃ of2 : Int → Int, ∃ K1 : Int → Int, rr = some (.int (zI r)) ∧ h9 = (nh, hc fh [(98, .inr (12, (.int (zI 0) :: .int (zI (mv + 1)) :: .ref 99 :: .ref 100 :: .ref 101 :: .ref 102 :: .ref 103 :: .ref 104 :: .ref 105 :: .int (zI 0) :: .int (zI mfa) :: .ref 106 :: .ref 107 :: .ref 108 :: .int (zI mtn) :: .int (zI mtk) :: .int (zI mlv) :: .int (zI mbd) :: .int (zI mgo) :: .int (zI mge) :: .int (zI mbk) :: .ref 109 :: .int (zI mtt) :: .int (zI mtl) :: .ref 110 :: .ref 111 :: .ref 112 :: .ref 113 :: .ref 114 :: .ref 115 :: .ref 116 :: .ref 117 :: .int (zI hm2) :: .int (zI pm2) :: .int (zI hb2) :: .int (zI sb) :: .ref 118 :: .ref 119 :: .ref 120 :: .ref 121 :: .ref 122 :: .ref 123 :: .ref 124 :: .ref 125 :: .ref 126 :: .ref 127 :: .ref 128 :: .ref 129 :: .int (zI mfu) :: .ref 130 :: .ref 131 :: .ref 132 :: .ref 133 :: .ref 134 :: .int (zI mdm) :: .int (zI mla) :: []))), (100, .inl (0, 4870, .inl (zA K2))), (110, .inl (0, 8820, .inl (zA co2))), (111, .inl (0, 1260, .inl (zA cd2))), (117, .inl (0, 7, .inl (zA of2)))]) ∧ (KOK K2) ∧ (Rg of2 7 0 4) ∧ (zr hb2) ∧ (hb2 = mv + 1 → HouT co2 cd2 K2 hm2 ∧ hm2 = Hi K2 ∧ pm2 = bsum K2) ∧ (hb2 ≤ mv + 1) ∧ (rwk ta mt = true) ∧ (RwK K K1 ta mt) ∧ (NBS K1 K2) ∧ (NBX K1 K2) ∧ (bsum K2 = mt) ∧ (OrR K2 ta r)))) (nh, hc fh [(98, .inr (12, (.int (zI ms) :: .int (zI mv) :: .ref 99 :: .ref 100 :: .ref 101 :: .ref 102 :: .ref 103 :: .ref 104 :: .ref 105 :: .int (zI 0) :: .int (zI mfa) :: .ref 106 :: .ref 107 :: .ref 108 :: .int (zI mtn) :: .int (zI mtk) :: .int (zI mlv) :: .int (zI mbd) :: .int (zI mgo) :: .int (zI mge) :: .int (zI mbk) :: .ref 109 :: .int (zI mtt) :: .int (zI mtl) :: .ref 110 :: .ref 111 :: .ref 112 :: .ref 113 :: .ref 114 :: .ref 115 :: .ref 116 :: .ref 117 :: .int (zI hm) :: .int (zI pm) :: .int (zI hb) :: .int (zI sb) :: .ref 118 :: .ref 119 :: .ref 120 :: .ref 121 :: .ref 122 :: .ref 123 :: .ref 124 :: .ref 125 :: .ref 126 :: .ref 127 :: .ref 128 :: .ref 129 :: .int (zI mfu) :: .ref 130 :: .ref 131 :: .ref 132 :: .ref 133 :: .ref 134 :: .int (zI mdm) :: .int (zI mla) :: [])))]) 0 0 17 [some (.ref 98), some (.int (zI mt)), none, none, none] [.int (zI t0_17j)] := by
    intro t0_17j j17_0 j17_1 j17_2 j17_3
    refine J_istore_n dX12_row_17 rfl (Nat.le_of_ble_eq_true rfl) rfl ?_
    refine J_ls (ls2 := [some (.ref 98), some (.int (zI mt)), some (.int (zI t0_17j)), none, none]) rfl ?_
    refine Z_iconst (n := 0) dX12_row_18 ?_
    refine J_istore_n dX12_row_19 rfl (Nat.le_of_ble_eq_true rfl) rfl ?_
    refine J_ls (ls2 := [some (.ref 98), some (.int (zI mt)), some (.int (zI t0_17j)), some (.int (zI 0)), none]) rfl ?_
    have lp20 : ∀ (N20 : Nat) (is_20 : Int) (k_20 : Int), (0 ≤ k_20) → (k_20 ≤ 400) → (0 ≤ is_20) → (is_20 ≤ 1) → (is_20 = 1 → Rg ta k_20 0 4 ∧ 1 ≤ mt ∧ mt ≤ 7) → (is_20 = 0 → rwk ta mt = false) → (400 - k_20).toNat < N20 → J l G MX12_row { frames := 3, cells := 0, slots := 0, locals := 71 } jE (jMQ G { frames := 3, cells := 0, slots := 0, locals := 71 } (fun rr h9 => (∃ rg7 : Int → Int, rr = some (.int (zI (-6))) ∧ h9 = (nh, hc fh [(98, .inr (12, (.int (zI (-6)) :: .int (zI mv) :: .ref 99 :: .ref 100 :: .ref 101 :: .ref 102 :: .ref 103 :: .ref 104 :: .ref 105 :: .int (zI 0) :: .int (zI mfa) :: .ref 106 :: .ref 107 :: .ref 108 :: .int (zI mtn) :: .int (zI mtk) :: .int (zI mlv) :: .int (zI mbd) :: .int (zI mgo) :: .int (zI mge) :: .int (zI mbk) :: .ref 109 :: .int (zI mtt) :: .int (zI mtl) :: .ref 110 :: .ref 111 :: .ref 112 :: .ref 113 :: .ref 114 :: .ref 115 :: .ref 116 :: .ref 117 :: .int (zI hm) :: .int (zI pm) :: .int (zI hb) :: .int (zI sb) :: .ref 118 :: .ref 119 :: .ref 120 :: .ref 121 :: .ref 122 :: .ref 123 :: .ref 124 :: .ref 125 :: .ref 126 :: .ref 127 :: .ref 128 :: .ref 129 :: .int (zI mfu) :: .ref 130 :: .ref 131 :: .ref 132 :: .ref 133 :: .ref 134 :: .int (zI mdm) :: .int (zI mla) :: []))), (99, .inl (0, 7, .inl (zA rg7)))]) ∧ (rwk ta mt = false)) ∨ (∃ K2 : Int → Int, ∃ r : Int, ∃ hm2 : Int, ∃ pm2 : Int, ∃ hb2 : Int, ∃ co2 : Int → Int, ∃ cd2 : Int → Int, ∃ of2 : Int → Int, ∃ K1 : Int → Int, rr = some (.int (zI r)) ∧ h9 = (nh, hc fh [(98, .inr (12, (.int (zI 0) :: .int (zI (mv + 1)) :: .ref 99 :: .ref 100 :: .ref 101 :: .ref 102 :: .ref 103 :: .ref 104 :: .ref 105 :: .int (zI 0) :: .int (zI mfa) :: .ref 106 :: .ref 107 :: .ref 108 :: .int (zI mtn) :: .int (zI mtk) :: .int (zI mlv) :: .int (zI mbd) :: .int (zI mgo) :: .int (zI mge) :: .int (zI mbk) :: .ref 109 :: .int (zI mtt) :: .int (zI mtl) :: .ref 110 :: .ref 111 :: .ref 112 :: .ref 113 :: .ref 114 :: .ref 115 :: .ref 116 :: .ref 117 :: .int (zI hm2) :: .int (zI pm2) :: .int (zI hb2) :: .int (zI sb) :: .ref 118 :: .ref 119 :: .ref 120 :: .ref 121 :: .ref 122 :: .ref 123 :: .ref 124 :: .ref 125 :: .ref 126 :: .ref 127 :: .ref 128 :: .ref 129 :: .int (zI mfu) :: .ref 130 :: .ref 131 :: .ref 132 :: .ref 133 :: .ref 134 :: .int (zI mdm) :: .int (zI mla) :: []))), (100, .inl (0, 4870, .inl (zA K2))), (110, .inl (0, 8820, .inl (zA co2))), (111, .inl (0, 1260, .inl (zA cd2))), (117, .inl (0, 7, .inl (zA of2)))]) ∧ (KOK K2) ∧ (Rg of2 7 0 4) ∧ (zr hb2) ∧ (hb2 = mv + 1 → HouT co2 cd2 K2 hm2 ∧ hm2 = Hi K2 ∧ pm2 = bsum K2) ∧ (hb2 ≤ mv + 1) ∧ (rwk ta mt = true) ∧ (RwK K K1 ta mt) ∧ (NBS K1 K2) ∧ (NBX K1 K2) ∧ (bsum K2 = mt) ∧ (OrR K2 ta r)))) (nh, hc fh [(98, .inr (12, (.int (zI ms) :: .int (zI mv) :: .ref 99 :: .ref 100 :: .ref 101 :: .ref 102 :: .ref 103 :: .ref 104 :: .ref 105 :: .int (zI 0) :: .int (zI mfa) :: .ref 106 :: .ref 107 :: .ref 108 :: .int (zI mtn) :: .int (zI mtk) :: .int (zI mlv) :: .int (zI mbd) :: .int (zI mgo) :: .int (zI mge) :: .int (zI mbk) :: .ref 109 :: .int (zI mtt) :: .int (zI mtl) :: .ref 110 :: .ref 111 :: .ref 112 :: .ref 113 :: .ref 114 :: .ref 115 :: .ref 116 :: .ref 117 :: .int (zI hm) :: .int (zI pm) :: .int (zI hb) :: .int (zI sb) :: .ref 118 :: .ref 119 :: .ref 120 :: .ref 121 :: .ref 122 :: .ref 123 :: .ref 124 :: .ref 125 :: .ref 126 :: .ref 127 :: .ref 128 :: .ref 129 :: .int (zI mfu) :: .ref 130 :: .ref 131 :: .ref 132 :: .ref 133 :: .ref 134 :: .int (zI mdm) :: .int (zI mla) :: [])))]) 0 0 20 [some (.ref 98), some (.int (zI mt)), some (.int (zI is_20)), some (.int (zI k_20)), none] [] := by
      intro N20
      induction N20 with
      | zero => intro is_20 k_20 i20_0 i20_1 i20_2 i20_3 i20_4 i20_5 hm; exact absurd hm (Nat.not_lt_zero _)
      | succ N20 ih20 =>
        intro is_20 k_20 i20_0 i20_1 i20_2 i20_3 i20_4 i20_5 hm20
        refine J_iload_n dX12_row_20 rfl rfl ?_
        refine J_iload_n dX12_row_21 rfl rfl ?_
        refine Z_icmp_ge (tgt := 47) dX12_row_22 (by decide) (v_d7389cde0f i20_0 i20_1) (v_d7389cde0f q1 q2) (fun h1 => ?_) (fun h1 => ?_)
        · refine J_iload_n dX12_row_47 rfl rfl ?_
          refine Z_if_ne (tgt := 58) dX12_row_48 (by decide) (v_5f10a759cd i20_2 i20_3) (fun h2 => ?_) (fun h2 => ?_)
          · have gal := i20_4 (v_8b15499c4b i20_2 i20_3 h2)
            have gta : Rg ta mt 0 4 := Rg.mono gal.1 (v_d464d4c634 h1) (Int.le_refl _) (Int.le_refl _)
            refine Z_iconst (n := 0) dX12_row_58 ?_
            refine J_istore_n dX12_row_59 rfl (Nat.le_of_ble_eq_true rfl) rfl ?_
            refine J_ls (ls2 := [some (.ref 98), some (.int (zI mt)), some (.int (zI is_20)), some (.int (zI 0)), none]) rfl ?_
            refine J_touch (k := 100) (e := .inl (0, 4870, .inl (zA K))) hk100 ?_
            have lp60 : ∀ (N60 : Nat) (c_60 : Int) (Kx_60 : Int → Int), (0 ≤ c_60) → (c_60 ≤ 5) → (Zr5 K Kx_60 c_60) → (Rg Kx_60 4870 (-2147483648) 2147483647) → (5 - c_60).toNat < N60 → J l G MX12_row { frames := 3, cells := 0, slots := 0, locals := 71 } jE (jMQ G { frames := 3, cells := 0, slots := 0, locals := 71 } (fun rr h9 => (∃ rg7 : Int → Int, rr = some (.int (zI (-6))) ∧ h9 = (nh, hc fh [(98, .inr (12, (.int (zI (-6)) :: .int (zI mv) :: .ref 99 :: .ref 100 :: .ref 101 :: .ref 102 :: .ref 103 :: .ref 104 :: .ref 105 :: .int (zI 0) :: .int (zI mfa) :: .ref 106 :: .ref 107 :: .ref 108 :: .int (zI mtn) :: .int (zI mtk) :: .int (zI mlv) :: .int (zI mbd) :: .int (zI mgo) :: .int (zI mge) :: .int (zI mbk) :: .ref 109 :: .int (zI mtt) :: .int (zI mtl) :: .ref 110 :: .ref 111 :: .ref 112 :: .ref 113 :: .ref 114 :: .ref 115 :: .ref 116 :: .ref 117 :: .int (zI hm) :: .int (zI pm) :: .int (zI hb) :: .int (zI sb) :: .ref 118 :: .ref 119 :: .ref 120 :: .ref 121 :: .ref 122 :: .ref 123 :: .ref 124 :: .ref 125 :: .ref 126 :: .ref 127 :: .ref 128 :: .ref 129 :: .int (zI mfu) :: .ref 130 :: .ref 131 :: .ref 132 :: .ref 133 :: .ref 134 :: .int (zI mdm) :: .int (zI mla) :: []))), (99, .inl (0, 7, .inl (zA rg7)))]) ∧ (rwk ta mt = false)) ∨ (∃ K2 : Int → Int, ∃ r : Int, ∃ hm2 : Int, ∃ pm2 : Int, ∃ hb2 : Int, ∃ co2 : Int → Int, ∃ cd2 : Int → Int, ∃ of2 : Int → Int, ∃ K1 : Int → Int, rr = some (.int (zI r)) ∧ h9 = (nh, hc fh [(98, .inr (12, (.int (zI 0) :: .int (zI (mv + 1)) :: .ref 99 :: .ref 100 :: .ref 101 :: .ref 102 :: .ref 103 :: .ref 104 :: .ref 105 :: .int (zI 0) :: .int (zI mfa) :: .ref 106 :: .ref 107 :: .ref 108 :: .int (zI mtn) :: .int (zI mtk) :: .int (zI mlv) :: .int (zI mbd) :: .int (zI mgo) :: .int (zI mge) :: .int (zI mbk) :: .ref 109 :: .int (zI mtt) :: .int (zI mtl) :: .ref 110 :: .ref 111 :: .ref 112 :: .ref 113 :: .ref 114 :: .ref 115 :: .ref 116 :: .ref 117 :: .int (zI hm2) :: .int (zI pm2) :: .int (zI hb2) :: .int (zI sb) :: .ref 118 :: .ref 119 :: .ref 120 :: .ref 121 :: .ref 122 :: .ref 123 :: .ref 124 :: .ref 125 :: .ref 126 :: .ref 127 :: .ref 128 :: .ref 129 :: .int (zI mfu) :: .ref 130 :: .ref 131 :: .ref 132 :: .ref 133 :: .ref 134 :: .int (zI mdm) :: .int (zI mla) :: []))), (100, .inl (0, 4870, .inl (zA K2))), (110, .inl (0, 8820, .inl (zA co2))), (111, .inl (0, 1260, .inl (zA cd2))), (117, .inl (0, 7, .inl (zA of2)))]) ∧ (KOK K2) ∧ (Rg of2 7 0 4) ∧ (zr hb2) ∧ (hb2 = mv + 1 → HouT co2 cd2 K2 hm2 ∧ hm2 = Hi K2 ∧ pm2 = bsum K2) ∧ (hb2 ≤ mv + 1) ∧ (rwk ta mt = true) ∧ (RwK K K1 ta mt) ∧ (NBS K1 K2) ∧ (NBX K1 K2) ∧ (bsum K2 = mt) ∧ (OrR K2 ta r)))) (nh, hc fh [(100, .inl (0, 4870, .inl (zA Kx_60))), (98, .inr (12, (.int (zI ms) :: .int (zI mv) :: .ref 99 :: .ref 100 :: .ref 101 :: .ref 102 :: .ref 103 :: .ref 104 :: .ref 105 :: .int (zI 0) :: .int (zI mfa) :: .ref 106 :: .ref 107 :: .ref 108 :: .int (zI mtn) :: .int (zI mtk) :: .int (zI mlv) :: .int (zI mbd) :: .int (zI mgo) :: .int (zI mge) :: .int (zI mbk) :: .ref 109 :: .int (zI mtt) :: .int (zI mtl) :: .ref 110 :: .ref 111 :: .ref 112 :: .ref 113 :: .ref 114 :: .ref 115 :: .ref 116 :: .ref 117 :: .int (zI hm) :: .int (zI pm) :: .int (zI hb) :: .int (zI sb) :: .ref 118 :: .ref 119 :: .ref 120 :: .ref 121 :: .ref 122 :: .ref 123 :: .ref 124 :: .ref 125 :: .ref 126 :: .ref 127 :: .ref 128 :: .ref 129 :: .int (zI mfu) :: .ref 130 :: .ref 131 :: .ref 132 :: .ref 133 :: .ref 134 :: .int (zI mdm) :: .int (zI mla) :: [])))]) 0 0 60 [some (.ref 98), some (.int (zI mt)), some (.int (zI is_20)), some (.int (zI c_60)), none] [] := by
              intro N60
              induction N60 with
              | zero => intro c_60 Kx_60 i60_0 i60_1 i60_2 i60_3 hm; exact absurd hm (Nat.not_lt_zero _)
              | succ N60 ih60 =>
                intro c_60 Kx_60 i60_0 i60_1 i60_2 i60_3 hm60
                refine J_iload_n dX12_row_60 rfl rfl ?_
                refine Z_iconst (n := 5) dX12_row_61 ?_
                refine Z_icmp_ge (tgt := 80) dX12_row_62 (by decide) (v_a6208d3904 i60_0 i60_1) v_3961fe0d0d (fun h3 => ?_) (fun h3 => ?_)
                · refine Z_iconst (n := 0) dX12_row_80 ?_
                  refine J_istore_n dX12_row_81 rfl (Nat.le_of_ble_eq_true rfl) rfl ?_
                  refine J_ls (ls2 := [some (.ref 98), some (.int (zI mt)), some (.int (zI is_20)), some (.int (zI 0)), none]) rfl ?_
                  refine Z_iconst (n := 0) dX12_row_82 ?_
                  refine J_istore dX12_row_83 (Nat.le_of_ble_eq_true rfl) rfl ?_
                  refine J_ls (ls2 := [some (.ref 98), some (.int (zI mt)), some (.int (zI is_20)), some (.int (zI 0)), some (.int (zI 0))]) rfl ?_
                  have lp85 : ∀ (N85 : Nat) (v_85 : Int) (k_85 : Int) (Kx_85 : Int → Int), (0 ≤ k_85) → (k_85 ≤ mt) → (Cn5 K Kx_85 k_85) → (Rg Kx_85 4870 (-2147483648) 2147483647) → (cod5 ta (k_85).toNat = v_85) → (Ct5 Kx_85 ta k_85) → (mt - k_85).toNat < N85 → J l G MX12_row { frames := 3, cells := 0, slots := 0, locals := 71 } jE (jMQ G { frames := 3, cells := 0, slots := 0, locals := 71 } (fun rr h9 => (∃ rg7 : Int → Int, rr = some (.int (zI (-6))) ∧ h9 = (nh, hc fh [(98, .inr (12, (.int (zI (-6)) :: .int (zI mv) :: .ref 99 :: .ref 100 :: .ref 101 :: .ref 102 :: .ref 103 :: .ref 104 :: .ref 105 :: .int (zI 0) :: .int (zI mfa) :: .ref 106 :: .ref 107 :: .ref 108 :: .int (zI mtn) :: .int (zI mtk) :: .int (zI mlv) :: .int (zI mbd) :: .int (zI mgo) :: .int (zI mge) :: .int (zI mbk) :: .ref 109 :: .int (zI mtt) :: .int (zI mtl) :: .ref 110 :: .ref 111 :: .ref 112 :: .ref 113 :: .ref 114 :: .ref 115 :: .ref 116 :: .ref 117 :: .int (zI hm) :: .int (zI pm) :: .int (zI hb) :: .int (zI sb) :: .ref 118 :: .ref 119 :: .ref 120 :: .ref 121 :: .ref 122 :: .ref 123 :: .ref 124 :: .ref 125 :: .ref 126 :: .ref 127 :: .ref 128 :: .ref 129 :: .int (zI mfu) :: .ref 130 :: .ref 131 :: .ref 132 :: .ref 133 :: .ref 134 :: .int (zI mdm) :: .int (zI mla) :: []))), (99, .inl (0, 7, .inl (zA rg7)))]) ∧ (rwk ta mt = false)) ∨ (∃ K2 : Int → Int, ∃ r : Int, ∃ hm2 : Int, ∃ pm2 : Int, ∃ hb2 : Int, ∃ co2 : Int → Int, ∃ cd2 : Int → Int, ∃ of2 : Int → Int, ∃ K1 : Int → Int, rr = some (.int (zI r)) ∧ h9 = (nh, hc fh [(98, .inr (12, (.int (zI 0) :: .int (zI (mv + 1)) :: .ref 99 :: .ref 100 :: .ref 101 :: .ref 102 :: .ref 103 :: .ref 104 :: .ref 105 :: .int (zI 0) :: .int (zI mfa) :: .ref 106 :: .ref 107 :: .ref 108 :: .int (zI mtn) :: .int (zI mtk) :: .int (zI mlv) :: .int (zI mbd) :: .int (zI mgo) :: .int (zI mge) :: .int (zI mbk) :: .ref 109 :: .int (zI mtt) :: .int (zI mtl) :: .ref 110 :: .ref 111 :: .ref 112 :: .ref 113 :: .ref 114 :: .ref 115 :: .ref 116 :: .ref 117 :: .int (zI hm2) :: .int (zI pm2) :: .int (zI hb2) :: .int (zI sb) :: .ref 118 :: .ref 119 :: .ref 120 :: .ref 121 :: .ref 122 :: .ref 123 :: .ref 124 :: .ref 125 :: .ref 126 :: .ref 127 :: .ref 128 :: .ref 129 :: .int (zI mfu) :: .ref 130 :: .ref 131 :: .ref 132 :: .ref 133 :: .ref 134 :: .int (zI mdm) :: .int (zI mla) :: []))), (100, .inl (0, 4870, .inl (zA K2))), (110, .inl (0, 8820, .inl (zA co2))), (111, .inl (0, 1260, .inl (zA cd2))), (117, .inl (0, 7, .inl (zA of2)))]) ∧ (KOK K2) ∧ (Rg of2 7 0 4) ∧ (zr hb2) ∧ (hb2 = mv + 1 → HouT co2 cd2 K2 hm2 ∧ hm2 = Hi K2 ∧ pm2 = bsum K2) ∧ (hb2 ≤ mv + 1) ∧ (rwk ta mt = true) ∧ (RwK K K1 ta mt) ∧ (NBS K1 K2) ∧ (NBX K1 K2) ∧ (bsum K2 = mt) ∧ (OrR K2 ta r)))) (nh, hc fh [(100, .inl (0, 4870, .inl (zA Kx_85))), (98, .inr (12, (.int (zI ms) :: .int (zI mv) :: .ref 99 :: .ref 100 :: .ref 101 :: .ref 102 :: .ref 103 :: .ref 104 :: .ref 105 :: .int (zI 0) :: .int (zI mfa) :: .ref 106 :: .ref 107 :: .ref 108 :: .int (zI mtn) :: .int (zI mtk) :: .int (zI mlv) :: .int (zI mbd) :: .int (zI mgo) :: .int (zI mge) :: .int (zI mbk) :: .ref 109 :: .int (zI mtt) :: .int (zI mtl) :: .ref 110 :: .ref 111 :: .ref 112 :: .ref 113 :: .ref 114 :: .ref 115 :: .ref 116 :: .ref 117 :: .int (zI hm) :: .int (zI pm) :: .int (zI hb) :: .int (zI sb) :: .ref 118 :: .ref 119 :: .ref 120 :: .ref 121 :: .ref 122 :: .ref 123 :: .ref 124 :: .ref 125 :: .ref 126 :: .ref 127 :: .ref 128 :: .ref 129 :: .int (zI mfu) :: .ref 130 :: .ref 131 :: .ref 132 :: .ref 133 :: .ref 134 :: .int (zI mdm) :: .int (zI mla) :: [])))]) 0 0 85 [some (.ref 98), some (.int (zI mt)), some (.int (zI is_20)), some (.int (zI v_85)), some (.int (zI k_85))] [] := by
                    intro N85
                    induction N85 with
                    | zero => intro v_85 k_85 Kx_85 i85_0 i85_1 i85_2 i85_3 i85_4 i85_5 hm; exact absurd hm (Nat.not_lt_zero _)
                    | succ N85 ih85 =>
                      intro v_85 k_85 Kx_85 i85_0 i85_1 i85_2 i85_3 i85_4 i85_5 hm85
                      refine J_iload dX12_row_85 rfl ?_
                      refine J_iload_n dX12_row_87 rfl rfl ?_
                      refine Z_icmp_ge (tgt := 127) dX12_row_88 (by decide) (v_ee3170dbf0 gal.2.2 i85_0 i85_1) (v_ea6a719626 gal.2.1 gal.2.2) (fun h4 => ?_) (fun h4 => ?_)
                      · refine J_aload_n dX12_row_127 rfl rfl ?_
                        refine J_callV (st := []) dX12_row_128 cv_X12_153 (k_newBeans2 ms mv 0 mfa mtn mtk mlv mbd mgo mge mbk mtt mtl hm pm hb sb mfu mdm mla Kx_85 (Cn5.ok i85_2 (v_e75e18c634 gal.2.2 i85_1)) (by rw [i85_2.1 60 (by decide)]; exact q0.2.2.1.1) (by rw [i85_2.1 60 (by decide)]; exact q0.2.2.1.2) (SwL_up q0.2.2.2.1 q0.1 q0.2.2.1.2 i85_2.1) i85_3 rfl rfl) rfl rfl rfl (Nat.le_of_ble_eq_true rfl) ⟨(Nat.le_of_ble_eq_true rfl), (Nat.le_of_ble_eq_true rfl)⟩ ⟨(Nat.le_of_ble_eq_true rfl), (Nat.le_of_ble_eq_true rfl)⟩ (fun r h9 hp => ?_)
                        obtain ⟨f5, rfl, rfl, h6, h7, h8, h9, h10, h11⟩ := hp
                        refine J_nf (nh2 := nh) (ck2 := 0) (sk2 := 0) (st2 := []) rfl rfl rfl rfl ?_
                        refine J_app (L3 := [(100, .inl (0, 4870, .inl (zA f5))), (100, .inl (0, 4870, .inl (zA Kx_85))), (98, .inr (12, (.int (zI ms) :: .int (zI mv) :: .ref 99 :: .ref 100 :: .ref 101 :: .ref 102 :: .ref 103 :: .ref 104 :: .ref 105 :: .int (zI 0) :: .int (zI mfa) :: .ref 106 :: .ref 107 :: .ref 108 :: .int (zI mtn) :: .int (zI mtk) :: .int (zI mlv) :: .int (zI mbd) :: .int (zI mgo) :: .int (zI mge) :: .int (zI mbk) :: .ref 109 :: .int (zI mtt) :: .int (zI mtl) :: .ref 110 :: .ref 111 :: .ref 112 :: .ref 113 :: .ref 114 :: .ref 115 :: .ref 116 :: .ref 117 :: .int (zI hm) :: .int (zI pm) :: .int (zI hb) :: .int (zI sb) :: .ref 118 :: .ref 119 :: .ref 120 :: .ref 121 :: .ref 122 :: .ref 123 :: .ref 124 :: .ref 125 :: .ref 126 :: .ref 127 :: .ref 128 :: .ref 129 :: .int (zI mfu) :: .ref 130 :: .ref 131 :: .ref 132 :: .ref 133 :: .ref 134 :: .int (zI mdm) :: .int (zI mla) :: [])))]) rfl ?_
                        refine J_mask (L2 := [(100, .inl (0, 4870, .inl (zA f5))), (98, .inr (12, (.int (zI ms) :: .int (zI mv) :: .ref 99 :: .ref 100 :: .ref 101 :: .ref 102 :: .ref 103 :: .ref 104 :: .ref 105 :: .int (zI 0) :: .int (zI mfa) :: .ref 106 :: .ref 107 :: .ref 108 :: .int (zI mtn) :: .int (zI mtk) :: .int (zI mlv) :: .int (zI mbd) :: .int (zI mgo) :: .int (zI mge) :: .int (zI mbk) :: .ref 109 :: .int (zI mtt) :: .int (zI mtl) :: .ref 110 :: .ref 111 :: .ref 112 :: .ref 113 :: .ref 114 :: .ref 115 :: .ref 116 :: .ref 117 :: .int (zI hm) :: .int (zI pm) :: .int (zI hb) :: .int (zI sb) :: .ref 118 :: .ref 119 :: .ref 120 :: .ref 121 :: .ref 122 :: .ref 123 :: .ref 124 :: .ref 125 :: .ref 126 :: .ref 127 :: .ref 128 :: .ref 129 :: .int (zI mfu) :: .ref 130 :: .ref 131 :: .ref 132 :: .ref 133 :: .ref 134 :: .int (zI mdm) :: .int (zI mla) :: [])))]) (ks := [100, 100, 98]) [true, false, true] rfl (by decide +kernel) rfl ?_
                        have gok : KOK f5 := KOK.beans q0 i85_2.1 (Cn5.ok i85_2 (v_e75e18c634 gal.2.2 i85_1)) ⟨h6, h7⟩ h8 h9 h10
                        have gcz := cod5_rng (B := ta) (k_85).toNat (by omega) (fun j a b => gta j a (by omega))
                        rw [i85_4] at gcz
                        refine J_aload_n dX12_row_131 rfl rfl ?_
                        refine Z_iconst (n := 0) dX12_row_132 ?_
                        refine J_callV (st := []) dX12_row_133 cv_X12_146 (k_good 0 ms mv 0 mfa mtn mtk mlv mbd mgo mge mbk mtt mtl hm pm hb sb mfu mdm mla rfl) rfl rfl rfl (Nat.le_of_ble_eq_true rfl) ⟨(Nat.le_of_ble_eq_true rfl), (Nat.le_of_ble_eq_true rfl)⟩ ⟨(Nat.le_of_ble_eq_true rfl), (Nat.le_of_ble_eq_true rfl)⟩ (fun r h9 hp => ?_)
                        obtain ⟨rfl, rfl⟩ := hp
                        refine J_nf (nh2 := nh) (ck2 := 0) (sk2 := 0) (st2 := [.int (zI 0)]) rfl rfl rfl rfl ?_
                        refine J_app (L3 := [(98, .inr (12, (.int (zI 0) :: .int (zI (mv + 1)) :: .ref 99 :: .ref 100 :: .ref 101 :: .ref 102 :: .ref 103 :: .ref 104 :: .ref 105 :: .int (zI 0) :: .int (zI mfa) :: .ref 106 :: .ref 107 :: .ref 108 :: .int (zI mtn) :: .int (zI mtk) :: .int (zI mlv) :: .int (zI mbd) :: .int (zI mgo) :: .int (zI mge) :: .int (zI mbk) :: .ref 109 :: .int (zI mtt) :: .int (zI mtl) :: .ref 110 :: .ref 111 :: .ref 112 :: .ref 113 :: .ref 114 :: .ref 115 :: .ref 116 :: .ref 117 :: .int (zI hm) :: .int (zI pm) :: .int (zI hb) :: .int (zI sb) :: .ref 118 :: .ref 119 :: .ref 120 :: .ref 121 :: .ref 122 :: .ref 123 :: .ref 124 :: .ref 125 :: .ref 126 :: .ref 127 :: .ref 128 :: .ref 129 :: .int (zI mfu) :: .ref 130 :: .ref 131 :: .ref 132 :: .ref 133 :: .ref 134 :: .int (zI mdm) :: .int (zI mla) :: []))), (100, .inl (0, 4870, .inl (zA f5))), (98, .inr (12, (.int (zI ms) :: .int (zI mv) :: .ref 99 :: .ref 100 :: .ref 101 :: .ref 102 :: .ref 103 :: .ref 104 :: .ref 105 :: .int (zI 0) :: .int (zI mfa) :: .ref 106 :: .ref 107 :: .ref 108 :: .int (zI mtn) :: .int (zI mtk) :: .int (zI mlv) :: .int (zI mbd) :: .int (zI mgo) :: .int (zI mge) :: .int (zI mbk) :: .ref 109 :: .int (zI mtt) :: .int (zI mtl) :: .ref 110 :: .ref 111 :: .ref 112 :: .ref 113 :: .ref 114 :: .ref 115 :: .ref 116 :: .ref 117 :: .int (zI hm) :: .int (zI pm) :: .int (zI hb) :: .int (zI sb) :: .ref 118 :: .ref 119 :: .ref 120 :: .ref 121 :: .ref 122 :: .ref 123 :: .ref 124 :: .ref 125 :: .ref 126 :: .ref 127 :: .ref 128 :: .ref 129 :: .int (zI mfu) :: .ref 130 :: .ref 131 :: .ref 132 :: .ref 133 :: .ref 134 :: .int (zI mdm) :: .int (zI mla) :: [])))]) rfl ?_
                        refine J_mask (L2 := [(98, .inr (12, (.int (zI 0) :: .int (zI (mv + 1)) :: .ref 99 :: .ref 100 :: .ref 101 :: .ref 102 :: .ref 103 :: .ref 104 :: .ref 105 :: .int (zI 0) :: .int (zI mfa) :: .ref 106 :: .ref 107 :: .ref 108 :: .int (zI mtn) :: .int (zI mtk) :: .int (zI mlv) :: .int (zI mbd) :: .int (zI mgo) :: .int (zI mge) :: .int (zI mbk) :: .ref 109 :: .int (zI mtt) :: .int (zI mtl) :: .ref 110 :: .ref 111 :: .ref 112 :: .ref 113 :: .ref 114 :: .ref 115 :: .ref 116 :: .ref 117 :: .int (zI hm) :: .int (zI pm) :: .int (zI hb) :: .int (zI sb) :: .ref 118 :: .ref 119 :: .ref 120 :: .ref 121 :: .ref 122 :: .ref 123 :: .ref 124 :: .ref 125 :: .ref 126 :: .ref 127 :: .ref 128 :: .ref 129 :: .int (zI mfu) :: .ref 130 :: .ref 131 :: .ref 132 :: .ref 133 :: .ref 134 :: .int (zI mdm) :: .int (zI mla) :: []))), (100, .inl (0, 4870, .inl (zA f5)))]) (ks := [98, 100, 98]) [true, true, false] rfl (by decide +kernel) rfl ?_
                        refine J_pop dX12_row_136 rfl ?_
                        refine J_aload_n dX12_row_137 rfl rfl ?_
                        refine J_callV (st := []) dX12_row_138 cv_X12_159 (k_laysHouses 0 (mv + 1) 0 mfa mtn mtk mlv mbd mgo mge mbk mtt mtl hm pm hb sb mfu mdm mla f5 co cd of gok.1 q7 q8 q9 (fun w => absurd w (by have u := q10; omega)) rfl rfl hk110 hk111 hk117) rfl rfl rfl (Nat.le_of_ble_eq_true rfl) ⟨(Nat.le_of_ble_eq_true rfl), (Nat.le_of_ble_eq_true rfl)⟩ ⟨(Nat.le_of_ble_eq_true rfl), (Nat.le_of_ble_eq_true rfl)⟩ (fun r h9 hp => ?_)
                        obtain ⟨z12, z13, z14, f15, f16, f17, rfl, rfl, h18, h19, h20, h21, h22, h23, h24, h25, h26⟩ := hp
                        refine J_nf (nh2 := nh) (ck2 := 0) (sk2 := 0) (st2 := []) rfl rfl rfl rfl ?_
                        refine J_app (L3 := [(98, .inr (12, (.int (zI 0) :: .int (zI (mv + 1)) :: .ref 99 :: .ref 100 :: .ref 101 :: .ref 102 :: .ref 103 :: .ref 104 :: .ref 105 :: .int (zI 0) :: .int (zI mfa) :: .ref 106 :: .ref 107 :: .ref 108 :: .int (zI mtn) :: .int (zI mtk) :: .int (zI mlv) :: .int (zI mbd) :: .int (zI mgo) :: .int (zI mge) :: .int (zI mbk) :: .ref 109 :: .int (zI mtt) :: .int (zI mtl) :: .ref 110 :: .ref 111 :: .ref 112 :: .ref 113 :: .ref 114 :: .ref 115 :: .ref 116 :: .ref 117 :: .int (zI z12) :: .int (zI z13) :: .int (zI z14) :: .int (zI sb) :: .ref 118 :: .ref 119 :: .ref 120 :: .ref 121 :: .ref 122 :: .ref 123 :: .ref 124 :: .ref 125 :: .ref 126 :: .ref 127 :: .ref 128 :: .ref 129 :: .int (zI mfu) :: .ref 130 :: .ref 131 :: .ref 132 :: .ref 133 :: .ref 134 :: .int (zI mdm) :: .int (zI mla) :: []))), (110, .inl (0, 8820, .inl (zA f15))), (111, .inl (0, 1260, .inl (zA f16))), (117, .inl (0, 7, .inl (zA f17))), (98, .inr (12, (.int (zI 0) :: .int (zI (mv + 1)) :: .ref 99 :: .ref 100 :: .ref 101 :: .ref 102 :: .ref 103 :: .ref 104 :: .ref 105 :: .int (zI 0) :: .int (zI mfa) :: .ref 106 :: .ref 107 :: .ref 108 :: .int (zI mtn) :: .int (zI mtk) :: .int (zI mlv) :: .int (zI mbd) :: .int (zI mgo) :: .int (zI mge) :: .int (zI mbk) :: .ref 109 :: .int (zI mtt) :: .int (zI mtl) :: .ref 110 :: .ref 111 :: .ref 112 :: .ref 113 :: .ref 114 :: .ref 115 :: .ref 116 :: .ref 117 :: .int (zI hm) :: .int (zI pm) :: .int (zI hb) :: .int (zI sb) :: .ref 118 :: .ref 119 :: .ref 120 :: .ref 121 :: .ref 122 :: .ref 123 :: .ref 124 :: .ref 125 :: .ref 126 :: .ref 127 :: .ref 128 :: .ref 129 :: .int (zI mfu) :: .ref 130 :: .ref 131 :: .ref 132 :: .ref 133 :: .ref 134 :: .int (zI mdm) :: .int (zI mla) :: []))), (100, .inl (0, 4870, .inl (zA f5)))]) rfl ?_
                        refine J_mask (L2 := [(98, .inr (12, (.int (zI 0) :: .int (zI (mv + 1)) :: .ref 99 :: .ref 100 :: .ref 101 :: .ref 102 :: .ref 103 :: .ref 104 :: .ref 105 :: .int (zI 0) :: .int (zI mfa) :: .ref 106 :: .ref 107 :: .ref 108 :: .int (zI mtn) :: .int (zI mtk) :: .int (zI mlv) :: .int (zI mbd) :: .int (zI mgo) :: .int (zI mge) :: .int (zI mbk) :: .ref 109 :: .int (zI mtt) :: .int (zI mtl) :: .ref 110 :: .ref 111 :: .ref 112 :: .ref 113 :: .ref 114 :: .ref 115 :: .ref 116 :: .ref 117 :: .int (zI z12) :: .int (zI z13) :: .int (zI z14) :: .int (zI sb) :: .ref 118 :: .ref 119 :: .ref 120 :: .ref 121 :: .ref 122 :: .ref 123 :: .ref 124 :: .ref 125 :: .ref 126 :: .ref 127 :: .ref 128 :: .ref 129 :: .int (zI mfu) :: .ref 130 :: .ref 131 :: .ref 132 :: .ref 133 :: .ref 134 :: .int (zI mdm) :: .int (zI mla) :: []))), (110, .inl (0, 8820, .inl (zA f15))), (111, .inl (0, 1260, .inl (zA f16))), (117, .inl (0, 7, .inl (zA f17))), (100, .inl (0, 4870, .inl (zA f5)))]) (ks := [98, 110, 111, 117, 98, 100]) [true, true, true, true, false, true] rfl (by decide +kernel) rfl ?_
                        refine J_aload_n dX12_row_141 rfl rfl ?_
                        refine J_iload_n dX12_row_142 rfl rfl ?_
                        refine J_callV (st := []) dX12_row_143 cv_X12_162 (k_houseOf v_85 f5 f15 f16 0 (mv + 1) 0 mfa mtn mtk mlv mbd mgo mge mbk mtt mtl z12 z13 z14 sb mfu mdm mla (v_ae3ec8d5bc gcz.1 gcz.2) gok.1 h18 h20 h22 h23 rfl rfl rfl rfl) rfl rfl rfl (Nat.le_of_ble_eq_true rfl) ⟨(Nat.le_of_ble_eq_true rfl), (Nat.le_of_ble_eq_true rfl)⟩ ⟨(Nat.le_of_ble_eq_true rfl), (Nat.le_of_ble_eq_true rfl)⟩ (fun r h9 hp => ?_)
                        obtain ⟨z27, rfl, rfl, h28, h29, h30⟩ := hp
                        refine J_nf (nh2 := nh) (ck2 := 0) (sk2 := 0) (st2 := [.int (zI z27)]) rfl rfl rfl rfl ?_
                        refine J_touch (k := 117) (e := .inl (0, 7, .inl (zA f17))) rfl ?_
                        refine J_touch (k := 111) (e := .inl (0, 1260, .inl (zA f16))) rfl ?_
                        refine J_touch (k := 110) (e := .inl (0, 8820, .inl (zA f15))) rfl ?_
                        refine J_touch (k := 100) (e := .inl (0, 4870, .inl (zA f5))) rfl ?_
                        refine J_touch (k := 98) (e := .inr (12, (.int (zI 0) :: .int (zI (mv + 1)) :: .ref 99 :: .ref 100 :: .ref 101 :: .ref 102 :: .ref 103 :: .ref 104 :: .ref 105 :: .int (zI 0) :: .int (zI mfa) :: .ref 106 :: .ref 107 :: .ref 108 :: .int (zI mtn) :: .int (zI mtk) :: .int (zI mlv) :: .int (zI mbd) :: .int (zI mgo) :: .int (zI mge) :: .int (zI mbk) :: .ref 109 :: .int (zI mtt) :: .int (zI mtl) :: .ref 110 :: .ref 111 :: .ref 112 :: .ref 113 :: .ref 114 :: .ref 115 :: .ref 116 :: .ref 117 :: .int (zI z12) :: .int (zI z13) :: .int (zI z14) :: .int (zI sb) :: .ref 118 :: .ref 119 :: .ref 120 :: .ref 121 :: .ref 122 :: .ref 123 :: .ref 124 :: .ref 125 :: .ref 126 :: .ref 127 :: .ref 128 :: .ref 129 :: .int (zI mfu) :: .ref 130 :: .ref 131 :: .ref 132 :: .ref 133 :: .ref 134 :: .int (zI mdm) :: .int (zI mla) :: []))) rfl ?_
                        refine J_mask (L2 := [(98, .inr (12, (.int (zI 0) :: .int (zI (mv + 1)) :: .ref 99 :: .ref 100 :: .ref 101 :: .ref 102 :: .ref 103 :: .ref 104 :: .ref 105 :: .int (zI 0) :: .int (zI mfa) :: .ref 106 :: .ref 107 :: .ref 108 :: .int (zI mtn) :: .int (zI mtk) :: .int (zI mlv) :: .int (zI mbd) :: .int (zI mgo) :: .int (zI mge) :: .int (zI mbk) :: .ref 109 :: .int (zI mtt) :: .int (zI mtl) :: .ref 110 :: .ref 111 :: .ref 112 :: .ref 113 :: .ref 114 :: .ref 115 :: .ref 116 :: .ref 117 :: .int (zI z12) :: .int (zI z13) :: .int (zI z14) :: .int (zI sb) :: .ref 118 :: .ref 119 :: .ref 120 :: .ref 121 :: .ref 122 :: .ref 123 :: .ref 124 :: .ref 125 :: .ref 126 :: .ref 127 :: .ref 128 :: .ref 129 :: .int (zI mfu) :: .ref 130 :: .ref 131 :: .ref 132 :: .ref 133 :: .ref 134 :: .int (zI mdm) :: .int (zI mla) :: []))), (100, .inl (0, 4870, .inl (zA f5))), (110, .inl (0, 8820, .inl (zA f15))), (111, .inl (0, 1260, .inl (zA f16))), (117, .inl (0, 7, .inl (zA f17)))]) (ks := [98, 100, 110, 111, 117, 98, 110, 111, 117, 100]) [true, true, true, true, true, false, false, false, false, false] rfl (by decide +kernel) rfl ?_
                        exact J_iret dX12_row_146 rfl rfl (Nat.le_of_ble_eq_true rfl) (Nat.le_of_ble_eq_true rfl) (Or.inr ⟨f5, z27, z12, z13, z14, f15, f16, f17, Kx_85, rfl, rfl, (gok), h21, (v_fdd73f66c3 q5 q11 h26), (fun _ => ⟨h20, h18, h19⟩), (v_0e415c711b h26), (rwk_yes (v_5dfb8272e3 gal.2.1) (v_dc59a041dc gal.2.2) gta), (⟨i85_2.1, by have e : k_85 = mt := (v_9b8f42b01e i85_1 h4); have h := i85_5; rw [e] at h; exact h⟩), h9, h11, ((bsum_sm (fun j a b => h9.1 j (Or.inl (by omega)) (by omega) (by omega) (by omega))).trans (i85_2.2.1.trans (v_9b8f42b01e i85_1 h4))), (OrR.ref h20 gok.1 h18 ((bsum_sm (fun j a b => h9.1 j (Or.inl (by omega)) (by omega) (by omega) (by omega))).trans (i85_2.2.1.trans (v_9b8f42b01e i85_1 h4))).symm (EqOn.refl) (fun j a b => gta j a (by have u := (bsum_sm (fun j a b => h9.1 j (Or.inl (by omega)) (by omega) (by omega) (by omega))).trans (i85_2.2.1.trans (v_9b8f42b01e i85_1 h4)); omega)) (by have e : k_85 = mt := (v_9b8f42b01e i85_1 h4); have h := i85_4; rw [e] at h; exact h) (v_4f729da59d h28) (v_b9aca61388 h29) h30)⟩)
                      · refine J_aload_n dX12_row_91 rfl rfl ?_
                        refine J_get (v := .ref 100) dX12_row_92 fl_X12_20 rfl rfl ?_
                        refine Z_iconst (n := 0) dX12_row_95 ?_
                        refine J_aload_n dX12_row_96 rfl rfl ?_
                        refine J_get (v := .ref 104) dX12_row_97 fl_X12_34 rfl rfl ?_
                        refine J_iload dX12_row_100 rfl ?_
                        obtain ⟨z31, ez31⟩ : ∃ z : Int, ta k_85 = z := ⟨_, rfl⟩
                        have h32 := Rg.at q3 (v_2b02420001 i85_0) (v_6aef9b5ec0 gal.2.2 h4) ez31
                        have h33 := Rg.at gta (v_2b02420001 i85_0) (v_fe9ea41faa h4) ez31
                        refine Y_bald (z := z31) 400 dX12_row_102 hk104 rfl (by decide) (v_2b02420001 i85_0) (v_6aef9b5ec0 gal.2.2 h4) ez31 ?_
                        refine Z_iadd (c := z31) dX12_row_103 v_a8cc381b6d ?_
                        refine J_dup2_11 dX12_row_104 rfl rfl ?_
                        obtain ⟨z34, ez34⟩ : ∃ z : Int, Kx_85 z31 = z := ⟨_, rfl⟩
                        have h35 := Rg.at i85_3 (v_2b02420001 h33.1) (v_a6c9ab5f5e h33.2) ez34
                        refine Y_iald (z := z34) 4870 dX12_row_105 rfl rfl (by decide) (v_2b02420001 h33.1) (v_a6c9ab5f5e h33.2) ez34 ?_
                        have g36 := Cn5.at i85_2 (v_2b02420001 h33.1) (v_77407988c7 h33.2) ez34
                        refine Z_iconst (n := 1) dX12_row_106 ?_
                        refine Z_iadd (c := z34 + 1) dX12_row_107 rfl ?_
                        refine Y_iast (v := z34 + 1) 4870 dX12_row_108 rfl rfl (by decide) (v_2b02420001 h33.1) (v_a6c9ab5f5e h33.2) (fun f37 ef37 => ?_)
                        have h38 : Rg f37 4870 (-2147483648) 2147483647 := Rg.ups i85_3 ef37 (v_bbd1b10c82 g36.1) (v_e6b50ddbe8 gal.2.2 h4 g36.2)
                        refine Z_iconst (n := 5) dX12_row_109 ?_
                        refine J_iload_n dX12_row_110 rfl rfl ?_
                        refine Z_imul (c := 5 * v_85) dX12_row_111 rfl ?_
                        refine J_aload_n dX12_row_112 rfl rfl ?_
                        refine J_get (v := .ref 104) dX12_row_113 fl_X12_34 rfl rfl ?_
                        refine J_iload dX12_row_116 rfl ?_
                        refine Y_bald (z := z31) 400 dX12_row_118 hk104 rfl (by decide) (v_2b02420001 i85_0) (v_6aef9b5ec0 gal.2.2 h4) ez31 ?_
                        refine Z_iadd (c := 5 * v_85 + z31) dX12_row_119 rfl ?_
                        refine J_istore_n dX12_row_120 rfl (Nat.le_of_ble_eq_true rfl) rfl ?_
                        refine J_ls (ls2 := [some (.ref 98), some (.int (zI mt)), some (.int (zI is_20)), some (.int (zI (5 * v_85 + z31))), some (.int (zI k_85))]) rfl ?_
                        refine Z_iinc (c := k_85 + 1) (ls2 := [some (.ref 98), some (.int (zI mt)), some (.int (zI is_20)), some (.int (zI (5 * v_85 + z31))), some (.int (zI (k_85 + 1)))]) dX12_row_121 rfl (Nat.le_of_ble_eq_true rfl) rfl rfl rfl ?_
                        refine J_goto (tgt := 85) dX12_row_124 (by decide) ?_
                        refine J_mask (L2 := [(100, .inl (0, 4870, .inl (zA f37))), (98, .inr (12, (.int (zI ms) :: .int (zI mv) :: .ref 99 :: .ref 100 :: .ref 101 :: .ref 102 :: .ref 103 :: .ref 104 :: .ref 105 :: .int (zI 0) :: .int (zI mfa) :: .ref 106 :: .ref 107 :: .ref 108 :: .int (zI mtn) :: .int (zI mtk) :: .int (zI mlv) :: .int (zI mbd) :: .int (zI mgo) :: .int (zI mge) :: .int (zI mbk) :: .ref 109 :: .int (zI mtt) :: .int (zI mtl) :: .ref 110 :: .ref 111 :: .ref 112 :: .ref 113 :: .ref 114 :: .ref 115 :: .ref 116 :: .ref 117 :: .int (zI hm) :: .int (zI pm) :: .int (zI hb) :: .int (zI sb) :: .ref 118 :: .ref 119 :: .ref 120 :: .ref 121 :: .ref 122 :: .ref 123 :: .ref 124 :: .ref 125 :: .ref 126 :: .ref 127 :: .ref 128 :: .ref 129 :: .int (zI mfu) :: .ref 130 :: .ref 131 :: .ref 132 :: .ref 133 :: .ref 134 :: .int (zI mdm) :: .int (zI mla) :: [])))]) (ks := [100, 100, 98]) [true, false, true] rfl (by decide +kernel) rfl ?_
                        exact ih85 (5 * v_85 + z31) (k_85 + 1) f37 (v_da458fa48a i85_0) (v_e390a36114 h4) (Cn5.step i85_2 (v_2b02420001 h33.1) (v_77407988c7 h33.2) ez34 ef37 v_7157e5c4fa) h38 (cod5_step i85_4 i85_0 ez31 v_6eb70b74d0) (Ct5.step i85_5 i85_0 ez31 ez34 ef37 v_7157e5c4fa) (meas_lt v_90eacd6fd4 (v_8b7dd7d486 h4) hm85)
                  exact lp85 _ 0 0 Kx_60 v_939070ca3f q1 (Cn5_0 i60_2 (v_a359812b3c h3)) i60_3 (rfl) (Ct5_0 (fun c a b => i60_2.2 c a (by have u := (v_a359812b3c h3); omega))) (Nat.lt_succ_self _)
                · refine J_aload_n dX12_row_65 rfl rfl ?_
                  refine J_get (v := .ref 100) dX12_row_66 fl_X12_20 rfl rfl ?_
                  refine Z_iconst (n := 0) dX12_row_69 ?_
                  refine J_iload_n dX12_row_70 rfl rfl ?_
                  refine Z_iadd (c := c_60) dX12_row_71 v_a8cc381b6d ?_
                  refine Z_iconst (n := 0) dX12_row_72 ?_
                  refine Y_iast (v := 0) 4870 dX12_row_73 rfl rfl (by decide) (v_2b02420001 i60_0) (v_8d7e1234de h3) (fun f39 ef39 => ?_)
                  have h40 : Rg f39 4870 (-2147483648) 2147483647 := Rg.ups i60_3 ef39 v_9c5011c36f v_cd342b47c7
                  refine Z_iinc (c := c_60 + 1) (ls2 := [some (.ref 98), some (.int (zI mt)), some (.int (zI is_20)), some (.int (zI (c_60 + 1))), none]) dX12_row_74 rfl (Nat.le_of_ble_eq_true rfl) rfl rfl rfl ?_
                  refine J_goto (tgt := 60) dX12_row_77 (by decide) ?_
                  refine J_mask (L2 := [(100, .inl (0, 4870, .inl (zA f39))), (98, .inr (12, (.int (zI ms) :: .int (zI mv) :: .ref 99 :: .ref 100 :: .ref 101 :: .ref 102 :: .ref 103 :: .ref 104 :: .ref 105 :: .int (zI 0) :: .int (zI mfa) :: .ref 106 :: .ref 107 :: .ref 108 :: .int (zI mtn) :: .int (zI mtk) :: .int (zI mlv) :: .int (zI mbd) :: .int (zI mgo) :: .int (zI mge) :: .int (zI mbk) :: .ref 109 :: .int (zI mtt) :: .int (zI mtl) :: .ref 110 :: .ref 111 :: .ref 112 :: .ref 113 :: .ref 114 :: .ref 115 :: .ref 116 :: .ref 117 :: .int (zI hm) :: .int (zI pm) :: .int (zI hb) :: .int (zI sb) :: .ref 118 :: .ref 119 :: .ref 120 :: .ref 121 :: .ref 122 :: .ref 123 :: .ref 124 :: .ref 125 :: .ref 126 :: .ref 127 :: .ref 128 :: .ref 129 :: .int (zI mfu) :: .ref 130 :: .ref 131 :: .ref 132 :: .ref 133 :: .ref 134 :: .int (zI mdm) :: .int (zI mla) :: [])))]) (ks := [100, 100, 98]) [true, false, true] rfl (by decide +kernel) rfl ?_
                  exact ih60 (c_60 + 1) f39 (v_da458fa48a i60_0) (v_3868a63a10 h3) (Zr5.step i60_2 i60_0 (v_a9de8d4631 h3) v_a0572702c4 ef39 rfl) h40 (meas_lt v_20f1226439 (v_b58bb7b78b h3) hm60)
            exact lp60 _ 0 K v_939070ca3f v_17fcbbe8da (Zr5_0) q0.2.2.2.2.2.2.2.2.1 (Nat.lt_succ_self _)
          · refine J_aload_n dX12_row_51 rfl rfl ?_
            refine Z_bipush (n := -6) dX12_row_52 (by decide +kernel) ?_
            refine J_callV (st := []) dX12_row_54 cv_X12_142 (k_refuses (-6) rf7 ms mv 0 mfa mtn mtk mlv mbd mgo mge mbk mtt mtl hm pm hb sb mfu mdm mla v_a8018d5457 v_d89879cf36 rfl hk99) rfl rfl rfl (Nat.le_of_ble_eq_true rfl) ⟨(Nat.le_of_ble_eq_true rfl), (Nat.le_of_ble_eq_true rfl)⟩ ⟨(Nat.le_of_ble_eq_true rfl), (Nat.le_of_ble_eq_true rfl)⟩ (fun r h9 hp => ?_)
            obtain ⟨f41, rfl, rfl⟩ := hp
            refine J_nf (nh2 := nh) (ck2 := 0) (sk2 := 0) (st2 := [.int (zI (-6))]) rfl rfl rfl rfl ?_
            refine J_app (L3 := [(98, .inr (12, (.int (zI (-6)) :: .int (zI mv) :: .ref 99 :: .ref 100 :: .ref 101 :: .ref 102 :: .ref 103 :: .ref 104 :: .ref 105 :: .int (zI 0) :: .int (zI mfa) :: .ref 106 :: .ref 107 :: .ref 108 :: .int (zI mtn) :: .int (zI mtk) :: .int (zI mlv) :: .int (zI mbd) :: .int (zI mgo) :: .int (zI mge) :: .int (zI mbk) :: .ref 109 :: .int (zI mtt) :: .int (zI mtl) :: .ref 110 :: .ref 111 :: .ref 112 :: .ref 113 :: .ref 114 :: .ref 115 :: .ref 116 :: .ref 117 :: .int (zI hm) :: .int (zI pm) :: .int (zI hb) :: .int (zI sb) :: .ref 118 :: .ref 119 :: .ref 120 :: .ref 121 :: .ref 122 :: .ref 123 :: .ref 124 :: .ref 125 :: .ref 126 :: .ref 127 :: .ref 128 :: .ref 129 :: .int (zI mfu) :: .ref 130 :: .ref 131 :: .ref 132 :: .ref 133 :: .ref 134 :: .int (zI mdm) :: .int (zI mla) :: []))), (99, .inl (0, 7, .inl (zA f41))), (98, .inr (12, (.int (zI ms) :: .int (zI mv) :: .ref 99 :: .ref 100 :: .ref 101 :: .ref 102 :: .ref 103 :: .ref 104 :: .ref 105 :: .int (zI 0) :: .int (zI mfa) :: .ref 106 :: .ref 107 :: .ref 108 :: .int (zI mtn) :: .int (zI mtk) :: .int (zI mlv) :: .int (zI mbd) :: .int (zI mgo) :: .int (zI mge) :: .int (zI mbk) :: .ref 109 :: .int (zI mtt) :: .int (zI mtl) :: .ref 110 :: .ref 111 :: .ref 112 :: .ref 113 :: .ref 114 :: .ref 115 :: .ref 116 :: .ref 117 :: .int (zI hm) :: .int (zI pm) :: .int (zI hb) :: .int (zI sb) :: .ref 118 :: .ref 119 :: .ref 120 :: .ref 121 :: .ref 122 :: .ref 123 :: .ref 124 :: .ref 125 :: .ref 126 :: .ref 127 :: .ref 128 :: .ref 129 :: .int (zI mfu) :: .ref 130 :: .ref 131 :: .ref 132 :: .ref 133 :: .ref 134 :: .int (zI mdm) :: .int (zI mla) :: [])))]) rfl ?_
            refine J_mask (L2 := [(98, .inr (12, (.int (zI (-6)) :: .int (zI mv) :: .ref 99 :: .ref 100 :: .ref 101 :: .ref 102 :: .ref 103 :: .ref 104 :: .ref 105 :: .int (zI 0) :: .int (zI mfa) :: .ref 106 :: .ref 107 :: .ref 108 :: .int (zI mtn) :: .int (zI mtk) :: .int (zI mlv) :: .int (zI mbd) :: .int (zI mgo) :: .int (zI mge) :: .int (zI mbk) :: .ref 109 :: .int (zI mtt) :: .int (zI mtl) :: .ref 110 :: .ref 111 :: .ref 112 :: .ref 113 :: .ref 114 :: .ref 115 :: .ref 116 :: .ref 117 :: .int (zI hm) :: .int (zI pm) :: .int (zI hb) :: .int (zI sb) :: .ref 118 :: .ref 119 :: .ref 120 :: .ref 121 :: .ref 122 :: .ref 123 :: .ref 124 :: .ref 125 :: .ref 126 :: .ref 127 :: .ref 128 :: .ref 129 :: .int (zI mfu) :: .ref 130 :: .ref 131 :: .ref 132 :: .ref 133 :: .ref 134 :: .int (zI mdm) :: .int (zI mla) :: []))), (99, .inl (0, 7, .inl (zA f41)))]) (ks := [98, 99, 98]) [true, true, false] rfl (by decide +kernel) rfl ?_
            exact J_iret dX12_row_57 rfl rfl (Nat.le_of_ble_eq_true rfl) (Nat.le_of_ble_eq_true rfl) (Or.inl ⟨f41, rfl, rfl, (i20_5 (v_bd6c74a791 i20_2 h2))⟩)
        · refine J_iload_n dX12_row_25 rfl rfl ?_
          refine Z_if_eq (tgt := 47) dX12_row_26 (by decide) (v_5f10a759cd i20_2 i20_3) (fun h42 => ?_) (fun h42 => ?_)
          · refine J_iload_n dX12_row_47 rfl rfl ?_
            refine Z_if_ne (tgt := 58) dX12_row_48 (by decide) (v_1bb2bfd6ba i20_2 h42) (fun h43 => absurd h43 (fun q => q (v_bd6c74a791 i20_2 h42))) (fun h43 => ?_)
            refine J_aload_n dX12_row_51 rfl rfl ?_
            refine Z_bipush (n := -6) dX12_row_52 (by decide +kernel) ?_
            refine J_callV (st := []) dX12_row_54 cv_X12_142 (k_refuses (-6) rf7 ms mv 0 mfa mtn mtk mlv mbd mgo mge mbk mtt mtl hm pm hb sb mfu mdm mla v_a8018d5457 v_d89879cf36 rfl hk99) rfl rfl rfl (Nat.le_of_ble_eq_true rfl) ⟨(Nat.le_of_ble_eq_true rfl), (Nat.le_of_ble_eq_true rfl)⟩ ⟨(Nat.le_of_ble_eq_true rfl), (Nat.le_of_ble_eq_true rfl)⟩ (fun r h9 hp => ?_)
            obtain ⟨f44, rfl, rfl⟩ := hp
            refine J_nf (nh2 := nh) (ck2 := 0) (sk2 := 0) (st2 := [.int (zI (-6))]) rfl rfl rfl rfl ?_
            refine J_app (L3 := [(98, .inr (12, (.int (zI (-6)) :: .int (zI mv) :: .ref 99 :: .ref 100 :: .ref 101 :: .ref 102 :: .ref 103 :: .ref 104 :: .ref 105 :: .int (zI 0) :: .int (zI mfa) :: .ref 106 :: .ref 107 :: .ref 108 :: .int (zI mtn) :: .int (zI mtk) :: .int (zI mlv) :: .int (zI mbd) :: .int (zI mgo) :: .int (zI mge) :: .int (zI mbk) :: .ref 109 :: .int (zI mtt) :: .int (zI mtl) :: .ref 110 :: .ref 111 :: .ref 112 :: .ref 113 :: .ref 114 :: .ref 115 :: .ref 116 :: .ref 117 :: .int (zI hm) :: .int (zI pm) :: .int (zI hb) :: .int (zI sb) :: .ref 118 :: .ref 119 :: .ref 120 :: .ref 121 :: .ref 122 :: .ref 123 :: .ref 124 :: .ref 125 :: .ref 126 :: .ref 127 :: .ref 128 :: .ref 129 :: .int (zI mfu) :: .ref 130 :: .ref 131 :: .ref 132 :: .ref 133 :: .ref 134 :: .int (zI mdm) :: .int (zI mla) :: []))), (99, .inl (0, 7, .inl (zA f44))), (98, .inr (12, (.int (zI ms) :: .int (zI mv) :: .ref 99 :: .ref 100 :: .ref 101 :: .ref 102 :: .ref 103 :: .ref 104 :: .ref 105 :: .int (zI 0) :: .int (zI mfa) :: .ref 106 :: .ref 107 :: .ref 108 :: .int (zI mtn) :: .int (zI mtk) :: .int (zI mlv) :: .int (zI mbd) :: .int (zI mgo) :: .int (zI mge) :: .int (zI mbk) :: .ref 109 :: .int (zI mtt) :: .int (zI mtl) :: .ref 110 :: .ref 111 :: .ref 112 :: .ref 113 :: .ref 114 :: .ref 115 :: .ref 116 :: .ref 117 :: .int (zI hm) :: .int (zI pm) :: .int (zI hb) :: .int (zI sb) :: .ref 118 :: .ref 119 :: .ref 120 :: .ref 121 :: .ref 122 :: .ref 123 :: .ref 124 :: .ref 125 :: .ref 126 :: .ref 127 :: .ref 128 :: .ref 129 :: .int (zI mfu) :: .ref 130 :: .ref 131 :: .ref 132 :: .ref 133 :: .ref 134 :: .int (zI mdm) :: .int (zI mla) :: [])))]) rfl ?_
            refine J_mask (L2 := [(98, .inr (12, (.int (zI (-6)) :: .int (zI mv) :: .ref 99 :: .ref 100 :: .ref 101 :: .ref 102 :: .ref 103 :: .ref 104 :: .ref 105 :: .int (zI 0) :: .int (zI mfa) :: .ref 106 :: .ref 107 :: .ref 108 :: .int (zI mtn) :: .int (zI mtk) :: .int (zI mlv) :: .int (zI mbd) :: .int (zI mgo) :: .int (zI mge) :: .int (zI mbk) :: .ref 109 :: .int (zI mtt) :: .int (zI mtl) :: .ref 110 :: .ref 111 :: .ref 112 :: .ref 113 :: .ref 114 :: .ref 115 :: .ref 116 :: .ref 117 :: .int (zI hm) :: .int (zI pm) :: .int (zI hb) :: .int (zI sb) :: .ref 118 :: .ref 119 :: .ref 120 :: .ref 121 :: .ref 122 :: .ref 123 :: .ref 124 :: .ref 125 :: .ref 126 :: .ref 127 :: .ref 128 :: .ref 129 :: .int (zI mfu) :: .ref 130 :: .ref 131 :: .ref 132 :: .ref 133 :: .ref 134 :: .int (zI mdm) :: .int (zI mla) :: []))), (99, .inl (0, 7, .inl (zA f44)))]) (ks := [98, 99, 98]) [true, true, false] rfl (by decide +kernel) rfl ?_
            exact J_iret dX12_row_57 rfl rfl (Nat.le_of_ble_eq_true rfl) (Nat.le_of_ble_eq_true rfl) (Or.inl ⟨f44, rfl, rfl, (i20_5 (v_bd6c74a791 i20_2 h42))⟩)
          · refine J_aload_n dX12_row_29 rfl rfl ?_
            refine J_get (v := .ref 104) dX12_row_30 fl_X12_34 rfl rfl ?_
            refine J_iload_n dX12_row_33 rfl rfl ?_
            obtain ⟨z45, ez45⟩ : ∃ z : Int, ta k_20 = z := ⟨_, rfl⟩
            have h46 := Rg.at q3 (v_2b02420001 i20_0) (v_5d8e28db30 q2 h1) ez45
            refine Y_bald (z := z45) 400 dX12_row_34 hk104 rfl (by decide) (v_2b02420001 i20_0) (v_5d8e28db30 q2 h1) ez45 ?_
            refine Z_iconst (n := 0) dX12_row_35 ?_
            refine Z_iconst (n := 4) dX12_row_36 ?_
            refine J_callS (st := []) dX12_row_37 cs_X12_138 (k_lies z45 0 4 (v_9f0444dcde h46.1 h46.2) v_b17331891f v_ffb526fa28) rfl rfl (Nat.le_of_ble_eq_true rfl) ⟨(Nat.le_of_ble_eq_true rfl), (Nat.le_of_ble_eq_true rfl)⟩ ⟨(Nat.le_of_ble_eq_true rfl), (Nat.le_of_ble_eq_true rfl)⟩ (fun r h9 hp => ?_)
            rcases hp with ⟨rfl, rfl, h47, h48⟩ | ⟨rfl, rfl, h49⟩ | ⟨rfl, rfl, h50⟩
            · refine J_nf (nh2 := nh) (ck2 := 0) (sk2 := 0) (st2 := [.int (zI 1)]) rfl rfl rfl rfl ?_
              refine J_istore_n dX12_row_40 rfl (Nat.le_of_ble_eq_true rfl) rfl ?_
              refine J_ls (ls2 := [some (.ref 98), some (.int (zI mt)), some (.int (zI 1)), some (.int (zI k_20)), none]) rfl ?_
              refine Z_iinc (c := k_20 + 1) (ls2 := [some (.ref 98), some (.int (zI mt)), some (.int (zI 1)), some (.int (zI (k_20 + 1))), none]) dX12_row_41 rfl (Nat.le_of_ble_eq_true rfl) rfl rfl rfl ?_
              refine J_goto (tgt := 20) dX12_row_44 (by decide) ?_
              exact ih20 1 (k_20 + 1) (v_da458fa48a i20_0) (v_39e15ed063 q2 h1) v_316afd7d0b v_bbcfac9b7d (fun _ => ⟨Rg_one (i20_4 (v_8b15499c4b i20_2 i20_3 h42)).1 ez45 (v_2b02420001 h47) (v_77407988c7 h48), (i20_4 (v_8b15499c4b i20_2 i20_3 h42)).2⟩) (fun w => absurd w (by decide)) (meas_lt v_ceb2ed6d2b (v_1209447967 q2 h1) hm20)
            · refine J_nf (nh2 := nh) (ck2 := 0) (sk2 := 0) (st2 := [.int (zI 0)]) rfl rfl rfl rfl ?_
              refine J_istore_n dX12_row_40 rfl (Nat.le_of_ble_eq_true rfl) rfl ?_
              refine J_ls (ls2 := [some (.ref 98), some (.int (zI mt)), some (.int (zI 0)), some (.int (zI k_20)), none]) rfl ?_
              refine Z_iinc (c := k_20 + 1) (ls2 := [some (.ref 98), some (.int (zI mt)), some (.int (zI 0)), some (.int (zI (k_20 + 1))), none]) dX12_row_41 rfl (Nat.le_of_ble_eq_true rfl) rfl rfl rfl ?_
              refine J_goto (tgt := 20) dX12_row_44 (by decide) ?_
              exact ih20 0 (k_20 + 1) (v_da458fa48a i20_0) (v_39e15ed063 q2 h1) v_939070ca3f v_316afd7d0b (fun w => absurd w (by decide)) (fun _ => rwk_at i20_0 (v_fe9ea41faa h1) (by rw [ez45]; omega)) (meas_lt v_ceb2ed6d2b (v_1209447967 q2 h1) hm20)
            · refine J_nf (nh2 := nh) (ck2 := 0) (sk2 := 0) (st2 := [.int (zI 0)]) rfl rfl rfl rfl ?_
              refine J_istore_n dX12_row_40 rfl (Nat.le_of_ble_eq_true rfl) rfl ?_
              refine J_ls (ls2 := [some (.ref 98), some (.int (zI mt)), some (.int (zI 0)), some (.int (zI k_20)), none]) rfl ?_
              refine Z_iinc (c := k_20 + 1) (ls2 := [some (.ref 98), some (.int (zI mt)), some (.int (zI 0)), some (.int (zI (k_20 + 1))), none]) dX12_row_41 rfl (Nat.le_of_ble_eq_true rfl) rfl rfl rfl ?_
              refine J_goto (tgt := 20) dX12_row_44 (by decide) ?_
              exact ih20 0 (k_20 + 1) (v_da458fa48a i20_0) (v_39e15ed063 q2 h1) v_939070ca3f v_316afd7d0b (fun w => absurd w (by decide)) (fun _ => rwk_at i20_0 (v_fe9ea41faa h1) (by rw [ez45]; omega)) (meas_lt v_ceb2ed6d2b (v_1209447967 q2 h1) hm20)
    exact lp20 _ t0_17j 0 v_939070ca3f v_5ab96f7b5e j17_0 j17_1 (fun w => ⟨Rg.nil (by decide), (j17_2 w).1, (j17_2 w).2⟩) (j17_3) (Nat.lt_succ_self _)
  refine J_iload_n dX12_row_10 rfl rfl ?_
  refine Z_iconst (n := 1) dX12_row_11 ?_
  refine Z_bipush (n := 7) dX12_row_12 (by decide +kernel) ?_
  refine J_callS (st := []) dX12_row_14 cs_X12_138 (k_lies mt 1 7 (v_d7389cde0f q1 q2) v_4dcc24baa7 v_c3fe1a091f) rfl rfl (Nat.le_of_ble_eq_true rfl) ⟨(Nat.le_of_ble_eq_true rfl), (Nat.le_of_ble_eq_true rfl)⟩ ⟨(Nat.le_of_ble_eq_true rfl), (Nat.le_of_ble_eq_true rfl)⟩ (fun r h9 hp => ?_)
  rcases hp with ⟨rfl, rfl, h51, h52⟩ | ⟨rfl, rfl, h53⟩ | ⟨rfl, rfl, h54⟩
  · refine J_nf (nh2 := nh) (ck2 := 0) (sk2 := 0) (st2 := [.int (zI 1)]) rfl rfl rfl rfl ?_
    exact jn17 1 v_316afd7d0b v_bbcfac9b7d (fun _ => ⟨(v_5dfb8272e3 h51), (v_dc59a041dc h52)⟩) (fun w => absurd w (by decide))
  · refine J_nf (nh2 := nh) (ck2 := 0) (sk2 := 0) (st2 := [.int (zI 0)]) rfl rfl rfl rfl ?_
    exact jn17 0 v_939070ca3f v_316afd7d0b (fun w => absurd w (by decide)) (fun _ => rwk_lo (v_663a05fb09 h53))
  · refine J_nf (nh2 := nh) (ck2 := 0) (sk2 := 0) (st2 := [.int (zI 0)]) rfl rfl rfl rfl ?_
    exact jn17 0 v_939070ca3f v_316afd7d0b (fun w => absurd w (by decide)) (fun _ => rwk_hi (v_af55e74974 h54))
set_option maxHeartbeats 4000000 in
set_option maxRecDepth 100000 in
theorem k_image {l : Launch} {G : jG} {nh : Nat} {fh : Nat → Option va_E} (x : Int) (ms : Int) (mv : Int) (mt : Int) (mfa : Int) (mtn : Int) (mtk : Int) (mlv : Int) (mbd : Int) (mgo : Int) (mge : Int) (mbk : Int) (mtt : Int) (mtl : Int) (hm : Int) (pm : Int) (hb : Int) (sb : Int) (mfu : Int) (mdm : Int) (mla : Int) (K : Int → Int) (rf7 : Int → Int) (im : Int → Int) (hi : Int → Int) (q0 : zr x) (q1 : KOK K) (q2 : ImI im hi) (q3 : Rg hi 2 0 1) (hk98 : fh 98 = some (.inr (12, (.int (zI ms) :: .int (zI mv) :: .ref 99 :: .ref 100 :: .ref 101 :: .ref 102 :: .ref 103 :: .ref 104 :: .ref 105 :: .int (zI mt) :: .int (zI mfa) :: .ref 106 :: .ref 107 :: .ref 108 :: .int (zI mtn) :: .int (zI mtk) :: .int (zI mlv) :: .int (zI mbd) :: .int (zI mgo) :: .int (zI mge) :: .int (zI mbk) :: .ref 109 :: .int (zI mtt) :: .int (zI mtl) :: .ref 110 :: .ref 111 :: .ref 112 :: .ref 113 :: .ref 114 :: .ref 115 :: .ref 116 :: .ref 117 :: .int (zI hm) :: .int (zI pm) :: .int (zI hb) :: .int (zI sb) :: .ref 118 :: .ref 119 :: .ref 120 :: .ref 121 :: .ref 122 :: .ref 123 :: .ref 124 :: .ref 125 :: .ref 126 :: .ref 127 :: .ref 128 :: .ref 129 :: .int (zI mfu) :: .ref 130 :: .ref 131 :: .ref 132 :: .ref 133 :: .ref 134 :: .int (zI mdm) :: .int (zI mla) :: [])))) (hk100 : fh 100 = some (.inl (0, 4870, .inl (zA K)))) (hk99 : fh 99 = some (.inl (0, 7, .inl (zA rf7)))) (hk101 : fh 101 = some (.inl (0, 9740, .inl (zA im)))) (hk102 : fh 102 = some (.inl (2, 2, .inl (zA hi)))) : JM l G yX12_image MX12_image { frames := 1, cells := 0, slots := 0, locals := 22 } [.ref 98, .int (zI x)] (nh, fh) (fun rr h9 => ∃ r : Int, ∃ im2 : Int → Int, ∃ hi2 : Int → Int, ∃ rg7 : Int → Int, ∃ ms2 : Int, ∃ mv2 : Int, rr = some (.int (zI r)) ∧ h9 = (nh, hc fh [(98, .inr (12, (.int (zI ms2) :: .int (zI mv2) :: .ref 99 :: .ref 100 :: .ref 101 :: .ref 102 :: .ref 103 :: .ref 104 :: .ref 105 :: .int (zI mt) :: .int (zI mfa) :: .ref 106 :: .ref 107 :: .ref 108 :: .int (zI mtn) :: .int (zI mtk) :: .int (zI mlv) :: .int (zI mbd) :: .int (zI mgo) :: .int (zI mge) :: .int (zI mbk) :: .ref 109 :: .int (zI mtt) :: .int (zI mtl) :: .ref 110 :: .ref 111 :: .ref 112 :: .ref 113 :: .ref 114 :: .ref 115 :: .ref 116 :: .ref 117 :: .int (zI hm) :: .int (zI pm) :: .int (zI hb) :: .int (zI sb) :: .ref 118 :: .ref 119 :: .ref 120 :: .ref 121 :: .ref 122 :: .ref 123 :: .ref 124 :: .ref 125 :: .ref 126 :: .ref 127 :: .ref 128 :: .ref 129 :: .int (zI mfu) :: .ref 130 :: .ref 131 :: .ref 132 :: .ref 133 :: .ref 134 :: .int (zI mdm) :: .int (zI mla) :: []))), (101, .inl (0, 9740, .inl (zA im2))), (102, .inl (2, 2, .inl (zA hi2))), (99, .inl (0, 7, .inl (zA rg7)))]) ∧ (ImI im2 hi2) ∧ (Rg hi2 2 0 1) ∧ (mv ≤ mv2) ∧ (mv2 ≤ mv + 1) ∧ (r = imr x) ∧ (KbE hi2 hi x) ∧ (ImE im2 im K x)) := by
  refine JM.of (by decide) rfl (fun h => by cases h) (Nat.le_of_ble_eq_true rfl) ⟨1, rfl⟩ ?_
  refine J_hc0 (J_ls (ls2 := [some (.ref 98), some (.int (zI x)), none]) rfl ?_)
  refine J_iload_n dX12_image_0 rfl rfl ?_
  refine Z_iconst (n := 0) dX12_image_1 ?_
  refine Z_iconst (n := 1) dX12_image_2 ?_
  refine J_callS (st := []) dX12_image_3 cs_X12_138 (k_lies x 0 1 q0 v_b17331891f v_4dcc24baa7) rfl rfl (Nat.le_of_ble_eq_true rfl) ⟨(Nat.le_of_ble_eq_true rfl), (Nat.le_of_ble_eq_true rfl)⟩ ⟨(Nat.le_of_ble_eq_true rfl), (Nat.le_of_ble_eq_true rfl)⟩ (fun r h9 hp => ?_)
  rcases hp with ⟨rfl, rfl, h1, h2⟩ | ⟨rfl, rfl, h3⟩ | ⟨rfl, rfl, h4⟩
  · refine J_nf (nh2 := nh) (ck2 := 0) (sk2 := 0) (st2 := [.int (zI 1)]) rfl rfl rfl rfl ?_
    refine Z_if_ne (tgt := 15) dX12_image_6 (by decide) v_4dcc24baa7 (fun h5 => ?_) (fun h5 => absurd h5 v_3a47bfd896)
    refine Z_iconst (n := 0) dX12_image_15 ?_
    refine J_istore_n dX12_image_16 rfl (Nat.le_of_ble_eq_true rfl) rfl ?_
    refine J_ls (ls2 := [some (.ref 98), some (.int (zI x)), some (.int (zI 0))]) rfl ?_
    refine J_touch (k := 101) (e := .inl (0, 9740, .inl (zA im))) hk101 ?_
    have lp17 : ∀ (N17 : Nat) (i_17 : Int) (m_17 : Int → Int), (0 ≤ i_17) → (i_17 ≤ 4870) → (Cpy im m_17 K x i_17) → (4870 - i_17).toNat < N17 → J l G MX12_image { frames := 1, cells := 0, slots := 0, locals := 22 } jE (jMQ G { frames := 1, cells := 0, slots := 0, locals := 22 } (fun rr h9 => ∃ r : Int, ∃ im2 : Int → Int, ∃ hi2 : Int → Int, ∃ rg7 : Int → Int, ∃ ms2 : Int, ∃ mv2 : Int, rr = some (.int (zI r)) ∧ h9 = (nh, hc fh [(98, .inr (12, (.int (zI ms2) :: .int (zI mv2) :: .ref 99 :: .ref 100 :: .ref 101 :: .ref 102 :: .ref 103 :: .ref 104 :: .ref 105 :: .int (zI mt) :: .int (zI mfa) :: .ref 106 :: .ref 107 :: .ref 108 :: .int (zI mtn) :: .int (zI mtk) :: .int (zI mlv) :: .int (zI mbd) :: .int (zI mgo) :: .int (zI mge) :: .int (zI mbk) :: .ref 109 :: .int (zI mtt) :: .int (zI mtl) :: .ref 110 :: .ref 111 :: .ref 112 :: .ref 113 :: .ref 114 :: .ref 115 :: .ref 116 :: .ref 117 :: .int (zI hm) :: .int (zI pm) :: .int (zI hb) :: .int (zI sb) :: .ref 118 :: .ref 119 :: .ref 120 :: .ref 121 :: .ref 122 :: .ref 123 :: .ref 124 :: .ref 125 :: .ref 126 :: .ref 127 :: .ref 128 :: .ref 129 :: .int (zI mfu) :: .ref 130 :: .ref 131 :: .ref 132 :: .ref 133 :: .ref 134 :: .int (zI mdm) :: .int (zI mla) :: []))), (101, .inl (0, 9740, .inl (zA im2))), (102, .inl (2, 2, .inl (zA hi2))), (99, .inl (0, 7, .inl (zA rg7)))]) ∧ (ImI im2 hi2) ∧ (Rg hi2 2 0 1) ∧ (mv ≤ mv2) ∧ (mv2 ≤ mv + 1) ∧ (r = imr x) ∧ (KbE hi2 hi x) ∧ (ImE im2 im K x))) (nh, hc fh [(101, .inl (0, 9740, .inl (zA m_17)))]) 0 0 17 [some (.ref 98), some (.int (zI x)), some (.int (zI i_17))] [] := by
      intro N17
      induction N17 with
      | zero => intro i_17 m_17 i17_0 i17_1 i17_2 hm; exact absurd hm (Nat.not_lt_zero _)
      | succ N17 ih17 =>
        intro i_17 m_17 i17_0 i17_1 i17_2 hm17
        refine J_iload_n dX12_image_17 rfl rfl ?_
        refine Z_sipush (n := 4870) dX12_image_18 (by decide +kernel) ?_
        refine Z_icmp_ge (tgt := 48) dX12_image_21 (by decide) (v_285343f07a i17_0 i17_1) v_c0995cba63 (fun h6 => ?_) (fun h6 => ?_)
        · refine J_aload_n dX12_image_48 rfl rfl ?_
          refine J_get (v := .ref 102) dX12_image_49 fl_X12_26 hk98 rfl ?_
          refine J_iload_n dX12_image_52 rfl rfl ?_
          refine Z_iconst (n := 1) dX12_image_53 ?_
          refine Y_zast (v := 1) 2 dX12_image_54 hk102 rfl (by decide) (v_2b02420001 h1) (v_0d7de8b66d h2) v_316afd7d0b v_bbcfac9b7d (fun f7 ef7 => ?_)
          have h8 : Rg f7 2 0 1 := Rg.ups q3 ef7 v_316afd7d0b v_bbcfac9b7d
          refine J_aload_n dX12_image_55 rfl rfl ?_
          refine Z_iconst (n := 0) dX12_image_56 ?_
          refine J_callV (st := []) dX12_image_57 cv_X12_146 (k_good 0 ms mv mt mfa mtn mtk mlv mbd mgo mge mbk mtt mtl hm pm hb sb mfu mdm mla hk98) hk98 rfl rfl (Nat.le_of_ble_eq_true rfl) ⟨(Nat.le_of_ble_eq_true rfl), (Nat.le_of_ble_eq_true rfl)⟩ ⟨(Nat.le_of_ble_eq_true rfl), (Nat.le_of_ble_eq_true rfl)⟩ (fun r h9 hp => ?_)
          obtain ⟨rfl, rfl⟩ := hp
          refine J_nf (nh2 := nh) (ck2 := 0) (sk2 := 0) (st2 := [.int (zI 0)]) rfl rfl rfl rfl ?_
          refine J_app (L3 := [(98, .inr (12, (.int (zI 0) :: .int (zI (mv + 1)) :: .ref 99 :: .ref 100 :: .ref 101 :: .ref 102 :: .ref 103 :: .ref 104 :: .ref 105 :: .int (zI mt) :: .int (zI mfa) :: .ref 106 :: .ref 107 :: .ref 108 :: .int (zI mtn) :: .int (zI mtk) :: .int (zI mlv) :: .int (zI mbd) :: .int (zI mgo) :: .int (zI mge) :: .int (zI mbk) :: .ref 109 :: .int (zI mtt) :: .int (zI mtl) :: .ref 110 :: .ref 111 :: .ref 112 :: .ref 113 :: .ref 114 :: .ref 115 :: .ref 116 :: .ref 117 :: .int (zI hm) :: .int (zI pm) :: .int (zI hb) :: .int (zI sb) :: .ref 118 :: .ref 119 :: .ref 120 :: .ref 121 :: .ref 122 :: .ref 123 :: .ref 124 :: .ref 125 :: .ref 126 :: .ref 127 :: .ref 128 :: .ref 129 :: .int (zI mfu) :: .ref 130 :: .ref 131 :: .ref 132 :: .ref 133 :: .ref 134 :: .int (zI mdm) :: .int (zI mla) :: []))), (102, .inl (2, 2, .inl (zA f7))), (101, .inl (0, 9740, .inl (zA m_17)))]) rfl ?_
          refine J_touch (k := 99) (e := .inl (0, 7, .inl (zA rf7))) hk99 ?_
          refine J_touch (k := 102) (e := .inl (2, 2, .inl (zA f7))) rfl ?_
          refine J_touch (k := 101) (e := .inl (0, 9740, .inl (zA m_17))) rfl ?_
          refine J_touch (k := 98) (e := .inr (12, (.int (zI 0) :: .int (zI (mv + 1)) :: .ref 99 :: .ref 100 :: .ref 101 :: .ref 102 :: .ref 103 :: .ref 104 :: .ref 105 :: .int (zI mt) :: .int (zI mfa) :: .ref 106 :: .ref 107 :: .ref 108 :: .int (zI mtn) :: .int (zI mtk) :: .int (zI mlv) :: .int (zI mbd) :: .int (zI mgo) :: .int (zI mge) :: .int (zI mbk) :: .ref 109 :: .int (zI mtt) :: .int (zI mtl) :: .ref 110 :: .ref 111 :: .ref 112 :: .ref 113 :: .ref 114 :: .ref 115 :: .ref 116 :: .ref 117 :: .int (zI hm) :: .int (zI pm) :: .int (zI hb) :: .int (zI sb) :: .ref 118 :: .ref 119 :: .ref 120 :: .ref 121 :: .ref 122 :: .ref 123 :: .ref 124 :: .ref 125 :: .ref 126 :: .ref 127 :: .ref 128 :: .ref 129 :: .int (zI mfu) :: .ref 130 :: .ref 131 :: .ref 132 :: .ref 133 :: .ref 134 :: .int (zI mdm) :: .int (zI mla) :: []))) rfl ?_
          refine J_mask (L2 := [(98, .inr (12, (.int (zI 0) :: .int (zI (mv + 1)) :: .ref 99 :: .ref 100 :: .ref 101 :: .ref 102 :: .ref 103 :: .ref 104 :: .ref 105 :: .int (zI mt) :: .int (zI mfa) :: .ref 106 :: .ref 107 :: .ref 108 :: .int (zI mtn) :: .int (zI mtk) :: .int (zI mlv) :: .int (zI mbd) :: .int (zI mgo) :: .int (zI mge) :: .int (zI mbk) :: .ref 109 :: .int (zI mtt) :: .int (zI mtl) :: .ref 110 :: .ref 111 :: .ref 112 :: .ref 113 :: .ref 114 :: .ref 115 :: .ref 116 :: .ref 117 :: .int (zI hm) :: .int (zI pm) :: .int (zI hb) :: .int (zI sb) :: .ref 118 :: .ref 119 :: .ref 120 :: .ref 121 :: .ref 122 :: .ref 123 :: .ref 124 :: .ref 125 :: .ref 126 :: .ref 127 :: .ref 128 :: .ref 129 :: .int (zI mfu) :: .ref 130 :: .ref 131 :: .ref 132 :: .ref 133 :: .ref 134 :: .int (zI mdm) :: .int (zI mla) :: []))), (101, .inl (0, 9740, .inl (zA m_17))), (102, .inl (2, 2, .inl (zA f7))), (99, .inl (0, 7, .inl (zA rf7)))]) (ks := [98, 101, 102, 99, 98, 102, 101]) [true, true, true, true, false, false, false] rfl (by decide +kernel) rfl ?_
          exact J_iret dX12_image_60 rfl rfl (Nat.le_of_ble_eq_true rfl) (Nat.le_of_ble_eq_true rfl) ⟨0, m_17, f7, rf7, 0, (mv + 1), rfl, rfl, (ImI.put q2 q1 i17_2 (v_ef1e3ffec4 h6) (v_2b02420001 h1) (v_6b0b292328 h2) ef7), h8, v_32a28518ee, v_3410673be3, (imr_in (v_2b02420001 h1) (v_6b0b292328 h2)), (KbE.up ef7 v_a0572702c4 v_0cde637f83), (ImE.put i17_2 (v_ef1e3ffec4 h6) (v_2b02420001 h1) (v_6b0b292328 h2))⟩
        · refine J_aload_n dX12_image_24 rfl rfl ?_
          refine J_get (v := .ref 101) dX12_image_25 fl_X12_23 hk98 rfl ?_
          refine Z_sipush (n := 4870) dX12_image_28 (by decide +kernel) ?_
          refine J_iload_n dX12_image_31 rfl rfl ?_
          refine Z_imul (c := 4870 * x) dX12_image_32 rfl ?_
          refine J_iload_n dX12_image_33 rfl rfl ?_
          refine Z_iadd (c := i_17 + 4870 * x) dX12_image_34 v_bd80b2205f ?_
          refine J_aload_n dX12_image_35 rfl rfl ?_
          refine J_get (v := .ref 100) dX12_image_36 fl_X12_20 hk98 rfl ?_
          refine J_iload_n dX12_image_39 rfl rfl ?_
          obtain ⟨z9, ez9⟩ : ∃ z : Int, K i_17 = z := ⟨_, rfl⟩
          have h10 := Rg.at q1.2.2.2.2.2.2.2.2.1 (v_2b02420001 i17_0) (v_d39a86ff3e h6) ez9
          refine Y_iald (z := z9) 4870 dX12_image_40 hk100 rfl (by decide) (v_2b02420001 i17_0) (v_d39a86ff3e h6) ez9 ?_
          refine Y_iast (v := z9) 9740 dX12_image_41 rfl rfl (by decide) (v_af69fff669 h1 i17_0) (v_4e10c15305 h2 h6) (fun f11 ef11 => ?_)
          refine Z_iinc (c := i_17 + 1) (ls2 := [some (.ref 98), some (.int (zI x)), some (.int (zI (i_17 + 1)))]) dX12_image_42 rfl (Nat.le_of_ble_eq_true rfl) rfl rfl rfl ?_
          refine J_goto (tgt := 17) dX12_image_45 (by decide) ?_
          refine J_mask (L2 := [(101, .inl (0, 9740, .inl (zA f11)))]) (ks := [101, 101]) [true, false] rfl (by decide +kernel) rfl ?_
          exact ih17 (i_17 + 1) f11 (v_da458fa48a i17_0) (v_2237a972b5 h6) (Cpy.step i17_2 i17_0 (v_d39a86ff3e h6) v_36e7a0cc01 ez9 ef11) (meas_lt v_e7445b9178 (v_6f2540389d h6) hm17)
    exact lp17 _ 0 im v_939070ca3f v_7c7bbed721 (Cpy_0) (Nat.lt_succ_self _)
  · refine J_nf (nh2 := nh) (ck2 := 0) (sk2 := 0) (st2 := [.int (zI 0)]) rfl rfl rfl rfl ?_
    refine Z_if_ne (tgt := 15) dX12_image_6 (by decide) v_b17331891f (fun h12 => absurd h12 (fun q => q v_2ca2bbca1f)) (fun h12 => ?_)
    refine J_aload_n dX12_image_9 rfl rfl ?_
    refine Z_iconst (n := -1) dX12_image_10 ?_
    refine J_callV (st := []) dX12_image_11 cv_X12_142 (k_refuses (-1) rf7 ms mv mt mfa mtn mtk mlv mbd mgo mge mbk mtt mtl hm pm hb sb mfu mdm mla v_ef59c9c3d8 v_646fb950f3 hk98 hk99) hk98 rfl rfl (Nat.le_of_ble_eq_true rfl) ⟨(Nat.le_of_ble_eq_true rfl), (Nat.le_of_ble_eq_true rfl)⟩ ⟨(Nat.le_of_ble_eq_true rfl), (Nat.le_of_ble_eq_true rfl)⟩ (fun r h9 hp => ?_)
    obtain ⟨f13, rfl, rfl⟩ := hp
    refine J_nf (nh2 := nh) (ck2 := 0) (sk2 := 0) (st2 := [.int (zI (-1))]) rfl rfl rfl rfl ?_
    refine J_app (L3 := [(98, .inr (12, (.int (zI (-1)) :: .int (zI mv) :: .ref 99 :: .ref 100 :: .ref 101 :: .ref 102 :: .ref 103 :: .ref 104 :: .ref 105 :: .int (zI mt) :: .int (zI mfa) :: .ref 106 :: .ref 107 :: .ref 108 :: .int (zI mtn) :: .int (zI mtk) :: .int (zI mlv) :: .int (zI mbd) :: .int (zI mgo) :: .int (zI mge) :: .int (zI mbk) :: .ref 109 :: .int (zI mtt) :: .int (zI mtl) :: .ref 110 :: .ref 111 :: .ref 112 :: .ref 113 :: .ref 114 :: .ref 115 :: .ref 116 :: .ref 117 :: .int (zI hm) :: .int (zI pm) :: .int (zI hb) :: .int (zI sb) :: .ref 118 :: .ref 119 :: .ref 120 :: .ref 121 :: .ref 122 :: .ref 123 :: .ref 124 :: .ref 125 :: .ref 126 :: .ref 127 :: .ref 128 :: .ref 129 :: .int (zI mfu) :: .ref 130 :: .ref 131 :: .ref 132 :: .ref 133 :: .ref 134 :: .int (zI mdm) :: .int (zI mla) :: []))), (99, .inl (0, 7, .inl (zA f13)))]) rfl ?_
    refine J_touch (k := 99) (e := .inl (0, 7, .inl (zA f13))) rfl ?_
    refine J_touch (k := 102) (e := .inl (2, 2, .inl (zA hi))) hk102 ?_
    refine J_touch (k := 101) (e := .inl (0, 9740, .inl (zA im))) hk101 ?_
    refine J_touch (k := 98) (e := .inr (12, (.int (zI (-1)) :: .int (zI mv) :: .ref 99 :: .ref 100 :: .ref 101 :: .ref 102 :: .ref 103 :: .ref 104 :: .ref 105 :: .int (zI mt) :: .int (zI mfa) :: .ref 106 :: .ref 107 :: .ref 108 :: .int (zI mtn) :: .int (zI mtk) :: .int (zI mlv) :: .int (zI mbd) :: .int (zI mgo) :: .int (zI mge) :: .int (zI mbk) :: .ref 109 :: .int (zI mtt) :: .int (zI mtl) :: .ref 110 :: .ref 111 :: .ref 112 :: .ref 113 :: .ref 114 :: .ref 115 :: .ref 116 :: .ref 117 :: .int (zI hm) :: .int (zI pm) :: .int (zI hb) :: .int (zI sb) :: .ref 118 :: .ref 119 :: .ref 120 :: .ref 121 :: .ref 122 :: .ref 123 :: .ref 124 :: .ref 125 :: .ref 126 :: .ref 127 :: .ref 128 :: .ref 129 :: .int (zI mfu) :: .ref 130 :: .ref 131 :: .ref 132 :: .ref 133 :: .ref 134 :: .int (zI mdm) :: .int (zI mla) :: []))) rfl ?_
    refine J_mask (L2 := [(98, .inr (12, (.int (zI (-1)) :: .int (zI mv) :: .ref 99 :: .ref 100 :: .ref 101 :: .ref 102 :: .ref 103 :: .ref 104 :: .ref 105 :: .int (zI mt) :: .int (zI mfa) :: .ref 106 :: .ref 107 :: .ref 108 :: .int (zI mtn) :: .int (zI mtk) :: .int (zI mlv) :: .int (zI mbd) :: .int (zI mgo) :: .int (zI mge) :: .int (zI mbk) :: .ref 109 :: .int (zI mtt) :: .int (zI mtl) :: .ref 110 :: .ref 111 :: .ref 112 :: .ref 113 :: .ref 114 :: .ref 115 :: .ref 116 :: .ref 117 :: .int (zI hm) :: .int (zI pm) :: .int (zI hb) :: .int (zI sb) :: .ref 118 :: .ref 119 :: .ref 120 :: .ref 121 :: .ref 122 :: .ref 123 :: .ref 124 :: .ref 125 :: .ref 126 :: .ref 127 :: .ref 128 :: .ref 129 :: .int (zI mfu) :: .ref 130 :: .ref 131 :: .ref 132 :: .ref 133 :: .ref 134 :: .int (zI mdm) :: .int (zI mla) :: []))), (101, .inl (0, 9740, .inl (zA im))), (102, .inl (2, 2, .inl (zA hi))), (99, .inl (0, 7, .inl (zA f13)))]) (ks := [98, 101, 102, 99, 98, 99]) [true, true, true, true, false, false] rfl (by decide +kernel) rfl ?_
    exact J_iret dX12_image_14 rfl rfl (Nat.le_of_ble_eq_true rfl) (Nat.le_of_ble_eq_true rfl) ⟨(-1), im, hi, f13, (-1), mv, rfl, rfl, (q2), q3, v_0065452639, v_3daf2cb668, (imr_lo (v_8b303f9981 h3)), (KbE.out (v_a59676701a h3) (v_7114a605be h3)), (ImE.out (v_a59676701a h3) (v_7114a605be h3))⟩
  · refine J_nf (nh2 := nh) (ck2 := 0) (sk2 := 0) (st2 := [.int (zI 0)]) rfl rfl rfl rfl ?_
    refine Z_if_ne (tgt := 15) dX12_image_6 (by decide) v_b17331891f (fun h14 => absurd h14 (fun q => q v_2ca2bbca1f)) (fun h14 => ?_)
    refine J_aload_n dX12_image_9 rfl rfl ?_
    refine Z_iconst (n := -1) dX12_image_10 ?_
    refine J_callV (st := []) dX12_image_11 cv_X12_142 (k_refuses (-1) rf7 ms mv mt mfa mtn mtk mlv mbd mgo mge mbk mtt mtl hm pm hb sb mfu mdm mla v_ef59c9c3d8 v_646fb950f3 hk98 hk99) hk98 rfl rfl (Nat.le_of_ble_eq_true rfl) ⟨(Nat.le_of_ble_eq_true rfl), (Nat.le_of_ble_eq_true rfl)⟩ ⟨(Nat.le_of_ble_eq_true rfl), (Nat.le_of_ble_eq_true rfl)⟩ (fun r h9 hp => ?_)
    obtain ⟨f15, rfl, rfl⟩ := hp
    refine J_nf (nh2 := nh) (ck2 := 0) (sk2 := 0) (st2 := [.int (zI (-1))]) rfl rfl rfl rfl ?_
    refine J_app (L3 := [(98, .inr (12, (.int (zI (-1)) :: .int (zI mv) :: .ref 99 :: .ref 100 :: .ref 101 :: .ref 102 :: .ref 103 :: .ref 104 :: .ref 105 :: .int (zI mt) :: .int (zI mfa) :: .ref 106 :: .ref 107 :: .ref 108 :: .int (zI mtn) :: .int (zI mtk) :: .int (zI mlv) :: .int (zI mbd) :: .int (zI mgo) :: .int (zI mge) :: .int (zI mbk) :: .ref 109 :: .int (zI mtt) :: .int (zI mtl) :: .ref 110 :: .ref 111 :: .ref 112 :: .ref 113 :: .ref 114 :: .ref 115 :: .ref 116 :: .ref 117 :: .int (zI hm) :: .int (zI pm) :: .int (zI hb) :: .int (zI sb) :: .ref 118 :: .ref 119 :: .ref 120 :: .ref 121 :: .ref 122 :: .ref 123 :: .ref 124 :: .ref 125 :: .ref 126 :: .ref 127 :: .ref 128 :: .ref 129 :: .int (zI mfu) :: .ref 130 :: .ref 131 :: .ref 132 :: .ref 133 :: .ref 134 :: .int (zI mdm) :: .int (zI mla) :: []))), (99, .inl (0, 7, .inl (zA f15)))]) rfl ?_
    refine J_touch (k := 99) (e := .inl (0, 7, .inl (zA f15))) rfl ?_
    refine J_touch (k := 102) (e := .inl (2, 2, .inl (zA hi))) hk102 ?_
    refine J_touch (k := 101) (e := .inl (0, 9740, .inl (zA im))) hk101 ?_
    refine J_touch (k := 98) (e := .inr (12, (.int (zI (-1)) :: .int (zI mv) :: .ref 99 :: .ref 100 :: .ref 101 :: .ref 102 :: .ref 103 :: .ref 104 :: .ref 105 :: .int (zI mt) :: .int (zI mfa) :: .ref 106 :: .ref 107 :: .ref 108 :: .int (zI mtn) :: .int (zI mtk) :: .int (zI mlv) :: .int (zI mbd) :: .int (zI mgo) :: .int (zI mge) :: .int (zI mbk) :: .ref 109 :: .int (zI mtt) :: .int (zI mtl) :: .ref 110 :: .ref 111 :: .ref 112 :: .ref 113 :: .ref 114 :: .ref 115 :: .ref 116 :: .ref 117 :: .int (zI hm) :: .int (zI pm) :: .int (zI hb) :: .int (zI sb) :: .ref 118 :: .ref 119 :: .ref 120 :: .ref 121 :: .ref 122 :: .ref 123 :: .ref 124 :: .ref 125 :: .ref 126 :: .ref 127 :: .ref 128 :: .ref 129 :: .int (zI mfu) :: .ref 130 :: .ref 131 :: .ref 132 :: .ref 133 :: .ref 134 :: .int (zI mdm) :: .int (zI mla) :: []))) rfl ?_
    refine J_mask (L2 := [(98, .inr (12, (.int (zI (-1)) :: .int (zI mv) :: .ref 99 :: .ref 100 :: .ref 101 :: .ref 102 :: .ref 103 :: .ref 104 :: .ref 105 :: .int (zI mt) :: .int (zI mfa) :: .ref 106 :: .ref 107 :: .ref 108 :: .int (zI mtn) :: .int (zI mtk) :: .int (zI mlv) :: .int (zI mbd) :: .int (zI mgo) :: .int (zI mge) :: .int (zI mbk) :: .ref 109 :: .int (zI mtt) :: .int (zI mtl) :: .ref 110 :: .ref 111 :: .ref 112 :: .ref 113 :: .ref 114 :: .ref 115 :: .ref 116 :: .ref 117 :: .int (zI hm) :: .int (zI pm) :: .int (zI hb) :: .int (zI sb) :: .ref 118 :: .ref 119 :: .ref 120 :: .ref 121 :: .ref 122 :: .ref 123 :: .ref 124 :: .ref 125 :: .ref 126 :: .ref 127 :: .ref 128 :: .ref 129 :: .int (zI mfu) :: .ref 130 :: .ref 131 :: .ref 132 :: .ref 133 :: .ref 134 :: .int (zI mdm) :: .int (zI mla) :: []))), (101, .inl (0, 9740, .inl (zA im))), (102, .inl (2, 2, .inl (zA hi))), (99, .inl (0, 7, .inl (zA f15)))]) (ks := [98, 101, 102, 99, 98, 99]) [true, true, true, true, false, false] rfl (by decide +kernel) rfl ?_
    exact J_iret dX12_image_14 rfl rfl (Nat.le_of_ble_eq_true rfl) (Nat.le_of_ble_eq_true rfl) ⟨(-1), im, hi, f15, (-1), mv, rfl, rfl, (q2), q3, v_0065452639, v_3daf2cb668, (imr_hi (v_c45cc0c634 h4)), (KbE.out (v_bab24626f8 h4) (v_0faed227ec h4)), (ImE.out (v_bab24626f8 h4) (v_0faed227ec h4))⟩
set_option maxHeartbeats 4000000 in
set_option maxRecDepth 100000 in
theorem k_back {l : Launch} {G : jG} {nh : Nat} {fh : Nat → Option va_E} (x : Int) (ms : Int) (mv : Int) (mt : Int) (mfa : Int) (mtn : Int) (mtk : Int) (mlv : Int) (mbd : Int) (mgo : Int) (mge : Int) (mbk : Int) (mtt : Int) (mtl : Int) (hm : Int) (pm : Int) (hb : Int) (sb : Int) (mfu : Int) (mdm : Int) (mla : Int) (K : Int → Int) (rf7 : Int → Int) (im : Int → Int) (hi : Int → Int) (q0 : zr x) (q1 : KOK K) (q2 : ImI im hi) (q3 : Rg hi 2 0 1) (hk98 : fh 98 = some (.inr (12, (.int (zI ms) :: .int (zI mv) :: .ref 99 :: .ref 100 :: .ref 101 :: .ref 102 :: .ref 103 :: .ref 104 :: .ref 105 :: .int (zI mt) :: .int (zI mfa) :: .ref 106 :: .ref 107 :: .ref 108 :: .int (zI mtn) :: .int (zI mtk) :: .int (zI mlv) :: .int (zI mbd) :: .int (zI mgo) :: .int (zI mge) :: .int (zI mbk) :: .ref 109 :: .int (zI mtt) :: .int (zI mtl) :: .ref 110 :: .ref 111 :: .ref 112 :: .ref 113 :: .ref 114 :: .ref 115 :: .ref 116 :: .ref 117 :: .int (zI hm) :: .int (zI pm) :: .int (zI hb) :: .int (zI sb) :: .ref 118 :: .ref 119 :: .ref 120 :: .ref 121 :: .ref 122 :: .ref 123 :: .ref 124 :: .ref 125 :: .ref 126 :: .ref 127 :: .ref 128 :: .ref 129 :: .int (zI mfu) :: .ref 130 :: .ref 131 :: .ref 132 :: .ref 133 :: .ref 134 :: .int (zI mdm) :: .int (zI mla) :: [])))) (hk100 : fh 100 = some (.inl (0, 4870, .inl (zA K)))) (hk99 : fh 99 = some (.inl (0, 7, .inl (zA rf7)))) (hk101 : fh 101 = some (.inl (0, 9740, .inl (zA im)))) (hk102 : fh 102 = some (.inl (2, 2, .inl (zA hi)))) : JM l G yX12_back MX12_back { frames := 1, cells := 0, slots := 0, locals := 22 } [.ref 98, .int (zI x)] (nh, fh) (fun rr h9 => ∃ r : Int, ∃ K2 : Int → Int, ∃ rg7 : Int → Int, ∃ ms2 : Int, ∃ mv2 : Int, rr = some (.int (zI r)) ∧ h9 = (nh, hc fh [(98, .inr (12, (.int (zI ms2) :: .int (zI mv2) :: .ref 99 :: .ref 100 :: .ref 101 :: .ref 102 :: .ref 103 :: .ref 104 :: .ref 105 :: .int (zI mt) :: .int (zI mfa) :: .ref 106 :: .ref 107 :: .ref 108 :: .int (zI mtn) :: .int (zI mtk) :: .int (zI mlv) :: .int (zI mbd) :: .int (zI mgo) :: .int (zI mge) :: .int (zI mbk) :: .ref 109 :: .int (zI mtt) :: .int (zI mtl) :: .ref 110 :: .ref 111 :: .ref 112 :: .ref 113 :: .ref 114 :: .ref 115 :: .ref 116 :: .ref 117 :: .int (zI hm) :: .int (zI pm) :: .int (zI hb) :: .int (zI sb) :: .ref 118 :: .ref 119 :: .ref 120 :: .ref 121 :: .ref 122 :: .ref 123 :: .ref 124 :: .ref 125 :: .ref 126 :: .ref 127 :: .ref 128 :: .ref 129 :: .int (zI mfu) :: .ref 130 :: .ref 131 :: .ref 132 :: .ref 133 :: .ref 134 :: .int (zI mdm) :: .int (zI mla) :: []))), (100, .inl (0, 4870, .inl (zA K2))), (99, .inl (0, 7, .inl (zA rg7)))]) ∧ (KOK K2) ∧ (mv ≤ mv2) ∧ (mv2 ≤ mv + 1) ∧ (mv2 = mv → K2 = K) ∧ (r = bkr x (hi 0) (hi 1)) ∧ (BkE K2 K im hi x)) := by
  refine JM.of (by decide) rfl (fun h => by cases h) (Nat.le_of_ble_eq_true rfl) ⟨1, rfl⟩ ?_
  refine J_hc0 (J_ls (ls2 := [some (.ref 98), some (.int (zI x)), none]) rfl ?_)
  refine J_iload_n dX12_back_0 rfl rfl ?_
  refine Z_iconst (n := 0) dX12_back_1 ?_
  refine Z_iconst (n := 1) dX12_back_2 ?_
  refine J_callS (st := []) dX12_back_3 cs_X12_138 (k_lies x 0 1 q0 v_b17331891f v_4dcc24baa7) rfl rfl (Nat.le_of_ble_eq_true rfl) ⟨(Nat.le_of_ble_eq_true rfl), (Nat.le_of_ble_eq_true rfl)⟩ ⟨(Nat.le_of_ble_eq_true rfl), (Nat.le_of_ble_eq_true rfl)⟩ (fun r h9 hp => ?_)
  rcases hp with ⟨rfl, rfl, h1, h2⟩ | ⟨rfl, rfl, h3⟩ | ⟨rfl, rfl, h4⟩
  · refine J_nf (nh2 := nh) (ck2 := 0) (sk2 := 0) (st2 := [.int (zI 1)]) rfl rfl rfl rfl ?_
    refine Z_if_ne (tgt := 15) dX12_back_6 (by decide) v_4dcc24baa7 (fun h5 => ?_) (fun h5 => absurd h5 v_3a47bfd896)
    refine J_aload_n dX12_back_15 rfl rfl ?_
    refine J_get (v := .ref 102) dX12_back_16 fl_X12_26 hk98 rfl ?_
    refine J_iload_n dX12_back_19 rfl rfl ?_
    obtain ⟨z6, ez6⟩ : ∃ z : Int, hi x = z := ⟨_, rfl⟩
    have h7 := Rg.at q3 (v_2b02420001 h1) (v_0d7de8b66d h2) ez6
    refine Y_zald (z := z6) 2 dX12_back_20 hk102 rfl (by decide) (v_2b02420001 h1) (v_0d7de8b66d h2) ez6 ?_
    refine Z_if_ne (tgt := 31) dX12_back_21 (by decide) (v_5f10a759cd h7.1 h7.2) (fun h8 => ?_) (fun h8 => ?_)
    · refine Z_iconst (n := 0) dX12_back_31 ?_
      refine J_istore_n dX12_back_32 rfl (Nat.le_of_ble_eq_true rfl) rfl ?_
      refine J_ls (ls2 := [some (.ref 98), some (.int (zI x)), some (.int (zI 0))]) rfl ?_
      refine J_touch (k := 100) (e := .inl (0, 4870, .inl (zA K))) hk100 ?_
      have lp33 : ∀ (N33 : Nat) (i_33 : Int) (Kx_33 : Int → Int), (0 ≤ i_33) → (i_33 ≤ 4870) → (Cbk Kx_33 im x i_33) → (4870 - i_33).toNat < N33 → J l G MX12_back { frames := 1, cells := 0, slots := 0, locals := 22 } jE (jMQ G { frames := 1, cells := 0, slots := 0, locals := 22 } (fun rr h9 => ∃ r : Int, ∃ K2 : Int → Int, ∃ rg7 : Int → Int, ∃ ms2 : Int, ∃ mv2 : Int, rr = some (.int (zI r)) ∧ h9 = (nh, hc fh [(98, .inr (12, (.int (zI ms2) :: .int (zI mv2) :: .ref 99 :: .ref 100 :: .ref 101 :: .ref 102 :: .ref 103 :: .ref 104 :: .ref 105 :: .int (zI mt) :: .int (zI mfa) :: .ref 106 :: .ref 107 :: .ref 108 :: .int (zI mtn) :: .int (zI mtk) :: .int (zI mlv) :: .int (zI mbd) :: .int (zI mgo) :: .int (zI mge) :: .int (zI mbk) :: .ref 109 :: .int (zI mtt) :: .int (zI mtl) :: .ref 110 :: .ref 111 :: .ref 112 :: .ref 113 :: .ref 114 :: .ref 115 :: .ref 116 :: .ref 117 :: .int (zI hm) :: .int (zI pm) :: .int (zI hb) :: .int (zI sb) :: .ref 118 :: .ref 119 :: .ref 120 :: .ref 121 :: .ref 122 :: .ref 123 :: .ref 124 :: .ref 125 :: .ref 126 :: .ref 127 :: .ref 128 :: .ref 129 :: .int (zI mfu) :: .ref 130 :: .ref 131 :: .ref 132 :: .ref 133 :: .ref 134 :: .int (zI mdm) :: .int (zI mla) :: []))), (100, .inl (0, 4870, .inl (zA K2))), (99, .inl (0, 7, .inl (zA rg7)))]) ∧ (KOK K2) ∧ (mv ≤ mv2) ∧ (mv2 ≤ mv + 1) ∧ (mv2 = mv → K2 = K) ∧ (r = bkr x (hi 0) (hi 1)) ∧ (BkE K2 K im hi x))) (nh, hc fh [(100, .inl (0, 4870, .inl (zA Kx_33)))]) 0 0 33 [some (.ref 98), some (.int (zI x)), some (.int (zI i_33))] [] := by
        intro N33
        induction N33 with
        | zero => intro i_33 Kx_33 i33_0 i33_1 i33_2 hm; exact absurd hm (Nat.not_lt_zero _)
        | succ N33 ih33 =>
          intro i_33 Kx_33 i33_0 i33_1 i33_2 hm33
          refine J_iload_n dX12_back_33 rfl rfl ?_
          refine Z_sipush (n := 4870) dX12_back_34 (by decide +kernel) ?_
          refine Z_icmp_ge (tgt := 64) dX12_back_37 (by decide) (v_285343f07a i33_0 i33_1) v_c0995cba63 (fun h9 => ?_) (fun h9 => ?_)
          · refine J_aload_n dX12_back_64 rfl rfl ?_
            refine Z_iconst (n := 0) dX12_back_65 ?_
            refine J_callV (st := []) dX12_back_66 cv_X12_146 (k_good 0 ms mv mt mfa mtn mtk mlv mbd mgo mge mbk mtt mtl hm pm hb sb mfu mdm mla hk98) hk98 rfl rfl (Nat.le_of_ble_eq_true rfl) ⟨(Nat.le_of_ble_eq_true rfl), (Nat.le_of_ble_eq_true rfl)⟩ ⟨(Nat.le_of_ble_eq_true rfl), (Nat.le_of_ble_eq_true rfl)⟩ (fun r h9 hp => ?_)
            obtain ⟨rfl, rfl⟩ := hp
            refine J_nf (nh2 := nh) (ck2 := 0) (sk2 := 0) (st2 := [.int (zI 0)]) rfl rfl rfl rfl ?_
            refine J_app (L3 := [(98, .inr (12, (.int (zI 0) :: .int (zI (mv + 1)) :: .ref 99 :: .ref 100 :: .ref 101 :: .ref 102 :: .ref 103 :: .ref 104 :: .ref 105 :: .int (zI mt) :: .int (zI mfa) :: .ref 106 :: .ref 107 :: .ref 108 :: .int (zI mtn) :: .int (zI mtk) :: .int (zI mlv) :: .int (zI mbd) :: .int (zI mgo) :: .int (zI mge) :: .int (zI mbk) :: .ref 109 :: .int (zI mtt) :: .int (zI mtl) :: .ref 110 :: .ref 111 :: .ref 112 :: .ref 113 :: .ref 114 :: .ref 115 :: .ref 116 :: .ref 117 :: .int (zI hm) :: .int (zI pm) :: .int (zI hb) :: .int (zI sb) :: .ref 118 :: .ref 119 :: .ref 120 :: .ref 121 :: .ref 122 :: .ref 123 :: .ref 124 :: .ref 125 :: .ref 126 :: .ref 127 :: .ref 128 :: .ref 129 :: .int (zI mfu) :: .ref 130 :: .ref 131 :: .ref 132 :: .ref 133 :: .ref 134 :: .int (zI mdm) :: .int (zI mla) :: []))), (100, .inl (0, 4870, .inl (zA Kx_33)))]) rfl ?_
            refine J_touch (k := 99) (e := .inl (0, 7, .inl (zA rf7))) hk99 ?_
            refine J_touch (k := 100) (e := .inl (0, 4870, .inl (zA Kx_33))) rfl ?_
            refine J_touch (k := 98) (e := .inr (12, (.int (zI 0) :: .int (zI (mv + 1)) :: .ref 99 :: .ref 100 :: .ref 101 :: .ref 102 :: .ref 103 :: .ref 104 :: .ref 105 :: .int (zI mt) :: .int (zI mfa) :: .ref 106 :: .ref 107 :: .ref 108 :: .int (zI mtn) :: .int (zI mtk) :: .int (zI mlv) :: .int (zI mbd) :: .int (zI mgo) :: .int (zI mge) :: .int (zI mbk) :: .ref 109 :: .int (zI mtt) :: .int (zI mtl) :: .ref 110 :: .ref 111 :: .ref 112 :: .ref 113 :: .ref 114 :: .ref 115 :: .ref 116 :: .ref 117 :: .int (zI hm) :: .int (zI pm) :: .int (zI hb) :: .int (zI sb) :: .ref 118 :: .ref 119 :: .ref 120 :: .ref 121 :: .ref 122 :: .ref 123 :: .ref 124 :: .ref 125 :: .ref 126 :: .ref 127 :: .ref 128 :: .ref 129 :: .int (zI mfu) :: .ref 130 :: .ref 131 :: .ref 132 :: .ref 133 :: .ref 134 :: .int (zI mdm) :: .int (zI mla) :: []))) rfl ?_
            refine J_mask (L2 := [(98, .inr (12, (.int (zI 0) :: .int (zI (mv + 1)) :: .ref 99 :: .ref 100 :: .ref 101 :: .ref 102 :: .ref 103 :: .ref 104 :: .ref 105 :: .int (zI mt) :: .int (zI mfa) :: .ref 106 :: .ref 107 :: .ref 108 :: .int (zI mtn) :: .int (zI mtk) :: .int (zI mlv) :: .int (zI mbd) :: .int (zI mgo) :: .int (zI mge) :: .int (zI mbk) :: .ref 109 :: .int (zI mtt) :: .int (zI mtl) :: .ref 110 :: .ref 111 :: .ref 112 :: .ref 113 :: .ref 114 :: .ref 115 :: .ref 116 :: .ref 117 :: .int (zI hm) :: .int (zI pm) :: .int (zI hb) :: .int (zI sb) :: .ref 118 :: .ref 119 :: .ref 120 :: .ref 121 :: .ref 122 :: .ref 123 :: .ref 124 :: .ref 125 :: .ref 126 :: .ref 127 :: .ref 128 :: .ref 129 :: .int (zI mfu) :: .ref 130 :: .ref 131 :: .ref 132 :: .ref 133 :: .ref 134 :: .int (zI mdm) :: .int (zI mla) :: []))), (100, .inl (0, 4870, .inl (zA Kx_33))), (99, .inl (0, 7, .inl (zA rf7)))]) (ks := [98, 100, 99, 98, 100]) [true, true, true, false, false] rfl (by decide +kernel) rfl ?_
            exact J_iret dX12_back_69 rfl rfl (Nat.le_of_ble_eq_true rfl) (Nat.le_of_ble_eq_true rfl) ⟨0, Kx_33, rf7, 0, (mv + 1), rfl, rfl, (Cbk.ok i33_2 (v_ef1e3ffec4 h9) q2 (v_2b02420001 h1) (v_6b0b292328 h2) ez6 (v_d47f715d39 h7.1 h8)), v_32a28518ee, v_3410673be3, (fun w => absurd w (by omega)), (bkr_ok (v_2b02420001 h1) (v_6b0b292328 h2) ez6 (v_d47f715d39 h7.1 h8)), (BkE.yes (bkr_ok (v_2b02420001 h1) (v_6b0b292328 h2) ez6 (v_d47f715d39 h7.1 h8)) i33_2 (v_ef1e3ffec4 h9))⟩
          · refine J_aload_n dX12_back_40 rfl rfl ?_
            refine J_get (v := .ref 100) dX12_back_41 fl_X12_20 hk98 rfl ?_
            refine J_iload_n dX12_back_44 rfl rfl ?_
            refine J_aload_n dX12_back_45 rfl rfl ?_
            refine J_get (v := .ref 101) dX12_back_46 fl_X12_23 hk98 rfl ?_
            refine Z_sipush (n := 4870) dX12_back_49 (by decide +kernel) ?_
            refine J_iload_n dX12_back_52 rfl rfl ?_
            refine Z_imul (c := 4870 * x) dX12_back_53 rfl ?_
            refine J_iload_n dX12_back_54 rfl rfl ?_
            refine Z_iadd (c := i_33 + 4870 * x) dX12_back_55 v_bd80b2205f ?_
            obtain ⟨z10, ez10⟩ : ∃ z : Int, im (i_33 + 4870 * x) = z := ⟨_, rfl⟩
            refine Y_iald (z := z10) 9740 dX12_back_56 hk101 rfl (by decide) (v_af69fff669 h1 i33_0) (v_4e10c15305 h2 h9) ez10 ?_
            refine Y_iast (v := z10) 4870 dX12_back_57 rfl rfl (by decide) (v_2b02420001 i33_0) (v_d39a86ff3e h9) (fun f11 ef11 => ?_)
            refine Z_iinc (c := i_33 + 1) (ls2 := [some (.ref 98), some (.int (zI x)), some (.int (zI (i_33 + 1)))]) dX12_back_58 rfl (Nat.le_of_ble_eq_true rfl) rfl rfl rfl ?_
            refine J_goto (tgt := 33) dX12_back_61 (by decide) ?_
            refine J_mask (L2 := [(100, .inl (0, 4870, .inl (zA f11)))]) (ks := [100, 100]) [true, false] rfl (by decide +kernel) rfl ?_
            exact ih33 (i_33 + 1) f11 (v_da458fa48a i33_0) (v_2237a972b5 h9) (Cbk.step i33_2 v_36e7a0cc01 ez10 ef11) (meas_lt v_e7445b9178 (v_6f2540389d h9) hm33)
      exact lp33 _ 0 K v_939070ca3f v_7c7bbed721 (Cbk_0) (Nat.lt_succ_self _)
    · refine J_aload_n dX12_back_24 rfl rfl ?_
      refine Z_bipush (n := -2) dX12_back_25 (by decide +kernel) ?_
      refine J_callV (st := []) dX12_back_27 cv_X12_142 (k_refuses (-2) rf7 ms mv mt mfa mtn mtk mlv mbd mgo mge mbk mtt mtl hm pm hb sb mfu mdm mla v_c15e852b74 v_e7867eeafa hk98 hk99) hk98 rfl rfl (Nat.le_of_ble_eq_true rfl) ⟨(Nat.le_of_ble_eq_true rfl), (Nat.le_of_ble_eq_true rfl)⟩ ⟨(Nat.le_of_ble_eq_true rfl), (Nat.le_of_ble_eq_true rfl)⟩ (fun r h9 hp => ?_)
      obtain ⟨f12, rfl, rfl⟩ := hp
      refine J_nf (nh2 := nh) (ck2 := 0) (sk2 := 0) (st2 := [.int (zI (-2))]) rfl rfl rfl rfl ?_
      refine J_app (L3 := [(98, .inr (12, (.int (zI (-2)) :: .int (zI mv) :: .ref 99 :: .ref 100 :: .ref 101 :: .ref 102 :: .ref 103 :: .ref 104 :: .ref 105 :: .int (zI mt) :: .int (zI mfa) :: .ref 106 :: .ref 107 :: .ref 108 :: .int (zI mtn) :: .int (zI mtk) :: .int (zI mlv) :: .int (zI mbd) :: .int (zI mgo) :: .int (zI mge) :: .int (zI mbk) :: .ref 109 :: .int (zI mtt) :: .int (zI mtl) :: .ref 110 :: .ref 111 :: .ref 112 :: .ref 113 :: .ref 114 :: .ref 115 :: .ref 116 :: .ref 117 :: .int (zI hm) :: .int (zI pm) :: .int (zI hb) :: .int (zI sb) :: .ref 118 :: .ref 119 :: .ref 120 :: .ref 121 :: .ref 122 :: .ref 123 :: .ref 124 :: .ref 125 :: .ref 126 :: .ref 127 :: .ref 128 :: .ref 129 :: .int (zI mfu) :: .ref 130 :: .ref 131 :: .ref 132 :: .ref 133 :: .ref 134 :: .int (zI mdm) :: .int (zI mla) :: []))), (99, .inl (0, 7, .inl (zA f12)))]) rfl ?_
      refine J_touch (k := 99) (e := .inl (0, 7, .inl (zA f12))) rfl ?_
      refine J_touch (k := 100) (e := .inl (0, 4870, .inl (zA K))) hk100 ?_
      refine J_touch (k := 98) (e := .inr (12, (.int (zI (-2)) :: .int (zI mv) :: .ref 99 :: .ref 100 :: .ref 101 :: .ref 102 :: .ref 103 :: .ref 104 :: .ref 105 :: .int (zI mt) :: .int (zI mfa) :: .ref 106 :: .ref 107 :: .ref 108 :: .int (zI mtn) :: .int (zI mtk) :: .int (zI mlv) :: .int (zI mbd) :: .int (zI mgo) :: .int (zI mge) :: .int (zI mbk) :: .ref 109 :: .int (zI mtt) :: .int (zI mtl) :: .ref 110 :: .ref 111 :: .ref 112 :: .ref 113 :: .ref 114 :: .ref 115 :: .ref 116 :: .ref 117 :: .int (zI hm) :: .int (zI pm) :: .int (zI hb) :: .int (zI sb) :: .ref 118 :: .ref 119 :: .ref 120 :: .ref 121 :: .ref 122 :: .ref 123 :: .ref 124 :: .ref 125 :: .ref 126 :: .ref 127 :: .ref 128 :: .ref 129 :: .int (zI mfu) :: .ref 130 :: .ref 131 :: .ref 132 :: .ref 133 :: .ref 134 :: .int (zI mdm) :: .int (zI mla) :: []))) rfl ?_
      refine J_mask (L2 := [(98, .inr (12, (.int (zI (-2)) :: .int (zI mv) :: .ref 99 :: .ref 100 :: .ref 101 :: .ref 102 :: .ref 103 :: .ref 104 :: .ref 105 :: .int (zI mt) :: .int (zI mfa) :: .ref 106 :: .ref 107 :: .ref 108 :: .int (zI mtn) :: .int (zI mtk) :: .int (zI mlv) :: .int (zI mbd) :: .int (zI mgo) :: .int (zI mge) :: .int (zI mbk) :: .ref 109 :: .int (zI mtt) :: .int (zI mtl) :: .ref 110 :: .ref 111 :: .ref 112 :: .ref 113 :: .ref 114 :: .ref 115 :: .ref 116 :: .ref 117 :: .int (zI hm) :: .int (zI pm) :: .int (zI hb) :: .int (zI sb) :: .ref 118 :: .ref 119 :: .ref 120 :: .ref 121 :: .ref 122 :: .ref 123 :: .ref 124 :: .ref 125 :: .ref 126 :: .ref 127 :: .ref 128 :: .ref 129 :: .int (zI mfu) :: .ref 130 :: .ref 131 :: .ref 132 :: .ref 133 :: .ref 134 :: .int (zI mdm) :: .int (zI mla) :: []))), (100, .inl (0, 4870, .inl (zA K))), (99, .inl (0, 7, .inl (zA f12)))]) (ks := [98, 100, 99, 98, 99]) [true, true, true, false, false] rfl (by decide +kernel) rfl ?_
      exact J_iret dX12_back_30 rfl rfl (Nat.le_of_ble_eq_true rfl) (Nat.le_of_ble_eq_true rfl) ⟨(-2), K, f12, (-2), mv, rfl, rfl, (q1), v_0065452639, v_3daf2cb668, (fun _ => rfl), (bkr_no (v_2b02420001 h1) (v_6b0b292328 h2) ez6 (v_bd6c74a791 h7.1 h8)), (BkE.out (bkr_no (v_2b02420001 h1) (v_6b0b292328 h2) ez6 (v_bd6c74a791 h7.1 h8)) (by decide))⟩
  · refine J_nf (nh2 := nh) (ck2 := 0) (sk2 := 0) (st2 := [.int (zI 0)]) rfl rfl rfl rfl ?_
    refine Z_if_ne (tgt := 15) dX12_back_6 (by decide) v_b17331891f (fun h13 => absurd h13 (fun q => q v_2ca2bbca1f)) (fun h13 => ?_)
    refine J_aload_n dX12_back_9 rfl rfl ?_
    refine Z_iconst (n := -1) dX12_back_10 ?_
    refine J_callV (st := []) dX12_back_11 cv_X12_142 (k_refuses (-1) rf7 ms mv mt mfa mtn mtk mlv mbd mgo mge mbk mtt mtl hm pm hb sb mfu mdm mla v_ef59c9c3d8 v_646fb950f3 hk98 hk99) hk98 rfl rfl (Nat.le_of_ble_eq_true rfl) ⟨(Nat.le_of_ble_eq_true rfl), (Nat.le_of_ble_eq_true rfl)⟩ ⟨(Nat.le_of_ble_eq_true rfl), (Nat.le_of_ble_eq_true rfl)⟩ (fun r h9 hp => ?_)
    obtain ⟨f14, rfl, rfl⟩ := hp
    refine J_nf (nh2 := nh) (ck2 := 0) (sk2 := 0) (st2 := [.int (zI (-1))]) rfl rfl rfl rfl ?_
    refine J_app (L3 := [(98, .inr (12, (.int (zI (-1)) :: .int (zI mv) :: .ref 99 :: .ref 100 :: .ref 101 :: .ref 102 :: .ref 103 :: .ref 104 :: .ref 105 :: .int (zI mt) :: .int (zI mfa) :: .ref 106 :: .ref 107 :: .ref 108 :: .int (zI mtn) :: .int (zI mtk) :: .int (zI mlv) :: .int (zI mbd) :: .int (zI mgo) :: .int (zI mge) :: .int (zI mbk) :: .ref 109 :: .int (zI mtt) :: .int (zI mtl) :: .ref 110 :: .ref 111 :: .ref 112 :: .ref 113 :: .ref 114 :: .ref 115 :: .ref 116 :: .ref 117 :: .int (zI hm) :: .int (zI pm) :: .int (zI hb) :: .int (zI sb) :: .ref 118 :: .ref 119 :: .ref 120 :: .ref 121 :: .ref 122 :: .ref 123 :: .ref 124 :: .ref 125 :: .ref 126 :: .ref 127 :: .ref 128 :: .ref 129 :: .int (zI mfu) :: .ref 130 :: .ref 131 :: .ref 132 :: .ref 133 :: .ref 134 :: .int (zI mdm) :: .int (zI mla) :: []))), (99, .inl (0, 7, .inl (zA f14)))]) rfl ?_
    refine J_touch (k := 99) (e := .inl (0, 7, .inl (zA f14))) rfl ?_
    refine J_touch (k := 100) (e := .inl (0, 4870, .inl (zA K))) hk100 ?_
    refine J_touch (k := 98) (e := .inr (12, (.int (zI (-1)) :: .int (zI mv) :: .ref 99 :: .ref 100 :: .ref 101 :: .ref 102 :: .ref 103 :: .ref 104 :: .ref 105 :: .int (zI mt) :: .int (zI mfa) :: .ref 106 :: .ref 107 :: .ref 108 :: .int (zI mtn) :: .int (zI mtk) :: .int (zI mlv) :: .int (zI mbd) :: .int (zI mgo) :: .int (zI mge) :: .int (zI mbk) :: .ref 109 :: .int (zI mtt) :: .int (zI mtl) :: .ref 110 :: .ref 111 :: .ref 112 :: .ref 113 :: .ref 114 :: .ref 115 :: .ref 116 :: .ref 117 :: .int (zI hm) :: .int (zI pm) :: .int (zI hb) :: .int (zI sb) :: .ref 118 :: .ref 119 :: .ref 120 :: .ref 121 :: .ref 122 :: .ref 123 :: .ref 124 :: .ref 125 :: .ref 126 :: .ref 127 :: .ref 128 :: .ref 129 :: .int (zI mfu) :: .ref 130 :: .ref 131 :: .ref 132 :: .ref 133 :: .ref 134 :: .int (zI mdm) :: .int (zI mla) :: []))) rfl ?_
    refine J_mask (L2 := [(98, .inr (12, (.int (zI (-1)) :: .int (zI mv) :: .ref 99 :: .ref 100 :: .ref 101 :: .ref 102 :: .ref 103 :: .ref 104 :: .ref 105 :: .int (zI mt) :: .int (zI mfa) :: .ref 106 :: .ref 107 :: .ref 108 :: .int (zI mtn) :: .int (zI mtk) :: .int (zI mlv) :: .int (zI mbd) :: .int (zI mgo) :: .int (zI mge) :: .int (zI mbk) :: .ref 109 :: .int (zI mtt) :: .int (zI mtl) :: .ref 110 :: .ref 111 :: .ref 112 :: .ref 113 :: .ref 114 :: .ref 115 :: .ref 116 :: .ref 117 :: .int (zI hm) :: .int (zI pm) :: .int (zI hb) :: .int (zI sb) :: .ref 118 :: .ref 119 :: .ref 120 :: .ref 121 :: .ref 122 :: .ref 123 :: .ref 124 :: .ref 125 :: .ref 126 :: .ref 127 :: .ref 128 :: .ref 129 :: .int (zI mfu) :: .ref 130 :: .ref 131 :: .ref 132 :: .ref 133 :: .ref 134 :: .int (zI mdm) :: .int (zI mla) :: []))), (100, .inl (0, 4870, .inl (zA K))), (99, .inl (0, 7, .inl (zA f14)))]) (ks := [98, 100, 99, 98, 99]) [true, true, true, false, false] rfl (by decide +kernel) rfl ?_
    exact J_iret dX12_back_14 rfl rfl (Nat.le_of_ble_eq_true rfl) (Nat.le_of_ble_eq_true rfl) ⟨(-1), K, f14, (-1), mv, rfl, rfl, (q1), v_0065452639, v_3daf2cb668, (fun _ => rfl), (bkr_lo (v_8b303f9981 h3)), (BkE.out (bkr_lo (v_8b303f9981 h3)) (by decide))⟩
  · refine J_nf (nh2 := nh) (ck2 := 0) (sk2 := 0) (st2 := [.int (zI 0)]) rfl rfl rfl rfl ?_
    refine Z_if_ne (tgt := 15) dX12_back_6 (by decide) v_b17331891f (fun h15 => absurd h15 (fun q => q v_2ca2bbca1f)) (fun h15 => ?_)
    refine J_aload_n dX12_back_9 rfl rfl ?_
    refine Z_iconst (n := -1) dX12_back_10 ?_
    refine J_callV (st := []) dX12_back_11 cv_X12_142 (k_refuses (-1) rf7 ms mv mt mfa mtn mtk mlv mbd mgo mge mbk mtt mtl hm pm hb sb mfu mdm mla v_ef59c9c3d8 v_646fb950f3 hk98 hk99) hk98 rfl rfl (Nat.le_of_ble_eq_true rfl) ⟨(Nat.le_of_ble_eq_true rfl), (Nat.le_of_ble_eq_true rfl)⟩ ⟨(Nat.le_of_ble_eq_true rfl), (Nat.le_of_ble_eq_true rfl)⟩ (fun r h9 hp => ?_)
    obtain ⟨f16, rfl, rfl⟩ := hp
    refine J_nf (nh2 := nh) (ck2 := 0) (sk2 := 0) (st2 := [.int (zI (-1))]) rfl rfl rfl rfl ?_
    refine J_app (L3 := [(98, .inr (12, (.int (zI (-1)) :: .int (zI mv) :: .ref 99 :: .ref 100 :: .ref 101 :: .ref 102 :: .ref 103 :: .ref 104 :: .ref 105 :: .int (zI mt) :: .int (zI mfa) :: .ref 106 :: .ref 107 :: .ref 108 :: .int (zI mtn) :: .int (zI mtk) :: .int (zI mlv) :: .int (zI mbd) :: .int (zI mgo) :: .int (zI mge) :: .int (zI mbk) :: .ref 109 :: .int (zI mtt) :: .int (zI mtl) :: .ref 110 :: .ref 111 :: .ref 112 :: .ref 113 :: .ref 114 :: .ref 115 :: .ref 116 :: .ref 117 :: .int (zI hm) :: .int (zI pm) :: .int (zI hb) :: .int (zI sb) :: .ref 118 :: .ref 119 :: .ref 120 :: .ref 121 :: .ref 122 :: .ref 123 :: .ref 124 :: .ref 125 :: .ref 126 :: .ref 127 :: .ref 128 :: .ref 129 :: .int (zI mfu) :: .ref 130 :: .ref 131 :: .ref 132 :: .ref 133 :: .ref 134 :: .int (zI mdm) :: .int (zI mla) :: []))), (99, .inl (0, 7, .inl (zA f16)))]) rfl ?_
    refine J_touch (k := 99) (e := .inl (0, 7, .inl (zA f16))) rfl ?_
    refine J_touch (k := 100) (e := .inl (0, 4870, .inl (zA K))) hk100 ?_
    refine J_touch (k := 98) (e := .inr (12, (.int (zI (-1)) :: .int (zI mv) :: .ref 99 :: .ref 100 :: .ref 101 :: .ref 102 :: .ref 103 :: .ref 104 :: .ref 105 :: .int (zI mt) :: .int (zI mfa) :: .ref 106 :: .ref 107 :: .ref 108 :: .int (zI mtn) :: .int (zI mtk) :: .int (zI mlv) :: .int (zI mbd) :: .int (zI mgo) :: .int (zI mge) :: .int (zI mbk) :: .ref 109 :: .int (zI mtt) :: .int (zI mtl) :: .ref 110 :: .ref 111 :: .ref 112 :: .ref 113 :: .ref 114 :: .ref 115 :: .ref 116 :: .ref 117 :: .int (zI hm) :: .int (zI pm) :: .int (zI hb) :: .int (zI sb) :: .ref 118 :: .ref 119 :: .ref 120 :: .ref 121 :: .ref 122 :: .ref 123 :: .ref 124 :: .ref 125 :: .ref 126 :: .ref 127 :: .ref 128 :: .ref 129 :: .int (zI mfu) :: .ref 130 :: .ref 131 :: .ref 132 :: .ref 133 :: .ref 134 :: .int (zI mdm) :: .int (zI mla) :: []))) rfl ?_
    refine J_mask (L2 := [(98, .inr (12, (.int (zI (-1)) :: .int (zI mv) :: .ref 99 :: .ref 100 :: .ref 101 :: .ref 102 :: .ref 103 :: .ref 104 :: .ref 105 :: .int (zI mt) :: .int (zI mfa) :: .ref 106 :: .ref 107 :: .ref 108 :: .int (zI mtn) :: .int (zI mtk) :: .int (zI mlv) :: .int (zI mbd) :: .int (zI mgo) :: .int (zI mge) :: .int (zI mbk) :: .ref 109 :: .int (zI mtt) :: .int (zI mtl) :: .ref 110 :: .ref 111 :: .ref 112 :: .ref 113 :: .ref 114 :: .ref 115 :: .ref 116 :: .ref 117 :: .int (zI hm) :: .int (zI pm) :: .int (zI hb) :: .int (zI sb) :: .ref 118 :: .ref 119 :: .ref 120 :: .ref 121 :: .ref 122 :: .ref 123 :: .ref 124 :: .ref 125 :: .ref 126 :: .ref 127 :: .ref 128 :: .ref 129 :: .int (zI mfu) :: .ref 130 :: .ref 131 :: .ref 132 :: .ref 133 :: .ref 134 :: .int (zI mdm) :: .int (zI mla) :: []))), (100, .inl (0, 4870, .inl (zA K))), (99, .inl (0, 7, .inl (zA f16)))]) (ks := [98, 100, 99, 98, 99]) [true, true, true, false, false] rfl (by decide +kernel) rfl ?_
    exact J_iret dX12_back_14 rfl rfl (Nat.le_of_ble_eq_true rfl) (Nat.le_of_ble_eq_true rfl) ⟨(-1), K, f16, (-1), mv, rfl, rfl, (q1), v_0065452639, v_3daf2cb668, (fun _ => rfl), (bkr_hi (v_c45cc0c634 h4)), (BkE.out (bkr_hi (v_c45cc0c634 h4)) (by decide))⟩
