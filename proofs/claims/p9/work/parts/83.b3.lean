abbrev MX11_resettle : jM := (RX11, cX11_resettle, 1, none, false)
theorem cv_X11_114 : jCV RX11 114 0 yX0_settle MX0_settle 1 := ⟨_, _, rfl, (jt2 194 rfl rfl), (jt2 192 rfl rfl), (jt2 193 rfl rfl), (jt1 3 rfl rfl), ⟨by decide, by decide, by decide +kernel⟩, Or.inl (jt2 191 rfl rfl)⟩
theorem fw_X11_204 : jFW RX11 204 8 7 (.int) false := ⟨_, _, _, tyX8, rfl, iX8, tyX8_ok, nmX8, by decide, rfl, rfl, (fun h => by cases h), Or.inr ⟨"BeanStreet", (jn1 54 rfl rfl)⟩⟩
theorem cv_X11_321 : jCV RX11 321 8 yX8_dropSwapsBeyond MX8_dropSwapsBeyond 1 := ⟨_, _, rfl, (jt3 44 rfl rfl), (jt3 42 rfl rfl), (jt3 43 rfl rfl), (jt1 2 rfl rfl), ⟨by decide, by decide, by decide +kernel⟩, Or.inl (jt3 41 rfl rfl)⟩
abbrev MX11_beans : jM := (RX11, cX11_beans, 4, some .int, false)
theorem cv_X11_126 : jCV RX11 126 11 yX11_resettle MX11_resettle 0 := ⟨_, _, rfl, (jt3 40 rfl rfl), (jt3 39 rfl rfl), (jtp (q := (⟨"BeanStreet", "resettle", "()V"⟩, 17)) (List.mem_of_getElem? (i := 4) rfl)), (jt1 1 rfl rfl), ⟨by decide, by decide, by decide +kernel⟩, Or.inl (jt3 37 rfl rfl)⟩
abbrev MX11_row : jM := (RX11, cX11_row, 5, some .int, false)
theorem cv_X11_164 : jCV RX11 164 5 yX5_holdsColours MX5_holdsColours 0 := ⟨_, _, rfl, (jt3 140 rfl rfl), (jt3 138 rfl rfl), (jt3 139 rfl rfl), (jt1 4 rfl rfl), ⟨by decide, by decide, by decide +kernel⟩, Or.inl (jt3 137 rfl rfl)⟩
theorem cs_X11_168 : jCS RX11 168 yJ7_fill_53178 MJ7_fill_53178 2 := ⟨(jt3 143 rfl rfl), (jt3 142 rfl rfl), (jt1 14 rfl rfl), ⟨by decide, by decide, by decide +kernel⟩, Or.inl (jt3 141 rfl rfl)⟩
theorem cv_X11_181 : jCV RX11 181 0 yX0_find MX0_find 1 := ⟨_, _, rfl, (jt3 104 rfl rfl), (jt3 102 rfl rfl), (jt3 103 rfl rfl), (jt1 3 rfl rfl), ⟨by decide, by decide, by decide +kernel⟩, Or.inl (jt3 149 rfl rfl)⟩
theorem cv_X11_174 : jCV RX11 174 5 yX5_at MX5_at 1 := ⟨_, _, rfl, (jt3 147 rfl rfl), (jt3 145 rfl rfl), (jt3 146 rfl rfl), (jt1 4 rfl rfl), ⟨by decide, by decide, by decide +kernel⟩, Or.inl (jt3 144 rfl rfl)⟩
theorem cs_X11_177 : jCS RX11 177 yX0_behind MX0_behind 2 := ⟨(jt2 201 rfl rfl), (jt2 200 rfl rfl), (jt1 3 rfl rfl), ⟨by decide, by decide, by decide +kernel⟩, Or.inl (jt3 148 rfl rfl)⟩
abbrev MX5_compiled : jM := (RX5, cX5_compiled, 1, some (.array .int), false)
theorem cs_X5_57 : jCS RX5 57 yJ7_copyOf_59c91 MJ7_copyOf_59c91 2 := ⟨(jt4 42 rfl rfl), (jt4 41 rfl rfl), (jt1 14 rfl rfl), ⟨by decide, by decide, by decide +kernel⟩, Or.inl (jt4 40 rfl rfl)⟩
abbrev MX11_law : jM := (RX11, cX11_law, 1, some .int, false)
theorem cv_X11_187 : jCV RX11 187 5 yX5_compile MX5_compile 0 := ⟨_, _, rfl, (jt3 157 rfl rfl), (jt3 155 rfl rfl), (jt3 156 rfl rfl), (jt1 4 rfl rfl), ⟨by decide, by decide, by decide +kernel⟩, Or.inl (jt3 154 rfl rfl)⟩
theorem fw_X11_101 : jFW RX11 101 11 14 (.int) false := ⟨_, _, _, tyX11, rfl, iX11, tyX11_ok, nmX11, by decide, rfl, rfl, (fun h => by cases h), Or.inl (jt2 224 rfl rfl)⟩
theorem fl_X11_190 : jFL RX11 190 8 2 := ⟨_, _, _, rfl, iX8, by decide, Or.inr ⟨"BeanStreet", (jn1 45 rfl rfl)⟩⟩
theorem cv_X11_194 : jCV RX11 194 5 yX5_compiled MX5_compiled 0 := ⟨_, _, rfl, (jt4 39 rfl rfl), (jt4 37 rfl rfl), (jt4 38 rfl rfl), (jt1 4 rfl rfl), ⟨by decide, by decide, by decide +kernel⟩, Or.inl (jt4 36 rfl rfl)⟩
theorem fw_X11_184 : jFW RX11 184 8 3 (.int) false := ⟨_, _, _, tyX8, rfl, iX8, tyX8_ok, nmX8, by decide, rfl, rfl, (fun h => by cases h), Or.inr ⟨"BeanStreet", (jn1 47 rfl rfl)⟩⟩
abbrev MX11_image : jM := (RX11, cX11_image, 2, some .int, false)
theorem fl_X11_16 : jFL RX11 16 11 1 := ⟨_, _, _, rfl, iX11, by decide, Or.inl (jt2 211 rfl rfl)⟩
theorem cv_X11_314 : jCV RX11 314 8 yX8_copyFrom MX8_copyFrom 1 := ⟨_, _, rfl, (jt6 53 rfl rfl), (jt6 51 rfl rfl), (jt6 52 rfl rfl), (jt1 2 rfl rfl), ⟨by decide, by decide, by decide +kernel⟩, Or.inl (jt6 50 rfl rfl)⟩
theorem fl_X11_20 : jFL RX11 20 11 2 := ⟨_, _, _, rfl, iX11, by decide, Or.inl (jt2 212 rfl rfl)⟩
abbrev MX11_back : jM := (RX11, cX11_back, 2, some .int, false)
theorem dX11_resettle_0 : decode cX11_resettle 0 = .ok (.aload_n 0, 1) := by decide +kernel
theorem dX11_resettle_1 : decode cX11_resettle 1 = .ok (.getfield 27, 3) := by decide +kernel
theorem dX11_resettle_4 : decode cX11_resettle 4 = .ok (.aload_n 0, 1) := by decide +kernel
theorem dX11_resettle_5 : decode cX11_resettle 5 = .ok (.getfield 10, 3) := by decide +kernel
theorem dX11_resettle_8 : decode cX11_resettle 8 = .ok (.getfield 111, 3) := by decide +kernel
theorem dX11_resettle_11 : decode cX11_resettle 11 = .ok (.invokevirtual 114, 3) := by decide +kernel
theorem dX11_resettle_14 : decode cX11_resettle 14 = .ok (.aload_n 0, 1) := by decide +kernel
theorem dX11_resettle_15 : decode cX11_resettle 15 = .ok (.getfield 10, 3) := by decide +kernel
theorem dX11_resettle_18 : decode cX11_resettle 18 = .ok (.iconst 0, 1) := by decide +kernel
theorem dX11_resettle_19 : decode cX11_resettle 19 = .ok (.putfield 204, 3) := by decide +kernel
theorem dX11_resettle_22 : decode cX11_resettle 22 = .ok (.aload_n 0, 1) := by decide +kernel
theorem dX11_resettle_23 : decode cX11_resettle 23 = .ok (.getfield 10, 3) := by decide +kernel
theorem dX11_resettle_26 : decode cX11_resettle 26 = .ok (.iconst 0, 1) := by decide +kernel
theorem dX11_resettle_27 : decode cX11_resettle 27 = .ok (.putfield 286, 3) := by decide +kernel
theorem dX11_resettle_30 : decode cX11_resettle 30 = .ok (.aload_n 0, 1) := by decide +kernel
theorem dX11_resettle_31 : decode cX11_resettle 31 = .ok (.getfield 10, 3) := by decide +kernel
theorem dX11_resettle_34 : decode cX11_resettle 34 = .ok (.aload_n 0, 1) := by decide +kernel
theorem dX11_resettle_35 : decode cX11_resettle 35 = .ok (.getfield 27, 3) := by decide +kernel
theorem dX11_resettle_38 : decode cX11_resettle 38 = .ok (.invokevirtual 122, 3) := by decide +kernel
theorem dX11_resettle_41 : decode cX11_resettle 41 = .ok (.invokevirtual 321, 3) := by decide +kernel
theorem dX11_resettle_44 : decode cX11_resettle 44 = .ok (.aload_n 0, 1) := by decide +kernel
theorem dX11_resettle_45 : decode cX11_resettle 45 = .ok (.getfield 43, 3) := by decide +kernel
theorem dX11_resettle_48 : decode cX11_resettle 48 = .ok (.invokevirtual 148, 3) := by decide +kernel
theorem dX11_resettle_51 : decode cX11_resettle 51 = .ok (.return_, 1) := by decide +kernel
theorem dX11_beans_0 : decode cX11_beans 0 = .ok (.iload_n 1, 1) := by decide +kernel
theorem dX11_beans_1 : decode cX11_beans 1 = .ok (.ifCond .lt 18, 3) := by decide +kernel
theorem dX11_beans_19 : decode cX11_beans 19 = .ok (.aload_n 0, 1) := by decide +kernel
theorem dX11_beans_20 : decode cX11_beans 20 = .ok (.iconst (-1), 1) := by decide +kernel
theorem dX11_beans_21 : decode cX11_beans 21 = .ok (.invokevirtual 118, 3) := by decide +kernel
theorem dX11_beans_24 : decode cX11_beans 24 = .ok (.ireturn, 1) := by decide +kernel
theorem dX11_beans_4 : decode cX11_beans 4 = .ok (.iload_n 1, 1) := by decide +kernel
theorem dX11_beans_5 : decode cX11_beans 5 = .ok (.iconst 5, 1) := by decide +kernel
theorem dX11_beans_6 : decode cX11_beans 6 = .ok (.if_icmp .ge 13, 3) := by decide +kernel
theorem dX11_beans_9 : decode cX11_beans 9 = .ok (.iload_n 2, 1) := by decide +kernel
theorem dX11_beans_10 : decode cX11_beans 10 = .ok (.ifCond .lt 9, 3) := by decide +kernel
theorem dX11_beans_13 : decode cX11_beans 13 = .ok (.iload_n 2, 1) := by decide +kernel
theorem dX11_beans_14 : decode cX11_beans 14 = .ok (.bipush 7, 2) := by decide +kernel
theorem dX11_beans_16 : decode cX11_beans 16 = .ok (.if_icmp .le 9, 3) := by decide +kernel
theorem dX11_beans_25 : decode cX11_beans 25 = .ok (.aload_n 0, 1) := by decide +kernel
theorem dX11_beans_26 : decode cX11_beans 26 = .ok (.getfield 10, 3) := by decide +kernel
theorem dX11_beans_29 : decode cX11_beans 29 = .ok (.getfield 111, 3) := by decide +kernel
theorem dX11_beans_32 : decode cX11_beans 32 = .ok (.iload_n 1, 1) := by decide +kernel
theorem dX11_beans_33 : decode cX11_beans 33 = .ok (.iaload, 1) := by decide +kernel
theorem dX11_beans_34 : decode cX11_beans 34 = .ok (.istore_n 3, 1) := by decide +kernel
theorem dX11_beans_35 : decode cX11_beans 35 = .ok (.aload_n 0, 1) := by decide +kernel
theorem dX11_beans_36 : decode cX11_beans 36 = .ok (.getfield 27, 3) := by decide +kernel
theorem dX11_beans_39 : decode cX11_beans 39 = .ok (.invokevirtual 122, 3) := by decide +kernel
theorem dX11_beans_42 : decode cX11_beans 42 = .ok (.iload_n 3, 1) := by decide +kernel
theorem dX11_beans_43 : decode cX11_beans 43 = .ok (.isub, 1) := by decide +kernel
theorem dX11_beans_44 : decode cX11_beans 44 = .ok (.iload_n 2, 1) := by decide +kernel
theorem dX11_beans_45 : decode cX11_beans 45 = .ok (.iadd, 1) := by decide +kernel
theorem dX11_beans_46 : decode cX11_beans 46 = .ok (.bipush 7, 2) := by decide +kernel
theorem dX11_beans_48 : decode cX11_beans 48 = .ok (.if_icmp .le 9, 3) := by decide +kernel
theorem dX11_beans_57 : decode cX11_beans 57 = .ok (.aload_n 0, 1) := by decide +kernel
theorem dX11_beans_58 : decode cX11_beans 58 = .ok (.getfield 10, 3) := by decide +kernel
theorem dX11_beans_61 : decode cX11_beans 61 = .ok (.getfield 111, 3) := by decide +kernel
theorem dX11_beans_64 : decode cX11_beans 64 = .ok (.iload_n 1, 1) := by decide +kernel
theorem dX11_beans_65 : decode cX11_beans 65 = .ok (.iload_n 2, 1) := by decide +kernel
theorem dX11_beans_66 : decode cX11_beans 66 = .ok (.iastore, 1) := by decide +kernel
theorem dX11_beans_67 : decode cX11_beans 67 = .ok (.aload_n 0, 1) := by decide +kernel
theorem dX11_beans_68 : decode cX11_beans 68 = .ok (.invokevirtual 126, 3) := by decide +kernel
theorem dX11_beans_71 : decode cX11_beans 71 = .ok (.aload_n 0, 1) := by decide +kernel
theorem dX11_beans_72 : decode cX11_beans 72 = .ok (.iload_n 3, 1) := by decide +kernel
theorem dX11_beans_73 : decode cX11_beans 73 = .ok (.invokevirtual 129, 3) := by decide +kernel
theorem dX11_beans_76 : decode cX11_beans 76 = .ok (.ireturn, 1) := by decide +kernel
theorem dX11_beans_51 : decode cX11_beans 51 = .ok (.aload_n 0, 1) := by decide +kernel
theorem dX11_beans_52 : decode cX11_beans 52 = .ok (.iconst (-1), 1) := by decide +kernel
theorem dX11_beans_53 : decode cX11_beans 53 = .ok (.invokevirtual 118, 3) := by decide +kernel
theorem dX11_beans_56 : decode cX11_beans 56 = .ok (.ireturn, 1) := by decide +kernel
theorem dX11_row_0 : decode cX11_row 0 = .ok (.aload_n 0, 1) := by decide +kernel
theorem dX11_row_1 : decode cX11_row 1 = .ok (.getfield 34, 3) := by decide +kernel
theorem dX11_row_4 : decode cX11_row 4 = .ok (.invokevirtual 158, 3) := by decide +kernel
theorem dX11_row_7 : decode cX11_row 7 = .ok (.istore_n 1, 1) := by decide +kernel
theorem dX11_row_8 : decode cX11_row 8 = .ok (.aload_n 0, 1) := by decide +kernel
theorem dX11_row_9 : decode cX11_row 9 = .ok (.getfield 34, 3) := by decide +kernel
theorem dX11_row_12 : decode cX11_row 12 = .ok (.invokevirtual 164, 3) := by decide +kernel
theorem dX11_row_15 : decode cX11_row 15 = .ok (.ifCond .ne 19, 3) := by decide +kernel
theorem dX11_row_34 : decode cX11_row 34 = .ok (.aload_n 0, 1) := by decide +kernel
theorem dX11_row_35 : decode cX11_row 35 = .ok (.getfield 10, 3) := by decide +kernel
theorem dX11_row_38 : decode cX11_row 38 = .ok (.getfield 111, 3) := by decide +kernel
theorem dX11_row_41 : decode cX11_row 41 = .ok (.iconst 0, 1) := by decide +kernel
theorem dX11_row_42 : decode cX11_row 42 = .ok (.invokestatic 168, 3) := by decide +kernel
theorem dX11_row_45 : decode cX11_row 45 = .ok (.iconst 0, 1) := by decide +kernel
theorem dX11_row_46 : decode cX11_row 46 = .ok (.istore_n 2, 1) := by decide +kernel
theorem dX11_row_47 : decode cX11_row 47 = .ok (.iconst 0, 1) := by decide +kernel
theorem dX11_row_48 : decode cX11_row 48 = .ok (.istore_n 3, 1) := by decide +kernel
theorem dX11_row_49 : decode cX11_row 49 = .ok (.iload_n 3, 1) := by decide +kernel
theorem dX11_row_50 : decode cX11_row 50 = .ok (.iload_n 1, 1) := by decide +kernel
theorem dX11_row_51 : decode cX11_row 51 = .ok (.if_icmp .ge 40, 3) := by decide +kernel
theorem dX11_row_91 : decode cX11_row 91 = .ok (.aload_n 0, 1) := by decide +kernel
theorem dX11_row_92 : decode cX11_row 92 = .ok (.getfield 34, 3) := by decide +kernel
theorem dX11_row_95 : decode cX11_row 95 = .ok (.iconst 0, 1) := by decide +kernel
theorem dX11_row_96 : decode cX11_row 96 = .ok (.invokevirtual 161, 3) := by decide +kernel
theorem dX11_row_99 : decode cX11_row 99 = .ok (.pop, 1) := by decide +kernel
theorem dX11_row_100 : decode cX11_row 100 = .ok (.aload_n 0, 1) := by decide +kernel
theorem dX11_row_101 : decode cX11_row 101 = .ok (.invokevirtual 126, 3) := by decide +kernel
theorem dX11_row_104 : decode cX11_row 104 = .ok (.aload_n 0, 1) := by decide +kernel
theorem dX11_row_105 : decode cX11_row 105 = .ok (.aload_n 0, 1) := by decide +kernel
theorem dX11_row_106 : decode cX11_row 106 = .ok (.getfield 27, 3) := by decide +kernel
theorem dX11_row_109 : decode cX11_row 109 = .ok (.iload_n 2, 1) := by decide +kernel
theorem dX11_row_110 : decode cX11_row 110 = .ok (.invokevirtual 181, 3) := by decide +kernel
theorem dX11_row_113 : decode cX11_row 113 = .ok (.invokevirtual 129, 3) := by decide +kernel
theorem dX11_row_116 : decode cX11_row 116 = .ok (.ireturn, 1) := by decide +kernel
theorem dX11_row_54 : decode cX11_row 54 = .ok (.aload_n 0, 1) := by decide +kernel
theorem dX11_row_55 : decode cX11_row 55 = .ok (.getfield 34, 3) := by decide +kernel
theorem dX11_row_58 : decode cX11_row 58 = .ok (.iload_n 3, 1) := by decide +kernel
theorem dX11_row_59 : decode cX11_row 59 = .ok (.invokevirtual 174, 3) := by decide +kernel
theorem dX11_row_62 : decode cX11_row 62 = .ok (.istore 4, 2) := by decide +kernel
theorem dX11_row_64 : decode cX11_row 64 = .ok (.aload_n 0, 1) := by decide +kernel
theorem dX11_row_65 : decode cX11_row 65 = .ok (.getfield 10, 3) := by decide +kernel
theorem dX11_row_68 : decode cX11_row 68 = .ok (.getfield 111, 3) := by decide +kernel
theorem dX11_row_71 : decode cX11_row 71 = .ok (.iload 4, 2) := by decide +kernel
theorem dX11_row_73 : decode cX11_row 73 = .ok (.dup2, 1) := by decide +kernel
theorem dX11_row_74 : decode cX11_row 74 = .ok (.iaload, 1) := by decide +kernel
theorem dX11_row_75 : decode cX11_row 75 = .ok (.iconst 1, 1) := by decide +kernel
theorem dX11_row_76 : decode cX11_row 76 = .ok (.iadd, 1) := by decide +kernel
theorem dX11_row_77 : decode cX11_row 77 = .ok (.iastore, 1) := by decide +kernel
theorem dX11_row_78 : decode cX11_row 78 = .ok (.iload_n 2, 1) := by decide +kernel
theorem dX11_row_79 : decode cX11_row 79 = .ok (.iload 4, 2) := by decide +kernel
theorem dX11_row_81 : decode cX11_row 81 = .ok (.invokestatic 177, 3) := by decide +kernel
theorem dX11_row_84 : decode cX11_row 84 = .ok (.istore_n 2, 1) := by decide +kernel
theorem dX11_row_85 : decode cX11_row 85 = .ok (.iinc 3 1, 3) := by decide +kernel
theorem dX11_row_88 : decode cX11_row 88 = .ok (.goto (-39), 3) := by decide +kernel
theorem dX11_row_18 : decode cX11_row 18 = .ok (.aload_n 0, 1) := by decide +kernel
theorem dX11_row_19 : decode cX11_row 19 = .ok (.getfield 34, 3) := by decide +kernel
theorem dX11_row_22 : decode cX11_row 22 = .ok (.iconst 0, 1) := by decide +kernel
theorem dX11_row_23 : decode cX11_row 23 = .ok (.invokevirtual 161, 3) := by decide +kernel
theorem dX11_row_26 : decode cX11_row 26 = .ok (.pop, 1) := by decide +kernel
theorem dX11_row_27 : decode cX11_row 27 = .ok (.aload_n 0, 1) := by decide +kernel
theorem dX11_row_28 : decode cX11_row 28 = .ok (.bipush (-6), 2) := by decide +kernel
theorem dX11_row_30 : decode cX11_row 30 = .ok (.invokevirtual 118, 3) := by decide +kernel
theorem dX11_row_33 : decode cX11_row 33 = .ok (.ireturn, 1) := by decide +kernel
theorem dX5_compiled_0 : decode cX5_compiled 0 = .ok (.aload_n 0, 1) := by decide +kernel
theorem dX5_compiled_1 : decode cX5_compiled 1 = .ok (.getfield 37, 3) := by decide +kernel
theorem dX5_compiled_4 : decode cX5_compiled 4 = .ok (.aload_n 0, 1) := by decide +kernel
theorem dX5_compiled_5 : decode cX5_compiled 5 = .ok (.getfield 40, 3) := by decide +kernel
theorem dX5_compiled_8 : decode cX5_compiled 8 = .ok (.invokestatic 57, 3) := by decide +kernel
theorem dX5_compiled_11 : decode cX5_compiled 11 = .ok (.areturn, 1) := by decide +kernel
theorem dX11_law_0 : decode cX11_law 0 = .ok (.aload_n 0, 1) := by decide +kernel
theorem dX11_law_1 : decode cX11_law 1 = .ok (.getfield 10, 3) := by decide +kernel
theorem dX11_law_4 : decode cX11_law 4 = .ok (.getfield 184, 3) := by decide +kernel
theorem dX11_law_7 : decode cX11_law 7 = .ok (.bipush 6, 2) := by decide +kernel
theorem dX11_law_9 : decode cX11_law 9 = .ok (.if_icmp .lt 19, 3) := by decide +kernel
theorem dX11_law_28 : decode cX11_law 28 = .ok (.aload_n 0, 1) := by decide +kernel
theorem dX11_law_29 : decode cX11_law 29 = .ok (.aload_n 0, 1) := by decide +kernel
theorem dX11_law_30 : decode cX11_law 30 = .ok (.getfield 34, 3) := by decide +kernel
theorem dX11_law_33 : decode cX11_law 33 = .ok (.invokevirtual 187, 3) := by decide +kernel
theorem dX11_law_36 : decode cX11_law 36 = .ok (.putfield 101, 3) := by decide +kernel
theorem dX11_law_39 : decode cX11_law 39 = .ok (.aload_n 0, 1) := by decide +kernel
theorem dX11_law_40 : decode cX11_law 40 = .ok (.getfield 34, 3) := by decide +kernel
theorem dX11_law_43 : decode cX11_law 43 = .ok (.iconst 0, 1) := by decide +kernel
theorem dX11_law_44 : decode cX11_law 44 = .ok (.invokevirtual 161, 3) := by decide +kernel
theorem dX11_law_47 : decode cX11_law 47 = .ok (.pop, 1) := by decide +kernel
theorem dX11_law_48 : decode cX11_law 48 = .ok (.aload_n 0, 1) := by decide +kernel
theorem dX11_law_49 : decode cX11_law 49 = .ok (.getfield 101, 3) := by decide +kernel
theorem dX11_law_52 : decode cX11_law 52 = .ok (.iconst (-1), 1) := by decide +kernel
theorem dX11_law_53 : decode cX11_law 53 = .ok (.if_icmp .eq 10, 3) := by decide +kernel
theorem dX11_law_63 : decode cX11_law 63 = .ok (.aload_n 0, 1) := by decide +kernel
theorem dX11_law_64 : decode cX11_law 64 = .ok (.getfield 10, 3) := by decide +kernel
theorem dX11_law_67 : decode cX11_law 67 = .ok (.getfield 190, 3) := by decide +kernel
theorem dX11_law_70 : decode cX11_law 70 = .ok (.aload_n 0, 1) := by decide +kernel
theorem dX11_law_71 : decode cX11_law 71 = .ok (.getfield 10, 3) := by decide +kernel
theorem dX11_law_74 : decode cX11_law 74 = .ok (.getfield 184, 3) := by decide +kernel
theorem dX11_law_77 : decode cX11_law 77 = .ok (.aload_n 0, 1) := by decide +kernel
theorem dX11_law_78 : decode cX11_law 78 = .ok (.getfield 34, 3) := by decide +kernel
theorem dX11_law_81 : decode cX11_law 81 = .ok (.invokevirtual 194, 3) := by decide +kernel
theorem dX11_law_84 : decode cX11_law 84 = .ok (.aastore, 1) := by decide +kernel
theorem dX11_law_85 : decode cX11_law 85 = .ok (.aload_n 0, 1) := by decide +kernel
theorem dX11_law_86 : decode cX11_law 86 = .ok (.getfield 10, 3) := by decide +kernel
theorem dX11_law_89 : decode cX11_law 89 = .ok (.dup, 1) := by decide +kernel
theorem dX11_law_90 : decode cX11_law 90 = .ok (.getfield 184, 3) := by decide +kernel
theorem dX11_law_93 : decode cX11_law 93 = .ok (.iconst 1, 1) := by decide +kernel
theorem dX11_law_94 : decode cX11_law 94 = .ok (.iadd, 1) := by decide +kernel
theorem dX11_law_95 : decode cX11_law 95 = .ok (.putfield 184, 3) := by decide +kernel
theorem dX11_law_98 : decode cX11_law 98 = .ok (.aload_n 0, 1) := by decide +kernel
theorem dX11_law_99 : decode cX11_law 99 = .ok (.aload_n 0, 1) := by decide +kernel
theorem dX11_law_100 : decode cX11_law 100 = .ok (.getfield 10, 3) := by decide +kernel
theorem dX11_law_103 : decode cX11_law 103 = .ok (.getfield 184, 3) := by decide +kernel
theorem dX11_law_106 : decode cX11_law 106 = .ok (.iconst 1, 1) := by decide +kernel
theorem dX11_law_107 : decode cX11_law 107 = .ok (.isub, 1) := by decide +kernel
theorem dX11_law_108 : decode cX11_law 108 = .ok (.invokevirtual 129, 3) := by decide +kernel
theorem dX11_law_111 : decode cX11_law 111 = .ok (.ireturn, 1) := by decide +kernel
theorem dX11_law_56 : decode cX11_law 56 = .ok (.aload_n 0, 1) := by decide +kernel
theorem dX11_law_57 : decode cX11_law 57 = .ok (.bipush (-6), 2) := by decide +kernel
theorem dX11_law_59 : decode cX11_law 59 = .ok (.invokevirtual 118, 3) := by decide +kernel
theorem dX11_law_62 : decode cX11_law 62 = .ok (.ireturn, 1) := by decide +kernel
theorem dX11_law_12 : decode cX11_law 12 = .ok (.aload_n 0, 1) := by decide +kernel
theorem dX11_law_13 : decode cX11_law 13 = .ok (.getfield 34, 3) := by decide +kernel
theorem dX11_law_16 : decode cX11_law 16 = .ok (.iconst 0, 1) := by decide +kernel
theorem dX11_law_17 : decode cX11_law 17 = .ok (.invokevirtual 161, 3) := by decide +kernel
theorem dX11_law_20 : decode cX11_law 20 = .ok (.pop, 1) := by decide +kernel
theorem dX11_law_21 : decode cX11_law 21 = .ok (.aload_n 0, 1) := by decide +kernel
theorem dX11_law_22 : decode cX11_law 22 = .ok (.bipush (-5), 2) := by decide +kernel
theorem dX11_law_24 : decode cX11_law 24 = .ok (.invokevirtual 118, 3) := by decide +kernel
theorem dX11_law_27 : decode cX11_law 27 = .ok (.ireturn, 1) := by decide +kernel
theorem dX11_image_0 : decode cX11_image 0 = .ok (.iload_n 1, 1) := by decide +kernel
theorem dX11_image_1 : decode cX11_image 1 = .ok (.ifCond .lt 8, 3) := by decide +kernel
theorem dX11_image_9 : decode cX11_image 9 = .ok (.aload_n 0, 1) := by decide +kernel
theorem dX11_image_10 : decode cX11_image 10 = .ok (.iconst (-1), 1) := by decide +kernel
theorem dX11_image_11 : decode cX11_image 11 = .ok (.invokevirtual 118, 3) := by decide +kernel
theorem dX11_image_14 : decode cX11_image 14 = .ok (.ireturn, 1) := by decide +kernel
theorem dX11_image_4 : decode cX11_image 4 = .ok (.iload_n 1, 1) := by decide +kernel
theorem dX11_image_5 : decode cX11_image 5 = .ok (.iconst 2, 1) := by decide +kernel
theorem dX11_image_6 : decode cX11_image 6 = .ok (.if_icmp .lt 9, 3) := by decide +kernel
theorem dX11_image_15 : decode cX11_image 15 = .ok (.aload_n 0, 1) := by decide +kernel
theorem dX11_image_16 : decode cX11_image 16 = .ok (.getfield 16, 3) := by decide +kernel
theorem dX11_image_19 : decode cX11_image 19 = .ok (.iload_n 1, 1) := by decide +kernel
theorem dX11_image_20 : decode cX11_image 20 = .ok (.aaload, 1) := by decide +kernel
theorem dX11_image_21 : decode cX11_image 21 = .ok (.aload_n 0, 1) := by decide +kernel
theorem dX11_image_22 : decode cX11_image 22 = .ok (.getfield 10, 3) := by decide +kernel
theorem dX11_image_25 : decode cX11_image 25 = .ok (.invokevirtual 314, 3) := by decide +kernel
theorem dX11_image_28 : decode cX11_image 28 = .ok (.aload_n 0, 1) := by decide +kernel
theorem dX11_image_29 : decode cX11_image 29 = .ok (.getfield 20, 3) := by decide +kernel
theorem dX11_image_32 : decode cX11_image 32 = .ok (.iload_n 1, 1) := by decide +kernel
theorem dX11_image_33 : decode cX11_image 33 = .ok (.iconst 1, 1) := by decide +kernel
theorem dX11_image_34 : decode cX11_image 34 = .ok (.bastore, 1) := by decide +kernel
theorem dX11_image_35 : decode cX11_image 35 = .ok (.aload_n 0, 1) := by decide +kernel
theorem dX11_image_36 : decode cX11_image 36 = .ok (.iconst 0, 1) := by decide +kernel
theorem dX11_image_37 : decode cX11_image 37 = .ok (.invokevirtual 129, 3) := by decide +kernel
theorem dX11_image_40 : decode cX11_image 40 = .ok (.ireturn, 1) := by decide +kernel
theorem dX11_back_0 : decode cX11_back 0 = .ok (.iload_n 1, 1) := by decide +kernel
theorem dX11_back_1 : decode cX11_back 1 = .ok (.ifCond .lt 8, 3) := by decide +kernel
theorem dX11_back_9 : decode cX11_back 9 = .ok (.aload_n 0, 1) := by decide +kernel
theorem dX11_back_10 : decode cX11_back 10 = .ok (.iconst (-1), 1) := by decide +kernel
theorem dX11_back_11 : decode cX11_back 11 = .ok (.invokevirtual 118, 3) := by decide +kernel
theorem dX11_back_14 : decode cX11_back 14 = .ok (.ireturn, 1) := by decide +kernel
theorem dX11_back_4 : decode cX11_back 4 = .ok (.iload_n 1, 1) := by decide +kernel
theorem dX11_back_5 : decode cX11_back 5 = .ok (.iconst 2, 1) := by decide +kernel
theorem dX11_back_6 : decode cX11_back 6 = .ok (.if_icmp .lt 9, 3) := by decide +kernel
theorem dX11_back_15 : decode cX11_back 15 = .ok (.aload_n 0, 1) := by decide +kernel
theorem dX11_back_16 : decode cX11_back 16 = .ok (.getfield 20, 3) := by decide +kernel
theorem dX11_back_19 : decode cX11_back 19 = .ok (.iload_n 1, 1) := by decide +kernel
theorem dX11_back_20 : decode cX11_back 20 = .ok (.baload, 1) := by decide +kernel
theorem dX11_back_21 : decode cX11_back 21 = .ok (.ifCond .ne 10, 3) := by decide +kernel
theorem dX11_back_31 : decode cX11_back 31 = .ok (.aload_n 0, 1) := by decide +kernel
theorem dX11_back_32 : decode cX11_back 32 = .ok (.getfield 10, 3) := by decide +kernel
theorem dX11_back_35 : decode cX11_back 35 = .ok (.aload_n 0, 1) := by decide +kernel
theorem dX11_back_36 : decode cX11_back 36 = .ok (.getfield 16, 3) := by decide +kernel
theorem dX11_back_39 : decode cX11_back 39 = .ok (.iload_n 1, 1) := by decide +kernel
theorem dX11_back_40 : decode cX11_back 40 = .ok (.aaload, 1) := by decide +kernel
theorem dX11_back_41 : decode cX11_back 41 = .ok (.invokevirtual 314, 3) := by decide +kernel
theorem dX11_back_44 : decode cX11_back 44 = .ok (.aload_n 0, 1) := by decide +kernel
theorem dX11_back_45 : decode cX11_back 45 = .ok (.getfield 27, 3) := by decide +kernel
theorem dX11_back_48 : decode cX11_back 48 = .ok (.aload_n 0, 1) := by decide +kernel
theorem dX11_back_49 : decode cX11_back 49 = .ok (.getfield 10, 3) := by decide +kernel
theorem dX11_back_52 : decode cX11_back 52 = .ok (.getfield 111, 3) := by decide +kernel
theorem dX11_back_55 : decode cX11_back 55 = .ok (.invokevirtual 114, 3) := by decide +kernel
theorem dX11_back_58 : decode cX11_back 58 = .ok (.aload_n 0, 1) := by decide +kernel
theorem dX11_back_59 : decode cX11_back 59 = .ok (.getfield 43, 3) := by decide +kernel
theorem dX11_back_62 : decode cX11_back 62 = .ok (.invokevirtual 148, 3) := by decide +kernel
theorem dX11_back_65 : decode cX11_back 65 = .ok (.aload_n 0, 1) := by decide +kernel
theorem dX11_back_66 : decode cX11_back 66 = .ok (.iconst 0, 1) := by decide +kernel
theorem dX11_back_67 : decode cX11_back 67 = .ok (.invokevirtual 129, 3) := by decide +kernel
theorem dX11_back_70 : decode cX11_back 70 = .ok (.ireturn, 1) := by decide +kernel
theorem dX11_back_24 : decode cX11_back 24 = .ok (.aload_n 0, 1) := by decide +kernel
theorem dX11_back_25 : decode cX11_back 25 = .ok (.bipush (-2), 2) := by decide +kernel
theorem dX11_back_27 : decode cX11_back 27 = .ok (.invokevirtual 118, 3) := by decide +kernel
theorem dX11_back_30 : decode cX11_back 30 = .ok (.ireturn, 1) := by decide +kernel
theorem v_ba0f39146e {a0 : Int} (h0 : 5 ≤ a0) : ¬ a0 ≤ 4 := by omega
theorem v_019fbf122b {a0 a1 a2 : Int} : a0 - a1 + a2 = a0 + a2 - a1 := by omega
theorem v_8dacb91df9 {a0 a1 a2 : Int} (h0 : 0 ≤ a0) (h1 : a0 ≤ 7) (h2 : ¬ a1 < 0) (h3 : a1 ≤ 7) (h4 : 0 ≤ a2) (h5 : a2 ≤ 7) : zr ((a0 + a1 - a2)) := by omega
theorem v_7ade6d630c {a0 a1 a2 : Int} (h0 : a0 + a1 - a2 ≤ 7) : a0 - a2 + a1 ≤ 7 := by omega
theorem v_1461074501 {a0 a1 a2 a3 a4 : Int} (h0 : a0 = a1) (h1 : a2 = a3) (h2 : a0 + a4 - a3 ≤ 7) : a1 - a2 + a4 ≤ 7 := by omega
theorem v_ddca3e6277 {a0 a1 a2 a3 a4 : Int} (h0 : a0 = a1) (h1 : a2 = a3) (h2 : ¬ a0 + a4 - a3 ≤ 7) : ¬ a1 - a2 + a4 ≤ 7 := by omega
theorem v_84decc3d03 {a0 : Int} (h0 : ¬ a0 ≤ 7) : ¬ a0 ≤ 7 := by omega
theorem v_5283ac495a : (5 : Int) ≤ 100000 := by omega
theorem v_d28dc587d1 (h0 : (0 : Int) < 0) : False := by omega
theorem v_3400455607 {a0 : Int} (h0 : 1 ≤ a0) (h1 : a0 < 0) : False := by omega
theorem v_f53ff4b6b9 {a0 a1 : Int} (h0 : a0 ≤ 7) (h1 : 0 ≤ a1) (h2 : ¬ a0 ≤ a1) : zr a1 := by omega
theorem v_c6cfc087e2 {a0 a1 : Int} (h0 : ¬ a0 ≤ a1) (h1 : a0 ≤ a1) : False := by omega
theorem v_96e273cc1e {a0 : Int} (h0 : a0 < 6) : a0 < 6 := by omega
theorem v_ce363065c5 {a0 : Int} : a0 + 1 - 1 = a0 := by omega
theorem v_c4c2cc32f6 {a0 : Int} (h0 : a0 < 6) : (a0 + 1) ≤ 6 := by omega
theorem v_dc5709f228 {a0 : Int} (h0 : ¬ a0 < 0) (h1 : a0 = 0) : a0 = 0 := by omega
theorem v_5b5f59c0b7 {a0 : Int} (h0 : a0 < 2) : a0 < 2 := by omega
theorem v_e45b057d65 {a0 : Int} (h0 : ¬ a0 < 0) (h1 : a0 < 2) (h2 : ¬ a0 = 0) : a0 = 1 := by omega
theorem v_a42a1d70ec {a0 : Int} (h0 : a0 < 2) : a0 ≤ 1 := by omega
theorem v_e118ab036c {a0 : Int} (h0 : ¬ a0 < 2) : 1 < a0 := by omega
theorem v_e4b1ea782a {a0 : Int} (h0 : ¬ a0 < 2) : ¬ a0 = 0 := by omega
theorem v_0c7470c7ee {a0 : Int} (h0 : ¬ a0 < 2) : ¬ a0 = 1 := by omega
theorem v_d1c0671cae : (-(1 : Int)) < 0 := by omega
theorem v_6696e37d45 : (-(2 : Int)) < 0 := by omega
set_option maxHeartbeats 4000000 in
set_option maxRecDepth 100000 in
theorem b_resettle {l : Launch} {G : jG} {nh : Nat} {fh : Nat → Option va_E} (ff : Int → Int) (tf : Int → Int) (lf : Nat → Option Nat) (wa : Int → Int) (wb : Int → Int) (ca : Int → Int) (cb : Int → Int) (sa : Int → Int) (sb : Int → Int) (lc : Int) (fo : Int) (wc : Int) (cc : Int) (sc : Int) (many : Int) (places : Int) (rf : Int → Int) (bf : Int → Int) (ks : Nat) (ve : Int) (ss : Int) (vs : Int) (cst : Int) (cfa : Int) (cdk : Int) (q0 : okF ff) (q1 : 0 ≤ lc) (q2 : lc ≤ 6) (q3 : -1 ≤ fo) (q4 : fo < lc) (q5 : 0 ≤ wc) (q6 : wc ≤ 8) (q7 : 0 ≤ cc) (q8 : cc ≤ 6) (q9 : 0 ≤ sc) (q10 : sc ≤ 12) (q11 : Rg tf 2 (-2147483648) 2147483647) (q12 : Rg wa 8 (-2147483648) 2147483647) (q13 : Rg wb 8 (-2147483648) 2147483647) (q14 : Rg ca 6 (-2147483648) 2147483647) (q15 : Rg cb 6 (-2147483648) 2147483647) (q16 : Rg sa 12 0 6) (q17 : Rg sb 12 0 6) (q18 : Rg ff 5 (-2147483648) 2147483647) (q19 : Rg rf 1260 (-2147483648) 2147483647) (q20 : Rg bf 7 0 4) (q21 : 0 ≤ ss) (q22 : ss ≤ 1) (q23 : 0 ≤ vs) (q24 : vs ≤ 1) (q25 : 0 ≤ ve) (q26 : ve ≤ 10000) (hk0 : fh 0 = some (.inr (11, [.ref 1, .ref 17, .ref 50, .ref 51, .ref 54, .ref 57, .ref 65, .ref 75, .ref 81, .ref 85, .ref 88, .ref 93, .ref 96, .int (zI cst), .int (zI cfa), .ref 97, .int (zI cdk)]))) (hk1 : fh 1 = some (.inr (8, [.ref 2, .ref 3, .ref 4, .int (zI lc), .int (zI fo), .ref 11, .ref 12, .int (zI wc), .ref 13, .ref 14, .int (zI cc), .ref 15, .ref 16, .int (zI sc)]))) (hk2 : fh 2 = some (.inl (0, 5, .inl (zA ff)))) (hk3 : fh 3 = some (.inl (0, 2, .inl (zA tf)))) (hk4 : fh 4 = some (.inl (5, 6, .inr (.inr (.inr (.inr lf)))))) (hk11 : fh 11 = some (.inl (0, 8, .inl (zA wa)))) (hk12 : fh 12 = some (.inl (0, 8, .inl (zA wb)))) (hk13 : fh 13 = some (.inl (0, 6, .inl (zA ca)))) (hk14 : fh 14 = some (.inl (0, 6, .inl (zA cb)))) (hk15 : fh 15 = some (.inl (0, 12, .inl (zA sa)))) (hk16 : fh 16 = some (.inl (0, 12, .inl (zA sb)))) (hk51 : fh 51 = some (.inr (0, [.ref 52, .ref 53, .int (zI many), .int (zI places)]))) (hk52 : fh 52 = some (.inl (0, 1260, .inl (zA rf)))) (hk53 : fh 53 = some (.inl (0, 7, .inl (zA bf)))) (hk57 : fh 57 = some (.inr (9, [.ref 1, .ref 51, .ref 58, .ref 61, .ref 62, .ref ks, .ref 64, .int (zI ve), .int (zI ss), .int (zI vs)]))) : JM l G yX11_resettle MX11_resettle { frames := 3, cells := 0, slots := 0, locals := 70 } [.ref 0] (nh, fh) (fun rr h9 => ∃ many2 : Int, ∃ places2 : Int, ∃ rf2 : Int → Int, ∃ bf2 : Int → Int, ∃ sc2 : Int, ∃ sa2 : Int → Int, ∃ sb2 : Int → Int, rr = none ∧ h9 = (nh, hc fh [(51, .inr (0, [.ref 52, .ref 53, .int (zI many2), .int (zI places2)])), (52, .inl (0, 1260, .inl (zA rf2))), (53, .inl (0, 7, .inl (zA bf2))), (1, .inr (8, [.ref 2, .ref 3, .ref 4, .int (zI lc), .int (zI fo), .ref 11, .ref 12, .int (zI 0), .ref 13, .ref 14, .int (zI 0), .ref 15, .ref 16, .int (zI sc2)])), (15, .inl (0, 12, .inl (zA sa2))), (16, .inl (0, 12, .inl (zA sb2))), (57, .inr (9, [.ref 1, .ref 51, .ref 58, .ref 61, .ref 62, .ref ks, .ref 64, .int (zI (ve + 1)), .int (zI 1), .int (zI 1)]))]) ∧ (many2 = Hi ff) ∧ (places2 = bsum ff) ∧ (RowsTo rf2 ff many2) ∧ (Rg rf2 1260 (-2147483648) 2147483647) ∧ (Rg bf2 7 0 4) ∧ (0 ≤ sc2) ∧ (sc2 ≤ 12) ∧ (Rg sa2 12 0 6) ∧ (Rg sb2 12 0 6) ∧ (0 ≤ places2) ∧ (places2 ≤ 7) ∧ (1 ≤ many2) ∧ (many2 ≤ 1260) ∧ (dwL sa sb places2 (sc).toNat = (sa2, sb2, sc2))) := by
  refine JM.of (by decide) rfl (fun h => by cases h) (Nat.le_of_ble_eq_true rfl) ⟨0, rfl⟩ ?_
  refine J_hc0 (J_ls (ls2 := [some (.ref 0)]) rfl ?_)
  refine J_aload_n dX11_resettle_0 rfl rfl ?_
  refine J_get (v := .ref 51) dX11_resettle_1 fl_X11_27 hk0 rfl ?_
  refine J_aload_n dX11_resettle_4 rfl rfl ?_
  refine J_get (v := .ref 1) dX11_resettle_5 fl_X11_10 hk0 rfl ?_
  refine J_get (v := .ref 2) dX11_resettle_8 fl_X11_111 hk1 rfl ?_
  refine J_callV (st := []) dX11_resettle_11 cv_X11_114 (g_settle ff bf rf many places q0 q20 q19 hk2 hk51 hk53 hk52) hk51 rfl rfl (Nat.le_of_ble_eq_true rfl) ⟨(Nat.le_of_ble_eq_true rfl), (Nat.le_of_ble_eq_true rfl)⟩ ⟨(Nat.le_of_ble_eq_true rfl), (Nat.le_of_ble_eq_true rfl)⟩ (fun r h9 hp => ?_)
  obtain ⟨f1, f2, z3, z4, rfl, rfl, h5, h6, h7, h8, h9⟩ := hp
  refine J_nf (nh2 := nh) (ck2 := 0) (sk2 := 0) (st2 := []) rfl rfl rfl rfl ?_
  refine J_app (L3 := [(51, .inr (0, [.ref 52, .ref 53, .int (zI z3), .int (zI z4)])), (52, .inl (0, 1260, .inl (zA f2))), (53, .inl (0, 7, .inl (zA f1)))]) rfl ?_
  have g10 : (1 ≤ z3 ∧ z3 ≤ 1260) ∧ 0 ≤ z4 ∧ z4 ≤ 7 := by rw [h7, h8]; exact ⟨Hi_rng q0, bsum_rng q0⟩
  refine J_aload_n dX11_resettle_14 rfl rfl ?_
  refine J_get (v := .ref 1) dX11_resettle_15 fl_X11_10 hk0 rfl ?_
  refine Z_iconst (n := 0) dX11_resettle_18 ?_
  refine K_put (fs2 := [.ref 2, .ref 3, .ref 4, .int (zI lc), .int (zI fo), .ref 11, .ref 12, .int (zI 0), .ref 13, .ref 14, .int (zI cc), .ref 15, .ref 16, .int (zI sc)]) dX11_resettle_19 fw_X11_204 hk1 (Nat.le_of_ble_eq_true rfl) (fun _ => ⟨rfl, rfl⟩) rfl ?_
  refine J_aload_n dX11_resettle_22 rfl rfl ?_
  refine J_get (v := .ref 1) dX11_resettle_23 fl_X11_10 hk0 rfl ?_
  refine Z_iconst (n := 0) dX11_resettle_26 ?_
  refine K_put (fs2 := [.ref 2, .ref 3, .ref 4, .int (zI lc), .int (zI fo), .ref 11, .ref 12, .int (zI 0), .ref 13, .ref 14, .int (zI 0), .ref 15, .ref 16, .int (zI sc)]) dX11_resettle_27 fw_X11_286 rfl (Nat.le_of_ble_eq_true rfl) (fun _ => ⟨rfl, rfl⟩) rfl ?_
  refine J_aload_n dX11_resettle_30 rfl rfl ?_
  refine J_get (v := .ref 1) dX11_resettle_31 fl_X11_10 hk0 rfl ?_
  refine J_aload_n dX11_resettle_34 rfl rfl ?_
  refine J_get (v := .ref 51) dX11_resettle_35 fl_X11_27 hk0 rfl ?_
  refine J_callV (st := [.ref 1]) dX11_resettle_38 cv_X11_122 (g_places z3 z4 rfl) rfl rfl rfl (Nat.le_of_ble_eq_true rfl) ⟨(Nat.le_of_ble_eq_true rfl), (Nat.le_of_ble_eq_true rfl)⟩ ⟨(Nat.le_of_ble_eq_true rfl), (Nat.le_of_ble_eq_true rfl)⟩ (fun r h9 hp => ?_)
  obtain ⟨rfl, rfl⟩ := hp
  refine J_nf (nh2 := nh) (ck2 := 0) (sk2 := 0) (st2 := [.int (zI z4), .ref 1]) rfl rfl rfl rfl ?_
  refine J_callV (st := []) dX11_resettle_41 cv_X11_321 (s_dropSwapsBeyond z4 lc fo 0 0 sc sa sb (v_2ee1de483d g10.2.1 g10.2.2) q1 q2 q3 q4 v_939070ca3f v_09118c4f05 v_939070ca3f v_54997b3cd8 q9 q10 q16 q17 rfl hk15 hk16) rfl rfl rfl (Nat.le_of_ble_eq_true rfl) ⟨(Nat.le_of_ble_eq_true rfl), (Nat.le_of_ble_eq_true rfl)⟩ ⟨(Nat.le_of_ble_eq_true rfl), (Nat.le_of_ble_eq_true rfl)⟩ (fun r h9 hp => ?_)
  obtain ⟨z11, f12, f13, rfl, rfl, h14, h15, h16, h17, h18⟩ := hp
  refine J_nf (nh2 := nh) (ck2 := 0) (sk2 := 0) (st2 := []) rfl rfl rfl rfl ?_
  refine J_app (L3 := [(1, .inr (8, [.ref 2, .ref 3, .ref 4, .int (zI lc), .int (zI fo), .ref 11, .ref 12, .int (zI 0), .ref 13, .ref 14, .int (zI 0), .ref 15, .ref 16, .int (zI z11)])), (15, .inl (0, 12, .inl (zA f12))), (16, .inl (0, 12, .inl (zA f13))), (1, .inr (8, [.ref 2, .ref 3, .ref 4, .int (zI lc), .int (zI fo), .ref 11, .ref 12, .int (zI 0), .ref 13, .ref 14, .int (zI 0), .ref 15, .ref 16, .int (zI sc)])), (1, .inr (8, [.ref 2, .ref 3, .ref 4, .int (zI lc), .int (zI fo), .ref 11, .ref 12, .int (zI 0), .ref 13, .ref 14, .int (zI cc), .ref 15, .ref 16, .int (zI sc)])), (51, .inr (0, [.ref 52, .ref 53, .int (zI z3), .int (zI z4)])), (52, .inl (0, 1260, .inl (zA f2))), (53, .inl (0, 7, .inl (zA f1)))]) rfl ?_
  refine J_mask (L2 := [(1, .inr (8, [.ref 2, .ref 3, .ref 4, .int (zI lc), .int (zI fo), .ref 11, .ref 12, .int (zI 0), .ref 13, .ref 14, .int (zI 0), .ref 15, .ref 16, .int (zI z11)])), (15, .inl (0, 12, .inl (zA f12))), (16, .inl (0, 12, .inl (zA f13))), (51, .inr (0, [.ref 52, .ref 53, .int (zI z3), .int (zI z4)])), (52, .inl (0, 1260, .inl (zA f2))), (53, .inl (0, 7, .inl (zA f1)))]) (ks := [1, 15, 16, 1, 1, 51, 52, 53]) [true, true, true, false, false, true, true, true] rfl (by decide +kernel) rfl ?_
  refine J_aload_n dX11_resettle_44 rfl rfl ?_
  refine J_get (v := .ref 57) dX11_resettle_45 fl_X11_43 hk0 rfl ?_
  refine J_callV (st := []) dX11_resettle_48 cv_X11_148 (t_changeAll ks ve ss vs (v_72438f5f82 q25 q26) (v_c8d7785628 q26) hk57) hk57 rfl rfl (Nat.le_of_ble_eq_true rfl) ⟨(Nat.le_of_ble_eq_true rfl), (Nat.le_of_ble_eq_true rfl)⟩ ⟨(Nat.le_of_ble_eq_true rfl), (Nat.le_of_ble_eq_true rfl)⟩ (fun r h9 hp => ?_)
  obtain ⟨rfl, rfl⟩ := hp
  refine J_nf (nh2 := nh) (ck2 := 0) (sk2 := 0) (st2 := []) rfl rfl rfl rfl ?_
  refine J_app (L3 := [(57, .inr (9, [.ref 1, .ref 51, .ref 58, .ref 61, .ref 62, .ref ks, .ref 64, .int (zI (ve + 1)), .int (zI 1), .int (zI 1)])), (1, .inr (8, [.ref 2, .ref 3, .ref 4, .int (zI lc), .int (zI fo), .ref 11, .ref 12, .int (zI 0), .ref 13, .ref 14, .int (zI 0), .ref 15, .ref 16, .int (zI z11)])), (15, .inl (0, 12, .inl (zA f12))), (16, .inl (0, 12, .inl (zA f13))), (51, .inr (0, [.ref 52, .ref 53, .int (zI z3), .int (zI z4)])), (52, .inl (0, 1260, .inl (zA f2))), (53, .inl (0, 7, .inl (zA f1)))]) rfl ?_
  refine J_touch (k := 57) (e := .inr (9, [.ref 1, .ref 51, .ref 58, .ref 61, .ref 62, .ref ks, .ref 64, .int (zI (ve + 1)), .int (zI 1), .int (zI 1)])) rfl ?_
  refine J_touch (k := 16) (e := .inl (0, 12, .inl (zA f13))) rfl ?_
  refine J_touch (k := 15) (e := .inl (0, 12, .inl (zA f12))) rfl ?_
  refine J_touch (k := 1) (e := .inr (8, [.ref 2, .ref 3, .ref 4, .int (zI lc), .int (zI fo), .ref 11, .ref 12, .int (zI 0), .ref 13, .ref 14, .int (zI 0), .ref 15, .ref 16, .int (zI z11)])) rfl ?_
  refine J_touch (k := 53) (e := .inl (0, 7, .inl (zA f1))) rfl ?_
  refine J_touch (k := 52) (e := .inl (0, 1260, .inl (zA f2))) rfl ?_
  refine J_touch (k := 51) (e := .inr (0, [.ref 52, .ref 53, .int (zI z3), .int (zI z4)])) rfl ?_
  refine J_mask (L2 := [(51, .inr (0, [.ref 52, .ref 53, .int (zI z3), .int (zI z4)])), (52, .inl (0, 1260, .inl (zA f2))), (53, .inl (0, 7, .inl (zA f1))), (1, .inr (8, [.ref 2, .ref 3, .ref 4, .int (zI lc), .int (zI fo), .ref 11, .ref 12, .int (zI 0), .ref 13, .ref 14, .int (zI 0), .ref 15, .ref 16, .int (zI z11)])), (15, .inl (0, 12, .inl (zA f12))), (16, .inl (0, 12, .inl (zA f13))), (57, .inr (9, [.ref 1, .ref 51, .ref 58, .ref 61, .ref 62, .ref ks, .ref 64, .int (zI (ve + 1)), .int (zI 1), .int (zI 1)]))]) (ks := [51, 52, 53, 1, 15, 16, 57, 57, 1, 15, 16, 51, 52, 53]) [true, true, true, true, true, true, true, false, false, false, false, false, false, false] rfl (by decide +kernel) rfl ?_
  exact J_vret dX11_resettle_51 rfl (Nat.le_of_ble_eq_true rfl) (Nat.le_of_ble_eq_true rfl) ⟨z3, z4, f2, f1, z11, f12, f13, rfl, rfl, h7, h8, h9, h6, h5, h14, h15, h16, h17, g10.2.1, g10.2.2, g10.1.1, g10.1.2, h18⟩
set_option maxHeartbeats 4000000 in
set_option maxRecDepth 100000 in
theorem b_beans {l : Launch} {G : jG} {nh : Nat} {fh : Nat → Option va_E} (x : Int) (y : Int) (cst : Int) (cfa : Int) (cdk : Int) (ff : Int → Int) (tf : Int → Int) (lf : Nat → Option Nat) (wa : Int → Int) (wb : Int → Int) (ca : Int → Int) (cb : Int → Int) (sa : Int → Int) (sb : Int → Int) (lc : Int) (fo : Int) (wc : Int) (cc : Int) (sc : Int) (many : Int) (places : Int) (rf : Int → Int) (bf : Int → Int) (ks : Nat) (ve : Int) (ss : Int) (vs : Int) (ht : Int) (br : Int) (hl : Int) (le : Int) (ba : Int) (tk : Int) (wf : Int → Int) (kf : Int → Int) (nf : Int → Int) (df : Int → Int) (sf : Int → Int) (ns : Int) (vf : Int → Int) (rfs : Int → Int) (q0 : zr x) (q1 : zr y) (q2 : 0 ≤ cdk) (q3 : cdk ≤ 1) (q4 : okF ff) (q5 : 0 ≤ lc) (q6 : lc ≤ 6) (q7 : -1 ≤ fo) (q8 : fo < lc) (q9 : 0 ≤ wc) (q10 : wc ≤ 8) (q11 : 0 ≤ cc) (q12 : cc ≤ 6) (q13 : 0 ≤ sc) (q14 : sc ≤ 12) (q15 : Rg tf 2 (-2147483648) 2147483647) (q16 : Rg wa 8 (-2147483648) 2147483647) (q17 : Rg wb 8 (-2147483648) 2147483647) (q18 : Rg ca 6 (-2147483648) 2147483647) (q19 : Rg ca cc 0 (Hi ff - 1)) (q20 : Rg cb 6 (-2147483648) 2147483647) (q21 : Rg sa 12 0 6) (q22 : Rg sb 12 0 6) (q23 : Rg ff 5 (-2147483648) 2147483647) (q24 : LawsIn fh lf) (q25 : 1 ≤ many) (q26 : many ≤ 1260) (q27 : 0 ≤ places) (q28 : places ≤ 7) (q29 : many = Hi ff) (q30 : places = bsum ff) (q31 : RowsTo rf ff many) (q32 : Rg rf 1260 (-2147483648) 2147483647) (q33 : Rg bf 7 0 4) (q34 : Fx ks) (q35 : NLt ks nh) (q36 : NLe 135 nh) (q37 : 0 ≤ ss) (q38 : ss ≤ 1) (q39 : 0 ≤ vs) (q40 : vs ≤ 1) (q41 : 0 ≤ ve) (q42 : ve ≤ 10000) (q43 : Rg vf 2625 0 99) (q44 : 0 ≤ ns) (q45 : ns ≤ 60000) (q46 : Rg wf 8 (-2147483648) 2147483647) (q47 : Rg sf ns (-2147483648) 2147483647) (q48 : ss = 0 → 22 * many ≤ ns ∧ StOK df sf many) (q49 : 0 ≤ ht) (q50 : ht ≤ 64) (q51 : 0 ≤ br) (q52 : br ≤ 1) (q53 : 0 ≤ hl) (q54 : hl ≤ 1) (q55 : 0 ≤ le) (q56 : le ≤ 1) (q57 : 0 ≤ ba) (q58 : ba ≤ 1) (q59 : 1 ≤ tk) (q60 : tk ≤ 99) (hk0 : fh 0 = some (.inr (11, [.ref 1, .ref 17, .ref 50, .ref 51, .ref 54, .ref 57, .ref 65, .ref 75, .ref 81, .ref 85, .ref 88, .ref 93, .ref 96, .int (zI cst), .int (zI cfa), .ref 97, .int (zI cdk)]))) (hk1 : fh 1 = some (.inr (8, [.ref 2, .ref 3, .ref 4, .int (zI lc), .int (zI fo), .ref 11, .ref 12, .int (zI wc), .ref 13, .ref 14, .int (zI cc), .ref 15, .ref 16, .int (zI sc)]))) (hk2 : fh 2 = some (.inl (0, 5, .inl (zA ff)))) (hk3 : fh 3 = some (.inl (0, 2, .inl (zA tf)))) (hk4 : fh 4 = some (.inl (5, 6, .inr (.inr (.inr (.inr lf)))))) (hk11 : fh 11 = some (.inl (0, 8, .inl (zA wa)))) (hk12 : fh 12 = some (.inl (0, 8, .inl (zA wb)))) (hk13 : fh 13 = some (.inl (0, 6, .inl (zA ca)))) (hk14 : fh 14 = some (.inl (0, 6, .inl (zA cb)))) (hk15 : fh 15 = some (.inl (0, 12, .inl (zA sa)))) (hk16 : fh 16 = some (.inl (0, 12, .inl (zA sb)))) (hk51 : fh 51 = some (.inr (0, [.ref 52, .ref 53, .int (zI many), .int (zI places)]))) (hk52 : fh 52 = some (.inl (0, 1260, .inl (zA rf)))) (hk53 : fh 53 = some (.inl (0, 7, .inl (zA bf)))) (hk57 : fh 57 = some (.inr (9, [.ref 1, .ref 51, .ref 58, .ref 61, .ref 62, .ref ks, .ref 64, .int (zI ve), .int (zI ss), .int (zI vs)]))) (hk58 : fh 58 = some (.inr (1, [.ref 59, .ref 60, .int (zI ht), .int (zI br), .int (zI hl), .int (zI le), .int (zI ba), .int (zI tk)]))) (hk59 : fh 59 = some (.inl (0, 8, .inl (zA wf)))) (hk60 : fh 60 = some (.inl (1, 64, .inr (.inl (zAL kf))))) (hk61 : fh 61 = some (.inl (0, 0, .inl (zA nf)))) (hk62 : fh 62 = some (.inl (0, 1260, .inl (zA df)))) (hkks : fh ks = some (.inl (0, (ns).toNat, .inl (zA sf)))) (hk64 : fh 64 = some (.inl (0, 2625, .inl (zA vf)))) (hk96 : fh 96 = some (.inl (0, 5, .inl (zA rfs)))) : JM l G yX11_beans MX11_beans { frames := 4, cells := 0, slots := 0, locals := 90 } [.ref 0, .int (zI x), .int (zI y)] (nh, fh) (fun rr h9 => (∃ rfs2 : Int → Int, rr = some (.int (zI (-1))) ∧ h9 = (nh, hc fh [(0, .inr (11, [.ref 1, .ref 17, .ref 50, .ref 51, .ref 54, .ref 57, .ref 65, .ref 75, .ref 81, .ref 85, .ref 88, .ref 93, .ref 96, .int (zI (-1)), .int (zI cfa), .ref 97, .int (zI cdk)])), (96, .inl (0, 5, .inl (zA rfs2)))]) ∧ (¬ bnk x y ff)) ∨ (∃ r : Int, ∃ many2 : Int, ∃ places2 : Int, ∃ rf2 : Int → Int, ∃ bf2 : Int → Int, ∃ sc2 : Int, ∃ sa2 : Int → Int, ∃ sb2 : Int → Int, ∃ ff2 : Int → Int, rr = some (.int (zI r)) ∧ h9 = (nh, hc fh [(0, .inr (11, [.ref 1, .ref 17, .ref 50, .ref 51, .ref 54, .ref 57, .ref 65, .ref 75, .ref 81, .ref 85, .ref 88, .ref 93, .ref 96, .int (zI 0), .int (zI cfa), .ref 97, .int (zI cdk)])), (51, .inr (0, [.ref 52, .ref 53, .int (zI many2), .int (zI places2)])), (52, .inl (0, 1260, .inl (zA rf2))), (53, .inl (0, 7, .inl (zA bf2))), (1, .inr (8, [.ref 2, .ref 3, .ref 4, .int (zI lc), .int (zI fo), .ref 11, .ref 12, .int (zI 0), .ref 13, .ref 14, .int (zI 0), .ref 15, .ref 16, .int (zI sc2)])), (15, .inl (0, 12, .inl (zA sa2))), (16, .inl (0, 12, .inl (zA sb2))), (57, .inr (9, [.ref 1, .ref 51, .ref 58, .ref 61, .ref 62, .ref ks, .ref 64, .int (zI (ve + 1)), .int (zI 1), .int (zI 1)])), (2, .inl (0, 5, .inl (zA ff2)))]) ∧ (okF ff2) ∧ (Rg ff2 5 (-2147483648) 2147483647) ∧ (many2 = Hi ff2) ∧ (places2 = bsum ff2) ∧ (RowsTo rf2 ff2 many2) ∧ (Rg rf2 1260 (-2147483648) 2147483647) ∧ (Rg bf2 7 0 4) ∧ (0 ≤ sc2) ∧ (sc2 ≤ 12) ∧ (Rg sa2 12 0 6) ∧ (Rg sb2 12 0 6) ∧ (1 ≤ many2) ∧ (many2 ≤ 1260) ∧ (0 ≤ places2) ∧ (places2 ≤ 7) ∧ (dwL sa sb places2 (sc).toNat = (sa2, sb2, sc2)) ∧ (bnk x y ff) ∧ (ff x = r) ∧ ((ff2 = up ff x y)))) := by
  refine JM.of (by decide) rfl (fun h => by cases h) (Nat.le_of_ble_eq_true rfl) ⟨1, rfl⟩ ?_
  refine J_hc0 (J_ls (ls2 := [some (.ref 0), some (.int (zI x)), some (.int (zI y)), none]) rfl ?_)
  refine J_iload_n dX11_beans_0 rfl rfl ?_
  refine Z_if_lt (tgt := 19) dX11_beans_1 (by decide) (v_b25fa51a85 q0) (fun h1 => ?_) (fun h1 => ?_)
  · refine J_aload_n dX11_beans_19 rfl rfl ?_
    refine Z_iconst (n := -1) dX11_beans_20 ?_
    refine J_callV (st := []) dX11_beans_21 cv_X11_118 (b_refuse (-1) cst cfa cdk rfs v_ef59c9c3d8 v_646fb950f3 hk0 hk96) hk0 rfl rfl (Nat.le_of_ble_eq_true rfl) ⟨(Nat.le_of_ble_eq_true rfl), (Nat.le_of_ble_eq_true rfl)⟩ ⟨(Nat.le_of_ble_eq_true rfl), (Nat.le_of_ble_eq_true rfl)⟩ (fun r h9 hp => ?_)
    obtain ⟨f2, rfl, rfl⟩ := hp
    refine J_nf (nh2 := nh) (ck2 := 0) (sk2 := 0) (st2 := [.int (zI (-1))]) rfl rfl rfl rfl ?_
    refine J_app (L3 := [(0, .inr (11, [.ref 1, .ref 17, .ref 50, .ref 51, .ref 54, .ref 57, .ref 65, .ref 75, .ref 81, .ref 85, .ref 88, .ref 93, .ref 96, .int (zI (-1)), .int (zI cfa), .ref 97, .int (zI cdk)])), (96, .inl (0, 5, .inl (zA f2)))]) rfl ?_
    exact J_iret dX11_beans_24 rfl rfl (Nat.le_of_ble_eq_true rfl) (Nat.le_of_ble_eq_true rfl) (Or.inl ⟨f2, rfl, rfl, (fun q => absurd q.1 (v_dccefa8cdf h1))⟩)
  · refine J_iload_n dX11_beans_4 rfl rfl ?_
    refine Z_iconst (n := 5) dX11_beans_5 ?_
    refine Z_icmp_ge (tgt := 19) dX11_beans_6 (by decide) (v_edc92e96e6 q0 h1) v_3961fe0d0d (fun h3 => ?_) (fun h3 => ?_)
    · refine J_aload_n dX11_beans_19 rfl rfl ?_
      refine Z_iconst (n := -1) dX11_beans_20 ?_
      refine J_callV (st := []) dX11_beans_21 cv_X11_118 (b_refuse (-1) cst cfa cdk rfs v_ef59c9c3d8 v_646fb950f3 hk0 hk96) hk0 rfl rfl (Nat.le_of_ble_eq_true rfl) ⟨(Nat.le_of_ble_eq_true rfl), (Nat.le_of_ble_eq_true rfl)⟩ ⟨(Nat.le_of_ble_eq_true rfl), (Nat.le_of_ble_eq_true rfl)⟩ (fun r h9 hp => ?_)
      obtain ⟨f4, rfl, rfl⟩ := hp
      refine J_nf (nh2 := nh) (ck2 := 0) (sk2 := 0) (st2 := [.int (zI (-1))]) rfl rfl rfl rfl ?_
      refine J_app (L3 := [(0, .inr (11, [.ref 1, .ref 17, .ref 50, .ref 51, .ref 54, .ref 57, .ref 65, .ref 75, .ref 81, .ref 85, .ref 88, .ref 93, .ref 96, .int (zI (-1)), .int (zI cfa), .ref 97, .int (zI cdk)])), (96, .inl (0, 5, .inl (zA f4)))]) rfl ?_
      exact J_iret dX11_beans_24 rfl rfl (Nat.le_of_ble_eq_true rfl) (Nat.le_of_ble_eq_true rfl) (Or.inl ⟨f4, rfl, rfl, (fun q => absurd q.2.1 (v_ba0f39146e h3))⟩)
    · refine J_iload_n dX11_beans_9 rfl rfl ?_
      refine Z_if_lt (tgt := 19) dX11_beans_10 (by decide) (v_b25fa51a85 q1) (fun h5 => ?_) (fun h5 => ?_)
      · refine J_aload_n dX11_beans_19 rfl rfl ?_
        refine Z_iconst (n := -1) dX11_beans_20 ?_
        refine J_callV (st := []) dX11_beans_21 cv_X11_118 (b_refuse (-1) cst cfa cdk rfs v_ef59c9c3d8 v_646fb950f3 hk0 hk96) hk0 rfl rfl (Nat.le_of_ble_eq_true rfl) ⟨(Nat.le_of_ble_eq_true rfl), (Nat.le_of_ble_eq_true rfl)⟩ ⟨(Nat.le_of_ble_eq_true rfl), (Nat.le_of_ble_eq_true rfl)⟩ (fun r h9 hp => ?_)
        obtain ⟨f6, rfl, rfl⟩ := hp
        refine J_nf (nh2 := nh) (ck2 := 0) (sk2 := 0) (st2 := [.int (zI (-1))]) rfl rfl rfl rfl ?_
        refine J_app (L3 := [(0, .inr (11, [.ref 1, .ref 17, .ref 50, .ref 51, .ref 54, .ref 57, .ref 65, .ref 75, .ref 81, .ref 85, .ref 88, .ref 93, .ref 96, .int (zI (-1)), .int (zI cfa), .ref 97, .int (zI cdk)])), (96, .inl (0, 5, .inl (zA f6)))]) rfl ?_
        exact J_iret dX11_beans_24 rfl rfl (Nat.le_of_ble_eq_true rfl) (Nat.le_of_ble_eq_true rfl) (Or.inl ⟨f6, rfl, rfl, (fun q => absurd q.2.2.1 (v_dccefa8cdf h5))⟩)
      · refine J_iload_n dX11_beans_13 rfl rfl ?_
        refine Z_bipush (n := 7) dX11_beans_14 (by decide +kernel) ?_
        refine Z_icmp_le (tgt := 25) dX11_beans_16 (by decide) (v_edc92e96e6 q1 h5) v_c3fe1a091f (fun h7 => ?_) (fun h7 => ?_)
        · refine J_aload_n dX11_beans_25 rfl rfl ?_
          refine J_get (v := .ref 1) dX11_beans_26 fl_X11_10 hk0 rfl ?_
          refine J_get (v := .ref 2) dX11_beans_29 fl_X11_111 hk1 rfl ?_
          refine J_iload_n dX11_beans_32 rfl rfl ?_
          obtain ⟨z8, ez8⟩ : ∃ z : Int, ff x = z := ⟨_, rfl⟩
          have h9 := Rg.at q23 (v_b2d8922659 h1) (v_a9de8d4631 h3) ez8
          refine Y_iald (z := z8) 5 dX11_beans_33 hk2 rfl (by decide) (v_b2d8922659 h1) (v_a9de8d4631 h3) ez8 ?_
          have g10 := okF_at q4 (v_b2d8922659 h1) (v_122ef500b3 h3) ez8
          refine J_istore_n dX11_beans_34 rfl (Nat.le_of_ble_eq_true rfl) rfl ?_
          refine J_ls (ls2 := [some (.ref 0), some (.int (zI x)), some (.int (zI y)), some (.int (zI z8))]) rfl ?_
          refine J_aload_n dX11_beans_35 rfl rfl ?_
          refine J_get (v := .ref 51) dX11_beans_36 fl_X11_27 hk0 rfl ?_
          refine J_callV (st := []) dX11_beans_39 cv_X11_122 (g_places many places hk51) hk51 rfl rfl (Nat.le_of_ble_eq_true rfl) ⟨(Nat.le_of_ble_eq_true rfl), (Nat.le_of_ble_eq_true rfl)⟩ ⟨(Nat.le_of_ble_eq_true rfl), (Nat.le_of_ble_eq_true rfl)⟩ (fun r h9 hp => ?_)
          obtain ⟨rfl, rfl⟩ := hp
          refine J_nf (nh2 := nh) (ck2 := 0) (sk2 := 0) (st2 := [.int (zI places)]) rfl rfl rfl rfl ?_
          refine J_iload_n dX11_beans_42 rfl rfl ?_
          refine Z_isub (c := places - z8) dX11_beans_43 rfl ?_
          refine J_iload_n dX11_beans_44 rfl rfl ?_
          refine Z_iadd (c := places + y - z8) dX11_beans_45 v_019fbf122b ?_
          refine Z_bipush (n := 7) dX11_beans_46 (by decide +kernel) ?_
          refine Z_icmp_le (tgt := 57) dX11_beans_48 (by decide) (v_8dacb91df9 q27 q28 h5 h7 g10.1 g10.2.1) v_c3fe1a091f (fun h11 => ?_) (fun h11 => ?_)
          · refine J_aload_n dX11_beans_57 rfl rfl ?_
            refine J_get (v := .ref 1) dX11_beans_58 fl_X11_10 hk0 rfl ?_
            refine J_get (v := .ref 2) dX11_beans_61 fl_X11_111 hk1 rfl ?_
            refine J_iload_n dX11_beans_64 rfl rfl ?_
            refine J_iload_n dX11_beans_65 rfl rfl ?_
            refine Y_iast (v := y) 5 dX11_beans_66 hk2 rfl (by decide) (v_b2d8922659 h1) (v_a9de8d4631 h3) (fun f12 ef12 => ?_)
            have h13 : Rg f12 5 (-2147483648) 2147483647 := Rg.ups q23 ef12 (v_867eef6787 h5) (v_f9904d9a45 h7)
            refine J_aload_n dX11_beans_67 rfl rfl ?_
            refine J_callV (st := []) dX11_beans_68 cv_X11_126 (b_resettle f12 tf lf wa wb ca cb sa sb lc fo wc cc sc many places rf bf ks ve ss vs cst cfa cdk (beans_ok q4 (v_b2d8922659 h1) (v_122ef500b3 h3) (v_b2d8922659 h5) ez8 q30 (v_7ade6d630c h11) ef12) q5 q6 q7 q8 q9 q10 q11 q12 q13 q14 q15 q16 q17 q18 q20 q21 q22 h13 q32 q33 q37 q38 q39 q40 q41 q42 hk0 hk1 rfl hk3 hk4 hk11 hk12 hk13 hk14 hk15 hk16 hk51 hk52 hk53 hk57) hk0 rfl rfl (Nat.le_of_ble_eq_true rfl) ⟨(Nat.le_of_ble_eq_true rfl), (Nat.le_of_ble_eq_true rfl)⟩ ⟨(Nat.le_of_ble_eq_true rfl), (Nat.le_of_ble_eq_true rfl)⟩ (fun r h9 hp => ?_)
            obtain ⟨z14, z15, f16, f17, z18, f19, f20, rfl, rfl, h21, h22, h23, h24, h25, h26, h27, h28, h29, h30, h31, h32, h33, h34⟩ := hp
            refine J_nf (nh2 := nh) (ck2 := 0) (sk2 := 0) (st2 := []) rfl rfl rfl rfl ?_
            refine J_app (L3 := [(51, .inr (0, [.ref 52, .ref 53, .int (zI z14), .int (zI z15)])), (52, .inl (0, 1260, .inl (zA f16))), (53, .inl (0, 7, .inl (zA f17))), (1, .inr (8, [.ref 2, .ref 3, .ref 4, .int (zI lc), .int (zI fo), .ref 11, .ref 12, .int (zI 0), .ref 13, .ref 14, .int (zI 0), .ref 15, .ref 16, .int (zI z18)])), (15, .inl (0, 12, .inl (zA f19))), (16, .inl (0, 12, .inl (zA f20))), (57, .inr (9, [.ref 1, .ref 51, .ref 58, .ref 61, .ref 62, .ref ks, .ref 64, .int (zI (ve + 1)), .int (zI 1), .int (zI 1)])), (2, .inl (0, 5, .inl (zA f12)))]) rfl ?_
            refine J_aload_n dX11_beans_71 rfl rfl ?_
            refine J_iload_n dX11_beans_72 rfl rfl ?_
            refine J_callV (st := []) dX11_beans_73 cv_X11_129 (b_accept z8 cst cfa cdk hk0) hk0 rfl rfl (Nat.le_of_ble_eq_true rfl) ⟨(Nat.le_of_ble_eq_true rfl), (Nat.le_of_ble_eq_true rfl)⟩ ⟨(Nat.le_of_ble_eq_true rfl), (Nat.le_of_ble_eq_true rfl)⟩ (fun r h9 hp => ?_)
            obtain ⟨rfl, rfl⟩ := hp
            refine J_nf (nh2 := nh) (ck2 := 0) (sk2 := 0) (st2 := [.int (zI z8)]) rfl rfl rfl rfl ?_
            refine J_app (L3 := [(0, .inr (11, [.ref 1, .ref 17, .ref 50, .ref 51, .ref 54, .ref 57, .ref 65, .ref 75, .ref 81, .ref 85, .ref 88, .ref 93, .ref 96, .int (zI 0), .int (zI cfa), .ref 97, .int (zI cdk)])), (51, .inr (0, [.ref 52, .ref 53, .int (zI z14), .int (zI z15)])), (52, .inl (0, 1260, .inl (zA f16))), (53, .inl (0, 7, .inl (zA f17))), (1, .inr (8, [.ref 2, .ref 3, .ref 4, .int (zI lc), .int (zI fo), .ref 11, .ref 12, .int (zI 0), .ref 13, .ref 14, .int (zI 0), .ref 15, .ref 16, .int (zI z18)])), (15, .inl (0, 12, .inl (zA f19))), (16, .inl (0, 12, .inl (zA f20))), (57, .inr (9, [.ref 1, .ref 51, .ref 58, .ref 61, .ref 62, .ref ks, .ref 64, .int (zI (ve + 1)), .int (zI 1), .int (zI 1)])), (2, .inl (0, 5, .inl (zA f12)))]) rfl ?_
            exact J_iret dX11_beans_76 rfl rfl (Nat.le_of_ble_eq_true rfl) (Nat.le_of_ble_eq_true rfl) (Or.inr ⟨z8, z14, z15, f16, f17, z18, f19, f20, f12, rfl, rfl, (beans_ok q4 (v_b2d8922659 h1) (v_122ef500b3 h3) (v_b2d8922659 h5) ez8 q30 (v_7ade6d630c h11) ef12), h13, h21, h22, h23, h24, h25, h26, h27, h28, h29, h32, h33, h30, h31, h34, (⟨(v_b2d8922659 h1), (v_122ef500b3 h3), (v_b2d8922659 h5), (v_dc59a041dc h7), (v_1461074501 q30 ez8 h11)⟩), ez8, ef12⟩)
          · refine J_aload_n dX11_beans_51 rfl rfl ?_
            refine Z_iconst (n := -1) dX11_beans_52 ?_
            refine J_callV (st := []) dX11_beans_53 cv_X11_118 (b_refuse (-1) cst cfa cdk rfs v_ef59c9c3d8 v_646fb950f3 hk0 hk96) hk0 rfl rfl (Nat.le_of_ble_eq_true rfl) ⟨(Nat.le_of_ble_eq_true rfl), (Nat.le_of_ble_eq_true rfl)⟩ ⟨(Nat.le_of_ble_eq_true rfl), (Nat.le_of_ble_eq_true rfl)⟩ (fun r h9 hp => ?_)
            obtain ⟨f35, rfl, rfl⟩ := hp
            refine J_nf (nh2 := nh) (ck2 := 0) (sk2 := 0) (st2 := [.int (zI (-1))]) rfl rfl rfl rfl ?_
            refine J_app (L3 := [(0, .inr (11, [.ref 1, .ref 17, .ref 50, .ref 51, .ref 54, .ref 57, .ref 65, .ref 75, .ref 81, .ref 85, .ref 88, .ref 93, .ref 96, .int (zI (-1)), .int (zI cfa), .ref 97, .int (zI cdk)])), (96, .inl (0, 5, .inl (zA f35)))]) rfl ?_
            exact J_iret dX11_beans_56 rfl rfl (Nat.le_of_ble_eq_true rfl) (Nat.le_of_ble_eq_true rfl) (Or.inl ⟨f35, rfl, rfl, (fun q => absurd q.2.2.2.2 (v_ddca3e6277 q30 ez8 h11))⟩)
        · refine J_aload_n dX11_beans_19 rfl rfl ?_
          refine Z_iconst (n := -1) dX11_beans_20 ?_
          refine J_callV (st := []) dX11_beans_21 cv_X11_118 (b_refuse (-1) cst cfa cdk rfs v_ef59c9c3d8 v_646fb950f3 hk0 hk96) hk0 rfl rfl (Nat.le_of_ble_eq_true rfl) ⟨(Nat.le_of_ble_eq_true rfl), (Nat.le_of_ble_eq_true rfl)⟩ ⟨(Nat.le_of_ble_eq_true rfl), (Nat.le_of_ble_eq_true rfl)⟩ (fun r h9 hp => ?_)
          obtain ⟨f36, rfl, rfl⟩ := hp
          refine J_nf (nh2 := nh) (ck2 := 0) (sk2 := 0) (st2 := [.int (zI (-1))]) rfl rfl rfl rfl ?_
          refine J_app (L3 := [(0, .inr (11, [.ref 1, .ref 17, .ref 50, .ref 51, .ref 54, .ref 57, .ref 65, .ref 75, .ref 81, .ref 85, .ref 88, .ref 93, .ref 96, .int (zI (-1)), .int (zI cfa), .ref 97, .int (zI cdk)])), (96, .inl (0, 5, .inl (zA f36)))]) rfl ?_
          exact J_iret dX11_beans_24 rfl rfl (Nat.le_of_ble_eq_true rfl) (Nat.le_of_ble_eq_true rfl) (Or.inl ⟨f36, rfl, rfl, (fun q => absurd q.2.2.2.1 (v_84decc3d03 h7))⟩)
set_option maxHeartbeats 4000000 in
set_option maxRecDepth 100000 in
theorem b_row {l : Launch} {G : jG} {nh : Nat} {fh : Nat → Option va_E} (cst : Int) (cfa : Int) (cdk : Int) (ff : Int → Int) (tf : Int → Int) (lf : Nat → Option Nat) (wa : Int → Int) (wb : Int → Int) (ca : Int → Int) (cb : Int → Int) (sa : Int → Int) (sb : Int → Int) (lc : Int) (fo : Int) (wc : Int) (cc : Int) (sc : Int) (many : Int) (places : Int) (rf : Int → Int) (bf : Int → Int) (ks : Nat) (ve : Int) (ss : Int) (vs : Int) (ht : Int) (br : Int) (hl : Int) (le : Int) (ba : Int) (tk : Int) (wf : Int → Int) (kf : Int → Int) (nf : Int → Int) (df : Int → Int) (sf : Int → Int) (ns : Int) (vf : Int → Int) (rfs : Int → Int) (dln : Int) (dtk : Int) (dst : Int) (dbh : Int) (dva : Int) (dpa : Int) (dfl : Int) (dsz : Int) (dtp : Int → Int) (dcd : Int → Int) (q0 : 0 ≤ cdk) (q1 : cdk ≤ 1) (q2 : okF ff) (q3 : 0 ≤ lc) (q4 : lc ≤ 6) (q5 : -1 ≤ fo) (q6 : fo < lc) (q7 : 0 ≤ wc) (q8 : wc ≤ 8) (q9 : 0 ≤ cc) (q10 : cc ≤ 6) (q11 : 0 ≤ sc) (q12 : sc ≤ 12) (q13 : Rg tf 2 (-2147483648) 2147483647) (q14 : Rg wa 8 (-2147483648) 2147483647) (q15 : Rg wb 8 (-2147483648) 2147483647) (q16 : Rg ca 6 (-2147483648) 2147483647) (q17 : Rg ca cc 0 (Hi ff - 1)) (q18 : Rg cb 6 (-2147483648) 2147483647) (q19 : Rg sa 12 0 6) (q20 : Rg sb 12 0 6) (q21 : Rg ff 5 (-2147483648) 2147483647) (q22 : LawsIn fh lf) (q23 : 1 ≤ many) (q24 : many ≤ 1260) (q25 : 0 ≤ places) (q26 : places ≤ 7) (q27 : many = Hi ff) (q28 : places = bsum ff) (q29 : RowsTo rf ff many) (q30 : Rg rf 1260 (-2147483648) 2147483647) (q31 : Rg bf 7 0 4) (q32 : Fx ks) (q33 : NLt ks nh) (q34 : NLe 135 nh) (q35 : 0 ≤ ss) (q36 : ss ≤ 1) (q37 : 0 ≤ vs) (q38 : vs ≤ 1) (q39 : 0 ≤ ve) (q40 : ve ≤ 10000) (q41 : Rg vf 2625 0 99) (q42 : 0 ≤ ns) (q43 : ns ≤ 60000) (q44 : Rg wf 8 (-2147483648) 2147483647) (q45 : Rg sf ns (-2147483648) 2147483647) (q46 : ss = 0 → 22 * many ≤ ns ∧ StOK df sf many) (q47 : 0 ≤ ht) (q48 : ht ≤ 64) (q49 : 0 ≤ br) (q50 : br ≤ 1) (q51 : 0 ≤ hl) (q52 : hl ≤ 1) (q53 : 0 ≤ le) (q54 : le ≤ 1) (q55 : 0 ≤ ba) (q56 : ba ≤ 1) (q57 : 1 ≤ tk) (q58 : tk ≤ 99) (q59 : 0 ≤ dln) (q60 : dln ≤ 400) (q61 : 0 ≤ dva) (q62 : dva ≤ 1001) (q63 : 0 ≤ dtk) (q64 : dtk ≤ 355) (q65 : Rg dtp 400 0 255) (q66 : Rg dcd 412 (-2147483648) 2147483647) (hk0 : fh 0 = some (.inr (11, [.ref 1, .ref 17, .ref 50, .ref 51, .ref 54, .ref 57, .ref 65, .ref 75, .ref 81, .ref 85, .ref 88, .ref 93, .ref 96, .int (zI cst), .int (zI cfa), .ref 97, .int (zI cdk)]))) (hk1 : fh 1 = some (.inr (8, [.ref 2, .ref 3, .ref 4, .int (zI lc), .int (zI fo), .ref 11, .ref 12, .int (zI wc), .ref 13, .ref 14, .int (zI cc), .ref 15, .ref 16, .int (zI sc)]))) (hk2 : fh 2 = some (.inl (0, 5, .inl (zA ff)))) (hk3 : fh 3 = some (.inl (0, 2, .inl (zA tf)))) (hk4 : fh 4 = some (.inl (5, 6, .inr (.inr (.inr (.inr lf)))))) (hk11 : fh 11 = some (.inl (0, 8, .inl (zA wa)))) (hk12 : fh 12 = some (.inl (0, 8, .inl (zA wb)))) (hk13 : fh 13 = some (.inl (0, 6, .inl (zA ca)))) (hk14 : fh 14 = some (.inl (0, 6, .inl (zA cb)))) (hk15 : fh 15 = some (.inl (0, 12, .inl (zA sa)))) (hk16 : fh 16 = some (.inl (0, 12, .inl (zA sb)))) (hk51 : fh 51 = some (.inr (0, [.ref 52, .ref 53, .int (zI many), .int (zI places)]))) (hk52 : fh 52 = some (.inl (0, 1260, .inl (zA rf)))) (hk53 : fh 53 = some (.inl (0, 7, .inl (zA bf)))) (hk57 : fh 57 = some (.inr (9, [.ref 1, .ref 51, .ref 58, .ref 61, .ref 62, .ref ks, .ref 64, .int (zI ve), .int (zI ss), .int (zI vs)]))) (hk58 : fh 58 = some (.inr (1, [.ref 59, .ref 60, .int (zI ht), .int (zI br), .int (zI hl), .int (zI le), .int (zI ba), .int (zI tk)]))) (hk59 : fh 59 = some (.inl (0, 8, .inl (zA wf)))) (hk60 : fh 60 = some (.inl (1, 64, .inr (.inl (zAL kf))))) (hk61 : fh 61 = some (.inl (0, 0, .inl (zA nf)))) (hk62 : fh 62 = some (.inl (0, 1260, .inl (zA df)))) (hkks : fh ks = some (.inl (0, (ns).toNat, .inl (zA sf)))) (hk64 : fh 64 = some (.inl (0, 2625, .inl (zA vf)))) (hk96 : fh 96 = some (.inl (0, 5, .inl (zA rfs)))) (hk54 : fh 54 = some (.inr (5, [.ref 55, .int (zI dln), .int (zI dtk), .int (zI dst), .int (zI dbh), .int (zI dva), .int (zI dpa), .int (zI dfl), .ref 56, .int (zI dsz)]))) (hk55 : fh 55 = some (.inl (0, 400, .inl (zA dtp)))) (hk56 : fh 56 = some (.inl (0, 412, .inl (zA dcd)))) : JM l G yX11_row MX11_row { frames := 4, cells := 0, slots := 0, locals := 90 } [.ref 0] (nh, fh) (fun rr h9 => (∃ rfs2 : Int → Int, rr = some (.int (zI (-6))) ∧ h9 = (nh, hc fh [(0, .inr (11, [.ref 1, .ref 17, .ref 50, .ref 51, .ref 54, .ref 57, .ref 65, .ref 75, .ref 81, .ref 85, .ref 88, .ref 93, .ref 96, .int (zI (-6)), .int (zI cfa), .ref 97, .int (zI cdk)])), (96, .inl (0, 5, .inl (zA rfs2))), (54, .inr (5, [.ref 55, .int (zI 0), .int (zI dtk), .int (zI dst), .int (zI dbh), .int (zI dva), .int (zI dpa), .int (zI dfl), .ref 56, .int (zI dsz)]))]) ∧ (rwk dtp dln = false)) ∨ (∃ r : Int, ∃ many2 : Int, ∃ places2 : Int, ∃ rf2 : Int → Int, ∃ bf2 : Int → Int, ∃ sc2 : Int, ∃ sa2 : Int → Int, ∃ sb2 : Int → Int, ∃ ff2 : Int → Int, rr = some (.int (zI r)) ∧ h9 = (nh, hc fh [(0, .inr (11, [.ref 1, .ref 17, .ref 50, .ref 51, .ref 54, .ref 57, .ref 65, .ref 75, .ref 81, .ref 85, .ref 88, .ref 93, .ref 96, .int (zI 0), .int (zI cfa), .ref 97, .int (zI cdk)])), (51, .inr (0, [.ref 52, .ref 53, .int (zI many2), .int (zI places2)])), (52, .inl (0, 1260, .inl (zA rf2))), (53, .inl (0, 7, .inl (zA bf2))), (1, .inr (8, [.ref 2, .ref 3, .ref 4, .int (zI lc), .int (zI fo), .ref 11, .ref 12, .int (zI 0), .ref 13, .ref 14, .int (zI 0), .ref 15, .ref 16, .int (zI sc2)])), (15, .inl (0, 12, .inl (zA sa2))), (16, .inl (0, 12, .inl (zA sb2))), (57, .inr (9, [.ref 1, .ref 51, .ref 58, .ref 61, .ref 62, .ref ks, .ref 64, .int (zI (ve + 1)), .int (zI 1), .int (zI 1)])), (2, .inl (0, 5, .inl (zA ff2))), (54, .inr (5, [.ref 55, .int (zI 0), .int (zI dtk), .int (zI dst), .int (zI dbh), .int (zI dva), .int (zI dpa), .int (zI dfl), .ref 56, .int (zI dsz)]))]) ∧ (okF ff2) ∧ (Rg ff2 5 (-2147483648) 2147483647) ∧ (many2 = Hi ff2) ∧ (places2 = bsum ff2) ∧ (RowsTo rf2 ff2 many2) ∧ (Rg rf2 1260 (-2147483648) 2147483647) ∧ (Rg bf2 7 0 4) ∧ (0 ≤ sc2) ∧ (sc2 ≤ 12) ∧ (Rg sa2 12 0 6) ∧ (Rg sb2 12 0 6) ∧ (1 ≤ many2) ∧ (many2 ≤ 1260) ∧ (0 ≤ places2) ∧ (places2 ≤ 7) ∧ (dwL sa sb places2 (sc).toNat = (sa2, sb2, sc2)) ∧ (rwk dtp dln = true) ∧ (Ct5 ff2 dtp dln) ∧ (bsum ff2 = dln) ∧ (OrR ff2 dtp r))) := by
  refine JM.of (by decide) rfl (fun h => by cases h) (Nat.le_of_ble_eq_true rfl) ⟨4, rfl⟩ ?_
  refine J_hc0 (J_ls (ls2 := [some (.ref 0), none, none, none, none]) rfl ?_)
  refine J_aload_n dX11_row_0 rfl rfl ?_
  refine J_get (v := .ref 54) dX11_row_1 fl_X11_34 hk0 rfl ?_
  refine J_callV (st := []) dX11_row_4 cv_X11_158 (d_length dln dtk dst dbh dva dpa dfl dsz hk54) hk54 rfl rfl (Nat.le_of_ble_eq_true rfl) ⟨(Nat.le_of_ble_eq_true rfl), (Nat.le_of_ble_eq_true rfl)⟩ ⟨(Nat.le_of_ble_eq_true rfl), (Nat.le_of_ble_eq_true rfl)⟩ (fun r h9 hp => ?_)
  obtain ⟨rfl, rfl⟩ := hp
  refine J_nf (nh2 := nh) (ck2 := 0) (sk2 := 0) (st2 := [.int (zI dln)]) rfl rfl rfl rfl ?_
  refine J_istore_n dX11_row_7 rfl (Nat.le_of_ble_eq_true rfl) rfl ?_
  refine J_ls (ls2 := [some (.ref 0), some (.int (zI dln)), none, none, none]) rfl ?_
  refine J_aload_n dX11_row_8 rfl rfl ?_
  refine J_get (v := .ref 54) dX11_row_9 fl_X11_34 hk0 rfl ?_
  refine J_callV (st := []) dX11_row_12 cv_X11_164 (d_holdsColours dln dtk dst dbh dva dpa dfl dsz dtp q59 q60 q65 hk54 hk55) hk54 rfl rfl (Nat.le_of_ble_eq_true rfl) ⟨(Nat.le_of_ble_eq_true rfl), (Nat.le_of_ble_eq_true rfl)⟩ ⟨(Nat.le_of_ble_eq_true rfl), (Nat.le_of_ble_eq_true rfl)⟩ (fun r h9 hp => ?_)
  rcases hp with ⟨rfl, rfl, h1, h2, h3⟩ | ⟨rfl, rfl, h4⟩
  · refine J_nf (nh2 := nh) (ck2 := 0) (sk2 := 0) (st2 := [.int (zI 1)]) rfl rfl rfl rfl ?_
    refine Z_if_ne (tgt := 34) dX11_row_15 (by decide) v_4dcc24baa7 (fun h5 => ?_) (fun h5 => absurd h5 v_3a47bfd896)
    refine J_aload_n dX11_row_34 rfl rfl ?_
    refine J_get (v := .ref 1) dX11_row_35 fl_X11_10 hk0 rfl ?_
    refine J_get (v := .ref 2) dX11_row_38 fl_X11_111 hk1 rfl ?_
    refine Z_iconst (n := 0) dX11_row_41 ?_
    refine J_callS (st := []) dX11_row_42 cs_X11_168 (a_fill 2 5 ff 0 v_17fcbbe8da v_5283ac495a v_b17331891f hk2) rfl rfl (Nat.le_of_ble_eq_true rfl) ⟨(Nat.le_of_ble_eq_true rfl), (Nat.le_of_ble_eq_true rfl)⟩ ⟨(Nat.le_of_ble_eq_true rfl), (Nat.le_of_ble_eq_true rfl)⟩ (fun r h9 hp => ?_)
    obtain ⟨f6, rfl, rfl, h7⟩ := hp
    refine J_nf (nh2 := nh) (ck2 := 0) (sk2 := 0) (st2 := []) rfl rfl rfl rfl ?_
    refine J_app (L3 := [(2, .inl (0, 5, .inl (zA f6)))]) rfl ?_
    refine Z_iconst (n := 0) dX11_row_45 ?_
    refine J_istore_n dX11_row_46 rfl (Nat.le_of_ble_eq_true rfl) rfl ?_
    refine J_ls (ls2 := [some (.ref 0), some (.int (zI dln)), some (.int (zI 0)), none, none]) rfl ?_
    refine Z_iconst (n := 0) dX11_row_47 ?_
    refine J_istore_n dX11_row_48 rfl (Nat.le_of_ble_eq_true rfl) rfl ?_
    refine J_ls (ls2 := [some (.ref 0), some (.int (zI dln)), some (.int (zI 0)), some (.int (zI 0)), none]) rfl ?_
    have lp49 : ∀ (N49 : Nat) (w_49 : Int) (i_49 : Int) (b_49 : Int → Int), (0 ≤ i_49) → (i_49 ≤ dln) → (Cn5 ff b_49 i_49) → (Rg b_49 5 (-2147483648) 2147483647) → (Ct5 b_49 dtp i_49) → (zr w_49) → (pk3 dtp (i_49).toNat = w_49) → (dln - i_49).toNat < N49 → J l G MX11_row { frames := 4, cells := 0, slots := 0, locals := 90 } jE (jMQ G { frames := 4, cells := 0, slots := 0, locals := 90 } (fun rr h9 => (∃ rfs2 : Int → Int, rr = some (.int (zI (-6))) ∧ h9 = (nh, hc fh [(0, .inr (11, [.ref 1, .ref 17, .ref 50, .ref 51, .ref 54, .ref 57, .ref 65, .ref 75, .ref 81, .ref 85, .ref 88, .ref 93, .ref 96, .int (zI (-6)), .int (zI cfa), .ref 97, .int (zI cdk)])), (96, .inl (0, 5, .inl (zA rfs2))), (54, .inr (5, [.ref 55, .int (zI 0), .int (zI dtk), .int (zI dst), .int (zI dbh), .int (zI dva), .int (zI dpa), .int (zI dfl), .ref 56, .int (zI dsz)]))]) ∧ (rwk dtp dln = false)) ∨ (∃ r : Int, ∃ many2 : Int, ∃ places2 : Int, ∃ rf2 : Int → Int, ∃ bf2 : Int → Int, ∃ sc2 : Int, ∃ sa2 : Int → Int, ∃ sb2 : Int → Int, ∃ ff2 : Int → Int, rr = some (.int (zI r)) ∧ h9 = (nh, hc fh [(0, .inr (11, [.ref 1, .ref 17, .ref 50, .ref 51, .ref 54, .ref 57, .ref 65, .ref 75, .ref 81, .ref 85, .ref 88, .ref 93, .ref 96, .int (zI 0), .int (zI cfa), .ref 97, .int (zI cdk)])), (51, .inr (0, [.ref 52, .ref 53, .int (zI many2), .int (zI places2)])), (52, .inl (0, 1260, .inl (zA rf2))), (53, .inl (0, 7, .inl (zA bf2))), (1, .inr (8, [.ref 2, .ref 3, .ref 4, .int (zI lc), .int (zI fo), .ref 11, .ref 12, .int (zI 0), .ref 13, .ref 14, .int (zI 0), .ref 15, .ref 16, .int (zI sc2)])), (15, .inl (0, 12, .inl (zA sa2))), (16, .inl (0, 12, .inl (zA sb2))), (57, .inr (9, [.ref 1, .ref 51, .ref 58, .ref 61, .ref 62, .ref ks, .ref 64, .int (zI (ve + 1)), .int (zI 1), .int (zI 1)])), (2, .inl (0, 5, .inl (zA ff2))), (54, .inr (5, [.ref 55, .int (zI 0), .int (zI dtk), .int (zI dst), .int (zI dbh), .int (zI dva), .int (zI dpa), .int (zI dfl), .ref 56, .int (zI dsz)]))]) ∧ (okF ff2) ∧ (Rg ff2 5 (-2147483648) 2147483647) ∧ (many2 = Hi ff2) ∧ (places2 = bsum ff2) ∧ (RowsTo rf2 ff2 many2) ∧ (Rg rf2 1260 (-2147483648) 2147483647) ∧ (Rg bf2 7 0 4) ∧ (0 ≤ sc2) ∧ (sc2 ≤ 12) ∧ (Rg sa2 12 0 6) ∧ (Rg sb2 12 0 6) ∧ (1 ≤ many2) ∧ (many2 ≤ 1260) ∧ (0 ≤ places2) ∧ (places2 ≤ 7) ∧ (dwL sa sb places2 (sc).toNat = (sa2, sb2, sc2)) ∧ (rwk dtp dln = true) ∧ (Ct5 ff2 dtp dln) ∧ (bsum ff2 = dln) ∧ (OrR ff2 dtp r)))) (nh, hc fh [(2, .inl (0, 5, .inl (zA b_49)))]) 0 0 49 [some (.ref 0), some (.int (zI dln)), some (.int (zI w_49)), some (.int (zI i_49)), none] [] := by
      intro N49
      induction N49 with
      | zero => intro w_49 i_49 b_49 i49_0 i49_1 i49_2 i49_3 i49_4 i49_5 i49_6 hm; exact absurd hm (Nat.not_lt_zero _)
      | succ N49 ih49 =>
        intro w_49 i_49 b_49 i49_0 i49_1 i49_2 i49_3 i49_4 i49_5 i49_6 hm49
        refine J_iload_n dX11_row_49 rfl rfl ?_
        refine J_iload_n dX11_row_50 rfl rfl ?_
        refine Z_icmp_ge (tgt := 91) dX11_row_51 (by decide) (v_ee3170dbf0 h2 i49_0 i49_1) (v_ea6a719626 h1 h2) (fun h8 => ?_) (fun h8 => ?_)
        · refine J_aload_n dX11_row_91 rfl rfl ?_
          refine J_get (v := .ref 54) dX11_row_92 fl_X11_34 hk0 rfl ?_
          refine Z_iconst (n := 0) dX11_row_95 ?_
          refine J_callV (st := []) dX11_row_96 cv_X11_161 (d_cut 0 dln dtk dst dbh dva dpa dfl dsz v_b17331891f q59 q60 hk54) hk54 rfl rfl (Nat.le_of_ble_eq_true rfl) ⟨(Nat.le_of_ble_eq_true rfl), (Nat.le_of_ble_eq_true rfl)⟩ ⟨(Nat.le_of_ble_eq_true rfl), (Nat.le_of_ble_eq_true rfl)⟩ (fun r h9 hp => ?_)
          rcases hp with ⟨rfl, rfl, h9, h10⟩ | ⟨rfl, rfl, h11⟩ | ⟨rfl, rfl, h12⟩
          · refine J_nf (nh2 := nh) (ck2 := 0) (sk2 := 0) (st2 := [.int (zI 1)]) rfl rfl rfl rfl ?_
            refine J_app (L3 := [(54, .inr (5, [.ref 55, .int (zI 0), .int (zI dtk), .int (zI dst), .int (zI dbh), .int (zI dva), .int (zI dpa), .int (zI dfl), .ref 56, .int (zI dsz)])), (2, .inl (0, 5, .inl (zA b_49)))]) rfl ?_
            refine J_pop dX11_row_99 rfl ?_
            refine J_aload_n dX11_row_100 rfl rfl ?_
            refine J_callV (st := []) dX11_row_101 cv_X11_126 (b_resettle b_49 tf lf wa wb ca cb sa sb lc fo wc cc sc many places rf bf ks ve ss vs cst cfa cdk (Cn5.ok i49_2 (v_e75e18c634 h2 i49_1)) q3 q4 q5 q6 q7 q8 q9 q10 q11 q12 q13 q14 q15 q16 q18 q19 q20 i49_3 q30 q31 q35 q36 q37 q38 q39 q40 hk0 hk1 rfl hk3 hk4 hk11 hk12 hk13 hk14 hk15 hk16 hk51 hk52 hk53 hk57) hk0 rfl rfl (Nat.le_of_ble_eq_true rfl) ⟨(Nat.le_of_ble_eq_true rfl), (Nat.le_of_ble_eq_true rfl)⟩ ⟨(Nat.le_of_ble_eq_true rfl), (Nat.le_of_ble_eq_true rfl)⟩ (fun r h9 hp => ?_)
            obtain ⟨z13, z14, f15, f16, z17, f18, f19, rfl, rfl, h20, h21, h22, h23, h24, h25, h26, h27, h28, h29, h30, h31, h32, h33⟩ := hp
            refine J_nf (nh2 := nh) (ck2 := 0) (sk2 := 0) (st2 := []) rfl rfl rfl rfl ?_
            refine J_app (L3 := [(51, .inr (0, [.ref 52, .ref 53, .int (zI z13), .int (zI z14)])), (52, .inl (0, 1260, .inl (zA f15))), (53, .inl (0, 7, .inl (zA f16))), (1, .inr (8, [.ref 2, .ref 3, .ref 4, .int (zI lc), .int (zI fo), .ref 11, .ref 12, .int (zI 0), .ref 13, .ref 14, .int (zI 0), .ref 15, .ref 16, .int (zI z17)])), (15, .inl (0, 12, .inl (zA f18))), (16, .inl (0, 12, .inl (zA f19))), (57, .inr (9, [.ref 1, .ref 51, .ref 58, .ref 61, .ref 62, .ref ks, .ref 64, .int (zI (ve + 1)), .int (zI 1), .int (zI 1)])), (54, .inr (5, [.ref 55, .int (zI 0), .int (zI dtk), .int (zI dst), .int (zI dbh), .int (zI dva), .int (zI dpa), .int (zI dfl), .ref 56, .int (zI dsz)])), (2, .inl (0, 5, .inl (zA b_49)))]) rfl ?_
            have gok : okF b_49 := Cn5.ok i49_2 (v_e75e18c634 h2 i49_1)
            refine J_aload_n dX11_row_104 rfl rfl ?_
            refine J_aload_n dX11_row_105 rfl rfl ?_
            refine J_get (v := .ref 51) dX11_row_106 fl_X11_27 hk0 rfl ?_
            refine J_iload_n dX11_row_109 rfl rfl ?_
            refine J_callV (st := [.ref 0]) dX11_row_110 cv_X11_181 (g_find w_49 z13 z14 f15 i49_5 h31 h32 h23 (Rows_mono h22 gok h20) rfl rfl) rfl rfl rfl (Nat.le_of_ble_eq_true rfl) ⟨(Nat.le_of_ble_eq_true rfl), (Nat.le_of_ble_eq_true rfl)⟩ ⟨(Nat.le_of_ble_eq_true rfl), (Nat.le_of_ble_eq_true rfl)⟩ (fun r h9 hp => ?_)
            obtain ⟨z34, rfl, rfl, h35, h36, h37⟩ := hp
            refine J_nf (nh2 := nh) (ck2 := 0) (sk2 := 0) (st2 := [.int (zI z34), .ref 0]) rfl rfl rfl rfl ?_
            refine J_callV (st := []) dX11_row_113 cv_X11_129 (b_accept z34 cst cfa cdk hk0) hk0 rfl rfl (Nat.le_of_ble_eq_true rfl) ⟨(Nat.le_of_ble_eq_true rfl), (Nat.le_of_ble_eq_true rfl)⟩ ⟨(Nat.le_of_ble_eq_true rfl), (Nat.le_of_ble_eq_true rfl)⟩ (fun r h9 hp => ?_)
            obtain ⟨rfl, rfl⟩ := hp
            refine J_nf (nh2 := nh) (ck2 := 0) (sk2 := 0) (st2 := [.int (zI z34)]) rfl rfl rfl rfl ?_
            refine J_app (L3 := [(0, .inr (11, [.ref 1, .ref 17, .ref 50, .ref 51, .ref 54, .ref 57, .ref 65, .ref 75, .ref 81, .ref 85, .ref 88, .ref 93, .ref 96, .int (zI 0), .int (zI cfa), .ref 97, .int (zI cdk)])), (51, .inr (0, [.ref 52, .ref 53, .int (zI z13), .int (zI z14)])), (52, .inl (0, 1260, .inl (zA f15))), (53, .inl (0, 7, .inl (zA f16))), (1, .inr (8, [.ref 2, .ref 3, .ref 4, .int (zI lc), .int (zI fo), .ref 11, .ref 12, .int (zI 0), .ref 13, .ref 14, .int (zI 0), .ref 15, .ref 16, .int (zI z17)])), (15, .inl (0, 12, .inl (zA f18))), (16, .inl (0, 12, .inl (zA f19))), (57, .inr (9, [.ref 1, .ref 51, .ref 58, .ref 61, .ref 62, .ref ks, .ref 64, .int (zI (ve + 1)), .int (zI 1), .int (zI 1)])), (54, .inr (5, [.ref 55, .int (zI 0), .int (zI dtk), .int (zI dst), .int (zI dbh), .int (zI dva), .int (zI dpa), .int (zI dfl), .ref 56, .int (zI dsz)])), (2, .inl (0, 5, .inl (zA b_49)))]) rfl ?_
            refine J_touch (k := 54) (e := .inr (5, [.ref 55, .int (zI 0), .int (zI dtk), .int (zI dst), .int (zI dbh), .int (zI dva), .int (zI dpa), .int (zI dfl), .ref 56, .int (zI dsz)])) rfl ?_
            refine J_touch (k := 2) (e := .inl (0, 5, .inl (zA b_49))) rfl ?_
            refine J_touch (k := 57) (e := .inr (9, [.ref 1, .ref 51, .ref 58, .ref 61, .ref 62, .ref ks, .ref 64, .int (zI (ve + 1)), .int (zI 1), .int (zI 1)])) rfl ?_
            refine J_touch (k := 16) (e := .inl (0, 12, .inl (zA f19))) rfl ?_
            refine J_touch (k := 15) (e := .inl (0, 12, .inl (zA f18))) rfl ?_
            refine J_touch (k := 1) (e := .inr (8, [.ref 2, .ref 3, .ref 4, .int (zI lc), .int (zI fo), .ref 11, .ref 12, .int (zI 0), .ref 13, .ref 14, .int (zI 0), .ref 15, .ref 16, .int (zI z17)])) rfl ?_
            refine J_touch (k := 53) (e := .inl (0, 7, .inl (zA f16))) rfl ?_
            refine J_touch (k := 52) (e := .inl (0, 1260, .inl (zA f15))) rfl ?_
            refine J_touch (k := 51) (e := .inr (0, [.ref 52, .ref 53, .int (zI z13), .int (zI z14)])) rfl ?_
            refine J_touch (k := 0) (e := .inr (11, [.ref 1, .ref 17, .ref 50, .ref 51, .ref 54, .ref 57, .ref 65, .ref 75, .ref 81, .ref 85, .ref 88, .ref 93, .ref 96, .int (zI 0), .int (zI cfa), .ref 97, .int (zI cdk)])) rfl ?_
            refine J_mask (L2 := [(0, .inr (11, [.ref 1, .ref 17, .ref 50, .ref 51, .ref 54, .ref 57, .ref 65, .ref 75, .ref 81, .ref 85, .ref 88, .ref 93, .ref 96, .int (zI 0), .int (zI cfa), .ref 97, .int (zI cdk)])), (51, .inr (0, [.ref 52, .ref 53, .int (zI z13), .int (zI z14)])), (52, .inl (0, 1260, .inl (zA f15))), (53, .inl (0, 7, .inl (zA f16))), (1, .inr (8, [.ref 2, .ref 3, .ref 4, .int (zI lc), .int (zI fo), .ref 11, .ref 12, .int (zI 0), .ref 13, .ref 14, .int (zI 0), .ref 15, .ref 16, .int (zI z17)])), (15, .inl (0, 12, .inl (zA f18))), (16, .inl (0, 12, .inl (zA f19))), (57, .inr (9, [.ref 1, .ref 51, .ref 58, .ref 61, .ref 62, .ref ks, .ref 64, .int (zI (ve + 1)), .int (zI 1), .int (zI 1)])), (2, .inl (0, 5, .inl (zA b_49))), (54, .inr (5, [.ref 55, .int (zI 0), .int (zI dtk), .int (zI dst), .int (zI dbh), .int (zI dva), .int (zI dpa), .int (zI dfl), .ref 56, .int (zI dsz)]))]) (ks := [0, 51, 52, 53, 1, 15, 16, 57, 2, 54, 0, 51, 52, 53, 1, 15, 16, 57, 54, 2]) [true, true, true, true, true, true, true, true, true, true, false, false, false, false, false, false, false, false, false, false] rfl (by decide +kernel) rfl ?_
            exact J_iret dX11_row_116 rfl rfl (Nat.le_of_ble_eq_true rfl) (Nat.le_of_ble_eq_true rfl) (Or.inr ⟨z34, z13, z14, f15, f16, z17, f18, f19, b_49, rfl, rfl, (Cn5.ok i49_2 (v_e75e18c634 h2 i49_1)), i49_3, h20, h21, h22, h23, h24, h25, h26, h27, h28, h31, h32, h29, h30, h33, (rwk_yes (v_5dfb8272e3 h1) (v_dc59a041dc h2) h3), (by have e : i_49 = dln := (v_9b8f42b01e i49_1 h8); have h := i49_4; rw [e] at h; exact h), (i49_2.2.1.trans (v_9b8f42b01e i49_1 h8)), (OrR.find h22 gok h20 (fun j a b => h3 j a (by have u := i49_2.2.1; have w := (v_9b8f42b01e i49_1 h8); omega)) (by have u := i49_6; rw [show i_49 = bsum b_49 from i49_2.2.1.symm] at u; exact u) (v_4f729da59d h35) (v_b9aca61388 h36) h37)⟩)
          · exact False.elim (v_d28dc587d1 h11)
          · exact False.elim (v_3400455607 h1 h12)
        · refine J_aload_n dX11_row_54 rfl rfl ?_
          refine J_get (v := .ref 54) dX11_row_55 fl_X11_34 hk0 rfl ?_
          refine J_iload_n dX11_row_58 rfl rfl ?_
          refine J_callV (st := []) dX11_row_59 cv_X11_174 (d_at i_49 dln dtk dst dbh dva dpa dfl dsz dtp (v_f53ff4b6b9 h2 i49_0 h8) q59 q60 q65 hk54 hk55) hk54 rfl rfl (Nat.le_of_ble_eq_true rfl) ⟨(Nat.le_of_ble_eq_true rfl), (Nat.le_of_ble_eq_true rfl)⟩ ⟨(Nat.le_of_ble_eq_true rfl), (Nat.le_of_ble_eq_true rfl)⟩ (fun r h9 hp => ?_)
          rcases hp with ⟨z38, rfl, rfl, h39, h40, h41, h42, h43⟩ | ⟨rfl, rfl, h44⟩ | ⟨rfl, rfl, h45⟩
          · have h46 := Rg.at q65 (v_2b02420001 i49_0) (v_6aef9b5ec0 h2 h8) h43
            have h47 := Rg.at h3 (v_2b02420001 i49_0) (v_fe9ea41faa h8) h43
            refine J_nf (nh2 := nh) (ck2 := 0) (sk2 := 0) (st2 := [.int (zI z38)]) rfl rfl rfl rfl ?_
            refine J_istore dX11_row_62 (Nat.le_of_ble_eq_true rfl) rfl ?_
            refine J_ls (ls2 := [some (.ref 0), some (.int (zI dln)), some (.int (zI w_49)), some (.int (zI i_49)), some (.int (zI z38))]) rfl ?_
            refine J_aload_n dX11_row_64 rfl rfl ?_
            refine J_get (v := .ref 1) dX11_row_65 fl_X11_10 hk0 rfl ?_
            refine J_get (v := .ref 2) dX11_row_68 fl_X11_111 hk1 rfl ?_
            refine J_iload dX11_row_71 rfl ?_
            refine J_dup2_11 dX11_row_73 rfl rfl ?_
            obtain ⟨z48, ez48⟩ : ∃ z : Int, b_49 z38 = z := ⟨_, rfl⟩
            have h49 := Rg.at i49_3 (v_2b02420001 h46.1) (v_d00a9ce962 h47.2) ez48
            refine Y_iald (z := z48) 5 dX11_row_74 rfl rfl (by decide) (v_2b02420001 h46.1) (v_d00a9ce962 h47.2) ez48 ?_
            have g50 := Cn5.at i49_2 (v_2b02420001 h46.1) (v_77407988c7 h47.2) ez48
            refine Z_iconst (n := 1) dX11_row_75 ?_
            refine Z_iadd (c := z48 + 1) dX11_row_76 rfl ?_
            refine Y_iast (v := z48 + 1) 5 dX11_row_77 rfl rfl (by decide) (v_2b02420001 h46.1) (v_d00a9ce962 h47.2) (fun f51 ef51 => ?_)
            have h52 : Rg f51 5 (-2147483648) 2147483647 := Rg.ups i49_3 ef51 (v_bbd1b10c82 g50.1) (v_e6b50ddbe8 h2 h8 g50.2)
            refine J_iload_n dX11_row_78 rfl rfl ?_
            refine J_iload dX11_row_79 rfl ?_
            refine J_callS (st := []) dX11_row_81 cs_X11_177 (g_behind w_49 z38 i49_5 (v_573cdf4e23 h46.1 h47.2)) rfl rfl (Nat.le_of_ble_eq_true rfl) ⟨(Nat.le_of_ble_eq_true rfl), (Nat.le_of_ble_eq_true rfl)⟩ ⟨(Nat.le_of_ble_eq_true rfl), (Nat.le_of_ble_eq_true rfl)⟩ (fun r h9 hp => ?_)
            obtain ⟨z53, rfl, rfl, h54, h55⟩ := hp
            refine J_nf (nh2 := nh) (ck2 := 0) (sk2 := 0) (st2 := [.int (zI z53)]) rfl rfl rfl rfl ?_
            refine J_istore_n dX11_row_84 rfl (Nat.le_of_ble_eq_true rfl) rfl ?_
            refine J_ls (ls2 := [some (.ref 0), some (.int (zI dln)), some (.int (zI z53)), some (.int (zI i_49)), some (.int (zI z38))]) rfl ?_
            refine Z_iinc (c := i_49 + 1) (ls2 := [some (.ref 0), some (.int (zI dln)), some (.int (zI z53)), some (.int (zI (i_49 + 1))), some (.int (zI z38))]) dX11_row_85 rfl (Nat.le_of_ble_eq_true rfl) rfl rfl rfl ?_
            refine J_goto (tgt := 49) dX11_row_88 (by decide) ?_
            refine J_mask (L2 := [(2, .inl (0, 5, .inl (zA f51)))]) (ks := [2, 2]) [true, false] rfl (by decide +kernel) rfl ?_
            refine J_drop (ls2 := [some (.ref 0), some (.int (zI dln)), some (.int (zI z53)), some (.int (zI (i_49 + 1))), none]) [true, true, true, true, false] rfl ?_
            exact ih49 z53 (i_49 + 1) f51 (v_da458fa48a i49_0) (v_e390a36114 h8) (Cn5.step i49_2 (v_2b02420001 h46.1) (v_77407988c7 h47.2) ez48 ef51 v_7157e5c4fa) h52 (Ct5.step i49_4 i49_0 h43 ez48 ef51 v_7157e5c4fa) h54 (pk3_step i49_6 i49_0 h43 h55) (meas_lt v_90eacd6fd4 (v_8b7dd7d486 h8) hm49)
          · exact False.elim (v_bd0e51d423 i49_0 h44)
          · exact False.elim (v_c6cfc087e2 h8 h45)
    exact lp49 _ 0 0 f6 v_939070ca3f q59 (Cn5_0 (n := 5) ⟨fun j a => by rw [h7]; exact fill_out a, fun j a b => fill_at h7 a b⟩ (by decide)) (fill_Rg h7 (Int.le_refl _) (by decide) (by decide)) (Ct5_0 (fun c a b => fill_at h7 a (by omega))) v_b17331891f (rfl) (Nat.lt_succ_self _)
  · refine J_nf (nh2 := nh) (ck2 := 0) (sk2 := 0) (st2 := [.int (zI 0)]) rfl rfl rfl rfl ?_
    refine Z_if_ne (tgt := 34) dX11_row_15 (by decide) v_b17331891f (fun h56 => absurd h56 (fun q => q v_2ca2bbca1f)) (fun h56 => ?_)
    refine J_aload_n dX11_row_18 rfl rfl ?_
    refine J_get (v := .ref 54) dX11_row_19 fl_X11_34 hk0 rfl ?_
    refine Z_iconst (n := 0) dX11_row_22 ?_
    refine J_callV (st := []) dX11_row_23 cv_X11_161 (d_cut 0 dln dtk dst dbh dva dpa dfl dsz v_b17331891f q59 q60 hk54) hk54 rfl rfl (Nat.le_of_ble_eq_true rfl) ⟨(Nat.le_of_ble_eq_true rfl), (Nat.le_of_ble_eq_true rfl)⟩ ⟨(Nat.le_of_ble_eq_true rfl), (Nat.le_of_ble_eq_true rfl)⟩ (fun r h9 hp => ?_)
    rcases hp with ⟨rfl, rfl, h57, h58⟩ | ⟨rfl, rfl, h59⟩ | ⟨rfl, rfl, h60⟩
    · refine J_nf (nh2 := nh) (ck2 := 0) (sk2 := 0) (st2 := [.int (zI 1)]) rfl rfl rfl rfl ?_
      refine J_app (L3 := [(54, .inr (5, [.ref 55, .int (zI 0), .int (zI dtk), .int (zI dst), .int (zI dbh), .int (zI dva), .int (zI dpa), .int (zI dfl), .ref 56, .int (zI dsz)]))]) rfl ?_
      refine J_pop dX11_row_26 rfl ?_
      refine J_aload_n dX11_row_27 rfl rfl ?_
      refine Z_bipush (n := -6) dX11_row_28 (by decide +kernel) ?_
      refine J_callV (st := []) dX11_row_30 cv_X11_118 (b_refuse (-6) cst cfa cdk rfs v_a8018d5457 v_d89879cf36 hk0 hk96) hk0 rfl rfl (Nat.le_of_ble_eq_true rfl) ⟨(Nat.le_of_ble_eq_true rfl), (Nat.le_of_ble_eq_true rfl)⟩ ⟨(Nat.le_of_ble_eq_true rfl), (Nat.le_of_ble_eq_true rfl)⟩ (fun r h9 hp => ?_)
      obtain ⟨f61, rfl, rfl⟩ := hp
      refine J_nf (nh2 := nh) (ck2 := 0) (sk2 := 0) (st2 := [.int (zI (-6))]) rfl rfl rfl rfl ?_
      refine J_app (L3 := [(0, .inr (11, [.ref 1, .ref 17, .ref 50, .ref 51, .ref 54, .ref 57, .ref 65, .ref 75, .ref 81, .ref 85, .ref 88, .ref 93, .ref 96, .int (zI (-6)), .int (zI cfa), .ref 97, .int (zI cdk)])), (96, .inl (0, 5, .inl (zA f61))), (54, .inr (5, [.ref 55, .int (zI 0), .int (zI dtk), .int (zI dst), .int (zI dbh), .int (zI dva), .int (zI dpa), .int (zI dfl), .ref 56, .int (zI dsz)]))]) rfl ?_
      exact J_iret dX11_row_33 rfl rfl (Nat.le_of_ble_eq_true rfl) (Nat.le_of_ble_eq_true rfl) (Or.inl ⟨f61, rfl, rfl, h4⟩)
    · exact False.elim (v_d28dc587d1 h59)
    · exact False.elim (v_bd0e51d423 q59 h60)
set_option maxHeartbeats 4000000 in
set_option maxRecDepth 100000 in
theorem b_compiled {l : Launch} {G : jG} {nh : Nat} {fh : Nat → Option va_E} (dln : Int) (dtk : Int) (dst : Int) (dbh : Int) (dva : Int) (dpa : Int) (dfl : Int) (dsz : Int) (dcd : Int → Int) (q0 : 0 ≤ dsz) (q1 : dsz ≤ 402) (q2 : NLe 135 nh) (q3 : Rg dcd 412 (-2147483648) 2147483647) (hk54 : fh 54 = some (.inr (5, [.ref 55, .int (zI dln), .int (zI dtk), .int (zI dst), .int (zI dbh), .int (zI dva), .int (zI dpa), .int (zI dfl), .ref 56, .int (zI dsz)]))) (hk56 : fh 56 = some (.inl (0, 412, .inl (zA dcd)))) : JM l G yX5_compiled MX5_compiled { frames := 2, cells := 1, slots := (dsz).toNat, locals := 82 } [.ref 54] (nh, fh) (fun rr h9 => ∃ F2 : Int → Int, rr = some (.ref nh) ∧ h9 = (nh + 1, hc fh [(nh, .inl (0, (dsz).toNat, .inl (zA F2)))]) ∧ (Rg F2 dsz (-2147483648) 2147483647)) := by
  refine JM.of (by decide) rfl (fun h => by cases h) (Nat.le_of_ble_eq_true rfl) ⟨0, rfl⟩ ?_
  refine J_hc0 (J_ls (ls2 := [some (.ref 54)]) rfl ?_)
  refine J_aload_n dX5_compiled_0 rfl rfl ?_
  refine J_get (v := .ref 56) dX5_compiled_1 fl_X5_37 hk54 rfl ?_
  refine J_aload_n dX5_compiled_4 rfl rfl ?_
  refine J_get (v := .int (zI dsz)) dX5_compiled_5 fl_X5_40 hk54 rfl ?_
  refine J_callS (st := []) dX5_compiled_8 cs_X5_57 (b_copyOf dsz dcd q0 q1 q2 q3 hk56) rfl rfl (Nat.le_of_ble_eq_true rfl) ⟨(Nat.le_of_ble_eq_true rfl), (Nat.le_of_ble_eq_true rfl)⟩ ⟨(Nat.le_of_ble_eq_true rfl), (by show (0 : Nat) + ((dsz).toNat) ≤ (dsz).toNat; omega)⟩ (fun r h9 hp => ?_)
  obtain ⟨f1, rfl, rfl, h2⟩ := hp
  refine J_nf (nh2 := nh + 1) (ck2 := 1) (sk2 := (dsz).toNat) (st2 := [.ref nh]) rfl rfl (Nat.zero_add _) rfl ?_
  refine J_app (L3 := [(nh, .inl (0, (dsz).toNat, .inl (zA f1)))]) rfl ?_
  exact J_aret dX5_compiled_11 rfl (Or.inr ⟨_, rfl⟩) (Nat.le_of_ble_eq_true rfl) (by show ((dsz).toNat : Nat) ≤ (dsz).toNat; omega) ⟨f1, rfl, rfl, h2⟩
set_option maxHeartbeats 4000000 in
set_option maxRecDepth 100000 in
theorem b_law {l : Launch} {G : jG} {nh : Nat} {fh : Nat → Option va_E} (cst : Int) (cfa : Int) (cdk : Int) (ff : Int → Int) (tf : Int → Int) (lf : Nat → Option Nat) (wa : Int → Int) (wb : Int → Int) (ca : Int → Int) (cb : Int → Int) (sa : Int → Int) (sb : Int → Int) (lc : Int) (fo : Int) (wc : Int) (cc : Int) (sc : Int) (rfs : Int → Int) (dln : Int) (dtk : Int) (dst : Int) (dbh : Int) (dva : Int) (dpa : Int) (dfl : Int) (dsz : Int) (dtp : Int → Int) (dcd : Int → Int) (q0 : NLe 135 nh) (q1 : 0 ≤ cdk) (q2 : cdk ≤ 1) (q3 : okF ff) (q4 : 0 ≤ lc) (q5 : lc ≤ 6) (q6 : -1 ≤ fo) (q7 : fo < lc) (q8 : 0 ≤ wc) (q9 : wc ≤ 8) (q10 : 0 ≤ cc) (q11 : cc ≤ 6) (q12 : 0 ≤ sc) (q13 : sc ≤ 12) (q14 : Rg tf 2 (-2147483648) 2147483647) (q15 : Rg wa 8 (-2147483648) 2147483647) (q16 : Rg wb 8 (-2147483648) 2147483647) (q17 : Rg ca 6 (-2147483648) 2147483647) (q18 : Rg ca cc 0 (Hi ff - 1)) (q19 : Rg cb 6 (-2147483648) 2147483647) (q20 : Rg sa 12 0 6) (q21 : Rg sb 12 0 6) (q22 : Rg ff 5 (-2147483648) 2147483647) (q23 : LawsIn fh lf) (q24 : 0 ≤ dln) (q25 : dln ≤ 400) (q26 : 0 ≤ dva) (q27 : dva ≤ 1001) (q28 : 0 ≤ dtk) (q29 : dtk ≤ 355) (q30 : Rg dtp 400 0 255) (q31 : Rg dcd 412 (-2147483648) 2147483647) (hk0 : fh 0 = some (.inr (11, [.ref 1, .ref 17, .ref 50, .ref 51, .ref 54, .ref 57, .ref 65, .ref 75, .ref 81, .ref 85, .ref 88, .ref 93, .ref 96, .int (zI cst), .int (zI cfa), .ref 97, .int (zI cdk)]))) (hk1 : fh 1 = some (.inr (8, [.ref 2, .ref 3, .ref 4, .int (zI lc), .int (zI fo), .ref 11, .ref 12, .int (zI wc), .ref 13, .ref 14, .int (zI cc), .ref 15, .ref 16, .int (zI sc)]))) (hk2 : fh 2 = some (.inl (0, 5, .inl (zA ff)))) (hk3 : fh 3 = some (.inl (0, 2, .inl (zA tf)))) (hk4 : fh 4 = some (.inl (5, 6, .inr (.inr (.inr (.inr lf)))))) (hk11 : fh 11 = some (.inl (0, 8, .inl (zA wa)))) (hk12 : fh 12 = some (.inl (0, 8, .inl (zA wb)))) (hk13 : fh 13 = some (.inl (0, 6, .inl (zA ca)))) (hk14 : fh 14 = some (.inl (0, 6, .inl (zA cb)))) (hk15 : fh 15 = some (.inl (0, 12, .inl (zA sa)))) (hk16 : fh 16 = some (.inl (0, 12, .inl (zA sb)))) (hk96 : fh 96 = some (.inl (0, 5, .inl (zA rfs)))) (hk54 : fh 54 = some (.inr (5, [.ref 55, .int (zI dln), .int (zI dtk), .int (zI dst), .int (zI dbh), .int (zI dva), .int (zI dpa), .int (zI dfl), .ref 56, .int (zI dsz)]))) (hk55 : fh 55 = some (.inl (0, 400, .inl (zA dtp)))) (hk56 : fh 56 = some (.inl (0, 412, .inl (zA dcd)))) : JM l G yX11_law MX11_law { frames := 46, cells := 1, slots := 402, locals := 1031 } [.ref 0] (nh, fh) (fun rr h9 => (∃ r : Int, ∃ cst2 : Int, ∃ rfs2 : Int → Int, ∃ dtk2 : Int, ∃ dst2 : Int, ∃ dbh2 : Int, ∃ dva2 : Int, ∃ dpa2 : Int, ∃ dfl2 : Int, ∃ dsz2 : Int, ∃ dcd2 : Int → Int, ∃ cfa2 : Int, rr = some (.int (zI r)) ∧ h9 = (nh, hc fh [(0, .inr (11, [.ref 1, .ref 17, .ref 50, .ref 51, .ref 54, .ref 57, .ref 65, .ref 75, .ref 81, .ref 85, .ref 88, .ref 93, .ref 96, .int (zI cst2), .int (zI cfa2), .ref 97, .int (zI cdk)])), (96, .inl (0, 5, .inl (zA rfs2))), (54, .inr (5, [.ref 55, .int (zI 0), .int (zI dtk2), .int (zI dst2), .int (zI dbh2), .int (zI dva2), .int (zI dpa2), .int (zI dfl2), .ref 56, .int (zI dsz2)])), (56, .inl (0, 412, .inl (zA dcd2)))]) ∧ (0 ≤ dva2) ∧ (dva2 ≤ 1001) ∧ (0 ≤ dtk2) ∧ (dtk2 ≤ 355) ∧ (Rg dcd2 412 (-2147483648) 2147483647)) ∨ (∃ r : Int, ∃ cst2 : Int, ∃ rfs2 : Int → Int, ∃ dtk2 : Int, ∃ dst2 : Int, ∃ dbh2 : Int, ∃ dva2 : Int, ∃ dpa2 : Int, ∃ dfl2 : Int, ∃ dsz2 : Int, ∃ dcd2 : Int → Int, ∃ cfa2 : Int, ∃ lc2 : Int, ∃ lf2 : Nat → Option Nat, ∃ n2 : Int, ∃ F2 : Int → Int, rr = some (.int (zI r)) ∧ h9 = (nh + 1, hc fh [(0, .inr (11, [.ref 1, .ref 17, .ref 50, .ref 51, .ref 54, .ref 57, .ref 65, .ref 75, .ref 81, .ref 85, .ref 88, .ref 93, .ref 96, .int (zI cst2), .int (zI cfa2), .ref 97, .int (zI cdk)])), (96, .inl (0, 5, .inl (zA rfs2))), (54, .inr (5, [.ref 55, .int (zI 0), .int (zI dtk2), .int (zI dst2), .int (zI dbh2), .int (zI dva2), .int (zI dpa2), .int (zI dfl2), .ref 56, .int (zI dsz2)])), (56, .inl (0, 412, .inl (zA dcd2))), (1, .inr (8, [.ref 2, .ref 3, .ref 4, .int (zI lc2), .int (zI fo), .ref 11, .ref 12, .int (zI wc), .ref 13, .ref 14, .int (zI cc), .ref 15, .ref 16, .int (zI sc)])), (4, .inl (5, 6, .inr (.inr (.inr (.inr lf2))))), (nh, .inl (0, (n2).toNat, .inl (zA F2)))]) ∧ (0 ≤ dva2) ∧ (dva2 ≤ 1001) ∧ (0 ≤ dtk2) ∧ (dtk2 ≤ 355) ∧ (Rg dcd2 412 (-2147483648) 2147483647) ∧ (0 ≤ lc2) ∧ (lc2 ≤ 6) ∧ (lc ≤ lc2) ∧ (va_up lf (lc).toNat (some nh) = lf2) ∧ (0 ≤ n2) ∧ (n2 ≤ 402) ∧ (Rg F2 n2 (-2147483648) 2147483647))) := by
  refine JM.of (by decide) rfl (fun h => by cases h) (Nat.le_of_ble_eq_true rfl) ⟨0, rfl⟩ ?_
  refine J_hc0 (J_ls (ls2 := [some (.ref 0)]) rfl ?_)
  refine J_aload_n dX11_law_0 rfl rfl ?_
  refine J_get (v := .ref 1) dX11_law_1 fl_X11_10 hk0 rfl ?_
  refine J_get (v := .int (zI lc)) dX11_law_4 fl_X11_184 hk1 rfl ?_
  refine Z_bipush (n := 6) dX11_law_7 (by decide +kernel) ?_
  refine Z_icmp_lt (tgt := 28) dX11_law_9 (by decide) (v_5fd3895a24 q4 q5) v_8f5ecbc95e (fun h1 => ?_) (fun h1 => ?_)
  · refine J_aload_n dX11_law_28 rfl rfl ?_
    refine J_aload_n dX11_law_29 rfl rfl ?_
    refine J_get (v := .ref 54) dX11_law_30 fl_X11_34 hk0 rfl ?_
    refine J_callV (st := [.ref 0]) dX11_law_33 cv_X11_187 (d_compile dln dtk dst dbh dva dpa dfl dsz dtp dcd q24 q25 q26 q27 q28 q29 q30 q31 hk54 hk55 hk56) hk54 rfl rfl (Nat.le_of_ble_eq_true rfl) ⟨(Nat.le_of_ble_eq_true rfl), (Nat.le_of_ble_eq_true rfl)⟩ ⟨(Nat.le_of_ble_eq_true rfl), (Nat.le_of_ble_eq_true rfl)⟩ (fun r h9 hp => ?_)
    rcases hp with ⟨z2, z3, z4, z5, z6, z7, f8, z9, rfl, rfl, h10, h11, h12, h13, h14, h15, h16, h17⟩ | ⟨z18, z19, z20, z21, z22, z23, f24, z25, rfl, rfl, h26, h27, h28, h29, h30, h31, h32, h33, h34⟩
    · refine J_nf (nh2 := nh) (ck2 := 0) (sk2 := 0) (st2 := [.int (zI (-1)), .ref 0]) rfl rfl rfl rfl ?_
      refine J_app (L3 := [(54, .inr (5, [.ref 55, .int (zI dln), .int (zI z2), .int (zI z3), .int (zI z4), .int (zI z5), .int (zI z6), .int (zI z9), .ref 56, .int (zI z7)])), (56, .inl (0, 412, .inl (zA f8)))]) rfl ?_
      refine K_put (fs2 := [.ref 1, .ref 17, .ref 50, .ref 51, .ref 54, .ref 57, .ref 65, .ref 75, .ref 81, .ref 85, .ref 88, .ref 93, .ref 96, .int (zI cst), .int (zI (-1)), .ref 97, .int (zI cdk)]) dX11_law_36 fw_X11_101 hk0 (Nat.le_of_ble_eq_true rfl) (fun _ => ⟨rfl, rfl⟩) rfl ?_
      refine J_aload_n dX11_law_39 rfl rfl ?_
      refine J_get (v := .ref 54) dX11_law_40 fl_X11_34 rfl rfl ?_
      refine Z_iconst (n := 0) dX11_law_43 ?_
      refine J_callV (st := []) dX11_law_44 cv_X11_161 (d_cut 0 dln z2 z3 z4 z5 z6 z9 z7 v_b17331891f q24 q25 rfl) rfl rfl rfl (Nat.le_of_ble_eq_true rfl) ⟨(Nat.le_of_ble_eq_true rfl), (Nat.le_of_ble_eq_true rfl)⟩ ⟨(Nat.le_of_ble_eq_true rfl), (Nat.le_of_ble_eq_true rfl)⟩ (fun r h9 hp => ?_)
      rcases hp with ⟨rfl, rfl, h35, h36⟩ | ⟨rfl, rfl, h37⟩ | ⟨rfl, rfl, h38⟩
      · refine J_nf (nh2 := nh) (ck2 := 0) (sk2 := 0) (st2 := [.int (zI 1)]) rfl rfl rfl rfl ?_
        refine J_app (L3 := [(54, .inr (5, [.ref 55, .int (zI 0), .int (zI z2), .int (zI z3), .int (zI z4), .int (zI z5), .int (zI z6), .int (zI z9), .ref 56, .int (zI z7)])), (0, .inr (11, [.ref 1, .ref 17, .ref 50, .ref 51, .ref 54, .ref 57, .ref 65, .ref 75, .ref 81, .ref 85, .ref 88, .ref 93, .ref 96, .int (zI cst), .int (zI (-1)), .ref 97, .int (zI cdk)])), (54, .inr (5, [.ref 55, .int (zI dln), .int (zI z2), .int (zI z3), .int (zI z4), .int (zI z5), .int (zI z6), .int (zI z9), .ref 56, .int (zI z7)])), (56, .inl (0, 412, .inl (zA f8)))]) rfl ?_
        refine J_mask (L2 := [(54, .inr (5, [.ref 55, .int (zI 0), .int (zI z2), .int (zI z3), .int (zI z4), .int (zI z5), .int (zI z6), .int (zI z9), .ref 56, .int (zI z7)])), (0, .inr (11, [.ref 1, .ref 17, .ref 50, .ref 51, .ref 54, .ref 57, .ref 65, .ref 75, .ref 81, .ref 85, .ref 88, .ref 93, .ref 96, .int (zI cst), .int (zI (-1)), .ref 97, .int (zI cdk)])), (56, .inl (0, 412, .inl (zA f8)))]) (ks := [54, 0, 54, 56]) [true, true, false, true] rfl (by decide +kernel) rfl ?_
        refine J_pop dX11_law_47 rfl ?_
        refine J_aload_n dX11_law_48 rfl rfl ?_
        refine J_get (v := .int (zI (-1))) dX11_law_49 fl_X11_101 rfl rfl ?_
        refine Z_iconst (n := -1) dX11_law_52 ?_
        refine Z_icmp_eq (tgt := 63) dX11_law_53 (by decide) v_d64efa60f9 v_d64efa60f9 (fun h39 => ?_) (fun h39 => absurd h39 (fun q => q v_6d2ae2573e))
        refine J_aload_n dX11_law_63 rfl rfl ?_
        refine J_get (v := .ref 1) dX11_law_64 fl_X11_10 rfl rfl ?_
        refine J_get (v := .ref 4) dX11_law_67 fl_X11_190 hk1 rfl ?_
        refine J_aload_n dX11_law_70 rfl rfl ?_
        refine J_get (v := .ref 1) dX11_law_71 fl_X11_10 rfl rfl ?_
        refine J_get (v := .int (zI lc)) dX11_law_74 fl_X11_184 hk1 rfl ?_
        refine J_aload_n dX11_law_77 rfl rfl ?_
        refine J_get (v := .ref 54) dX11_law_78 fl_X11_34 rfl rfl ?_
        refine J_callV (st := [.int (zI lc), .ref 4]) dX11_law_81 cv_X11_194 (b_compiled 0 z2 z3 z4 z5 z6 z9 z7 f8 h11 h10 q0 h16 rfl rfl) rfl rfl rfl (Nat.le_of_ble_eq_true rfl) ⟨(Nat.le_of_ble_eq_true rfl), (Nat.le_of_ble_eq_true rfl)⟩ ⟨(Nat.le_of_ble_eq_true rfl), (by show (0 : Nat) + ((z7).toNat) ≤ 402; omega)⟩ (fun r h9 hp => ?_)
        obtain ⟨f40, rfl, rfl, h41⟩ := hp
        refine J_nf (nh2 := nh + 1) (ck2 := 1) (sk2 := (z7).toNat) (st2 := [.ref nh, .int (zI lc), .ref 4]) rfl rfl (Nat.zero_add _) rfl ?_
        refine J_app (L3 := [(nh, .inl (0, (z7).toNat, .inl (zA f40))), (54, .inr (5, [.ref 55, .int (zI 0), .int (zI z2), .int (zI z3), .int (zI z4), .int (zI z5), .int (zI z6), .int (zI z9), .ref 56, .int (zI z7)])), (0, .inr (11, [.ref 1, .ref 17, .ref 50, .ref 51, .ref 54, .ref 57, .ref 65, .ref 75, .ref 81, .ref 85, .ref 88, .ref 93, .ref 96, .int (zI cst), .int (zI (-1)), .ref 97, .int (zI cdk)])), (56, .inl (0, 412, .inl (zA f8)))]) rfl ?_
        refine Y_aastA (i := lc) 6 dX11_law_84 (hcn (Ne.symm ((Fx_of q0) 4 (by decide))) (hcn (by decide) (hcn (by decide) (hcn (by decide) hk4)))) rfl (by decide) (v_2b02420001 q4) (v_96e273cc1e h1) hch ?_
        obtain ⟨f42, ef42⟩ : ∃ F : Nat → Option Nat, va_up lf lc.toNat (some nh) = F := ⟨_, rfl⟩
        rw [ef42]
        refine J_aload_n dX11_law_85 rfl rfl ?_
        refine J_get (v := .ref 1) dX11_law_86 fl_X11_10 (hcn (by decide) (hcn (Ne.symm ((Fx_of q0) 0 (by decide))) (hcn (by decide) hch))) rfl ?_
        refine J_dup dX11_law_89 rfl ?_
        refine J_get (v := .int (zI lc)) dX11_law_90 fl_X11_184 (hcn (by decide) (hcn (Ne.symm ((Fx_of q0) 1 (by decide))) (hcn (by decide) (hcn (by decide) (hcn (by decide) hk1))))) rfl ?_
        refine Z_iconst (n := 1) dX11_law_93 ?_
        refine Z_iadd (c := lc + 1) dX11_law_94 rfl ?_
        refine K_put (fs2 := [.ref 2, .ref 3, .ref 4, .int (zI (lc + 1)), .int (zI fo), .ref 11, .ref 12, .int (zI wc), .ref 13, .ref 14, .int (zI cc), .ref 15, .ref 16, .int (zI sc)]) dX11_law_95 fw_X11_184 (hcn (by decide) (hcn (Ne.symm ((Fx_of q0) 1 (by decide))) (hcn (by decide) (hcn (by decide) (hcn (by decide) hk1))))) (Nat.le_of_ble_eq_true rfl) (fun _ => ⟨rfl, rfl⟩) rfl ?_
        refine J_aload_n dX11_law_98 rfl rfl ?_
        refine J_aload_n dX11_law_99 rfl rfl ?_
        refine J_get (v := .ref 1) dX11_law_100 fl_X11_10 (hcn (by decide) (hcn (by decide) (hcn (Ne.symm ((Fx_of q0) 0 (by decide))) (hcn (by decide) hch)))) rfl ?_
        refine J_get (v := .int (zI (lc + 1))) dX11_law_103 fl_X11_184 rfl rfl ?_
        refine Z_iconst (n := 1) dX11_law_106 ?_
        refine Z_isub (c := lc) dX11_law_107 v_ce363065c5 ?_
        refine J_callV (st := []) dX11_law_108 cv_X11_129 (b_accept lc cst (-1) cdk (hcn (by decide) (hcn (by decide) (hcn (Ne.symm ((Fx_of q0) 0 (by decide))) (hcn (by decide) hch))))) (hcn (by decide) (hcn (by decide) (hcn (Ne.symm ((Fx_of q0) 0 (by decide))) (hcn (by decide) hch)))) rfl rfl (Nat.le_of_ble_eq_true rfl) ⟨(Nat.le_of_ble_eq_true rfl), (Nat.le_of_ble_eq_true rfl)⟩ ⟨(Nat.le_of_ble_eq_true rfl), (by show ((z7).toNat : Nat) + 0 ≤ 402; omega)⟩ (fun r h9 hp => ?_)
        obtain ⟨rfl, rfl⟩ := hp
        refine J_nf (nh2 := nh + 1) (ck2 := 1) (sk2 := (z7).toNat) (st2 := [.int (zI lc)]) rfl rfl rfl rfl ?_
        refine J_app (L3 := [(0, .inr (11, [.ref 1, .ref 17, .ref 50, .ref 51, .ref 54, .ref 57, .ref 65, .ref 75, .ref 81, .ref 85, .ref 88, .ref 93, .ref 96, .int (zI 0), .int (zI (-1)), .ref 97, .int (zI cdk)])), (1, .inr (8, [.ref 2, .ref 3, .ref 4, .int (zI (lc + 1)), .int (zI fo), .ref 11, .ref 12, .int (zI wc), .ref 13, .ref 14, .int (zI cc), .ref 15, .ref 16, .int (zI sc)])), (4, .inl (5, 6, .inr (.inr (.inr (.inr f42))))), (nh, .inl (0, (z7).toNat, .inl (zA f40))), (54, .inr (5, [.ref 55, .int (zI 0), .int (zI z2), .int (zI z3), .int (zI z4), .int (zI z5), .int (zI z6), .int (zI z9), .ref 56, .int (zI z7)])), (0, .inr (11, [.ref 1, .ref 17, .ref 50, .ref 51, .ref 54, .ref 57, .ref 65, .ref 75, .ref 81, .ref 85, .ref 88, .ref 93, .ref 96, .int (zI cst), .int (zI (-1)), .ref 97, .int (zI cdk)])), (56, .inl (0, 412, .inl (zA f8)))]) rfl ?_
        refine J_dupc (A := [(0, .inr (11, [.ref 1, .ref 17, .ref 50, .ref 51, .ref 54, .ref 57, .ref 65, .ref 75, .ref 81, .ref 85, .ref 88, .ref 93, .ref 96, .int (zI 0), .int (zI (-1)), .ref 97, .int (zI cdk)])), (1, .inr (8, [.ref 2, .ref 3, .ref 4, .int (zI (lc + 1)), .int (zI fo), .ref 11, .ref 12, .int (zI wc), .ref 13, .ref 14, .int (zI cc), .ref 15, .ref 16, .int (zI sc)])), (4, .inl (5, 6, .inr (.inr (.inr (.inr f42))))), (nh, .inl (0, (z7).toNat, .inl (zA f40))), (54, .inr (5, [.ref 55, .int (zI 0), .int (zI z2), .int (zI z3), .int (zI z4), .int (zI z5), .int (zI z6), .int (zI z9), .ref 56, .int (zI z7)]))]) (B := [(56, .inl (0, 412, .inl (zA f8)))]) (L2 := [(0, .inr (11, [.ref 1, .ref 17, .ref 50, .ref 51, .ref 54, .ref 57, .ref 65, .ref 75, .ref 81, .ref 85, .ref 88, .ref 93, .ref 96, .int (zI 0), .int (zI (-1)), .ref 97, .int (zI cdk)])), (1, .inr (8, [.ref 2, .ref 3, .ref 4, .int (zI (lc + 1)), .int (zI fo), .ref 11, .ref 12, .int (zI wc), .ref 13, .ref 14, .int (zI cc), .ref 15, .ref 16, .int (zI sc)])), (4, .inl (5, 6, .inr (.inr (.inr (.inr f42))))), (nh, .inl (0, (z7).toNat, .inl (zA f40))), (54, .inr (5, [.ref 55, .int (zI 0), .int (zI z2), .int (zI z3), .int (zI z4), .int (zI z5), .int (zI z6), .int (zI z9), .ref 56, .int (zI z7)])), (56, .inl (0, 412, .inl (zA f8)))]) (k := 0) (c := .inr (11, [.ref 1, .ref 17, .ref 50, .ref 51, .ref 54, .ref 57, .ref 65, .ref 75, .ref 81, .ref 85, .ref 88, .ref 93, .ref 96, .int (zI cst), .int (zI (-1)), .ref 97, .int (zI cdk)])) (e := .inr (11, [.ref 1, .ref 17, .ref 50, .ref 51, .ref 54, .ref 57, .ref 65, .ref 75, .ref 81, .ref 85, .ref 88, .ref 93, .ref 96, .int (zI 0), .int (zI (-1)), .ref 97, .int (zI cdk)])) rfl rfl (List.mem_of_getElem? (i := 0) rfl) ?_
        refine J_touch (k := nh) (e := .inl (0, (z7).toNat, .inl (zA f40))) (hcn ((Fx_of q0) 0 (by decide)) (hcn ((Fx_of q0) 1 (by decide)) (hcn ((Fx_of q0) 4 (by decide)) hch))) ?_
        refine J_touch (k := 4) (e := .inl (5, 6, .inr (.inr (.inr (.inr f42))))) (hcn (Ne.symm ((Fx_of q0) 4 (by decide))) (hcn (by decide) (hcn (by decide) hch))) ?_
        refine J_touch (k := 1) (e := .inr (8, [.ref 2, .ref 3, .ref 4, .int (zI (lc + 1)), .int (zI fo), .ref 11, .ref 12, .int (zI wc), .ref 13, .ref 14, .int (zI cc), .ref 15, .ref 16, .int (zI sc)])) (hcn (by decide) (hcn (Ne.symm ((Fx_of q0) 1 (by decide))) (hcn (by decide) hch))) ?_
        refine J_touch (k := 56) (e := .inl (0, 412, .inl (zA f8))) (hcn (by decide) (hcn (by decide) (hcn (Ne.symm ((Fx_of q0) 56 (by decide))) (hcn (by decide) (hcn (by decide) (hcn (by decide) (hcn (Ne.symm ((Fx_of q0) 56 (by decide))) (hcn (by decide) hch)))))))) ?_
        refine J_touch (k := 54) (e := .inr (5, [.ref 55, .int (zI 0), .int (zI z2), .int (zI z3), .int (zI z4), .int (zI z5), .int (zI z6), .int (zI z9), .ref 56, .int (zI z7)])) (hcn (by decide) (hcn (by decide) (hcn (by decide) (hcn (Ne.symm ((Fx_of q0) 54 (by decide))) (hcn (by decide) (hcn (by decide) (hcn (by decide) (hcn (Ne.symm ((Fx_of q0) 54 (by decide))) hch)))))))) ?_
        refine J_touch (k := 96) (e := .inl (0, 5, .inl (zA rfs))) (hcn (by decide) (hcn (by decide) (hcn (by decide) (hcn (by decide) (hcn (Ne.symm ((Fx_of q0) 96 (by decide))) (hcn (by decide) (hcn (by decide) (hcn (by decide) (hcn (Ne.symm ((Fx_of q0) 96 (by decide))) (hcn (by decide) (hcn (by decide) hk96))))))))))) ?_
        refine J_touch (k := 0) (e := .inr (11, [.ref 1, .ref 17, .ref 50, .ref 51, .ref 54, .ref 57, .ref 65, .ref 75, .ref 81, .ref 85, .ref 88, .ref 93, .ref 96, .int (zI 0), .int (zI (-1)), .ref 97, .int (zI cdk)])) (hcn (by decide) (hcn (by decide) (hcn (by decide) (hcn (by decide) (hcn (by decide) (hcn (Ne.symm ((Fx_of q0) 0 (by decide))) hch)))))) ?_
        refine J_dupc (A := [(0, .inr (11, [.ref 1, .ref 17, .ref 50, .ref 51, .ref 54, .ref 57, .ref 65, .ref 75, .ref 81, .ref 85, .ref 88, .ref 93, .ref 96, .int (zI 0), .int (zI (-1)), .ref 97, .int (zI cdk)])), (96, .inl (0, 5, .inl (zA rfs))), (54, .inr (5, [.ref 55, .int (zI 0), .int (zI z2), .int (zI z3), .int (zI z4), .int (zI z5), .int (zI z6), .int (zI z9), .ref 56, .int (zI z7)])), (56, .inl (0, 412, .inl (zA f8))), (1, .inr (8, [.ref 2, .ref 3, .ref 4, .int (zI (lc + 1)), .int (zI fo), .ref 11, .ref 12, .int (zI wc), .ref 13, .ref 14, .int (zI cc), .ref 15, .ref 16, .int (zI sc)])), (4, .inl (5, 6, .inr (.inr (.inr (.inr f42))))), (nh, .inl (0, (z7).toNat, .inl (zA f40)))]) (B := [(1, .inr (8, [.ref 2, .ref 3, .ref 4, .int (zI (lc + 1)), .int (zI fo), .ref 11, .ref 12, .int (zI wc), .ref 13, .ref 14, .int (zI cc), .ref 15, .ref 16, .int (zI sc)])), (4, .inl (5, 6, .inr (.inr (.inr (.inr f42))))), (nh, .inl (0, (z7).toNat, .inl (zA f40))), (54, .inr (5, [.ref 55, .int (zI 0), .int (zI z2), .int (zI z3), .int (zI z4), .int (zI z5), .int (zI z6), .int (zI z9), .ref 56, .int (zI z7)])), (56, .inl (0, 412, .inl (zA f8)))]) (L2 := [(0, .inr (11, [.ref 1, .ref 17, .ref 50, .ref 51, .ref 54, .ref 57, .ref 65, .ref 75, .ref 81, .ref 85, .ref 88, .ref 93, .ref 96, .int (zI 0), .int (zI (-1)), .ref 97, .int (zI cdk)])), (96, .inl (0, 5, .inl (zA rfs))), (54, .inr (5, [.ref 55, .int (zI 0), .int (zI z2), .int (zI z3), .int (zI z4), .int (zI z5), .int (zI z6), .int (zI z9), .ref 56, .int (zI z7)])), (56, .inl (0, 412, .inl (zA f8))), (1, .inr (8, [.ref 2, .ref 3, .ref 4, .int (zI (lc + 1)), .int (zI fo), .ref 11, .ref 12, .int (zI wc), .ref 13, .ref 14, .int (zI cc), .ref 15, .ref 16, .int (zI sc)])), (4, .inl (5, 6, .inr (.inr (.inr (.inr f42))))), (nh, .inl (0, (z7).toNat, .inl (zA f40))), (1, .inr (8, [.ref 2, .ref 3, .ref 4, .int (zI (lc + 1)), .int (zI fo), .ref 11, .ref 12, .int (zI wc), .ref 13, .ref 14, .int (zI cc), .ref 15, .ref 16, .int (zI sc)])), (4, .inl (5, 6, .inr (.inr (.inr (.inr f42))))), (nh, .inl (0, (z7).toNat, .inl (zA f40))), (54, .inr (5, [.ref 55, .int (zI 0), .int (zI z2), .int (zI z3), .int (zI z4), .int (zI z5), .int (zI z6), .int (zI z9), .ref 56, .int (zI z7)])), (56, .inl (0, 412, .inl (zA f8)))]) (k := 0) (c := .inr (11, [.ref 1, .ref 17, .ref 50, .ref 51, .ref 54, .ref 57, .ref 65, .ref 75, .ref 81, .ref 85, .ref 88, .ref 93, .ref 96, .int (zI 0), .int (zI (-1)), .ref 97, .int (zI cdk)])) (e := .inr (11, [.ref 1, .ref 17, .ref 50, .ref 51, .ref 54, .ref 57, .ref 65, .ref 75, .ref 81, .ref 85, .ref 88, .ref 93, .ref 96, .int (zI 0), .int (zI (-1)), .ref 97, .int (zI cdk)])) rfl rfl (List.mem_of_getElem? (i := 0) rfl) ?_
        refine J_dupc (A := [(0, .inr (11, [.ref 1, .ref 17, .ref 50, .ref 51, .ref 54, .ref 57, .ref 65, .ref 75, .ref 81, .ref 85, .ref 88, .ref 93, .ref 96, .int (zI 0), .int (zI (-1)), .ref 97, .int (zI cdk)])), (96, .inl (0, 5, .inl (zA rfs))), (54, .inr (5, [.ref 55, .int (zI 0), .int (zI z2), .int (zI z3), .int (zI z4), .int (zI z5), .int (zI z6), .int (zI z9), .ref 56, .int (zI z7)])), (56, .inl (0, 412, .inl (zA f8))), (1, .inr (8, [.ref 2, .ref 3, .ref 4, .int (zI (lc + 1)), .int (zI fo), .ref 11, .ref 12, .int (zI wc), .ref 13, .ref 14, .int (zI cc), .ref 15, .ref 16, .int (zI sc)])), (4, .inl (5, 6, .inr (.inr (.inr (.inr f42))))), (nh, .inl (0, (z7).toNat, .inl (zA f40)))]) (B := [(4, .inl (5, 6, .inr (.inr (.inr (.inr f42))))), (nh, .inl (0, (z7).toNat, .inl (zA f40))), (54, .inr (5, [.ref 55, .int (zI 0), .int (zI z2), .int (zI z3), .int (zI z4), .int (zI z5), .int (zI z6), .int (zI z9), .ref 56, .int (zI z7)])), (56, .inl (0, 412, .inl (zA f8)))]) (L2 := [(0, .inr (11, [.ref 1, .ref 17, .ref 50, .ref 51, .ref 54, .ref 57, .ref 65, .ref 75, .ref 81, .ref 85, .ref 88, .ref 93, .ref 96, .int (zI 0), .int (zI (-1)), .ref 97, .int (zI cdk)])), (96, .inl (0, 5, .inl (zA rfs))), (54, .inr (5, [.ref 55, .int (zI 0), .int (zI z2), .int (zI z3), .int (zI z4), .int (zI z5), .int (zI z6), .int (zI z9), .ref 56, .int (zI z7)])), (56, .inl (0, 412, .inl (zA f8))), (1, .inr (8, [.ref 2, .ref 3, .ref 4, .int (zI (lc + 1)), .int (zI fo), .ref 11, .ref 12, .int (zI wc), .ref 13, .ref 14, .int (zI cc), .ref 15, .ref 16, .int (zI sc)])), (4, .inl (5, 6, .inr (.inr (.inr (.inr f42))))), (nh, .inl (0, (z7).toNat, .inl (zA f40))), (4, .inl (5, 6, .inr (.inr (.inr (.inr f42))))), (nh, .inl (0, (z7).toNat, .inl (zA f40))), (54, .inr (5, [.ref 55, .int (zI 0), .int (zI z2), .int (zI z3), .int (zI z4), .int (zI z5), .int (zI z6), .int (zI z9), .ref 56, .int (zI z7)])), (56, .inl (0, 412, .inl (zA f8)))]) (k := 1) (c := .inr (8, [.ref 2, .ref 3, .ref 4, .int (zI (lc + 1)), .int (zI fo), .ref 11, .ref 12, .int (zI wc), .ref 13, .ref 14, .int (zI cc), .ref 15, .ref 16, .int (zI sc)])) (e := .inr (8, [.ref 2, .ref 3, .ref 4, .int (zI (lc + 1)), .int (zI fo), .ref 11, .ref 12, .int (zI wc), .ref 13, .ref 14, .int (zI cc), .ref 15, .ref 16, .int (zI sc)])) rfl rfl (List.mem_of_getElem? (i := 4) rfl) ?_
        refine J_dupc (A := [(0, .inr (11, [.ref 1, .ref 17, .ref 50, .ref 51, .ref 54, .ref 57, .ref 65, .ref 75, .ref 81, .ref 85, .ref 88, .ref 93, .ref 96, .int (zI 0), .int (zI (-1)), .ref 97, .int (zI cdk)])), (96, .inl (0, 5, .inl (zA rfs))), (54, .inr (5, [.ref 55, .int (zI 0), .int (zI z2), .int (zI z3), .int (zI z4), .int (zI z5), .int (zI z6), .int (zI z9), .ref 56, .int (zI z7)])), (56, .inl (0, 412, .inl (zA f8))), (1, .inr (8, [.ref 2, .ref 3, .ref 4, .int (zI (lc + 1)), .int (zI fo), .ref 11, .ref 12, .int (zI wc), .ref 13, .ref 14, .int (zI cc), .ref 15, .ref 16, .int (zI sc)])), (4, .inl (5, 6, .inr (.inr (.inr (.inr f42))))), (nh, .inl (0, (z7).toNat, .inl (zA f40)))]) (B := [(nh, .inl (0, (z7).toNat, .inl (zA f40))), (54, .inr (5, [.ref 55, .int (zI 0), .int (zI z2), .int (zI z3), .int (zI z4), .int (zI z5), .int (zI z6), .int (zI z9), .ref 56, .int (zI z7)])), (56, .inl (0, 412, .inl (zA f8)))]) (L2 := [(0, .inr (11, [.ref 1, .ref 17, .ref 50, .ref 51, .ref 54, .ref 57, .ref 65, .ref 75, .ref 81, .ref 85, .ref 88, .ref 93, .ref 96, .int (zI 0), .int (zI (-1)), .ref 97, .int (zI cdk)])), (96, .inl (0, 5, .inl (zA rfs))), (54, .inr (5, [.ref 55, .int (zI 0), .int (zI z2), .int (zI z3), .int (zI z4), .int (zI z5), .int (zI z6), .int (zI z9), .ref 56, .int (zI z7)])), (56, .inl (0, 412, .inl (zA f8))), (1, .inr (8, [.ref 2, .ref 3, .ref 4, .int (zI (lc + 1)), .int (zI fo), .ref 11, .ref 12, .int (zI wc), .ref 13, .ref 14, .int (zI cc), .ref 15, .ref 16, .int (zI sc)])), (4, .inl (5, 6, .inr (.inr (.inr (.inr f42))))), (nh, .inl (0, (z7).toNat, .inl (zA f40))), (nh, .inl (0, (z7).toNat, .inl (zA f40))), (54, .inr (5, [.ref 55, .int (zI 0), .int (zI z2), .int (zI z3), .int (zI z4), .int (zI z5), .int (zI z6), .int (zI z9), .ref 56, .int (zI z7)])), (56, .inl (0, 412, .inl (zA f8)))]) (k := 4) (c := .inl (5, 6, .inr (.inr (.inr (.inr f42))))) (e := .inl (5, 6, .inr (.inr (.inr (.inr f42))))) rfl rfl (List.mem_of_getElem? (i := 5) rfl) ?_
        refine J_dupc (A := [(0, .inr (11, [.ref 1, .ref 17, .ref 50, .ref 51, .ref 54, .ref 57, .ref 65, .ref 75, .ref 81, .ref 85, .ref 88, .ref 93, .ref 96, .int (zI 0), .int (zI (-1)), .ref 97, .int (zI cdk)])), (96, .inl (0, 5, .inl (zA rfs))), (54, .inr (5, [.ref 55, .int (zI 0), .int (zI z2), .int (zI z3), .int (zI z4), .int (zI z5), .int (zI z6), .int (zI z9), .ref 56, .int (zI z7)])), (56, .inl (0, 412, .inl (zA f8))), (1, .inr (8, [.ref 2, .ref 3, .ref 4, .int (zI (lc + 1)), .int (zI fo), .ref 11, .ref 12, .int (zI wc), .ref 13, .ref 14, .int (zI cc), .ref 15, .ref 16, .int (zI sc)])), (4, .inl (5, 6, .inr (.inr (.inr (.inr f42))))), (nh, .inl (0, (z7).toNat, .inl (zA f40)))]) (B := [(54, .inr (5, [.ref 55, .int (zI 0), .int (zI z2), .int (zI z3), .int (zI z4), .int (zI z5), .int (zI z6), .int (zI z9), .ref 56, .int (zI z7)])), (56, .inl (0, 412, .inl (zA f8)))]) (L2 := [(0, .inr (11, [.ref 1, .ref 17, .ref 50, .ref 51, .ref 54, .ref 57, .ref 65, .ref 75, .ref 81, .ref 85, .ref 88, .ref 93, .ref 96, .int (zI 0), .int (zI (-1)), .ref 97, .int (zI cdk)])), (96, .inl (0, 5, .inl (zA rfs))), (54, .inr (5, [.ref 55, .int (zI 0), .int (zI z2), .int (zI z3), .int (zI z4), .int (zI z5), .int (zI z6), .int (zI z9), .ref 56, .int (zI z7)])), (56, .inl (0, 412, .inl (zA f8))), (1, .inr (8, [.ref 2, .ref 3, .ref 4, .int (zI (lc + 1)), .int (zI fo), .ref 11, .ref 12, .int (zI wc), .ref 13, .ref 14, .int (zI cc), .ref 15, .ref 16, .int (zI sc)])), (4, .inl (5, 6, .inr (.inr (.inr (.inr f42))))), (nh, .inl (0, (z7).toNat, .inl (zA f40))), (54, .inr (5, [.ref 55, .int (zI 0), .int (zI z2), .int (zI z3), .int (zI z4), .int (zI z5), .int (zI z6), .int (zI z9), .ref 56, .int (zI z7)])), (56, .inl (0, 412, .inl (zA f8)))]) (k := nh) (c := .inl (0, (z7).toNat, .inl (zA f40))) (e := .inl (0, (z7).toNat, .inl (zA f40))) rfl rfl (List.mem_of_getElem? (i := 6) rfl) ?_
        refine J_dupc (A := [(0, .inr (11, [.ref 1, .ref 17, .ref 50, .ref 51, .ref 54, .ref 57, .ref 65, .ref 75, .ref 81, .ref 85, .ref 88, .ref 93, .ref 96, .int (zI 0), .int (zI (-1)), .ref 97, .int (zI cdk)])), (96, .inl (0, 5, .inl (zA rfs))), (54, .inr (5, [.ref 55, .int (zI 0), .int (zI z2), .int (zI z3), .int (zI z4), .int (zI z5), .int (zI z6), .int (zI z9), .ref 56, .int (zI z7)])), (56, .inl (0, 412, .inl (zA f8))), (1, .inr (8, [.ref 2, .ref 3, .ref 4, .int (zI (lc + 1)), .int (zI fo), .ref 11, .ref 12, .int (zI wc), .ref 13, .ref 14, .int (zI cc), .ref 15, .ref 16, .int (zI sc)])), (4, .inl (5, 6, .inr (.inr (.inr (.inr f42))))), (nh, .inl (0, (z7).toNat, .inl (zA f40)))]) (B := [(56, .inl (0, 412, .inl (zA f8)))]) (L2 := [(0, .inr (11, [.ref 1, .ref 17, .ref 50, .ref 51, .ref 54, .ref 57, .ref 65, .ref 75, .ref 81, .ref 85, .ref 88, .ref 93, .ref 96, .int (zI 0), .int (zI (-1)), .ref 97, .int (zI cdk)])), (96, .inl (0, 5, .inl (zA rfs))), (54, .inr (5, [.ref 55, .int (zI 0), .int (zI z2), .int (zI z3), .int (zI z4), .int (zI z5), .int (zI z6), .int (zI z9), .ref 56, .int (zI z7)])), (56, .inl (0, 412, .inl (zA f8))), (1, .inr (8, [.ref 2, .ref 3, .ref 4, .int (zI (lc + 1)), .int (zI fo), .ref 11, .ref 12, .int (zI wc), .ref 13, .ref 14, .int (zI cc), .ref 15, .ref 16, .int (zI sc)])), (4, .inl (5, 6, .inr (.inr (.inr (.inr f42))))), (nh, .inl (0, (z7).toNat, .inl (zA f40))), (56, .inl (0, 412, .inl (zA f8)))]) (k := 54) (c := .inr (5, [.ref 55, .int (zI 0), .int (zI z2), .int (zI z3), .int (zI z4), .int (zI z5), .int (zI z6), .int (zI z9), .ref 56, .int (zI z7)])) (e := .inr (5, [.ref 55, .int (zI 0), .int (zI z2), .int (zI z3), .int (zI z4), .int (zI z5), .int (zI z6), .int (zI z9), .ref 56, .int (zI z7)])) rfl rfl (List.mem_of_getElem? (i := 2) rfl) ?_
        refine J_dupc (A := [(0, .inr (11, [.ref 1, .ref 17, .ref 50, .ref 51, .ref 54, .ref 57, .ref 65, .ref 75, .ref 81, .ref 85, .ref 88, .ref 93, .ref 96, .int (zI 0), .int (zI (-1)), .ref 97, .int (zI cdk)])), (96, .inl (0, 5, .inl (zA rfs))), (54, .inr (5, [.ref 55, .int (zI 0), .int (zI z2), .int (zI z3), .int (zI z4), .int (zI z5), .int (zI z6), .int (zI z9), .ref 56, .int (zI z7)])), (56, .inl (0, 412, .inl (zA f8))), (1, .inr (8, [.ref 2, .ref 3, .ref 4, .int (zI (lc + 1)), .int (zI fo), .ref 11, .ref 12, .int (zI wc), .ref 13, .ref 14, .int (zI cc), .ref 15, .ref 16, .int (zI sc)])), (4, .inl (5, 6, .inr (.inr (.inr (.inr f42))))), (nh, .inl (0, (z7).toNat, .inl (zA f40)))]) (B := []) (L2 := [(0, .inr (11, [.ref 1, .ref 17, .ref 50, .ref 51, .ref 54, .ref 57, .ref 65, .ref 75, .ref 81, .ref 85, .ref 88, .ref 93, .ref 96, .int (zI 0), .int (zI (-1)), .ref 97, .int (zI cdk)])), (96, .inl (0, 5, .inl (zA rfs))), (54, .inr (5, [.ref 55, .int (zI 0), .int (zI z2), .int (zI z3), .int (zI z4), .int (zI z5), .int (zI z6), .int (zI z9), .ref 56, .int (zI z7)])), (56, .inl (0, 412, .inl (zA f8))), (1, .inr (8, [.ref 2, .ref 3, .ref 4, .int (zI (lc + 1)), .int (zI fo), .ref 11, .ref 12, .int (zI wc), .ref 13, .ref 14, .int (zI cc), .ref 15, .ref 16, .int (zI sc)])), (4, .inl (5, 6, .inr (.inr (.inr (.inr f42))))), (nh, .inl (0, (z7).toNat, .inl (zA f40)))]) (k := 56) (c := .inl (0, 412, .inl (zA f8))) (e := .inl (0, 412, .inl (zA f8))) rfl rfl (List.mem_of_getElem? (i := 3) rfl) ?_
        exact J_iret dX11_law_111 rfl rfl (Nat.le_of_ble_eq_true rfl) (by show ((z7).toNat : Nat) ≤ 402; omega) (Or.inr ⟨lc, 0, rfs, z2, z3, z4, z5, z6, z9, z7, f8, (-1), (lc + 1), f42, z7, f40, rfl, rfl, h12, h13, h14, h15, h16, (v_da458fa48a q4), (v_c4c2cc32f6 h1), v_32a28518ee, (by first | exact ef42 | rfl), h11, h10, h41⟩)
      · exact False.elim (v_d28dc587d1 h37)
      · exact False.elim (v_bd0e51d423 q24 h38)
    · refine J_nf (nh2 := nh) (ck2 := 0) (sk2 := 0) (st2 := [.int (zI z25), .ref 0]) rfl rfl rfl rfl ?_
      refine J_app (L3 := [(54, .inr (5, [.ref 55, .int (zI dln), .int (zI z18), .int (zI z19), .int (zI z20), .int (zI z21), .int (zI z22), .int (zI z25), .ref 56, .int (zI z23)])), (56, .inl (0, 412, .inl (zA f24)))]) rfl ?_
      refine K_put (fs2 := [.ref 1, .ref 17, .ref 50, .ref 51, .ref 54, .ref 57, .ref 65, .ref 75, .ref 81, .ref 85, .ref 88, .ref 93, .ref 96, .int (zI cst), .int (zI z25), .ref 97, .int (zI cdk)]) dX11_law_36 fw_X11_101 hk0 (Nat.le_of_ble_eq_true rfl) (fun _ => ⟨rfl, rfl⟩) rfl ?_
      refine J_aload_n dX11_law_39 rfl rfl ?_
      refine J_get (v := .ref 54) dX11_law_40 fl_X11_34 rfl rfl ?_
      refine Z_iconst (n := 0) dX11_law_43 ?_
      refine J_callV (st := []) dX11_law_44 cv_X11_161 (d_cut 0 dln z18 z19 z20 z21 z22 z25 z23 v_b17331891f q24 q25 rfl) rfl rfl rfl (Nat.le_of_ble_eq_true rfl) ⟨(Nat.le_of_ble_eq_true rfl), (Nat.le_of_ble_eq_true rfl)⟩ ⟨(Nat.le_of_ble_eq_true rfl), (Nat.le_of_ble_eq_true rfl)⟩ (fun r h9 hp => ?_)
      rcases hp with ⟨rfl, rfl, h43, h44⟩ | ⟨rfl, rfl, h45⟩ | ⟨rfl, rfl, h46⟩
      · refine J_nf (nh2 := nh) (ck2 := 0) (sk2 := 0) (st2 := [.int (zI 1)]) rfl rfl rfl rfl ?_
        refine J_app (L3 := [(54, .inr (5, [.ref 55, .int (zI 0), .int (zI z18), .int (zI z19), .int (zI z20), .int (zI z21), .int (zI z22), .int (zI z25), .ref 56, .int (zI z23)])), (0, .inr (11, [.ref 1, .ref 17, .ref 50, .ref 51, .ref 54, .ref 57, .ref 65, .ref 75, .ref 81, .ref 85, .ref 88, .ref 93, .ref 96, .int (zI cst), .int (zI z25), .ref 97, .int (zI cdk)])), (54, .inr (5, [.ref 55, .int (zI dln), .int (zI z18), .int (zI z19), .int (zI z20), .int (zI z21), .int (zI z22), .int (zI z25), .ref 56, .int (zI z23)])), (56, .inl (0, 412, .inl (zA f24)))]) rfl ?_
        refine J_mask (L2 := [(54, .inr (5, [.ref 55, .int (zI 0), .int (zI z18), .int (zI z19), .int (zI z20), .int (zI z21), .int (zI z22), .int (zI z25), .ref 56, .int (zI z23)])), (0, .inr (11, [.ref 1, .ref 17, .ref 50, .ref 51, .ref 54, .ref 57, .ref 65, .ref 75, .ref 81, .ref 85, .ref 88, .ref 93, .ref 96, .int (zI cst), .int (zI z25), .ref 97, .int (zI cdk)])), (56, .inl (0, 412, .inl (zA f24)))]) (ks := [54, 0, 54, 56]) [true, true, false, true] rfl (by decide +kernel) rfl ?_
        refine J_pop dX11_law_47 rfl ?_
        refine J_aload_n dX11_law_48 rfl rfl ?_
        refine J_get (v := .int (zI z25)) dX11_law_49 fl_X11_101 rfl rfl ?_
        refine Z_iconst (n := -1) dX11_law_52 ?_
        refine Z_icmp_eq (tgt := 63) dX11_law_53 (by decide) (v_d7389cde0f h26 h27) v_d64efa60f9 (fun h47 => absurd h47 (v_ec89eb1211 h26)) (fun h47 => ?_)
        refine J_aload_n dX11_law_56 rfl rfl ?_
        refine Z_bipush (n := -6) dX11_law_57 (by decide +kernel) ?_
        refine J_callV (st := []) dX11_law_59 cv_X11_118 (b_refuse (-6) cst z25 cdk rfs v_a8018d5457 v_d89879cf36 rfl hk96) rfl rfl rfl (Nat.le_of_ble_eq_true rfl) ⟨(Nat.le_of_ble_eq_true rfl), (Nat.le_of_ble_eq_true rfl)⟩ ⟨(Nat.le_of_ble_eq_true rfl), (Nat.le_of_ble_eq_true rfl)⟩ (fun r h9 hp => ?_)
        obtain ⟨f48, rfl, rfl⟩ := hp
        refine J_nf (nh2 := nh) (ck2 := 0) (sk2 := 0) (st2 := [.int (zI (-6))]) rfl rfl rfl rfl ?_
        refine J_app (L3 := [(0, .inr (11, [.ref 1, .ref 17, .ref 50, .ref 51, .ref 54, .ref 57, .ref 65, .ref 75, .ref 81, .ref 85, .ref 88, .ref 93, .ref 96, .int (zI (-6)), .int (zI z25), .ref 97, .int (zI cdk)])), (96, .inl (0, 5, .inl (zA f48))), (54, .inr (5, [.ref 55, .int (zI 0), .int (zI z18), .int (zI z19), .int (zI z20), .int (zI z21), .int (zI z22), .int (zI z25), .ref 56, .int (zI z23)])), (0, .inr (11, [.ref 1, .ref 17, .ref 50, .ref 51, .ref 54, .ref 57, .ref 65, .ref 75, .ref 81, .ref 85, .ref 88, .ref 93, .ref 96, .int (zI cst), .int (zI z25), .ref 97, .int (zI cdk)])), (56, .inl (0, 412, .inl (zA f24)))]) rfl ?_
        refine J_mask (L2 := [(0, .inr (11, [.ref 1, .ref 17, .ref 50, .ref 51, .ref 54, .ref 57, .ref 65, .ref 75, .ref 81, .ref 85, .ref 88, .ref 93, .ref 96, .int (zI (-6)), .int (zI z25), .ref 97, .int (zI cdk)])), (96, .inl (0, 5, .inl (zA f48))), (54, .inr (5, [.ref 55, .int (zI 0), .int (zI z18), .int (zI z19), .int (zI z20), .int (zI z21), .int (zI z22), .int (zI z25), .ref 56, .int (zI z23)])), (56, .inl (0, 412, .inl (zA f24)))]) (ks := [0, 96, 54, 0, 56]) [true, true, true, false, true] rfl (by decide +kernel) rfl ?_
        exact J_iret dX11_law_62 rfl rfl (Nat.le_of_ble_eq_true rfl) (Nat.le_of_ble_eq_true rfl) (Or.inl ⟨(-6), (-6), f48, z18, z19, z20, z21, z22, z25, z23, f24, z25, rfl, rfl, h30, h31, h32, h33, h34⟩)
      · exact False.elim (v_d28dc587d1 h45)
      · exact False.elim (v_bd0e51d423 q24 h46)
  · refine J_aload_n dX11_law_12 rfl rfl ?_
    refine J_get (v := .ref 54) dX11_law_13 fl_X11_34 hk0 rfl ?_
    refine Z_iconst (n := 0) dX11_law_16 ?_
    refine J_callV (st := []) dX11_law_17 cv_X11_161 (d_cut 0 dln dtk dst dbh dva dpa dfl dsz v_b17331891f q24 q25 hk54) hk54 rfl rfl (Nat.le_of_ble_eq_true rfl) ⟨(Nat.le_of_ble_eq_true rfl), (Nat.le_of_ble_eq_true rfl)⟩ ⟨(Nat.le_of_ble_eq_true rfl), (Nat.le_of_ble_eq_true rfl)⟩ (fun r h9 hp => ?_)
    rcases hp with ⟨rfl, rfl, h49, h50⟩ | ⟨rfl, rfl, h51⟩ | ⟨rfl, rfl, h52⟩
    · refine J_nf (nh2 := nh) (ck2 := 0) (sk2 := 0) (st2 := [.int (zI 1)]) rfl rfl rfl rfl ?_
      refine J_app (L3 := [(54, .inr (5, [.ref 55, .int (zI 0), .int (zI dtk), .int (zI dst), .int (zI dbh), .int (zI dva), .int (zI dpa), .int (zI dfl), .ref 56, .int (zI dsz)]))]) rfl ?_
      refine J_pop dX11_law_20 rfl ?_
      refine J_aload_n dX11_law_21 rfl rfl ?_
      refine Z_bipush (n := -5) dX11_law_22 (by decide +kernel) ?_
      refine J_callV (st := []) dX11_law_24 cv_X11_118 (b_refuse (-5) cst cfa cdk rfs v_23c38dd6f5 v_711bb4d976 hk0 hk96) hk0 rfl rfl (Nat.le_of_ble_eq_true rfl) ⟨(Nat.le_of_ble_eq_true rfl), (Nat.le_of_ble_eq_true rfl)⟩ ⟨(Nat.le_of_ble_eq_true rfl), (Nat.le_of_ble_eq_true rfl)⟩ (fun r h9 hp => ?_)
      obtain ⟨f53, rfl, rfl⟩ := hp
      refine J_nf (nh2 := nh) (ck2 := 0) (sk2 := 0) (st2 := [.int (zI (-5))]) rfl rfl rfl rfl ?_
      refine J_app (L3 := [(0, .inr (11, [.ref 1, .ref 17, .ref 50, .ref 51, .ref 54, .ref 57, .ref 65, .ref 75, .ref 81, .ref 85, .ref 88, .ref 93, .ref 96, .int (zI (-5)), .int (zI cfa), .ref 97, .int (zI cdk)])), (96, .inl (0, 5, .inl (zA f53))), (54, .inr (5, [.ref 55, .int (zI 0), .int (zI dtk), .int (zI dst), .int (zI dbh), .int (zI dva), .int (zI dpa), .int (zI dfl), .ref 56, .int (zI dsz)]))]) rfl ?_
      refine J_touch (k := 56) (e := .inl (0, 412, .inl (zA dcd))) hk56 ?_
      refine J_touch (k := 54) (e := .inr (5, [.ref 55, .int (zI 0), .int (zI dtk), .int (zI dst), .int (zI dbh), .int (zI dva), .int (zI dpa), .int (zI dfl), .ref 56, .int (zI dsz)])) rfl ?_
      refine J_touch (k := 96) (e := .inl (0, 5, .inl (zA f53))) rfl ?_
      refine J_touch (k := 0) (e := .inr (11, [.ref 1, .ref 17, .ref 50, .ref 51, .ref 54, .ref 57, .ref 65, .ref 75, .ref 81, .ref 85, .ref 88, .ref 93, .ref 96, .int (zI (-5)), .int (zI cfa), .ref 97, .int (zI cdk)])) rfl ?_
      refine J_mask (L2 := [(0, .inr (11, [.ref 1, .ref 17, .ref 50, .ref 51, .ref 54, .ref 57, .ref 65, .ref 75, .ref 81, .ref 85, .ref 88, .ref 93, .ref 96, .int (zI (-5)), .int (zI cfa), .ref 97, .int (zI cdk)])), (96, .inl (0, 5, .inl (zA f53))), (54, .inr (5, [.ref 55, .int (zI 0), .int (zI dtk), .int (zI dst), .int (zI dbh), .int (zI dva), .int (zI dpa), .int (zI dfl), .ref 56, .int (zI dsz)])), (56, .inl (0, 412, .inl (zA dcd)))]) (ks := [0, 96, 54, 56, 0, 96, 54]) [true, true, true, true, false, false, false] rfl (by decide +kernel) rfl ?_
      exact J_iret dX11_law_27 rfl rfl (Nat.le_of_ble_eq_true rfl) (Nat.le_of_ble_eq_true rfl) (Or.inl ⟨(-5), (-5), f53, dtk, dst, dbh, dva, dpa, dfl, dsz, dcd, cfa, rfl, rfl, q26, q27, q28, q29, q31⟩)
    · exact False.elim (v_d28dc587d1 h51)
    · exact False.elim (v_bd0e51d423 q24 h52)
set_option maxHeartbeats 4000000 in
set_option maxRecDepth 100000 in
theorem b_image {l : Launch} {G : jG} {nh : Nat} {fh : Nat → Option va_E} (x : Int) (cst : Int) (cfa : Int) (cdk : Int) (ff : Int → Int) (tf : Int → Int) (lf : Nat → Option Nat) (wa : Int → Int) (wb : Int → Int) (ca : Int → Int) (cb : Int → Int) (sa : Int → Int) (sb : Int → Int) (lc : Int) (fo : Int) (wc : Int) (cc : Int) (sc : Int) (rfs : Int → Int) (ff1 : Int → Int) (tf1 : Int → Int) (lf1 : Nat → Option Nat) (wa1 : Int → Int) (wb1 : Int → Int) (ca1 : Int → Int) (cb1 : Int → Int) (sa1 : Int → Int) (sb1 : Int → Int) (lc1 : Int) (fo1 : Int) (wc1 : Int) (cc1 : Int) (sc1 : Int) (ff2 : Int → Int) (tf2 : Int → Int) (lf2 : Nat → Option Nat) (wa2 : Int → Int) (wb2 : Int → Int) (ca2 : Int → Int) (cb2 : Int → Int) (sa2 : Int → Int) (sb2 : Int → Int) (lc2 : Int) (fo2 : Int) (wc2 : Int) (cc2 : Int) (sc2 : Int) (kb : Int → Int) (q0 : zr x) (q1 : 0 ≤ cdk) (q2 : cdk ≤ 1) (q3 : okF ff) (q4 : 0 ≤ lc) (q5 : lc ≤ 6) (q6 : -1 ≤ fo) (q7 : fo < lc) (q8 : 0 ≤ wc) (q9 : wc ≤ 8) (q10 : 0 ≤ cc) (q11 : cc ≤ 6) (q12 : 0 ≤ sc) (q13 : sc ≤ 12) (q14 : Rg tf 2 (-2147483648) 2147483647) (q15 : Rg wa 8 (-2147483648) 2147483647) (q16 : Rg wb 8 (-2147483648) 2147483647) (q17 : Rg ca 6 (-2147483648) 2147483647) (q18 : Rg ca cc 0 (Hi ff - 1)) (q19 : Rg cb 6 (-2147483648) 2147483647) (q20 : Rg sa 12 0 6) (q21 : Rg sb 12 0 6) (q22 : Rg ff 5 (-2147483648) 2147483647) (q23 : LawsIn fh lf) (q24 : okF ff1) (q25 : 0 ≤ lc1) (q26 : lc1 ≤ 6) (q27 : -1 ≤ fo1) (q28 : fo1 < lc1) (q29 : 0 ≤ wc1) (q30 : wc1 ≤ 8) (q31 : 0 ≤ cc1) (q32 : cc1 ≤ 6) (q33 : 0 ≤ sc1) (q34 : sc1 ≤ 12) (q35 : Rg tf1 2 (-2147483648) 2147483647) (q36 : Rg wa1 8 (-2147483648) 2147483647) (q37 : Rg wb1 8 (-2147483648) 2147483647) (q38 : Rg ca1 6 (-2147483648) 2147483647) (q39 : Rg ca1 cc1 0 (Hi ff1 - 1)) (q40 : Rg cb1 6 (-2147483648) 2147483647) (q41 : Rg sa1 12 0 6) (q42 : Rg sb1 12 0 6) (q43 : Rg ff1 5 (-2147483648) 2147483647) (q44 : LawsIn fh lf1) (q45 : okF ff2) (q46 : 0 ≤ lc2) (q47 : lc2 ≤ 6) (q48 : -1 ≤ fo2) (q49 : fo2 < lc2) (q50 : 0 ≤ wc2) (q51 : wc2 ≤ 8) (q52 : 0 ≤ cc2) (q53 : cc2 ≤ 6) (q54 : 0 ≤ sc2) (q55 : sc2 ≤ 12) (q56 : Rg tf2 2 (-2147483648) 2147483647) (q57 : Rg wa2 8 (-2147483648) 2147483647) (q58 : Rg wb2 8 (-2147483648) 2147483647) (q59 : Rg ca2 6 (-2147483648) 2147483647) (q60 : Rg ca2 cc2 0 (Hi ff2 - 1)) (q61 : Rg cb2 6 (-2147483648) 2147483647) (q62 : Rg sa2 12 0 6) (q63 : Rg sb2 12 0 6) (q64 : Rg ff2 5 (-2147483648) 2147483647) (q65 : LawsIn fh lf2) (q66 : Rg kb 2 0 1) (hk0 : fh 0 = some (.inr (11, [.ref 1, .ref 17, .ref 50, .ref 51, .ref 54, .ref 57, .ref 65, .ref 75, .ref 81, .ref 85, .ref 88, .ref 93, .ref 96, .int (zI cst), .int (zI cfa), .ref 97, .int (zI cdk)]))) (hk1 : fh 1 = some (.inr (8, [.ref 2, .ref 3, .ref 4, .int (zI lc), .int (zI fo), .ref 11, .ref 12, .int (zI wc), .ref 13, .ref 14, .int (zI cc), .ref 15, .ref 16, .int (zI sc)]))) (hk2 : fh 2 = some (.inl (0, 5, .inl (zA ff)))) (hk3 : fh 3 = some (.inl (0, 2, .inl (zA tf)))) (hk4 : fh 4 = some (.inl (5, 6, .inr (.inr (.inr (.inr lf)))))) (hk11 : fh 11 = some (.inl (0, 8, .inl (zA wa)))) (hk12 : fh 12 = some (.inl (0, 8, .inl (zA wb)))) (hk13 : fh 13 = some (.inl (0, 6, .inl (zA ca)))) (hk14 : fh 14 = some (.inl (0, 6, .inl (zA cb)))) (hk15 : fh 15 = some (.inl (0, 12, .inl (zA sa)))) (hk16 : fh 16 = some (.inl (0, 12, .inl (zA sb)))) (hk96 : fh 96 = some (.inl (0, 5, .inl (zA rfs)))) (hk18 : fh 18 = some (.inr (8, [.ref 19, .ref 20, .ref 21, .int (zI lc1), .int (zI fo1), .ref 28, .ref 29, .int (zI wc1), .ref 30, .ref 31, .int (zI cc1), .ref 32, .ref 33, .int (zI sc1)]))) (hk19 : fh 19 = some (.inl (0, 5, .inl (zA ff1)))) (hk20 : fh 20 = some (.inl (0, 2, .inl (zA tf1)))) (hk21 : fh 21 = some (.inl (5, 6, .inr (.inr (.inr (.inr lf1)))))) (hk28 : fh 28 = some (.inl (0, 8, .inl (zA wa1)))) (hk29 : fh 29 = some (.inl (0, 8, .inl (zA wb1)))) (hk30 : fh 30 = some (.inl (0, 6, .inl (zA ca1)))) (hk31 : fh 31 = some (.inl (0, 6, .inl (zA cb1)))) (hk32 : fh 32 = some (.inl (0, 12, .inl (zA sa1)))) (hk33 : fh 33 = some (.inl (0, 12, .inl (zA sb1)))) (hk34 : fh 34 = some (.inr (8, [.ref 35, .ref 36, .ref 37, .int (zI lc2), .int (zI fo2), .ref 44, .ref 45, .int (zI wc2), .ref 46, .ref 47, .int (zI cc2), .ref 48, .ref 49, .int (zI sc2)]))) (hk35 : fh 35 = some (.inl (0, 5, .inl (zA ff2)))) (hk36 : fh 36 = some (.inl (0, 2, .inl (zA tf2)))) (hk37 : fh 37 = some (.inl (5, 6, .inr (.inr (.inr (.inr lf2)))))) (hk44 : fh 44 = some (.inl (0, 8, .inl (zA wa2)))) (hk45 : fh 45 = some (.inl (0, 8, .inl (zA wb2)))) (hk46 : fh 46 = some (.inl (0, 6, .inl (zA ca2)))) (hk47 : fh 47 = some (.inl (0, 6, .inl (zA cb2)))) (hk48 : fh 48 = some (.inl (0, 12, .inl (zA sa2)))) (hk49 : fh 49 = some (.inl (0, 12, .inl (zA sb2)))) (hk17 : fh 17 = some (.inl (4, 2, .inr (.inr (.inr (.inr im17)))))) (hk50 : fh 50 = some (.inl (2, 2, .inl (zA kb)))) : JM l G yX11_image MX11_image { frames := 2, cells := 0, slots := 0, locals := 82 } [.ref 0, .int (zI x)] (nh, fh) (fun rr h9 => (∃ r : Int, ∃ cst2 : Int, ∃ rfs2 : Int → Int, rr = some (.int (zI r)) ∧ h9 = (nh, hc fh [(0, .inr (11, [.ref 1, .ref 17, .ref 50, .ref 51, .ref 54, .ref 57, .ref 65, .ref 75, .ref 81, .ref 85, .ref 88, .ref 93, .ref 96, .int (zI cst2), .int (zI cfa), .ref 97, .int (zI cdk)])), (96, .inl (0, 5, .inl (zA rfs2)))]) ∧ (r = imr x) ∧ (KbE kb kb x) ∧ (¬ x = 0) ∧ (¬ x = 1)) ∨ (∃ ff19 : Int → Int, ∃ tf19 : Int → Int, ∃ lf19 : Nat → Option Nat, ∃ wa19 : Int → Int, ∃ wb19 : Int → Int, ∃ ca19 : Int → Int, ∃ cb19 : Int → Int, ∃ sa19 : Int → Int, ∃ sb19 : Int → Int, ∃ cst2 : Int, ∃ kb2 : Int → Int, rr = some (.int (zI 0)) ∧ h9 = (nh, hc fh [(0, .inr (11, [.ref 1, .ref 17, .ref 50, .ref 51, .ref 54, .ref 57, .ref 65, .ref 75, .ref 81, .ref 85, .ref 88, .ref 93, .ref 96, .int (zI cst2), .int (zI cfa), .ref 97, .int (zI cdk)])), (50, .inl (2, 2, .inl (zA kb2))), (18, .inr (8, [.ref 19, .ref 20, .ref 21, .int (zI lc), .int (zI fo), .ref 28, .ref 29, .int (zI wc), .ref 30, .ref 31, .int (zI cc), .ref 32, .ref 33, .int (zI sc)])), (19, .inl (0, 5, .inl (zA ff19))), (20, .inl (0, 2, .inl (zA tf19))), (21, .inl (5, 6, .inr (.inr (.inr (.inr lf19))))), (28, .inl (0, 8, .inl (zA wa19))), (29, .inl (0, 8, .inl (zA wb19))), (30, .inl (0, 6, .inl (zA ca19))), (31, .inl (0, 6, .inl (zA cb19))), (32, .inl (0, 12, .inl (zA sa19))), (33, .inl (0, 12, .inl (zA sb19)))]) ∧ (Cp5 ff19 ff) ∧ (LwC lf19 lf 6) ∧ (Rg tf19 2 (-2147483648) 2147483647) ∧ (Rg wa19 8 (-2147483648) 2147483647) ∧ (Rg wb19 8 (-2147483648) 2147483647) ∧ (Rg ca19 6 (-2147483648) 2147483647) ∧ (Rg ca19 cc 0 (Hi ff - 1)) ∧ (Rg cb19 6 (-2147483648) 2147483647) ∧ (Rg sa19 12 0 6) ∧ (Rg sb19 12 0 6) ∧ (Rg ff19 5 (-2147483648) 2147483647) ∧ (Rg kb2 2 0 1) ∧ (0 = imr x) ∧ (KbE kb2 kb x) ∧ (x = 0) ∧ (EqN tf19 tf 2) ∧ (EqN wa19 wa 8) ∧ (EqN wb19 wb 8) ∧ (EqN ca19 ca 6) ∧ (EqN cb19 cb 6) ∧ (EqN sa19 sa 12) ∧ (EqN sb19 sb 12)) ∨ (∃ ff29 : Int → Int, ∃ tf29 : Int → Int, ∃ lf29 : Nat → Option Nat, ∃ wa29 : Int → Int, ∃ wb29 : Int → Int, ∃ ca29 : Int → Int, ∃ cb29 : Int → Int, ∃ sa29 : Int → Int, ∃ sb29 : Int → Int, ∃ cst2 : Int, ∃ kb2 : Int → Int, rr = some (.int (zI 0)) ∧ h9 = (nh, hc fh [(0, .inr (11, [.ref 1, .ref 17, .ref 50, .ref 51, .ref 54, .ref 57, .ref 65, .ref 75, .ref 81, .ref 85, .ref 88, .ref 93, .ref 96, .int (zI cst2), .int (zI cfa), .ref 97, .int (zI cdk)])), (50, .inl (2, 2, .inl (zA kb2))), (34, .inr (8, [.ref 35, .ref 36, .ref 37, .int (zI lc), .int (zI fo), .ref 44, .ref 45, .int (zI wc), .ref 46, .ref 47, .int (zI cc), .ref 48, .ref 49, .int (zI sc)])), (35, .inl (0, 5, .inl (zA ff29))), (36, .inl (0, 2, .inl (zA tf29))), (37, .inl (5, 6, .inr (.inr (.inr (.inr lf29))))), (44, .inl (0, 8, .inl (zA wa29))), (45, .inl (0, 8, .inl (zA wb29))), (46, .inl (0, 6, .inl (zA ca29))), (47, .inl (0, 6, .inl (zA cb29))), (48, .inl (0, 12, .inl (zA sa29))), (49, .inl (0, 12, .inl (zA sb29)))]) ∧ (Cp5 ff29 ff) ∧ (LwC lf29 lf 6) ∧ (Rg tf29 2 (-2147483648) 2147483647) ∧ (Rg wa29 8 (-2147483648) 2147483647) ∧ (Rg wb29 8 (-2147483648) 2147483647) ∧ (Rg ca29 6 (-2147483648) 2147483647) ∧ (Rg ca29 cc 0 (Hi ff - 1)) ∧ (Rg cb29 6 (-2147483648) 2147483647) ∧ (Rg sa29 12 0 6) ∧ (Rg sb29 12 0 6) ∧ (Rg ff29 5 (-2147483648) 2147483647) ∧ (Rg kb2 2 0 1) ∧ (0 = imr x) ∧ (KbE kb2 kb x) ∧ (x = 1) ∧ (EqN tf29 tf 2) ∧ (EqN wa29 wa 8) ∧ (EqN wb29 wb 8) ∧ (EqN ca29 ca 6) ∧ (EqN cb29 cb 6) ∧ (EqN sa29 sa 12) ∧ (EqN sb29 sb 12))) := by
  refine JM.of (by decide) rfl (fun h => by cases h) (Nat.le_of_ble_eq_true rfl) ⟨0, rfl⟩ ?_
  refine J_hc0 (J_ls (ls2 := [some (.ref 0), some (.int (zI x))]) rfl ?_)
  refine J_iload_n dX11_image_0 rfl rfl ?_
  refine Z_if_lt (tgt := 9) dX11_image_1 (by decide) (v_b25fa51a85 q0) (fun h1 => ?_) (fun h1 => ?_)
  · refine J_aload_n dX11_image_9 rfl rfl ?_
    refine Z_iconst (n := -1) dX11_image_10 ?_
    refine J_callV (st := []) dX11_image_11 cv_X11_118 (b_refuse (-1) cst cfa cdk rfs v_ef59c9c3d8 v_646fb950f3 hk0 hk96) hk0 rfl rfl (Nat.le_of_ble_eq_true rfl) ⟨(Nat.le_of_ble_eq_true rfl), (Nat.le_of_ble_eq_true rfl)⟩ ⟨(Nat.le_of_ble_eq_true rfl), (Nat.le_of_ble_eq_true rfl)⟩ (fun r h9 hp => ?_)
    obtain ⟨f2, rfl, rfl⟩ := hp
    refine J_nf (nh2 := nh) (ck2 := 0) (sk2 := 0) (st2 := [.int (zI (-1))]) rfl rfl rfl rfl ?_
    refine J_app (L3 := [(0, .inr (11, [.ref 1, .ref 17, .ref 50, .ref 51, .ref 54, .ref 57, .ref 65, .ref 75, .ref 81, .ref 85, .ref 88, .ref 93, .ref 96, .int (zI (-1)), .int (zI cfa), .ref 97, .int (zI cdk)])), (96, .inl (0, 5, .inl (zA f2)))]) rfl ?_
    exact J_iret dX11_image_14 rfl rfl (Nat.le_of_ble_eq_true rfl) (Nat.le_of_ble_eq_true rfl) (Or.inl ⟨(-1), (-1), f2, rfl, rfl, (imr_lo (v_8b303f9981 h1)), (KbE.out (v_a59676701a h1) (v_7114a605be h1)), (v_a59676701a h1), (v_7114a605be h1)⟩)
  · refine J_iload_n dX11_image_4 rfl rfl ?_
    refine Z_iconst (n := 2) dX11_image_5 ?_
    refine Z_icmp_lt (tgt := 15) dX11_image_6 (by decide) (v_edc92e96e6 q0 h1) v_9ea63c5f56 (fun h3 => ?_) (fun h3 => ?_)
    · refine J_aload_n dX11_image_15 rfl rfl ?_
      refine J_get (v := .ref 17) dX11_image_16 fl_X11_16 hk0 rfl ?_
      refine J_iload_n dX11_image_19 rfl rfl ?_
      by_cases h4 : x = 0
      · refine Z_aald (i := x) (r := 18) dX11_image_20 hk17 rfl rfl (by decide) (v_b2d8922659 h1) (v_bc32b157de h4) (im17_0 (v_dc5709f228 h1 h4)) ?_
        refine J_aload_n dX11_image_21 rfl rfl ?_
        refine J_get (v := .ref 1) dX11_image_22 fl_X11_10 hk0 rfl ?_
        refine J_callV (st := []) dX11_image_25 cv_X11_314 (b_copyFrom_18_1 ff1 tf1 lf1 wa1 wb1 ca1 cb1 sa1 sb1 lc1 fo1 wc1 cc1 sc1 ff tf lf wa wb ca cb sa sb lc fo wc cc sc q3 q4 q5 q6 q7 q8 q9 q10 q11 q12 q13 q14 q15 q16 q17 q18 q19 q20 q21 q22 q23 hk18 hk19 hk20 hk21 hk28 hk29 hk30 hk31 hk32 hk33 hk1 hk2 hk3 hk4 hk11 hk12 hk13 hk14 hk15 hk16) hk18 rfl rfl (Nat.le_of_ble_eq_true rfl) ⟨(Nat.le_of_ble_eq_true rfl), (Nat.le_of_ble_eq_true rfl)⟩ ⟨(Nat.le_of_ble_eq_true rfl), (Nat.le_of_ble_eq_true rfl)⟩ (fun r h9 hp => ?_)
        obtain ⟨f7, f8, f9, f10, f11, f12, f13, f14, f15, rfl, rfl, h16, h17, h18, h19, h20, h21, h22, h23, h24, h25, h26, h27, h28, h29, h30, h31, h32, h33⟩ := hp
        refine J_nf (nh2 := nh) (ck2 := 0) (sk2 := 0) (st2 := []) rfl rfl rfl rfl ?_
        refine J_app (L3 := [(18, .inr (8, [.ref 19, .ref 20, .ref 21, .int (zI lc), .int (zI fo), .ref 28, .ref 29, .int (zI wc), .ref 30, .ref 31, .int (zI cc), .ref 32, .ref 33, .int (zI sc)])), (19, .inl (0, 5, .inl (zA f7))), (20, .inl (0, 2, .inl (zA f8))), (21, .inl (5, 6, .inr (.inr (.inr (.inr f9))))), (28, .inl (0, 8, .inl (zA f10))), (29, .inl (0, 8, .inl (zA f11))), (30, .inl (0, 6, .inl (zA f12))), (31, .inl (0, 6, .inl (zA f13))), (32, .inl (0, 12, .inl (zA f14))), (33, .inl (0, 12, .inl (zA f15)))]) rfl ?_
        refine J_aload_n dX11_image_28 rfl rfl ?_
        refine J_get (v := .ref 50) dX11_image_29 fl_X11_20 hk0 rfl ?_
        refine J_iload_n dX11_image_32 rfl rfl ?_
        refine Z_iconst (n := 1) dX11_image_33 ?_
        refine Y_zast (v := 1) 2 dX11_image_34 hk50 rfl (by decide) (v_b2d8922659 h1) (v_bc32b157de h4) v_316afd7d0b v_bbcfac9b7d (fun f34 ef34 => ?_)
        have h35 : Rg f34 2 0 1 := Rg.ups q66 ef34 v_316afd7d0b v_bbcfac9b7d
        refine J_aload_n dX11_image_35 rfl rfl ?_
        refine Z_iconst (n := 0) dX11_image_36 ?_
        refine J_callV (st := []) dX11_image_37 cv_X11_129 (b_accept 0 cst cfa cdk hk0) hk0 rfl rfl (Nat.le_of_ble_eq_true rfl) ⟨(Nat.le_of_ble_eq_true rfl), (Nat.le_of_ble_eq_true rfl)⟩ ⟨(Nat.le_of_ble_eq_true rfl), (Nat.le_of_ble_eq_true rfl)⟩ (fun r h9 hp => ?_)
        obtain ⟨rfl, rfl⟩ := hp
        refine J_nf (nh2 := nh) (ck2 := 0) (sk2 := 0) (st2 := [.int (zI 0)]) rfl rfl rfl rfl ?_
        refine J_app (L3 := [(0, .inr (11, [.ref 1, .ref 17, .ref 50, .ref 51, .ref 54, .ref 57, .ref 65, .ref 75, .ref 81, .ref 85, .ref 88, .ref 93, .ref 96, .int (zI 0), .int (zI cfa), .ref 97, .int (zI cdk)])), (50, .inl (2, 2, .inl (zA f34))), (18, .inr (8, [.ref 19, .ref 20, .ref 21, .int (zI lc), .int (zI fo), .ref 28, .ref 29, .int (zI wc), .ref 30, .ref 31, .int (zI cc), .ref 32, .ref 33, .int (zI sc)])), (19, .inl (0, 5, .inl (zA f7))), (20, .inl (0, 2, .inl (zA f8))), (21, .inl (5, 6, .inr (.inr (.inr (.inr f9))))), (28, .inl (0, 8, .inl (zA f10))), (29, .inl (0, 8, .inl (zA f11))), (30, .inl (0, 6, .inl (zA f12))), (31, .inl (0, 6, .inl (zA f13))), (32, .inl (0, 12, .inl (zA f14))), (33, .inl (0, 12, .inl (zA f15)))]) rfl ?_
        exact J_iret dX11_image_40 rfl rfl (Nat.le_of_ble_eq_true rfl) (Nat.le_of_ble_eq_true rfl) (Or.inr (Or.inl ⟨f7, f8, f9, f10, f11, f12, f13, f14, f15, 0, f34, rfl, rfl, h16, h17, h18, h19, h20, h21, h22, h23, h24, h25, h26, h35, (imr_in (v_b2d8922659 h1) (v_e327774f82 h4)), (KbE.up ef34 v_a0572702c4 v_0cde637f83), h4, h27, h28, h29, h30, h31, h32, h33⟩))
      · refine Z_aald (i := x) (r := 34) dX11_image_20 hk17 rfl rfl (by decide) (v_b2d8922659 h1) (v_5b5f59c0b7 h3) (im17_1 (v_e45b057d65 h1 h3 h4)) ?_
        refine J_aload_n dX11_image_21 rfl rfl ?_
        refine J_get (v := .ref 1) dX11_image_22 fl_X11_10 hk0 rfl ?_
        refine J_callV (st := []) dX11_image_25 cv_X11_314 (b_copyFrom_34_1 ff2 tf2 lf2 wa2 wb2 ca2 cb2 sa2 sb2 lc2 fo2 wc2 cc2 sc2 ff tf lf wa wb ca cb sa sb lc fo wc cc sc q3 q4 q5 q6 q7 q8 q9 q10 q11 q12 q13 q14 q15 q16 q17 q18 q19 q20 q21 q22 q23 hk34 hk35 hk36 hk37 hk44 hk45 hk46 hk47 hk48 hk49 hk1 hk2 hk3 hk4 hk11 hk12 hk13 hk14 hk15 hk16) hk34 rfl rfl (Nat.le_of_ble_eq_true rfl) ⟨(Nat.le_of_ble_eq_true rfl), (Nat.le_of_ble_eq_true rfl)⟩ ⟨(Nat.le_of_ble_eq_true rfl), (Nat.le_of_ble_eq_true rfl)⟩ (fun r h9 hp => ?_)
        obtain ⟨f38, f39, f40, f41, f42, f43, f44, f45, f46, rfl, rfl, h47, h48, h49, h50, h51, h52, h53, h54, h55, h56, h57, h58, h59, h60, h61, h62, h63, h64⟩ := hp
        refine J_nf (nh2 := nh) (ck2 := 0) (sk2 := 0) (st2 := []) rfl rfl rfl rfl ?_
        refine J_app (L3 := [(34, .inr (8, [.ref 35, .ref 36, .ref 37, .int (zI lc), .int (zI fo), .ref 44, .ref 45, .int (zI wc), .ref 46, .ref 47, .int (zI cc), .ref 48, .ref 49, .int (zI sc)])), (35, .inl (0, 5, .inl (zA f38))), (36, .inl (0, 2, .inl (zA f39))), (37, .inl (5, 6, .inr (.inr (.inr (.inr f40))))), (44, .inl (0, 8, .inl (zA f41))), (45, .inl (0, 8, .inl (zA f42))), (46, .inl (0, 6, .inl (zA f43))), (47, .inl (0, 6, .inl (zA f44))), (48, .inl (0, 12, .inl (zA f45))), (49, .inl (0, 12, .inl (zA f46)))]) rfl ?_
        refine J_aload_n dX11_image_28 rfl rfl ?_
        refine J_get (v := .ref 50) dX11_image_29 fl_X11_20 hk0 rfl ?_
        refine J_iload_n dX11_image_32 rfl rfl ?_
        refine Z_iconst (n := 1) dX11_image_33 ?_
        refine Y_zast (v := 1) 2 dX11_image_34 hk50 rfl (by decide) (v_b2d8922659 h1) (v_5b5f59c0b7 h3) v_316afd7d0b v_bbcfac9b7d (fun f65 ef65 => ?_)
        have h66 : Rg f65 2 0 1 := Rg.ups q66 ef65 v_316afd7d0b v_bbcfac9b7d
        refine J_aload_n dX11_image_35 rfl rfl ?_
        refine Z_iconst (n := 0) dX11_image_36 ?_
        refine J_callV (st := []) dX11_image_37 cv_X11_129 (b_accept 0 cst cfa cdk hk0) hk0 rfl rfl (Nat.le_of_ble_eq_true rfl) ⟨(Nat.le_of_ble_eq_true rfl), (Nat.le_of_ble_eq_true rfl)⟩ ⟨(Nat.le_of_ble_eq_true rfl), (Nat.le_of_ble_eq_true rfl)⟩ (fun r h9 hp => ?_)
        obtain ⟨rfl, rfl⟩ := hp
        refine J_nf (nh2 := nh) (ck2 := 0) (sk2 := 0) (st2 := [.int (zI 0)]) rfl rfl rfl rfl ?_
        refine J_app (L3 := [(0, .inr (11, [.ref 1, .ref 17, .ref 50, .ref 51, .ref 54, .ref 57, .ref 65, .ref 75, .ref 81, .ref 85, .ref 88, .ref 93, .ref 96, .int (zI 0), .int (zI cfa), .ref 97, .int (zI cdk)])), (50, .inl (2, 2, .inl (zA f65))), (34, .inr (8, [.ref 35, .ref 36, .ref 37, .int (zI lc), .int (zI fo), .ref 44, .ref 45, .int (zI wc), .ref 46, .ref 47, .int (zI cc), .ref 48, .ref 49, .int (zI sc)])), (35, .inl (0, 5, .inl (zA f38))), (36, .inl (0, 2, .inl (zA f39))), (37, .inl (5, 6, .inr (.inr (.inr (.inr f40))))), (44, .inl (0, 8, .inl (zA f41))), (45, .inl (0, 8, .inl (zA f42))), (46, .inl (0, 6, .inl (zA f43))), (47, .inl (0, 6, .inl (zA f44))), (48, .inl (0, 12, .inl (zA f45))), (49, .inl (0, 12, .inl (zA f46)))]) rfl ?_
        exact J_iret dX11_image_40 rfl rfl (Nat.le_of_ble_eq_true rfl) (Nat.le_of_ble_eq_true rfl) (Or.inr (Or.inr ⟨f38, f39, f40, f41, f42, f43, f44, f45, f46, 0, f65, rfl, rfl, h47, h48, h49, h50, h51, h52, h53, h54, h55, h56, h57, h66, (imr_in (v_b2d8922659 h1) (v_a42a1d70ec h3)), (KbE.up ef65 v_a0572702c4 v_0cde637f83), (v_e45b057d65 h1 h3 h4), h58, h59, h60, h61, h62, h63, h64⟩))
    · refine J_aload_n dX11_image_9 rfl rfl ?_
      refine Z_iconst (n := -1) dX11_image_10 ?_
      refine J_callV (st := []) dX11_image_11 cv_X11_118 (b_refuse (-1) cst cfa cdk rfs v_ef59c9c3d8 v_646fb950f3 hk0 hk96) hk0 rfl rfl (Nat.le_of_ble_eq_true rfl) ⟨(Nat.le_of_ble_eq_true rfl), (Nat.le_of_ble_eq_true rfl)⟩ ⟨(Nat.le_of_ble_eq_true rfl), (Nat.le_of_ble_eq_true rfl)⟩ (fun r h9 hp => ?_)
      obtain ⟨f67, rfl, rfl⟩ := hp
      refine J_nf (nh2 := nh) (ck2 := 0) (sk2 := 0) (st2 := [.int (zI (-1))]) rfl rfl rfl rfl ?_
      refine J_app (L3 := [(0, .inr (11, [.ref 1, .ref 17, .ref 50, .ref 51, .ref 54, .ref 57, .ref 65, .ref 75, .ref 81, .ref 85, .ref 88, .ref 93, .ref 96, .int (zI (-1)), .int (zI cfa), .ref 97, .int (zI cdk)])), (96, .inl (0, 5, .inl (zA f67)))]) rfl ?_
      exact J_iret dX11_image_14 rfl rfl (Nat.le_of_ble_eq_true rfl) (Nat.le_of_ble_eq_true rfl) (Or.inl ⟨(-1), (-1), f67, rfl, rfl, (imr_hi (v_e118ab036c h3)), (KbE.out (v_e4b1ea782a h3) (v_0c7470c7ee h3)), (v_e4b1ea782a h3), (v_0c7470c7ee h3)⟩)
set_option maxHeartbeats 4000000 in
set_option maxRecDepth 100000 in
theorem b_back {l : Launch} {G : jG} {nh : Nat} {fh : Nat → Option va_E} (x : Int) (cst : Int) (cfa : Int) (cdk : Int) (ff : Int → Int) (tf : Int → Int) (lf : Nat → Option Nat) (wa : Int → Int) (wb : Int → Int) (ca : Int → Int) (cb : Int → Int) (sa : Int → Int) (sb : Int → Int) (lc : Int) (fo : Int) (wc : Int) (cc : Int) (sc : Int) (many : Int) (places : Int) (rf : Int → Int) (bf : Int → Int) (ks : Nat) (ve : Int) (ss : Int) (vs : Int) (ht : Int) (br : Int) (hl : Int) (le : Int) (ba : Int) (tk : Int) (wf : Int → Int) (kf : Int → Int) (nf : Int → Int) (df : Int → Int) (sf : Int → Int) (ns : Int) (vf : Int → Int) (rfs : Int → Int) (ff1 : Int → Int) (tf1 : Int → Int) (lf1 : Nat → Option Nat) (wa1 : Int → Int) (wb1 : Int → Int) (ca1 : Int → Int) (cb1 : Int → Int) (sa1 : Int → Int) (sb1 : Int → Int) (lc1 : Int) (fo1 : Int) (wc1 : Int) (cc1 : Int) (sc1 : Int) (ff2 : Int → Int) (tf2 : Int → Int) (lf2 : Nat → Option Nat) (wa2 : Int → Int) (wb2 : Int → Int) (ca2 : Int → Int) (cb2 : Int → Int) (sa2 : Int → Int) (sb2 : Int → Int) (lc2 : Int) (fo2 : Int) (wc2 : Int) (cc2 : Int) (sc2 : Int) (kb : Int → Int) (q0 : zr x) (q1 : 0 ≤ cdk) (q2 : cdk ≤ 1) (q3 : okF ff) (q4 : 0 ≤ lc) (q5 : lc ≤ 6) (q6 : -1 ≤ fo) (q7 : fo < lc) (q8 : 0 ≤ wc) (q9 : wc ≤ 8) (q10 : 0 ≤ cc) (q11 : cc ≤ 6) (q12 : 0 ≤ sc) (q13 : sc ≤ 12) (q14 : Rg tf 2 (-2147483648) 2147483647) (q15 : Rg wa 8 (-2147483648) 2147483647) (q16 : Rg wb 8 (-2147483648) 2147483647) (q17 : Rg ca 6 (-2147483648) 2147483647) (q18 : Rg ca cc 0 (Hi ff - 1)) (q19 : Rg cb 6 (-2147483648) 2147483647) (q20 : Rg sa 12 0 6) (q21 : Rg sb 12 0 6) (q22 : Rg ff 5 (-2147483648) 2147483647) (q23 : LawsIn fh lf) (q24 : 1 ≤ many) (q25 : many ≤ 1260) (q26 : 0 ≤ places) (q27 : places ≤ 7) (q28 : many = Hi ff) (q29 : places = bsum ff) (q30 : RowsTo rf ff many) (q31 : Rg rf 1260 (-2147483648) 2147483647) (q32 : Rg bf 7 0 4) (q33 : Fx ks) (q34 : NLt ks nh) (q35 : NLe 135 nh) (q36 : 0 ≤ ss) (q37 : ss ≤ 1) (q38 : 0 ≤ vs) (q39 : vs ≤ 1) (q40 : 0 ≤ ve) (q41 : ve ≤ 10000) (q42 : Rg vf 2625 0 99) (q43 : 0 ≤ ns) (q44 : ns ≤ 60000) (q45 : Rg wf 8 (-2147483648) 2147483647) (q46 : Rg sf ns (-2147483648) 2147483647) (q47 : ss = 0 → 22 * many ≤ ns ∧ StOK df sf many) (q48 : 0 ≤ ht) (q49 : ht ≤ 64) (q50 : 0 ≤ br) (q51 : br ≤ 1) (q52 : 0 ≤ hl) (q53 : hl ≤ 1) (q54 : 0 ≤ le) (q55 : le ≤ 1) (q56 : 0 ≤ ba) (q57 : ba ≤ 1) (q58 : 1 ≤ tk) (q59 : tk ≤ 99) (q60 : okF ff1) (q61 : 0 ≤ lc1) (q62 : lc1 ≤ 6) (q63 : -1 ≤ fo1) (q64 : fo1 < lc1) (q65 : 0 ≤ wc1) (q66 : wc1 ≤ 8) (q67 : 0 ≤ cc1) (q68 : cc1 ≤ 6) (q69 : 0 ≤ sc1) (q70 : sc1 ≤ 12) (q71 : Rg tf1 2 (-2147483648) 2147483647) (q72 : Rg wa1 8 (-2147483648) 2147483647) (q73 : Rg wb1 8 (-2147483648) 2147483647) (q74 : Rg ca1 6 (-2147483648) 2147483647) (q75 : Rg ca1 cc1 0 (Hi ff1 - 1)) (q76 : Rg cb1 6 (-2147483648) 2147483647) (q77 : Rg sa1 12 0 6) (q78 : Rg sb1 12 0 6) (q79 : Rg ff1 5 (-2147483648) 2147483647) (q80 : LawsIn fh lf1) (q81 : okF ff2) (q82 : 0 ≤ lc2) (q83 : lc2 ≤ 6) (q84 : -1 ≤ fo2) (q85 : fo2 < lc2) (q86 : 0 ≤ wc2) (q87 : wc2 ≤ 8) (q88 : 0 ≤ cc2) (q89 : cc2 ≤ 6) (q90 : 0 ≤ sc2) (q91 : sc2 ≤ 12) (q92 : Rg tf2 2 (-2147483648) 2147483647) (q93 : Rg wa2 8 (-2147483648) 2147483647) (q94 : Rg wb2 8 (-2147483648) 2147483647) (q95 : Rg ca2 6 (-2147483648) 2147483647) (q96 : Rg ca2 cc2 0 (Hi ff2 - 1)) (q97 : Rg cb2 6 (-2147483648) 2147483647) (q98 : Rg sa2 12 0 6) (q99 : Rg sb2 12 0 6) (q100 : Rg ff2 5 (-2147483648) 2147483647) (q101 : LawsIn fh lf2) (q102 : Rg kb 2 0 1) (hk0 : fh 0 = some (.inr (11, [.ref 1, .ref 17, .ref 50, .ref 51, .ref 54, .ref 57, .ref 65, .ref 75, .ref 81, .ref 85, .ref 88, .ref 93, .ref 96, .int (zI cst), .int (zI cfa), .ref 97, .int (zI cdk)]))) (hk1 : fh 1 = some (.inr (8, [.ref 2, .ref 3, .ref 4, .int (zI lc), .int (zI fo), .ref 11, .ref 12, .int (zI wc), .ref 13, .ref 14, .int (zI cc), .ref 15, .ref 16, .int (zI sc)]))) (hk2 : fh 2 = some (.inl (0, 5, .inl (zA ff)))) (hk3 : fh 3 = some (.inl (0, 2, .inl (zA tf)))) (hk4 : fh 4 = some (.inl (5, 6, .inr (.inr (.inr (.inr lf)))))) (hk11 : fh 11 = some (.inl (0, 8, .inl (zA wa)))) (hk12 : fh 12 = some (.inl (0, 8, .inl (zA wb)))) (hk13 : fh 13 = some (.inl (0, 6, .inl (zA ca)))) (hk14 : fh 14 = some (.inl (0, 6, .inl (zA cb)))) (hk15 : fh 15 = some (.inl (0, 12, .inl (zA sa)))) (hk16 : fh 16 = some (.inl (0, 12, .inl (zA sb)))) (hk51 : fh 51 = some (.inr (0, [.ref 52, .ref 53, .int (zI many), .int (zI places)]))) (hk52 : fh 52 = some (.inl (0, 1260, .inl (zA rf)))) (hk53 : fh 53 = some (.inl (0, 7, .inl (zA bf)))) (hk57 : fh 57 = some (.inr (9, [.ref 1, .ref 51, .ref 58, .ref 61, .ref 62, .ref ks, .ref 64, .int (zI ve), .int (zI ss), .int (zI vs)]))) (hk58 : fh 58 = some (.inr (1, [.ref 59, .ref 60, .int (zI ht), .int (zI br), .int (zI hl), .int (zI le), .int (zI ba), .int (zI tk)]))) (hk59 : fh 59 = some (.inl (0, 8, .inl (zA wf)))) (hk60 : fh 60 = some (.inl (1, 64, .inr (.inl (zAL kf))))) (hk61 : fh 61 = some (.inl (0, 0, .inl (zA nf)))) (hk62 : fh 62 = some (.inl (0, 1260, .inl (zA df)))) (hkks : fh ks = some (.inl (0, (ns).toNat, .inl (zA sf)))) (hk64 : fh 64 = some (.inl (0, 2625, .inl (zA vf)))) (hk96 : fh 96 = some (.inl (0, 5, .inl (zA rfs)))) (hk18 : fh 18 = some (.inr (8, [.ref 19, .ref 20, .ref 21, .int (zI lc1), .int (zI fo1), .ref 28, .ref 29, .int (zI wc1), .ref 30, .ref 31, .int (zI cc1), .ref 32, .ref 33, .int (zI sc1)]))) (hk19 : fh 19 = some (.inl (0, 5, .inl (zA ff1)))) (hk20 : fh 20 = some (.inl (0, 2, .inl (zA tf1)))) (hk21 : fh 21 = some (.inl (5, 6, .inr (.inr (.inr (.inr lf1)))))) (hk28 : fh 28 = some (.inl (0, 8, .inl (zA wa1)))) (hk29 : fh 29 = some (.inl (0, 8, .inl (zA wb1)))) (hk30 : fh 30 = some (.inl (0, 6, .inl (zA ca1)))) (hk31 : fh 31 = some (.inl (0, 6, .inl (zA cb1)))) (hk32 : fh 32 = some (.inl (0, 12, .inl (zA sa1)))) (hk33 : fh 33 = some (.inl (0, 12, .inl (zA sb1)))) (hk34 : fh 34 = some (.inr (8, [.ref 35, .ref 36, .ref 37, .int (zI lc2), .int (zI fo2), .ref 44, .ref 45, .int (zI wc2), .ref 46, .ref 47, .int (zI cc2), .ref 48, .ref 49, .int (zI sc2)]))) (hk35 : fh 35 = some (.inl (0, 5, .inl (zA ff2)))) (hk36 : fh 36 = some (.inl (0, 2, .inl (zA tf2)))) (hk37 : fh 37 = some (.inl (5, 6, .inr (.inr (.inr (.inr lf2)))))) (hk44 : fh 44 = some (.inl (0, 8, .inl (zA wa2)))) (hk45 : fh 45 = some (.inl (0, 8, .inl (zA wb2)))) (hk46 : fh 46 = some (.inl (0, 6, .inl (zA ca2)))) (hk47 : fh 47 = some (.inl (0, 6, .inl (zA cb2)))) (hk48 : fh 48 = some (.inl (0, 12, .inl (zA sa2)))) (hk49 : fh 49 = some (.inl (0, 12, .inl (zA sb2)))) (hk17 : fh 17 = some (.inl (4, 2, .inr (.inr (.inr (.inr im17)))))) (hk50 : fh 50 = some (.inl (2, 2, .inl (zA kb)))) : JM l G yX11_back MX11_back { frames := 3, cells := 0, slots := 0, locals := 82 } [.ref 0, .int (zI x)] (nh, fh) (fun rr h9 => (∃ r : Int, ∃ cst2 : Int, ∃ rfs2 : Int → Int, rr = some (.int (zI r)) ∧ h9 = (nh, hc fh [(0, .inr (11, [.ref 1, .ref 17, .ref 50, .ref 51, .ref 54, .ref 57, .ref 65, .ref 75, .ref 81, .ref 85, .ref 88, .ref 93, .ref 96, .int (zI cst2), .int (zI cfa), .ref 97, .int (zI cdk)])), (96, .inl (0, 5, .inl (zA rfs2)))]) ∧ (r = bkr x (kb 0) (kb 1)) ∧ (r < 0)) ∨ (∃ ff9 : Int → Int, ∃ tf9 : Int → Int, ∃ lf9 : Nat → Option Nat, ∃ wa9 : Int → Int, ∃ wb9 : Int → Int, ∃ ca9 : Int → Int, ∃ cb9 : Int → Int, ∃ sa9 : Int → Int, ∃ sb9 : Int → Int, ∃ many2 : Int, ∃ places2 : Int, ∃ rf2 : Int → Int, ∃ bf2 : Int → Int, rr = some (.int (zI 0)) ∧ h9 = (nh, hc fh [(0, .inr (11, [.ref 1, .ref 17, .ref 50, .ref 51, .ref 54, .ref 57, .ref 65, .ref 75, .ref 81, .ref 85, .ref 88, .ref 93, .ref 96, .int (zI 0), .int (zI cfa), .ref 97, .int (zI cdk)])), (51, .inr (0, [.ref 52, .ref 53, .int (zI many2), .int (zI places2)])), (52, .inl (0, 1260, .inl (zA rf2))), (53, .inl (0, 7, .inl (zA bf2))), (57, .inr (9, [.ref 1, .ref 51, .ref 58, .ref 61, .ref 62, .ref ks, .ref 64, .int (zI (ve + 1)), .int (zI 1), .int (zI 1)])), (1, .inr (8, [.ref 2, .ref 3, .ref 4, .int (zI lc1), .int (zI fo1), .ref 11, .ref 12, .int (zI wc1), .ref 13, .ref 14, .int (zI cc1), .ref 15, .ref 16, .int (zI sc1)])), (2, .inl (0, 5, .inl (zA ff9))), (3, .inl (0, 2, .inl (zA tf9))), (4, .inl (5, 6, .inr (.inr (.inr (.inr lf9))))), (11, .inl (0, 8, .inl (zA wa9))), (12, .inl (0, 8, .inl (zA wb9))), (13, .inl (0, 6, .inl (zA ca9))), (14, .inl (0, 6, .inl (zA cb9))), (15, .inl (0, 12, .inl (zA sa9))), (16, .inl (0, 12, .inl (zA sb9)))]) ∧ (Cp5 ff9 ff1) ∧ (LwC lf9 lf1 6) ∧ (Rg tf9 2 (-2147483648) 2147483647) ∧ (Rg wa9 8 (-2147483648) 2147483647) ∧ (Rg wb9 8 (-2147483648) 2147483647) ∧ (Rg ca9 6 (-2147483648) 2147483647) ∧ (Rg ca9 cc1 0 (Hi ff1 - 1)) ∧ (Rg cb9 6 (-2147483648) 2147483647) ∧ (Rg sa9 12 0 6) ∧ (Rg sb9 12 0 6) ∧ (Rg ff9 5 (-2147483648) 2147483647) ∧ (okF ff9) ∧ (many2 = Hi ff9) ∧ (places2 = bsum ff9) ∧ (RowsTo rf2 ff9 many2) ∧ (Rg rf2 1260 (-2147483648) 2147483647) ∧ (Rg bf2 7 0 4) ∧ (1 ≤ many2) ∧ (many2 ≤ 1260) ∧ (0 ≤ places2) ∧ (places2 ≤ 7) ∧ (0 = bkr x (kb 0) (kb 1)) ∧ (x = 0) ∧ (EqN tf9 tf1 2) ∧ (EqN wa9 wa1 8) ∧ (EqN wb9 wb1 8) ∧ (EqN ca9 ca1 6) ∧ (EqN cb9 cb1 6) ∧ (EqN sa9 sa1 12) ∧ (EqN sb9 sb1 12)) ∨ (∃ ff9 : Int → Int, ∃ tf9 : Int → Int, ∃ lf9 : Nat → Option Nat, ∃ wa9 : Int → Int, ∃ wb9 : Int → Int, ∃ ca9 : Int → Int, ∃ cb9 : Int → Int, ∃ sa9 : Int → Int, ∃ sb9 : Int → Int, ∃ many2 : Int, ∃ places2 : Int, ∃ rf2 : Int → Int, ∃ bf2 : Int → Int, rr = some (.int (zI 0)) ∧ h9 = (nh, hc fh [(0, .inr (11, [.ref 1, .ref 17, .ref 50, .ref 51, .ref 54, .ref 57, .ref 65, .ref 75, .ref 81, .ref 85, .ref 88, .ref 93, .ref 96, .int (zI 0), .int (zI cfa), .ref 97, .int (zI cdk)])), (51, .inr (0, [.ref 52, .ref 53, .int (zI many2), .int (zI places2)])), (52, .inl (0, 1260, .inl (zA rf2))), (53, .inl (0, 7, .inl (zA bf2))), (57, .inr (9, [.ref 1, .ref 51, .ref 58, .ref 61, .ref 62, .ref ks, .ref 64, .int (zI (ve + 1)), .int (zI 1), .int (zI 1)])), (1, .inr (8, [.ref 2, .ref 3, .ref 4, .int (zI lc2), .int (zI fo2), .ref 11, .ref 12, .int (zI wc2), .ref 13, .ref 14, .int (zI cc2), .ref 15, .ref 16, .int (zI sc2)])), (2, .inl (0, 5, .inl (zA ff9))), (3, .inl (0, 2, .inl (zA tf9))), (4, .inl (5, 6, .inr (.inr (.inr (.inr lf9))))), (11, .inl (0, 8, .inl (zA wa9))), (12, .inl (0, 8, .inl (zA wb9))), (13, .inl (0, 6, .inl (zA ca9))), (14, .inl (0, 6, .inl (zA cb9))), (15, .inl (0, 12, .inl (zA sa9))), (16, .inl (0, 12, .inl (zA sb9)))]) ∧ (Cp5 ff9 ff2) ∧ (LwC lf9 lf2 6) ∧ (Rg tf9 2 (-2147483648) 2147483647) ∧ (Rg wa9 8 (-2147483648) 2147483647) ∧ (Rg wb9 8 (-2147483648) 2147483647) ∧ (Rg ca9 6 (-2147483648) 2147483647) ∧ (Rg ca9 cc2 0 (Hi ff2 - 1)) ∧ (Rg cb9 6 (-2147483648) 2147483647) ∧ (Rg sa9 12 0 6) ∧ (Rg sb9 12 0 6) ∧ (Rg ff9 5 (-2147483648) 2147483647) ∧ (okF ff9) ∧ (many2 = Hi ff9) ∧ (places2 = bsum ff9) ∧ (RowsTo rf2 ff9 many2) ∧ (Rg rf2 1260 (-2147483648) 2147483647) ∧ (Rg bf2 7 0 4) ∧ (1 ≤ many2) ∧ (many2 ≤ 1260) ∧ (0 ≤ places2) ∧ (places2 ≤ 7) ∧ (0 = bkr x (kb 0) (kb 1)) ∧ (x = 1) ∧ (EqN tf9 tf2 2) ∧ (EqN wa9 wa2 8) ∧ (EqN wb9 wb2 8) ∧ (EqN ca9 ca2 6) ∧ (EqN cb9 cb2 6) ∧ (EqN sa9 sa2 12) ∧ (EqN sb9 sb2 12))) := by
  refine JM.of (by decide) rfl (fun h => by cases h) (Nat.le_of_ble_eq_true rfl) ⟨0, rfl⟩ ?_
  refine J_hc0 (J_ls (ls2 := [some (.ref 0), some (.int (zI x))]) rfl ?_)
  refine J_iload_n dX11_back_0 rfl rfl ?_
  refine Z_if_lt (tgt := 9) dX11_back_1 (by decide) (v_b25fa51a85 q0) (fun h1 => ?_) (fun h1 => ?_)
  · refine J_aload_n dX11_back_9 rfl rfl ?_
    refine Z_iconst (n := -1) dX11_back_10 ?_
    refine J_callV (st := []) dX11_back_11 cv_X11_118 (b_refuse (-1) cst cfa cdk rfs v_ef59c9c3d8 v_646fb950f3 hk0 hk96) hk0 rfl rfl (Nat.le_of_ble_eq_true rfl) ⟨(Nat.le_of_ble_eq_true rfl), (Nat.le_of_ble_eq_true rfl)⟩ ⟨(Nat.le_of_ble_eq_true rfl), (Nat.le_of_ble_eq_true rfl)⟩ (fun r h9 hp => ?_)
    obtain ⟨f2, rfl, rfl⟩ := hp
    refine J_nf (nh2 := nh) (ck2 := 0) (sk2 := 0) (st2 := [.int (zI (-1))]) rfl rfl rfl rfl ?_
    refine J_app (L3 := [(0, .inr (11, [.ref 1, .ref 17, .ref 50, .ref 51, .ref 54, .ref 57, .ref 65, .ref 75, .ref 81, .ref 85, .ref 88, .ref 93, .ref 96, .int (zI (-1)), .int (zI cfa), .ref 97, .int (zI cdk)])), (96, .inl (0, 5, .inl (zA f2)))]) rfl ?_
    exact J_iret dX11_back_14 rfl rfl (Nat.le_of_ble_eq_true rfl) (Nat.le_of_ble_eq_true rfl) (Or.inl ⟨(-1), (-1), f2, rfl, rfl, (bkr_lo (v_8b303f9981 h1)), v_d1c0671cae⟩)
  · refine J_iload_n dX11_back_4 rfl rfl ?_
    refine Z_iconst (n := 2) dX11_back_5 ?_
    refine Z_icmp_lt (tgt := 15) dX11_back_6 (by decide) (v_edc92e96e6 q0 h1) v_9ea63c5f56 (fun h3 => ?_) (fun h3 => ?_)
    · refine J_aload_n dX11_back_15 rfl rfl ?_
      refine J_get (v := .ref 50) dX11_back_16 fl_X11_20 hk0 rfl ?_
      refine J_iload_n dX11_back_19 rfl rfl ?_
      obtain ⟨z4, ez4⟩ : ∃ z : Int, kb x = z := ⟨_, rfl⟩
      have h5 := Rg.at q102 (v_b2d8922659 h1) (v_5b5f59c0b7 h3) ez4
      refine Y_zald (z := z4) 2 dX11_back_20 hk50 rfl (by decide) (v_b2d8922659 h1) (v_5b5f59c0b7 h3) ez4 ?_
      refine Z_if_ne (tgt := 31) dX11_back_21 (by decide) (v_5f10a759cd h5.1 h5.2) (fun h6 => ?_) (fun h6 => ?_)
      · refine J_aload_n dX11_back_31 rfl rfl ?_
        refine J_get (v := .ref 1) dX11_back_32 fl_X11_10 hk0 rfl ?_
        refine J_aload_n dX11_back_35 rfl rfl ?_
        refine J_get (v := .ref 17) dX11_back_36 fl_X11_16 hk0 rfl ?_
        refine J_iload_n dX11_back_39 rfl rfl ?_
        by_cases h7 : x = 0
        · refine Z_aald (i := x) (r := 18) dX11_back_40 hk17 rfl rfl (by decide) (v_b2d8922659 h1) (v_bc32b157de h7) (im17_0 (v_dc5709f228 h1 h7)) ?_
          refine J_callV (st := []) dX11_back_41 cv_X11_314 (b_copyFrom_1_18 ff tf lf wa wb ca cb sa sb lc fo wc cc sc ff1 tf1 lf1 wa1 wb1 ca1 cb1 sa1 sb1 lc1 fo1 wc1 cc1 sc1 q60 q61 q62 q63 q64 q65 q66 q67 q68 q69 q70 q71 q72 q73 q74 q75 q76 q77 q78 q79 q80 hk1 hk2 hk3 hk4 hk11 hk12 hk13 hk14 hk15 hk16 hk18 hk19 hk20 hk21 hk28 hk29 hk30 hk31 hk32 hk33) hk1 rfl rfl (Nat.le_of_ble_eq_true rfl) ⟨(Nat.le_of_ble_eq_true rfl), (Nat.le_of_ble_eq_true rfl)⟩ ⟨(Nat.le_of_ble_eq_true rfl), (Nat.le_of_ble_eq_true rfl)⟩ (fun r h9 hp => ?_)
          obtain ⟨f10, f11, f12, f13, f14, f15, f16, f17, f18, rfl, rfl, h19, h20, h21, h22, h23, h24, h25, h26, h27, h28, h29, h30, h31, h32, h33, h34, h35, h36⟩ := hp
          refine J_nf (nh2 := nh) (ck2 := 0) (sk2 := 0) (st2 := []) rfl rfl rfl rfl ?_
          refine J_app (L3 := [(1, .inr (8, [.ref 2, .ref 3, .ref 4, .int (zI lc1), .int (zI fo1), .ref 11, .ref 12, .int (zI wc1), .ref 13, .ref 14, .int (zI cc1), .ref 15, .ref 16, .int (zI sc1)])), (2, .inl (0, 5, .inl (zA f10))), (3, .inl (0, 2, .inl (zA f11))), (4, .inl (5, 6, .inr (.inr (.inr (.inr f12))))), (11, .inl (0, 8, .inl (zA f13))), (12, .inl (0, 8, .inl (zA f14))), (13, .inl (0, 6, .inl (zA f15))), (14, .inl (0, 6, .inl (zA f16))), (15, .inl (0, 12, .inl (zA f17))), (16, .inl (0, 12, .inl (zA f18)))]) rfl ?_
          refine J_aload_n dX11_back_44 rfl rfl ?_
          refine J_get (v := .ref 51) dX11_back_45 fl_X11_27 hk0 rfl ?_
          refine J_aload_n dX11_back_48 rfl rfl ?_
          refine J_get (v := .ref 1) dX11_back_49 fl_X11_10 hk0 rfl ?_
          refine J_get (v := .ref 2) dX11_back_52 fl_X11_111 rfl rfl ?_
          refine J_callV (st := []) dX11_back_55 cv_X11_114 (g_settle f10 bf rf many places (okF_same q60 h19) q32 q31 rfl hk51 hk53 hk52) hk51 rfl rfl (Nat.le_of_ble_eq_true rfl) ⟨(Nat.le_of_ble_eq_true rfl), (Nat.le_of_ble_eq_true rfl)⟩ ⟨(Nat.le_of_ble_eq_true rfl), (Nat.le_of_ble_eq_true rfl)⟩ (fun r h9 hp => ?_)
          obtain ⟨f37, f38, z39, z40, rfl, rfl, h41, h42, h43, h44, h45⟩ := hp
          refine J_nf (nh2 := nh) (ck2 := 0) (sk2 := 0) (st2 := []) rfl rfl rfl rfl ?_
          refine J_app (L3 := [(51, .inr (0, [.ref 52, .ref 53, .int (zI z39), .int (zI z40)])), (52, .inl (0, 1260, .inl (zA f38))), (53, .inl (0, 7, .inl (zA f37))), (1, .inr (8, [.ref 2, .ref 3, .ref 4, .int (zI lc1), .int (zI fo1), .ref 11, .ref 12, .int (zI wc1), .ref 13, .ref 14, .int (zI cc1), .ref 15, .ref 16, .int (zI sc1)])), (2, .inl (0, 5, .inl (zA f10))), (3, .inl (0, 2, .inl (zA f11))), (4, .inl (5, 6, .inr (.inr (.inr (.inr f12))))), (11, .inl (0, 8, .inl (zA f13))), (12, .inl (0, 8, .inl (zA f14))), (13, .inl (0, 6, .inl (zA f15))), (14, .inl (0, 6, .inl (zA f16))), (15, .inl (0, 12, .inl (zA f17))), (16, .inl (0, 12, .inl (zA f18)))]) rfl ?_
          have g46 : (1 ≤ z39 ∧ z39 ≤ 1260) ∧ 0 ≤ z40 ∧ z40 ≤ 7 := by rw [h43, h44]; exact ⟨Hi_rng (okF_same q60 h19), bsum_rng (okF_same q60 h19)⟩
          refine J_aload_n dX11_back_58 rfl rfl ?_
          refine J_get (v := .ref 57) dX11_back_59 fl_X11_43 hk0 rfl ?_
          refine J_callV (st := []) dX11_back_62 cv_X11_148 (t_changeAll ks ve ss vs (v_72438f5f82 q40 q41) (v_c8d7785628 q41) hk57) hk57 rfl rfl (Nat.le_of_ble_eq_true rfl) ⟨(Nat.le_of_ble_eq_true rfl), (Nat.le_of_ble_eq_true rfl)⟩ ⟨(Nat.le_of_ble_eq_true rfl), (Nat.le_of_ble_eq_true rfl)⟩ (fun r h9 hp => ?_)
          obtain ⟨rfl, rfl⟩ := hp
          refine J_nf (nh2 := nh) (ck2 := 0) (sk2 := 0) (st2 := []) rfl rfl rfl rfl ?_
          refine J_app (L3 := [(57, .inr (9, [.ref 1, .ref 51, .ref 58, .ref 61, .ref 62, .ref ks, .ref 64, .int (zI (ve + 1)), .int (zI 1), .int (zI 1)])), (51, .inr (0, [.ref 52, .ref 53, .int (zI z39), .int (zI z40)])), (52, .inl (0, 1260, .inl (zA f38))), (53, .inl (0, 7, .inl (zA f37))), (1, .inr (8, [.ref 2, .ref 3, .ref 4, .int (zI lc1), .int (zI fo1), .ref 11, .ref 12, .int (zI wc1), .ref 13, .ref 14, .int (zI cc1), .ref 15, .ref 16, .int (zI sc1)])), (2, .inl (0, 5, .inl (zA f10))), (3, .inl (0, 2, .inl (zA f11))), (4, .inl (5, 6, .inr (.inr (.inr (.inr f12))))), (11, .inl (0, 8, .inl (zA f13))), (12, .inl (0, 8, .inl (zA f14))), (13, .inl (0, 6, .inl (zA f15))), (14, .inl (0, 6, .inl (zA f16))), (15, .inl (0, 12, .inl (zA f17))), (16, .inl (0, 12, .inl (zA f18)))]) rfl ?_
          refine J_aload_n dX11_back_65 rfl rfl ?_
          refine Z_iconst (n := 0) dX11_back_66 ?_
          refine J_callV (st := []) dX11_back_67 cv_X11_129 (b_accept 0 cst cfa cdk hk0) hk0 rfl rfl (Nat.le_of_ble_eq_true rfl) ⟨(Nat.le_of_ble_eq_true rfl), (Nat.le_of_ble_eq_true rfl)⟩ ⟨(Nat.le_of_ble_eq_true rfl), (Nat.le_of_ble_eq_true rfl)⟩ (fun r h9 hp => ?_)
          obtain ⟨rfl, rfl⟩ := hp
          refine J_nf (nh2 := nh) (ck2 := 0) (sk2 := 0) (st2 := [.int (zI 0)]) rfl rfl rfl rfl ?_
          refine J_app (L3 := [(0, .inr (11, [.ref 1, .ref 17, .ref 50, .ref 51, .ref 54, .ref 57, .ref 65, .ref 75, .ref 81, .ref 85, .ref 88, .ref 93, .ref 96, .int (zI 0), .int (zI cfa), .ref 97, .int (zI cdk)])), (57, .inr (9, [.ref 1, .ref 51, .ref 58, .ref 61, .ref 62, .ref ks, .ref 64, .int (zI (ve + 1)), .int (zI 1), .int (zI 1)])), (51, .inr (0, [.ref 52, .ref 53, .int (zI z39), .int (zI z40)])), (52, .inl (0, 1260, .inl (zA f38))), (53, .inl (0, 7, .inl (zA f37))), (1, .inr (8, [.ref 2, .ref 3, .ref 4, .int (zI lc1), .int (zI fo1), .ref 11, .ref 12, .int (zI wc1), .ref 13, .ref 14, .int (zI cc1), .ref 15, .ref 16, .int (zI sc1)])), (2, .inl (0, 5, .inl (zA f10))), (3, .inl (0, 2, .inl (zA f11))), (4, .inl (5, 6, .inr (.inr (.inr (.inr f12))))), (11, .inl (0, 8, .inl (zA f13))), (12, .inl (0, 8, .inl (zA f14))), (13, .inl (0, 6, .inl (zA f15))), (14, .inl (0, 6, .inl (zA f16))), (15, .inl (0, 12, .inl (zA f17))), (16, .inl (0, 12, .inl (zA f18)))]) rfl ?_
          refine J_touch (k := 16) (e := .inl (0, 12, .inl (zA f18))) rfl ?_
          refine J_touch (k := 15) (e := .inl (0, 12, .inl (zA f17))) rfl ?_
          refine J_touch (k := 14) (e := .inl (0, 6, .inl (zA f16))) rfl ?_
          refine J_touch (k := 13) (e := .inl (0, 6, .inl (zA f15))) rfl ?_
          refine J_touch (k := 12) (e := .inl (0, 8, .inl (zA f14))) rfl ?_
          refine J_touch (k := 11) (e := .inl (0, 8, .inl (zA f13))) rfl ?_
          refine J_touch (k := 4) (e := .inl (5, 6, .inr (.inr (.inr (.inr f12))))) rfl ?_
          refine J_touch (k := 3) (e := .inl (0, 2, .inl (zA f11))) rfl ?_
          refine J_touch (k := 2) (e := .inl (0, 5, .inl (zA f10))) rfl ?_
          refine J_touch (k := 1) (e := .inr (8, [.ref 2, .ref 3, .ref 4, .int (zI lc1), .int (zI fo1), .ref 11, .ref 12, .int (zI wc1), .ref 13, .ref 14, .int (zI cc1), .ref 15, .ref 16, .int (zI sc1)])) rfl ?_
          refine J_touch (k := 57) (e := .inr (9, [.ref 1, .ref 51, .ref 58, .ref 61, .ref 62, .ref ks, .ref 64, .int (zI (ve + 1)), .int (zI 1), .int (zI 1)])) rfl ?_
          refine J_touch (k := 53) (e := .inl (0, 7, .inl (zA f37))) rfl ?_
          refine J_touch (k := 52) (e := .inl (0, 1260, .inl (zA f38))) rfl ?_
          refine J_touch (k := 51) (e := .inr (0, [.ref 52, .ref 53, .int (zI z39), .int (zI z40)])) rfl ?_
          refine J_touch (k := 0) (e := .inr (11, [.ref 1, .ref 17, .ref 50, .ref 51, .ref 54, .ref 57, .ref 65, .ref 75, .ref 81, .ref 85, .ref 88, .ref 93, .ref 96, .int (zI 0), .int (zI cfa), .ref 97, .int (zI cdk)])) rfl ?_
          refine J_mask (L2 := [(0, .inr (11, [.ref 1, .ref 17, .ref 50, .ref 51, .ref 54, .ref 57, .ref 65, .ref 75, .ref 81, .ref 85, .ref 88, .ref 93, .ref 96, .int (zI 0), .int (zI cfa), .ref 97, .int (zI cdk)])), (51, .inr (0, [.ref 52, .ref 53, .int (zI z39), .int (zI z40)])), (52, .inl (0, 1260, .inl (zA f38))), (53, .inl (0, 7, .inl (zA f37))), (57, .inr (9, [.ref 1, .ref 51, .ref 58, .ref 61, .ref 62, .ref ks, .ref 64, .int (zI (ve + 1)), .int (zI 1), .int (zI 1)])), (1, .inr (8, [.ref 2, .ref 3, .ref 4, .int (zI lc1), .int (zI fo1), .ref 11, .ref 12, .int (zI wc1), .ref 13, .ref 14, .int (zI cc1), .ref 15, .ref 16, .int (zI sc1)])), (2, .inl (0, 5, .inl (zA f10))), (3, .inl (0, 2, .inl (zA f11))), (4, .inl (5, 6, .inr (.inr (.inr (.inr f12))))), (11, .inl (0, 8, .inl (zA f13))), (12, .inl (0, 8, .inl (zA f14))), (13, .inl (0, 6, .inl (zA f15))), (14, .inl (0, 6, .inl (zA f16))), (15, .inl (0, 12, .inl (zA f17))), (16, .inl (0, 12, .inl (zA f18)))]) (ks := [0, 51, 52, 53, 57, 1, 2, 3, 4, 11, 12, 13, 14, 15, 16, 0, 57, 51, 52, 53, 1, 2, 3, 4, 11, 12, 13, 14, 15, 16]) [true, true, true, true, true, true, true, true, true, true, true, true, true, true, true, false, false, false, false, false, false, false, false, false, false, false, false, false, false, false] rfl (by decide +kernel) rfl ?_
          exact J_iret dX11_back_70 rfl rfl (Nat.le_of_ble_eq_true rfl) (Nat.le_of_ble_eq_true rfl) (Or.inr (Or.inl ⟨f10, f11, f12, f13, f14, f15, f16, f17, f18, z39, z40, f38, f37, rfl, rfl, h19, h20, h21, h22, h23, h24, h25, h26, h27, h28, h29, (okF_same q60 h19), h43, h44, h45, h42, h41, g46.1.1, g46.1.2, g46.2.1, g46.2.2, (bkr_ok (v_b2d8922659 h1) (v_e327774f82 h7) ez4 (v_d47f715d39 h5.1 h6)), h7, h30, h31, h32, h33, h34, h35, h36⟩))
        · refine Z_aald (i := x) (r := 34) dX11_back_40 hk17 rfl rfl (by decide) (v_b2d8922659 h1) (v_5b5f59c0b7 h3) (im17_1 (v_e45b057d65 h1 h3 h7)) ?_
          refine J_callV (st := []) dX11_back_41 cv_X11_314 (b_copyFrom_1_34 ff tf lf wa wb ca cb sa sb lc fo wc cc sc ff2 tf2 lf2 wa2 wb2 ca2 cb2 sa2 sb2 lc2 fo2 wc2 cc2 sc2 q81 q82 q83 q84 q85 q86 q87 q88 q89 q90 q91 q92 q93 q94 q95 q96 q97 q98 q99 q100 q101 hk1 hk2 hk3 hk4 hk11 hk12 hk13 hk14 hk15 hk16 hk34 hk35 hk36 hk37 hk44 hk45 hk46 hk47 hk48 hk49) hk1 rfl rfl (Nat.le_of_ble_eq_true rfl) ⟨(Nat.le_of_ble_eq_true rfl), (Nat.le_of_ble_eq_true rfl)⟩ ⟨(Nat.le_of_ble_eq_true rfl), (Nat.le_of_ble_eq_true rfl)⟩ (fun r h9 hp => ?_)
          obtain ⟨f49, f50, f51, f52, f53, f54, f55, f56, f57, rfl, rfl, h58, h59, h60, h61, h62, h63, h64, h65, h66, h67, h68, h69, h70, h71, h72, h73, h74, h75⟩ := hp
          refine J_nf (nh2 := nh) (ck2 := 0) (sk2 := 0) (st2 := []) rfl rfl rfl rfl ?_
          refine J_app (L3 := [(1, .inr (8, [.ref 2, .ref 3, .ref 4, .int (zI lc2), .int (zI fo2), .ref 11, .ref 12, .int (zI wc2), .ref 13, .ref 14, .int (zI cc2), .ref 15, .ref 16, .int (zI sc2)])), (2, .inl (0, 5, .inl (zA f49))), (3, .inl (0, 2, .inl (zA f50))), (4, .inl (5, 6, .inr (.inr (.inr (.inr f51))))), (11, .inl (0, 8, .inl (zA f52))), (12, .inl (0, 8, .inl (zA f53))), (13, .inl (0, 6, .inl (zA f54))), (14, .inl (0, 6, .inl (zA f55))), (15, .inl (0, 12, .inl (zA f56))), (16, .inl (0, 12, .inl (zA f57)))]) rfl ?_
          refine J_aload_n dX11_back_44 rfl rfl ?_
          refine J_get (v := .ref 51) dX11_back_45 fl_X11_27 hk0 rfl ?_
          refine J_aload_n dX11_back_48 rfl rfl ?_
          refine J_get (v := .ref 1) dX11_back_49 fl_X11_10 hk0 rfl ?_
          refine J_get (v := .ref 2) dX11_back_52 fl_X11_111 rfl rfl ?_
          refine J_callV (st := []) dX11_back_55 cv_X11_114 (g_settle f49 bf rf many places (okF_same q81 h58) q32 q31 rfl hk51 hk53 hk52) hk51 rfl rfl (Nat.le_of_ble_eq_true rfl) ⟨(Nat.le_of_ble_eq_true rfl), (Nat.le_of_ble_eq_true rfl)⟩ ⟨(Nat.le_of_ble_eq_true rfl), (Nat.le_of_ble_eq_true rfl)⟩ (fun r h9 hp => ?_)
          obtain ⟨f76, f77, z78, z79, rfl, rfl, h80, h81, h82, h83, h84⟩ := hp
          refine J_nf (nh2 := nh) (ck2 := 0) (sk2 := 0) (st2 := []) rfl rfl rfl rfl ?_
          refine J_app (L3 := [(51, .inr (0, [.ref 52, .ref 53, .int (zI z78), .int (zI z79)])), (52, .inl (0, 1260, .inl (zA f77))), (53, .inl (0, 7, .inl (zA f76))), (1, .inr (8, [.ref 2, .ref 3, .ref 4, .int (zI lc2), .int (zI fo2), .ref 11, .ref 12, .int (zI wc2), .ref 13, .ref 14, .int (zI cc2), .ref 15, .ref 16, .int (zI sc2)])), (2, .inl (0, 5, .inl (zA f49))), (3, .inl (0, 2, .inl (zA f50))), (4, .inl (5, 6, .inr (.inr (.inr (.inr f51))))), (11, .inl (0, 8, .inl (zA f52))), (12, .inl (0, 8, .inl (zA f53))), (13, .inl (0, 6, .inl (zA f54))), (14, .inl (0, 6, .inl (zA f55))), (15, .inl (0, 12, .inl (zA f56))), (16, .inl (0, 12, .inl (zA f57)))]) rfl ?_
          have g85 : (1 ≤ z78 ∧ z78 ≤ 1260) ∧ 0 ≤ z79 ∧ z79 ≤ 7 := by rw [h82, h83]; exact ⟨Hi_rng (okF_same q81 h58), bsum_rng (okF_same q81 h58)⟩
          refine J_aload_n dX11_back_58 rfl rfl ?_
          refine J_get (v := .ref 57) dX11_back_59 fl_X11_43 hk0 rfl ?_
          refine J_callV (st := []) dX11_back_62 cv_X11_148 (t_changeAll ks ve ss vs (v_72438f5f82 q40 q41) (v_c8d7785628 q41) hk57) hk57 rfl rfl (Nat.le_of_ble_eq_true rfl) ⟨(Nat.le_of_ble_eq_true rfl), (Nat.le_of_ble_eq_true rfl)⟩ ⟨(Nat.le_of_ble_eq_true rfl), (Nat.le_of_ble_eq_true rfl)⟩ (fun r h9 hp => ?_)
          obtain ⟨rfl, rfl⟩ := hp
          refine J_nf (nh2 := nh) (ck2 := 0) (sk2 := 0) (st2 := []) rfl rfl rfl rfl ?_
          refine J_app (L3 := [(57, .inr (9, [.ref 1, .ref 51, .ref 58, .ref 61, .ref 62, .ref ks, .ref 64, .int (zI (ve + 1)), .int (zI 1), .int (zI 1)])), (51, .inr (0, [.ref 52, .ref 53, .int (zI z78), .int (zI z79)])), (52, .inl (0, 1260, .inl (zA f77))), (53, .inl (0, 7, .inl (zA f76))), (1, .inr (8, [.ref 2, .ref 3, .ref 4, .int (zI lc2), .int (zI fo2), .ref 11, .ref 12, .int (zI wc2), .ref 13, .ref 14, .int (zI cc2), .ref 15, .ref 16, .int (zI sc2)])), (2, .inl (0, 5, .inl (zA f49))), (3, .inl (0, 2, .inl (zA f50))), (4, .inl (5, 6, .inr (.inr (.inr (.inr f51))))), (11, .inl (0, 8, .inl (zA f52))), (12, .inl (0, 8, .inl (zA f53))), (13, .inl (0, 6, .inl (zA f54))), (14, .inl (0, 6, .inl (zA f55))), (15, .inl (0, 12, .inl (zA f56))), (16, .inl (0, 12, .inl (zA f57)))]) rfl ?_
          refine J_aload_n dX11_back_65 rfl rfl ?_
          refine Z_iconst (n := 0) dX11_back_66 ?_
          refine J_callV (st := []) dX11_back_67 cv_X11_129 (b_accept 0 cst cfa cdk hk0) hk0 rfl rfl (Nat.le_of_ble_eq_true rfl) ⟨(Nat.le_of_ble_eq_true rfl), (Nat.le_of_ble_eq_true rfl)⟩ ⟨(Nat.le_of_ble_eq_true rfl), (Nat.le_of_ble_eq_true rfl)⟩ (fun r h9 hp => ?_)
          obtain ⟨rfl, rfl⟩ := hp
          refine J_nf (nh2 := nh) (ck2 := 0) (sk2 := 0) (st2 := [.int (zI 0)]) rfl rfl rfl rfl ?_
          refine J_app (L3 := [(0, .inr (11, [.ref 1, .ref 17, .ref 50, .ref 51, .ref 54, .ref 57, .ref 65, .ref 75, .ref 81, .ref 85, .ref 88, .ref 93, .ref 96, .int (zI 0), .int (zI cfa), .ref 97, .int (zI cdk)])), (57, .inr (9, [.ref 1, .ref 51, .ref 58, .ref 61, .ref 62, .ref ks, .ref 64, .int (zI (ve + 1)), .int (zI 1), .int (zI 1)])), (51, .inr (0, [.ref 52, .ref 53, .int (zI z78), .int (zI z79)])), (52, .inl (0, 1260, .inl (zA f77))), (53, .inl (0, 7, .inl (zA f76))), (1, .inr (8, [.ref 2, .ref 3, .ref 4, .int (zI lc2), .int (zI fo2), .ref 11, .ref 12, .int (zI wc2), .ref 13, .ref 14, .int (zI cc2), .ref 15, .ref 16, .int (zI sc2)])), (2, .inl (0, 5, .inl (zA f49))), (3, .inl (0, 2, .inl (zA f50))), (4, .inl (5, 6, .inr (.inr (.inr (.inr f51))))), (11, .inl (0, 8, .inl (zA f52))), (12, .inl (0, 8, .inl (zA f53))), (13, .inl (0, 6, .inl (zA f54))), (14, .inl (0, 6, .inl (zA f55))), (15, .inl (0, 12, .inl (zA f56))), (16, .inl (0, 12, .inl (zA f57)))]) rfl ?_
          refine J_touch (k := 16) (e := .inl (0, 12, .inl (zA f57))) rfl ?_
          refine J_touch (k := 15) (e := .inl (0, 12, .inl (zA f56))) rfl ?_
          refine J_touch (k := 14) (e := .inl (0, 6, .inl (zA f55))) rfl ?_
          refine J_touch (k := 13) (e := .inl (0, 6, .inl (zA f54))) rfl ?_
          refine J_touch (k := 12) (e := .inl (0, 8, .inl (zA f53))) rfl ?_
          refine J_touch (k := 11) (e := .inl (0, 8, .inl (zA f52))) rfl ?_
          refine J_touch (k := 4) (e := .inl (5, 6, .inr (.inr (.inr (.inr f51))))) rfl ?_
          refine J_touch (k := 3) (e := .inl (0, 2, .inl (zA f50))) rfl ?_
          refine J_touch (k := 2) (e := .inl (0, 5, .inl (zA f49))) rfl ?_
          refine J_touch (k := 1) (e := .inr (8, [.ref 2, .ref 3, .ref 4, .int (zI lc2), .int (zI fo2), .ref 11, .ref 12, .int (zI wc2), .ref 13, .ref 14, .int (zI cc2), .ref 15, .ref 16, .int (zI sc2)])) rfl ?_
          refine J_touch (k := 57) (e := .inr (9, [.ref 1, .ref 51, .ref 58, .ref 61, .ref 62, .ref ks, .ref 64, .int (zI (ve + 1)), .int (zI 1), .int (zI 1)])) rfl ?_
          refine J_touch (k := 53) (e := .inl (0, 7, .inl (zA f76))) rfl ?_
          refine J_touch (k := 52) (e := .inl (0, 1260, .inl (zA f77))) rfl ?_
          refine J_touch (k := 51) (e := .inr (0, [.ref 52, .ref 53, .int (zI z78), .int (zI z79)])) rfl ?_
          refine J_touch (k := 0) (e := .inr (11, [.ref 1, .ref 17, .ref 50, .ref 51, .ref 54, .ref 57, .ref 65, .ref 75, .ref 81, .ref 85, .ref 88, .ref 93, .ref 96, .int (zI 0), .int (zI cfa), .ref 97, .int (zI cdk)])) rfl ?_
          refine J_mask (L2 := [(0, .inr (11, [.ref 1, .ref 17, .ref 50, .ref 51, .ref 54, .ref 57, .ref 65, .ref 75, .ref 81, .ref 85, .ref 88, .ref 93, .ref 96, .int (zI 0), .int (zI cfa), .ref 97, .int (zI cdk)])), (51, .inr (0, [.ref 52, .ref 53, .int (zI z78), .int (zI z79)])), (52, .inl (0, 1260, .inl (zA f77))), (53, .inl (0, 7, .inl (zA f76))), (57, .inr (9, [.ref 1, .ref 51, .ref 58, .ref 61, .ref 62, .ref ks, .ref 64, .int (zI (ve + 1)), .int (zI 1), .int (zI 1)])), (1, .inr (8, [.ref 2, .ref 3, .ref 4, .int (zI lc2), .int (zI fo2), .ref 11, .ref 12, .int (zI wc2), .ref 13, .ref 14, .int (zI cc2), .ref 15, .ref 16, .int (zI sc2)])), (2, .inl (0, 5, .inl (zA f49))), (3, .inl (0, 2, .inl (zA f50))), (4, .inl (5, 6, .inr (.inr (.inr (.inr f51))))), (11, .inl (0, 8, .inl (zA f52))), (12, .inl (0, 8, .inl (zA f53))), (13, .inl (0, 6, .inl (zA f54))), (14, .inl (0, 6, .inl (zA f55))), (15, .inl (0, 12, .inl (zA f56))), (16, .inl (0, 12, .inl (zA f57)))]) (ks := [0, 51, 52, 53, 57, 1, 2, 3, 4, 11, 12, 13, 14, 15, 16, 0, 57, 51, 52, 53, 1, 2, 3, 4, 11, 12, 13, 14, 15, 16]) [true, true, true, true, true, true, true, true, true, true, true, true, true, true, true, false, false, false, false, false, false, false, false, false, false, false, false, false, false, false] rfl (by decide +kernel) rfl ?_
          exact J_iret dX11_back_70 rfl rfl (Nat.le_of_ble_eq_true rfl) (Nat.le_of_ble_eq_true rfl) (Or.inr (Or.inr ⟨f49, f50, f51, f52, f53, f54, f55, f56, f57, z78, z79, f77, f76, rfl, rfl, h58, h59, h60, h61, h62, h63, h64, h65, h66, h67, h68, (okF_same q81 h58), h82, h83, h84, h81, h80, g85.1.1, g85.1.2, g85.2.1, g85.2.2, (bkr_ok (v_b2d8922659 h1) (v_a42a1d70ec h3) ez4 (v_d47f715d39 h5.1 h6)), (v_e45b057d65 h1 h3 h7), h69, h70, h71, h72, h73, h74, h75⟩))
      · refine J_aload_n dX11_back_24 rfl rfl ?_
        refine Z_bipush (n := -2) dX11_back_25 (by decide +kernel) ?_
        refine J_callV (st := []) dX11_back_27 cv_X11_118 (b_refuse (-2) cst cfa cdk rfs v_c15e852b74 v_e7867eeafa hk0 hk96) hk0 rfl rfl (Nat.le_of_ble_eq_true rfl) ⟨(Nat.le_of_ble_eq_true rfl), (Nat.le_of_ble_eq_true rfl)⟩ ⟨(Nat.le_of_ble_eq_true rfl), (Nat.le_of_ble_eq_true rfl)⟩ (fun r h9 hp => ?_)
        obtain ⟨f86, rfl, rfl⟩ := hp
        refine J_nf (nh2 := nh) (ck2 := 0) (sk2 := 0) (st2 := [.int (zI (-2))]) rfl rfl rfl rfl ?_
        refine J_app (L3 := [(0, .inr (11, [.ref 1, .ref 17, .ref 50, .ref 51, .ref 54, .ref 57, .ref 65, .ref 75, .ref 81, .ref 85, .ref 88, .ref 93, .ref 96, .int (zI (-2)), .int (zI cfa), .ref 97, .int (zI cdk)])), (96, .inl (0, 5, .inl (zA f86)))]) rfl ?_
        exact J_iret dX11_back_30 rfl rfl (Nat.le_of_ble_eq_true rfl) (Nat.le_of_ble_eq_true rfl) (Or.inl ⟨(-2), (-2), f86, rfl, rfl, (bkr_no (v_b2d8922659 h1) (v_a42a1d70ec h3) ez4 (v_bd6c74a791 h5.1 h6)), v_6696e37d45⟩)
    · refine J_aload_n dX11_back_9 rfl rfl ?_
      refine Z_iconst (n := -1) dX11_back_10 ?_
      refine J_callV (st := []) dX11_back_11 cv_X11_118 (b_refuse (-1) cst cfa cdk rfs v_ef59c9c3d8 v_646fb950f3 hk0 hk96) hk0 rfl rfl (Nat.le_of_ble_eq_true rfl) ⟨(Nat.le_of_ble_eq_true rfl), (Nat.le_of_ble_eq_true rfl)⟩ ⟨(Nat.le_of_ble_eq_true rfl), (Nat.le_of_ble_eq_true rfl)⟩ (fun r h9 hp => ?_)
      obtain ⟨f87, rfl, rfl⟩ := hp
      refine J_nf (nh2 := nh) (ck2 := 0) (sk2 := 0) (st2 := [.int (zI (-1))]) rfl rfl rfl rfl ?_
      refine J_app (L3 := [(0, .inr (11, [.ref 1, .ref 17, .ref 50, .ref 51, .ref 54, .ref 57, .ref 65, .ref 75, .ref 81, .ref 85, .ref 88, .ref 93, .ref 96, .int (zI (-1)), .int (zI cfa), .ref 97, .int (zI cdk)])), (96, .inl (0, 5, .inl (zA f87)))]) rfl ?_
      exact J_iret dX11_back_14 rfl rfl (Nat.le_of_ble_eq_true rfl) (Nat.le_of_ble_eq_true rfl) (Or.inl ⟨(-1), (-1), f87, rfl, rfl, (bkr_hi (v_e118ab036c h3)), v_d1c0671cae⟩)
