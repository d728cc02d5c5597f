abbrev MX12_endsBy : jM := (RX12, cX12_endsBy, 6, some .boolean, false)
theorem fl_X12_120 : jFL RX12 120 12 47 := ⟨_, _, _, rfl, iX12, by decide, Or.inl (jt6 121 rfl rfl)⟩
abbrev MX12_findsRound : jM := (RX12, cX12_findsRound, 4, some .boolean, false)
theorem cv_X12_348 : jCV RX12 348 12 yX12_endsBy MX12_endsBy 3 := ⟨_, _, rfl, (jt8 63 rfl rfl), (jt8 62 rfl rfl), (jtp (q := (⟨"BeanStreetModel", "endsBy", "(III)Z"⟩, 56)) (List.mem_of_getElem? (i := 101) rfl)), (jt1 13 rfl rfl), ⟨by decide, by decide, by decide +kernel⟩, Or.inl (jt8 60 rfl rfl)⟩
abbrev MX12_round : jM := (RX12, cX12_round, 7, some .int, false)
theorem cv_X12_351 : jCV RX12 351 12 yX12_findsRound MX12_findsRound 0 := ⟨_, _, rfl, (jt8 59 rfl rfl), (jt8 58 rfl rfl), (jtp (q := (⟨"BeanStreetModel", "findsRound", "()Z"⟩, 56)) (List.mem_of_getElem? (i := 100) rfl)), (jt1 13 rfl rfl), ⟨by decide, by decide, by decide +kernel⟩, Or.inl (jt8 56 rfl rfl)⟩
theorem dX12_endsBy_0 : decode cX12_endsBy 0 = .ok (.iload_n 1, 1) := by decide +kernel
theorem dX12_endsBy_1 : decode cX12_endsBy 1 = .ok (.iload_n 3, 1) := by decide +kernel
theorem dX12_endsBy_2 : decode cX12_endsBy 2 = .ok (.if_icmp .ne 19, 3) := by decide +kernel
theorem dX12_endsBy_21 : decode cX12_endsBy 21 = .ok (.iconst 0, 1) := by decide +kernel
theorem dX12_endsBy_22 : decode cX12_endsBy 22 = .ok (.istore 4, 2) := by decide +kernel
theorem dX12_endsBy_24 : decode cX12_endsBy 24 = .ok (.iload 4, 2) := by decide +kernel
theorem dX12_endsBy_26 : decode cX12_endsBy 26 = .ok (.aload_n 0, 1) := by decide +kernel
theorem dX12_endsBy_27 : decode cX12_endsBy 27 = .ok (.getfield 67, 3) := by decide +kernel
theorem dX12_endsBy_30 : decode cX12_endsBy 30 = .ok (.iload_n 2, 1) := by decide +kernel
theorem dX12_endsBy_31 : decode cX12_endsBy 31 = .ok (.iaload, 1) := by decide +kernel
theorem dX12_endsBy_32 : decode cX12_endsBy 32 = .ok (.if_icmp .ge 54, 3) := by decide +kernel
theorem dX12_endsBy_86 : decode cX12_endsBy 86 = .ok (.iconst 0, 1) := by decide +kernel
theorem dX12_endsBy_87 : decode cX12_endsBy 87 = .ok (.ireturn, 1) := by decide +kernel
theorem dX12_endsBy_35 : decode cX12_endsBy 35 = .ok (.aload_n 0, 1) := by decide +kernel
theorem dX12_endsBy_36 : decode cX12_endsBy 36 = .ok (.getfield 61, 3) := by decide +kernel
theorem dX12_endsBy_39 : decode cX12_endsBy 39 = .ok (.bipush 22, 2) := by decide +kernel
theorem dX12_endsBy_41 : decode cX12_endsBy 41 = .ok (.iload_n 2, 1) := by decide +kernel
theorem dX12_endsBy_42 : decode cX12_endsBy 42 = .ok (.imul, 1) := by decide +kernel
theorem dX12_endsBy_43 : decode cX12_endsBy 43 = .ok (.iload 4, 2) := by decide +kernel
theorem dX12_endsBy_45 : decode cX12_endsBy 45 = .ok (.iadd, 1) := by decide +kernel
theorem dX12_endsBy_46 : decode cX12_endsBy 46 = .ok (.iaload, 1) := by decide +kernel
theorem dX12_endsBy_47 : decode cX12_endsBy 47 = .ok (.istore 5, 2) := by decide +kernel
theorem dX12_endsBy_49 : decode cX12_endsBy 49 = .ok (.iload_n 1, 1) := by decide +kernel
theorem dX12_endsBy_50 : decode cX12_endsBy 50 = .ok (.iload 5, 2) := by decide +kernel
theorem dX12_endsBy_52 : decode cX12_endsBy 52 = .ok (.ishr, 1) := by decide +kernel
theorem dX12_endsBy_53 : decode cX12_endsBy 53 = .ok (.iconst 1, 1) := by decide +kernel
theorem dX12_endsBy_54 : decode cX12_endsBy 54 = .ok (.iand, 1) := by decide +kernel
theorem dX12_endsBy_55 : decode cX12_endsBy 55 = .ok (.ifCond .ne 25, 3) := by decide +kernel
theorem dX12_endsBy_80 : decode cX12_endsBy 80 = .ok (.iinc 4 1, 3) := by decide +kernel
theorem dX12_endsBy_83 : decode cX12_endsBy 83 = .ok (.goto (-59), 3) := by decide +kernel
theorem dX12_endsBy_58 : decode cX12_endsBy 58 = .ok (.aload_n 0, 1) := by decide +kernel
theorem dX12_endsBy_59 : decode cX12_endsBy 59 = .ok (.getfield 120, 3) := by decide +kernel
theorem dX12_endsBy_62 : decode cX12_endsBy 62 = .ok (.iload_n 1, 1) := by decide +kernel
theorem dX12_endsBy_63 : decode cX12_endsBy 63 = .ok (.iconst 1, 1) := by decide +kernel
theorem dX12_endsBy_64 : decode cX12_endsBy 64 = .ok (.iload 5, 2) := by decide +kernel
theorem dX12_endsBy_66 : decode cX12_endsBy 66 = .ok (.ishl, 1) := by decide +kernel
theorem dX12_endsBy_67 : decode cX12_endsBy 67 = .ok (.ior, 1) := by decide +kernel
theorem dX12_endsBy_68 : decode cX12_endsBy 68 = .ok (.bipush 14, 2) := by decide +kernel
theorem dX12_endsBy_70 : decode cX12_endsBy 70 = .ok (.imul, 1) := by decide +kernel
theorem dX12_endsBy_71 : decode cX12_endsBy 71 = .ok (.iload 5, 2) := by decide +kernel
theorem dX12_endsBy_73 : decode cX12_endsBy 73 = .ok (.iadd, 1) := by decide +kernel
theorem dX12_endsBy_74 : decode cX12_endsBy 74 = .ok (.baload, 1) := by decide +kernel
theorem dX12_endsBy_75 : decode cX12_endsBy 75 = .ok (.ifCond .eq 5, 3) := by decide +kernel
theorem dX12_endsBy_78 : decode cX12_endsBy 78 = .ok (.iconst 1, 1) := by decide +kernel
theorem dX12_endsBy_79 : decode cX12_endsBy 79 = .ok (.ireturn, 1) := by decide +kernel
theorem dX12_endsBy_5 : decode cX12_endsBy 5 = .ok (.aload_n 0, 1) := by decide +kernel
theorem dX12_endsBy_6 : decode cX12_endsBy 6 = .ok (.iload_n 2, 1) := by decide +kernel
theorem dX12_endsBy_7 : decode cX12_endsBy 7 = .ok (.iconst 0, 1) := by decide +kernel
theorem dX12_endsBy_8 : decode cX12_endsBy 8 = .ok (.invokevirtual 340, 3) := by decide +kernel
theorem dX12_endsBy_11 : decode cX12_endsBy 11 = .ok (.iconst (-1), 1) := by decide +kernel
theorem dX12_endsBy_12 : decode cX12_endsBy 12 = .ok (.if_icmp .eq 7, 3) := by decide +kernel
theorem dX12_endsBy_19 : decode cX12_endsBy 19 = .ok (.iconst 0, 1) := by decide +kernel
theorem dX12_endsBy_20 : decode cX12_endsBy 20 = .ok (.ireturn, 1) := by decide +kernel
theorem dX12_endsBy_15 : decode cX12_endsBy 15 = .ok (.iconst 1, 1) := by decide +kernel
theorem dX12_endsBy_16 : decode cX12_endsBy 16 = .ok (.goto 4, 3) := by decide +kernel
theorem dX12_findsRound_0 : decode cX12_findsRound 0 = .ok (.iconst 1, 1) := by decide +kernel
theorem dX12_findsRound_1 : decode cX12_findsRound 1 = .ok (.aload_n 0, 1) := by decide +kernel
theorem dX12_findsRound_2 : decode cX12_findsRound 2 = .ok (.getfield 298, 3) := by decide +kernel
theorem dX12_findsRound_5 : decode cX12_findsRound 5 = .ok (.ishl, 1) := by decide +kernel
theorem dX12_findsRound_6 : decode cX12_findsRound 6 = .ok (.iconst 1, 1) := by decide +kernel
theorem dX12_findsRound_7 : decode cX12_findsRound 7 = .ok (.isub, 1) := by decide +kernel
theorem dX12_findsRound_8 : decode cX12_findsRound 8 = .ok (.istore_n 1, 1) := by decide +kernel
theorem dX12_findsRound_9 : decode cX12_findsRound 9 = .ok (.iload_n 1, 1) := by decide +kernel
theorem dX12_findsRound_10 : decode cX12_findsRound 10 = .ok (.istore_n 2, 1) := by decide +kernel
theorem dX12_findsRound_11 : decode cX12_findsRound 11 = .ok (.iload_n 2, 1) := by decide +kernel
theorem dX12_findsRound_12 : decode cX12_findsRound 12 = .ok (.ifCond .le 60, 3) := by decide +kernel
theorem dX12_findsRound_72 : decode cX12_findsRound 72 = .ok (.aload_n 0, 1) := by decide +kernel
theorem dX12_findsRound_73 : decode cX12_findsRound 73 = .ok (.getfield 298, 3) := by decide +kernel
theorem dX12_findsRound_76 : decode cX12_findsRound 76 = .ok (.iconst 1, 1) := by decide +kernel
theorem dX12_findsRound_77 : decode cX12_findsRound 77 = .ok (.if_icmp .le 17, 3) := by decide +kernel
theorem dX12_findsRound_94 : decode cX12_findsRound 94 = .ok (.iconst 0, 1) := by decide +kernel
theorem dX12_findsRound_95 : decode cX12_findsRound 95 = .ok (.ireturn, 1) := by decide +kernel
theorem dX12_findsRound_80 : decode cX12_findsRound 80 = .ok (.aload_n 0, 1) := by decide +kernel
theorem dX12_findsRound_81 : decode cX12_findsRound 81 = .ok (.getfield 120, 3) := by decide +kernel
theorem dX12_findsRound_84 : decode cX12_findsRound 84 = .ok (.bipush 14, 2) := by decide +kernel
theorem dX12_findsRound_86 : decode cX12_findsRound 86 = .ok (.baload, 1) := by decide +kernel
theorem dX12_findsRound_87 : decode cX12_findsRound 87 = .ok (.ifCond .eq 7, 3) := by decide +kernel
theorem dX12_findsRound_90 : decode cX12_findsRound 90 = .ok (.iconst 1, 1) := by decide +kernel
theorem dX12_findsRound_91 : decode cX12_findsRound 91 = .ok (.goto 4, 3) := by decide +kernel
theorem dX12_findsRound_15 : decode cX12_findsRound 15 = .ok (.iconst 0, 1) := by decide +kernel
theorem dX12_findsRound_16 : decode cX12_findsRound 16 = .ok (.istore_n 3, 1) := by decide +kernel
theorem dX12_findsRound_17 : decode cX12_findsRound 17 = .ok (.iload_n 3, 1) := by decide +kernel
theorem dX12_findsRound_18 : decode cX12_findsRound 18 = .ok (.aload_n 0, 1) := by decide +kernel
theorem dX12_findsRound_19 : decode cX12_findsRound 19 = .ok (.getfield 298, 3) := by decide +kernel
theorem dX12_findsRound_22 : decode cX12_findsRound 22 = .ok (.if_icmp .ge 44, 3) := by decide +kernel
theorem dX12_findsRound_66 : decode cX12_findsRound 66 = .ok (.iinc 2 (-1), 3) := by decide +kernel
theorem dX12_findsRound_69 : decode cX12_findsRound 69 = .ok (.goto (-58), 3) := by decide +kernel
theorem dX12_findsRound_25 : decode cX12_findsRound 25 = .ok (.aload_n 0, 1) := by decide +kernel
theorem dX12_findsRound_26 : decode cX12_findsRound 26 = .ok (.getfield 120, 3) := by decide +kernel
theorem dX12_findsRound_29 : decode cX12_findsRound 29 = .ok (.iload_n 2, 1) := by decide +kernel
theorem dX12_findsRound_30 : decode cX12_findsRound 30 = .ok (.bipush 14, 2) := by decide +kernel
theorem dX12_findsRound_32 : decode cX12_findsRound 32 = .ok (.imul, 1) := by decide +kernel
theorem dX12_findsRound_33 : decode cX12_findsRound 33 = .ok (.iload_n 3, 1) := by decide +kernel
theorem dX12_findsRound_34 : decode cX12_findsRound 34 = .ok (.iadd, 1) := by decide +kernel
theorem dX12_findsRound_35 : decode cX12_findsRound 35 = .ok (.iload_n 2, 1) := by decide +kernel
theorem dX12_findsRound_36 : decode cX12_findsRound 36 = .ok (.iload_n 3, 1) := by decide +kernel
theorem dX12_findsRound_37 : decode cX12_findsRound 37 = .ok (.ishr, 1) := by decide +kernel
theorem dX12_findsRound_38 : decode cX12_findsRound 38 = .ok (.iconst 1, 1) := by decide +kernel
theorem dX12_findsRound_39 : decode cX12_findsRound 39 = .ok (.iand, 1) := by decide +kernel
theorem dX12_findsRound_40 : decode cX12_findsRound 40 = .ok (.iconst 1, 1) := by decide +kernel
theorem dX12_findsRound_41 : decode cX12_findsRound 41 = .ok (.if_icmp .ne 17, 3) := by decide +kernel
theorem dX12_findsRound_58 : decode cX12_findsRound 58 = .ok (.iconst 0, 1) := by decide +kernel
theorem dX12_findsRound_59 : decode cX12_findsRound 59 = .ok (.bastore, 1) := by decide +kernel
theorem dX12_findsRound_60 : decode cX12_findsRound 60 = .ok (.iinc 3 1, 3) := by decide +kernel
theorem dX12_findsRound_63 : decode cX12_findsRound 63 = .ok (.goto (-46), 3) := by decide +kernel
theorem dX12_findsRound_44 : decode cX12_findsRound 44 = .ok (.aload_n 0, 1) := by decide +kernel
theorem dX12_findsRound_45 : decode cX12_findsRound 45 = .ok (.iload_n 2, 1) := by decide +kernel
theorem dX12_findsRound_46 : decode cX12_findsRound 46 = .ok (.iload_n 3, 1) := by decide +kernel
theorem dX12_findsRound_47 : decode cX12_findsRound 47 = .ok (.iload_n 1, 1) := by decide +kernel
theorem dX12_findsRound_48 : decode cX12_findsRound 48 = .ok (.invokevirtual 348, 3) := by decide +kernel
theorem dX12_findsRound_51 : decode cX12_findsRound 51 = .ok (.ifCond .eq 7, 3) := by decide +kernel
theorem dX12_findsRound_54 : decode cX12_findsRound 54 = .ok (.iconst 1, 1) := by decide +kernel
theorem dX12_findsRound_55 : decode cX12_findsRound 55 = .ok (.goto 4, 3) := by decide +kernel
theorem dX12_round_0 : decode cX12_round 0 = .ok (.aload_n 0, 1) := by decide +kernel
theorem dX12_round_1 : decode cX12_round 1 = .ok (.invokevirtual 159, 3) := by decide +kernel
theorem dX12_round_4 : decode cX12_round 4 = .ok (.aload_n 0, 1) := by decide +kernel
theorem dX12_round_5 : decode cX12_round 5 = .ok (.getfield 298, 3) := by decide +kernel
theorem dX12_round_8 : decode cX12_round 8 = .ok (.bipush 14, 2) := by decide +kernel
theorem dX12_round_10 : decode cX12_round 10 = .ok (.if_icmp .le 5, 3) := by decide +kernel
theorem dX12_round_15 : decode cX12_round 15 = .ok (.aload_n 0, 1) := by decide +kernel
theorem dX12_round_16 : decode cX12_round 16 = .ok (.invokevirtual 328, 3) := by decide +kernel
theorem dX12_round_19 : decode cX12_round 19 = .ok (.aload_n 0, 1) := by decide +kernel
theorem dX12_round_20 : decode cX12_round 20 = .ok (.invokevirtual 351, 3) := by decide +kernel
theorem dX12_round_23 : decode cX12_round 23 = .ok (.istore_n 2, 1) := by decide +kernel
theorem dX12_round_24 : decode cX12_round 24 = .ok (.iload_n 1, 1) := by decide +kernel
theorem dX12_round_25 : decode cX12_round 25 = .ok (.iconst (-1), 1) := by decide +kernel
theorem dX12_round_26 : decode cX12_round 26 = .ok (.if_icmp .ne 13, 3) := by decide +kernel
theorem dX12_round_39 : decode cX12_round 39 = .ok (.iload_n 2, 1) := by decide +kernel
theorem dX12_round_40 : decode cX12_round 40 = .ok (.ifCond .eq 17, 3) := by decide +kernel
theorem dX12_round_57 : decode cX12_round 57 = .ok (.iconst (-1), 1) := by decide +kernel
theorem dX12_round_58 : decode cX12_round 58 = .ok (.ireturn, 1) := by decide +kernel
theorem dX12_round_43 : decode cX12_round 43 = .ok (.iload_n 1, 1) := by decide +kernel
theorem dX12_round_44 : decode cX12_round 44 = .ok (.iconst 0, 1) := by decide +kernel
theorem dX12_round_45 : decode cX12_round 45 = .ok (.aload_n 0, 1) := by decide +kernel
theorem dX12_round_46 : decode cX12_round 46 = .ok (.getfield 298, 3) := by decide +kernel
theorem dX12_round_49 : decode cX12_round 49 = .ok (.iconst 1, 1) := by decide +kernel
theorem dX12_round_50 : decode cX12_round 50 = .ok (.isub, 1) := by decide +kernel
theorem dX12_round_51 : decode cX12_round 51 = .ok (.invokestatic 138, 3) := by decide +kernel
theorem dX12_round_54 : decode cX12_round 54 = .ok (.ifCond .ne 5, 3) := by decide +kernel
theorem dX12_round_59 : decode cX12_round 59 = .ok (.iconst 0, 1) := by decide +kernel
theorem dX12_round_60 : decode cX12_round 60 = .ok (.istore_n 3, 1) := by decide +kernel
theorem dX12_round_61 : decode cX12_round 61 = .ok (.iconst 1, 1) := by decide +kernel
theorem dX12_round_62 : decode cX12_round 62 = .ok (.istore 4, 2) := by decide +kernel
theorem dX12_round_64 : decode cX12_round 64 = .ok (.iconst 0, 1) := by decide +kernel
theorem dX12_round_65 : decode cX12_round 65 = .ok (.istore 5, 2) := by decide +kernel
theorem dX12_round_67 : decode cX12_round 67 = .ok (.iload 5, 2) := by decide +kernel
theorem dX12_round_69 : decode cX12_round 69 = .ok (.iload_n 1, 1) := by decide +kernel
theorem dX12_round_70 : decode cX12_round 70 = .ok (.if_icmp .ge 73, 3) := by decide +kernel
theorem dX12_round_143 : decode cX12_round 143 = .ok (.iload_n 3, 1) := by decide +kernel
theorem dX12_round_144 : decode cX12_round 144 = .ok (.ireturn, 1) := by decide +kernel
theorem dX12_round_73 : decode cX12_round 73 = .ok (.iconst 0, 1) := by decide +kernel
theorem dX12_round_74 : decode cX12_round 74 = .ok (.istore 6, 2) := by decide +kernel
theorem dX12_round_76 : decode cX12_round 76 = .ok (.iload 4, 2) := by decide +kernel
theorem dX12_round_78 : decode cX12_round 78 = .ok (.iload 6, 2) := by decide +kernel
theorem dX12_round_80 : decode cX12_round 80 = .ok (.ishr, 1) := by decide +kernel
theorem dX12_round_81 : decode cX12_round 81 = .ok (.iconst 1, 1) := by decide +kernel
theorem dX12_round_82 : decode cX12_round 82 = .ok (.iand, 1) := by decide +kernel
theorem dX12_round_83 : decode cX12_round 83 = .ok (.iconst 1, 1) := by decide +kernel
theorem dX12_round_84 : decode cX12_round 84 = .ok (.if_icmp .eq 35, 3) := by decide +kernel
theorem dX12_round_119 : decode cX12_round 119 = .ok (.iinc 6 1, 3) := by decide +kernel
theorem dX12_round_122 : decode cX12_round 122 = .ok (.goto (-46), 3) := by decide +kernel
theorem dX12_round_87 : decode cX12_round 87 = .ok (.aload_n 0, 1) := by decide +kernel
theorem dX12_round_88 : decode cX12_round 88 = .ok (.iload_n 3, 1) := by decide +kernel
theorem dX12_round_89 : decode cX12_round 89 = .ok (.iload 6, 2) := by decide +kernel
theorem dX12_round_91 : decode cX12_round 91 = .ok (.invokevirtual 340, 3) := by decide +kernel
theorem dX12_round_94 : decode cX12_round 94 = .ok (.iconst (-1), 1) := by decide +kernel
theorem dX12_round_95 : decode cX12_round 95 = .ok (.if_icmp .eq 24, 3) := by decide +kernel
theorem dX12_round_98 : decode cX12_round 98 = .ok (.aload_n 0, 1) := by decide +kernel
theorem dX12_round_99 : decode cX12_round 99 = .ok (.getfield 120, 3) := by decide +kernel
theorem dX12_round_102 : decode cX12_round 102 = .ok (.iload 4, 2) := by decide +kernel
theorem dX12_round_104 : decode cX12_round 104 = .ok (.iconst 1, 1) := by decide +kernel
theorem dX12_round_105 : decode cX12_round 105 = .ok (.iload 6, 2) := by decide +kernel
theorem dX12_round_107 : decode cX12_round 107 = .ok (.ishl, 1) := by decide +kernel
theorem dX12_round_108 : decode cX12_round 108 = .ok (.ior, 1) := by decide +kernel
theorem dX12_round_109 : decode cX12_round 109 = .ok (.bipush 14, 2) := by decide +kernel
theorem dX12_round_111 : decode cX12_round 111 = .ok (.imul, 1) := by decide +kernel
theorem dX12_round_112 : decode cX12_round 112 = .ok (.iload 6, 2) := by decide +kernel
theorem dX12_round_114 : decode cX12_round 114 = .ok (.iadd, 1) := by decide +kernel
theorem dX12_round_115 : decode cX12_round 115 = .ok (.baload, 1) := by decide +kernel
theorem dX12_round_116 : decode cX12_round 116 = .ok (.ifCond .ne 9, 3) := by decide +kernel
theorem dX12_round_125 : decode cX12_round 125 = .ok (.iload 4, 2) := by decide +kernel
theorem dX12_round_127 : decode cX12_round 127 = .ok (.iconst 1, 1) := by decide +kernel
theorem dX12_round_128 : decode cX12_round 128 = .ok (.iload 6, 2) := by decide +kernel
theorem dX12_round_130 : decode cX12_round 130 = .ok (.ishl, 1) := by decide +kernel
theorem dX12_round_131 : decode cX12_round 131 = .ok (.ior, 1) := by decide +kernel
theorem dX12_round_132 : decode cX12_round 132 = .ok (.istore 4, 2) := by decide +kernel
theorem dX12_round_134 : decode cX12_round 134 = .ok (.iload 6, 2) := by decide +kernel
theorem dX12_round_136 : decode cX12_round 136 = .ok (.istore_n 3, 1) := by decide +kernel
theorem dX12_round_137 : decode cX12_round 137 = .ok (.iinc 5 1, 3) := by decide +kernel
theorem dX12_round_140 : decode cX12_round 140 = .ok (.goto (-73), 3) := by decide +kernel
theorem dX12_round_29 : decode cX12_round 29 = .ok (.iload_n 2, 1) := by decide +kernel
theorem dX12_round_30 : decode cX12_round 30 = .ok (.ifCond .eq 7, 3) := by decide +kernel
theorem dX12_round_37 : decode cX12_round 37 = .ok (.iconst 0, 1) := by decide +kernel
theorem dX12_round_38 : decode cX12_round 38 = .ok (.ireturn, 1) := by decide +kernel
theorem dX12_round_33 : decode cX12_round 33 = .ok (.iconst 1, 1) := by decide +kernel
theorem dX12_round_34 : decode cX12_round 34 = .ok (.goto 4, 3) := by decide +kernel
theorem dX12_round_13 : decode cX12_round 13 = .ok (.iconst (-1), 1) := by decide +kernel
theorem dX12_round_14 : decode cX12_round 14 = .ok (.ireturn, 1) := by decide +kernel
theorem v_6005cd1419 {a0 a1 a2 : Int} (h0 : 1 ≤ a0) (h1 : a0 ≤ a1) (h2 : a1 = a2 - 1) (h3 : a2 ≤ 16384) : zr a0 := by omega
theorem v_3acdbeb3b5 {a0 a1 a2 : Int} (h0 : 1 ≤ a0) (h1 : a0 ≤ a1) (h2 : a1 = a2 - 1) (h3 : a2 ≤ 16384) : zr a1 := by omega
theorem v_11d24011b1 {a0 a1 : Int} (h0 : a0 < a1) (h1 : a1 ≤ 14) : a0 < 1260 := by omega
theorem v_43f071c555 {a0 a1 a2 : Int} (h0 : a0 < a1) (h1 : a1 ≤ 14) (h2 : a2 ≤ 22) : 22 * a0 + a2 < 27720 := by omega
theorem v_780266c989 {a0 a1 a2 : Int} (h0 : a0 ≤ a1) (h1 : a1 = a2 - 1) : a0 < a2 := by omega
theorem v_5032df5fa5 {a0 : Int} : a0 * 14 = 14 * a0 := by omega
theorem v_f3ad863da4 {a0 a1 : Int} (h0 : 0 ≤ a0) (h1 : 0 ≤ a1) : 0 ≤ 14 * a1 + a0 := by omega
theorem v_efb98fa257 {a0 a1 a2 a3 : Int} (h0 : a0 ≤ 14) (h1 : a1 ≤ 16384) (h2 : a2 < a0) (h3 : a3 < a1) : 14 * a3 + a2 < 229376 := by omega
theorem v_090354fa55 {a0 : Int} (h0 : -1 ≤ a0) (h1 : a0 ≤ 21) : zr a0 := by omega
theorem v_7d66c0c278 {a0 : Int} : (a0 - 1) ≤ (a0 - 1) := by omega
theorem v_dd4bb7a575 {a0 a1 : Int} (h0 : a0 ≤ 16384) (h1 : 0 ≤ a1) (h2 : a1 ≤ (a0 - 1)) : zr a1 := by omega
theorem v_61441cc551 {a0 : Int} (h0 : 0 ≤ a0) (h1 : a0 ≤ 0) : a0 = 0 := by omega
theorem v_8b98f9dcae {a0 a1 : Int} (h0 : a0 = a1) : a0 - 1 = a1 - 1 := by omega
theorem v_cf0a767ec6 : (0 : Int) ≤ 14 := by omega
theorem v_c75ac4ddbc : (14 : Int) < 229376 := by omega
theorem v_12f747270e {a0 a1 : Int} (h0 : a0 ≤ (a1 - 1)) : (a0 - 1) ≤ (a1 - 1) := by omega
theorem v_50fd58320d {a0 a1 : Int} : 14 * a0 + a1 = a1 + 14 * a0 := by omega
theorem v_e403519991 {a0 a1 : Int} (h0 : ¬ a0 ≤ 0) (h1 : 0 ≤ a1) : 0 ≤ a1 + 14 * a0 := by omega
theorem v_e5368f7445 {a0 a1 a2 a3 : Int} (h0 : a0 ≤ 14) (h1 : a1 ≤ 16384) (h2 : a2 ≤ (a1 - 1)) (h3 : ¬ a0 ≤ a3) : a3 + 14 * a2 < 229376 := by omega
theorem v_274c3e4811 {a0 a1 : Int} (h0 : a0 = a1) : (a0 - 1) = a1 - 1 := by omega
theorem v_1524e50ecd {a0 a1 : Int} : a0 + 14 * a1 = 14 * a1 + a0 := by omega
theorem v_a0efbdfb1f {a0 a1 : Int} (h0 : a0 ≤ (a1 - 1)) : a0 ≤ (a1 - 1) := by omega
theorem v_8d73c54b20 {a0 a1 a2 : Int} (h0 : a0 = a1) (h1 : a0 ≤ 14) (h2 : a2 = a1) : a2 ≤ 14 := by omega
theorem v_f11d08809e {a0 a1 a2 : Int} (h0 : a0 ≤ (a1 - 1)) (h1 : ¬ a0 ≤ a2) : a2 + 1 < a1 := by omega
theorem v_13fa344ddd {a0 a1 a2 : Int} (h0 : a0 ≤ 1260) (h1 : a1 < a0) (h2 : 0 ≤ a2) (h3 : a2 ≤ a1) : zr a2 := by omega
theorem v_7d015456a6 {a0 a1 : Int} (h0 : 0 ≤ a0) (h1 : 0 ≤ a1) : 0 ≤ a0 + 14 * a1 := by omega
theorem v_53c5b71a3e {a0 a1 a2 a3 a4 a5 a6 : Int} (h0 : a0 = a1) (h1 : a0 ≤ 14) (h2 : a2 = a1) (h3 : a3 ≤ 16384) (h4 : a4 < a2) (h5 : a5 ≤ a4) (h6 : a6 < a3) : a5 + 14 * a6 < 229376 := by omega
theorem v_1f82cf6800 {a0 a1 : Int} (h0 : 1 ≤ a0) (h1 : a0 ≤ a1) : 1 ≤ a1 := by omega
set_option maxHeartbeats 4000000 in
set_option maxRecDepth 100000 in
theorem k_endsBy {l : Launch} {G : jG} {nh : Nat} {fh : Nat → Option va_E} (t : Int) (h : Int) (all : Int) (en : Int → Int) (st : Int → Int) (tk : Int → Int) (sm : Int → Int) (ms : Int) (mv : Int) (mt : Int) (mfa : Int) (mtn : Int) (mtk : Int) (mlv : Int) (mbd : Int) (mgo : Int) (mge : Int) (mbk : Int) (mtt : Int) (mtl : Int) (hm : Int) (pm : Int) (hb : Int) (sb : Int) (mfu : Int) (mdm : Int) (mla : Int) (q0 : 1 ≤ t) (q1 : t ≤ all) (q2 : all = P2 hm - 1) (q3 : 0 ≤ h) (q4 : h < hm) (q5 : 1 ≤ hm) (q6 : hm ≤ 1260) (q7 : StM st tk sm hm) (q8 : hm ≤ 14) (q9 : Rg en 229376 0 1) (hk98 : fh 98 = some (.inr (12, (.int (zI ms) :: .int (zI mv) :: .ref 99 :: .ref 100 :: .ref 101 :: .ref 102 :: .ref 103 :: .ref 104 :: .ref 105 :: .int (zI mt) :: .int (zI mfa) :: .ref 106 :: .ref 107 :: .ref 108 :: .int (zI mtn) :: .int (zI mtk) :: .int (zI mlv) :: .int (zI mbd) :: .int (zI mgo) :: .int (zI mge) :: .int (zI mbk) :: .ref 109 :: .int (zI mtt) :: .int (zI mtl) :: .ref 110 :: .ref 111 :: .ref 112 :: .ref 113 :: .ref 114 :: .ref 115 :: .ref 116 :: .ref 117 :: .int (zI hm) :: .int (zI pm) :: .int (zI hb) :: .int (zI sb) :: .ref 118 :: .ref 119 :: .ref 120 :: .ref 121 :: .ref 122 :: .ref 123 :: .ref 124 :: .ref 125 :: .ref 126 :: .ref 127 :: .ref 128 :: .ref 129 :: .int (zI mfu) :: .ref 130 :: .ref 131 :: .ref 132 :: .ref 133 :: .ref 134 :: .int (zI mdm) :: .int (zI mla) :: [])))) (hk112 : fh 112 = some (.inl (0, 27720, .inl (zA st)))) (hk113 : fh 113 = some (.inl (0, 27720, .inl (zA tk)))) (hk114 : fh 114 = some (.inl (0, 1260, .inl (zA sm)))) (hk129 : fh 129 = some (.inl (2, 229376, .inl (zA en)))) : JM l G yX12_endsBy MX12_endsBy { frames := 1, cells := 0, slots := 0, locals := 23 } [.ref 98, .int (zI t), .int (zI h), .int (zI all)] (nh, fh) (fun rr h9 => ∃ r : Int, rr = some (.int (zI r)) ∧ h9 = (nh, fh) ∧ (0 ≤ r) ∧ (r ≤ 1) ∧ (r = 1 → t = all ∨ EP en st sm t h)) := by
  refine JM.of (by decide) rfl (fun h => by cases h) (Nat.le_of_ble_eq_true rfl) ⟨2, rfl⟩ ?_
  refine J_hc0 (J_ls (ls2 := [some (.ref 98), some (.int (zI t)), some (.int (zI h)), some (.int (zI all)), none, none]) rfl ?_)
  have g1 := P2_lim (n := hm) (v_20ae70f27a q8)
  refine J_iload_n dX12_endsBy_0 rfl rfl ?_
  refine J_iload_n dX12_endsBy_1 rfl rfl ?_
  refine Z_icmp_ne (tgt := 21) dX12_endsBy_2 (by decide) (v_6005cd1419 q0 q1 q2 g1.2) (v_3acdbeb3b5 q0 q1 q2 g1.2) (fun h2 => ?_) (fun h2 => ?_)
  · refine Z_iconst (n := 0) dX12_endsBy_21 ?_
    refine J_istore dX12_endsBy_22 (Nat.le_of_ble_eq_true rfl) rfl ?_
    refine J_ls (ls2 := [some (.ref 98), some (.int (zI t)), some (.int (zI h)), some (.int (zI all)), some (.int (zI 0)), none]) rfl ?_
    have lp24 : ∀ (N24 : Nat) (i_24 : Int), (0 ≤ i_24) → (i_24 ≤ 22) → (22 - i_24).toNat < N24 → J l G MX12_endsBy { frames := 1, cells := 0, slots := 0, locals := 23 } jE (jMQ G { frames := 1, cells := 0, slots := 0, locals := 23 } (fun rr h9 => ∃ r : Int, rr = some (.int (zI r)) ∧ h9 = (nh, fh) ∧ (0 ≤ r) ∧ (r ≤ 1) ∧ (r = 1 → t = all ∨ EP en st sm t h))) (nh, hc fh []) 0 0 24 [some (.ref 98), some (.int (zI t)), some (.int (zI h)), some (.int (zI all)), some (.int (zI i_24)), none] [] := by
      intro N24
      induction N24 with
      | zero => intro i_24 i24_0 i24_1 hm; exact absurd hm (Nat.not_lt_zero _)
      | succ N24 ih24 =>
        intro i_24 i24_0 i24_1 hm24
        refine J_iload dX12_endsBy_24 rfl ?_
        refine J_aload_n dX12_endsBy_26 rfl rfl ?_
        refine J_get (v := .ref 114) dX12_endsBy_27 fl_X12_67 hk98 rfl ?_
        refine J_iload_n dX12_endsBy_30 rfl rfl ?_
        obtain ⟨z3, ez3⟩ : ∃ z : Int, sm h = z := ⟨_, rfl⟩
        have h4 := StM.deg q7 (v_2b02420001 q3) (v_b9aca61388 q4) ez3
        refine Y_iald (z := z3) 1260 dX12_endsBy_31 hk114 rfl (by decide) (v_2b02420001 q3) (v_11d24011b1 q4 q8) ez3 ?_
        refine Z_icmp_ge (tgt := 86) dX12_endsBy_32 (by decide) (v_ee6ec25f58 i24_0 i24_1) (v_ee6ec25f58 h4.1 h4.2) (fun h5 => ?_) (fun h5 => ?_)
        · refine Z_iconst (n := 0) dX12_endsBy_86 ?_
          exact J_iret dX12_endsBy_87 rfl (jbn v_939070ca3f v_316afd7d0b) (Nat.le_of_ble_eq_true rfl) (Nat.le_of_ble_eq_true rfl) ⟨0, rfl, rfl, v_939070ca3f, v_316afd7d0b, (fun w => absurd w (by decide))⟩
        · refine J_aload_n dX12_endsBy_35 rfl rfl ?_
          refine J_get (v := .ref 112) dX12_endsBy_36 fl_X12_61 hk98 rfl ?_
          refine Z_bipush (n := 22) dX12_endsBy_39 (by decide +kernel) ?_
          refine J_iload_n dX12_endsBy_41 rfl rfl ?_
          refine Z_imul (c := 22 * h) dX12_endsBy_42 rfl ?_
          refine J_iload dX12_endsBy_43 rfl ?_
          refine Z_iadd (c := 22 * h + i_24) dX12_endsBy_45 rfl ?_
          obtain ⟨z6, ez6⟩ : ∃ z : Int, st (22 * h + i_24) = z := ⟨_, rfl⟩
          have h7 := StM.to q7 (v_2b02420001 q3) (v_b9aca61388 q4) ez3 (v_2b02420001 i24_0) (v_fe9ea41faa h5) v_bbccdd60f5 ez6
          refine Y_iald (z := z6) 27720 dX12_endsBy_46 hk112 rfl (by decide) (v_c3b7d2d1ca q3 i24_0) (v_43f071c555 q4 q8 i24_1) ez6 ?_
          refine J_istore dX12_endsBy_47 (Nat.le_of_ble_eq_true rfl) rfl ?_
          refine J_ls (ls2 := [some (.ref 98), some (.int (zI t)), some (.int (zI h)), some (.int (zI all)), some (.int (zI i_24)), some (.int (zI z6))]) rfl ?_
          refine J_iload_n dX12_endsBy_49 rfl rfl ?_
          refine J_iload dX12_endsBy_50 rfl ?_
          obtain ⟨z8, ez8⟩ : ∃ z : Int, zshr t z6 = z := ⟨_, rfl⟩
          refine Y_ishr (z := z8) dX12_endsBy_52 ez8 ?_
          have h9 : zr z8 := by rw [← ez8]; exact zr_toInt _
          refine Z_iconst (n := 1) dX12_endsBy_53 ?_
          obtain ⟨z10, ez10⟩ : ∃ z : Int, zand z8 1 = z := ⟨_, rfl⟩
          refine Y_iand (z := z10) dX12_endsBy_54 ez10 ?_
          have h11 : zr z10 := by rw [← ez10]; exact zr_toInt _
          have h12 : 0 ≤ z10 ∧ z10 ≤ 1 := zand_mask 1 (by decide) (by decide +kernel) (by decide) ez10
          refine Z_if_ne (tgt := 80) dX12_endsBy_55 (by decide) (v_5f10a759cd h12.1 h12.2) (fun h13 => ?_) (fun h13 => ?_)
          · refine Z_iinc (c := i_24 + 1) (ls2 := [some (.ref 98), some (.int (zI t)), some (.int (zI h)), some (.int (zI all)), some (.int (zI (i_24 + 1))), some (.int (zI z6))]) dX12_endsBy_80 rfl (Nat.le_of_ble_eq_true rfl) rfl rfl rfl ?_
            refine J_goto (tgt := 24) dX12_endsBy_83 (by decide) ?_
            refine J_drop (ls2 := [some (.ref 98), some (.int (zI t)), some (.int (zI h)), some (.int (zI all)), some (.int (zI (i_24 + 1))), none]) [true, true, true, true, true, false] rfl ?_
            exact ih24 (i_24 + 1) (v_da458fa48a i24_0) (v_47a3e0fadb h4.2 h5) (meas_lt v_7998cc58ac (v_e4105e2830 h4.2 h5) hm24)
          · refine J_aload_n dX12_endsBy_58 rfl rfl ?_
            refine J_get (v := .ref 129) dX12_endsBy_59 fl_X12_120 hk98 rfl ?_
            refine J_iload_n dX12_endsBy_62 rfl rfl ?_
            refine Z_iconst (n := 1) dX12_endsBy_63 ?_
            refine J_iload dX12_endsBy_64 rfl ?_
            obtain ⟨z14, ez14⟩ : ∃ z : Int, zshl 1 z6 = z := ⟨_, rfl⟩
            refine Y_ishl (z := z14) dX12_endsBy_66 ez14 ?_
            have h15 : zr z14 := by rw [← ez14]; exact zr_toInt _
            obtain ⟨z16, ez16⟩ : ∃ z : Int, zor t z14 = z := ⟨_, rfl⟩
            refine Y_ior (z := z16) dX12_endsBy_67 ez16 ?_
            have h17 : zr z16 := by rw [← ez16]; exact zr_toInt _
            have g18 := P2_or (n := hm) (v_632d2dbe78 q5) (v_20ae70f27a q8) (v_632d2dbe78 q0) (v_780266c989 q1 q2) (v_2b02420001 h7.1) (v_b9aca61388 h7.2) ez14 ez16
            refine Z_bipush (n := 14) dX12_endsBy_68 (by decide +kernel) ?_
            refine Z_imul (c := 14 * z16) dX12_endsBy_70 v_5032df5fa5 ?_
            refine J_iload dX12_endsBy_71 rfl ?_
            refine Z_iadd (c := 14 * z16 + z6) dX12_endsBy_73 rfl ?_
            obtain ⟨z19, ez19⟩ : ∃ z : Int, en (14 * z16 + z6) = z := ⟨_, rfl⟩
            have h20 := Rg.at q9 (v_f3ad863da4 h7.1 g18.1) (v_efb98fa257 q8 g1.2 h7.2 g18.2.1) ez19
            refine Y_zald (z := z19) 229376 dX12_endsBy_74 hk129 rfl (by decide) (v_f3ad863da4 h7.1 g18.1) (v_efb98fa257 q8 g1.2 h7.2 g18.2.1) ez19 ?_
            refine Z_if_eq (tgt := 80) dX12_endsBy_75 (by decide) (v_5f10a759cd h20.1 h20.2) (fun h21 => ?_) (fun h21 => ?_)
            · refine Z_iinc (c := i_24 + 1) (ls2 := [some (.ref 98), some (.int (zI t)), some (.int (zI h)), some (.int (zI all)), some (.int (zI (i_24 + 1))), some (.int (zI z6))]) dX12_endsBy_80 rfl (Nat.le_of_ble_eq_true rfl) rfl rfl rfl ?_
              refine J_goto (tgt := 24) dX12_endsBy_83 (by decide) ?_
              refine J_drop (ls2 := [some (.ref 98), some (.int (zI t)), some (.int (zI h)), some (.int (zI all)), some (.int (zI (i_24 + 1))), none]) [true, true, true, true, true, false] rfl ?_
              exact ih24 (i_24 + 1) (v_da458fa48a i24_0) (v_47a3e0fadb h4.2 h5) (meas_lt v_7998cc58ac (v_e4105e2830 h4.2 h5) hm24)
            · refine Z_iconst (n := 1) dX12_endsBy_78 ?_
              exact J_iret dX12_endsBy_79 rfl (jbn v_316afd7d0b v_bbcfac9b7d) (Nat.le_of_ble_eq_true rfl) (Nat.le_of_ble_eq_true rfl) ⟨1, rfl, rfl, v_316afd7d0b, v_bbcfac9b7d, (fun _ => .inr (EP.mk i24_0 ez3 (v_fe9ea41faa h5) v_bbccdd60f5 ez6 ez8 ez10 (v_bd6c74a791 h12.1 h13) ez14 ez16 ((congrArg en (by omega)).trans ez19) (v_8b15499c4b h20.1 h20.2 h21)))⟩
    exact lp24 _ 0 v_939070ca3f v_88d800e4db (Nat.lt_succ_self _)
  · refine J_aload_n dX12_endsBy_5 rfl rfl ?_
    refine J_iload_n dX12_endsBy_6 rfl rfl ?_
    refine Z_iconst (n := 0) dX12_endsBy_7 ?_
    refine J_callV (st := []) dX12_endsBy_8 cv_X12_340 (k_stepBetweenF h 0 st tk sm ms mv mt mfa mtn mtk mlv mbd mgo mge mbk mtt mtl hm pm hb sb mfu mdm mla q3 q4 v_b17331891f q5 q6 q7 hk98 hk112 hk113 hk114) hk98 rfl rfl (Nat.le_of_ble_eq_true rfl) ⟨(Nat.le_of_ble_eq_true rfl), (Nat.le_of_ble_eq_true rfl)⟩ ⟨(Nat.le_of_ble_eq_true rfl), (Nat.le_of_ble_eq_true rfl)⟩ (fun r h9 hp => ?_)
    obtain ⟨z22, rfl, rfl, h23, h24, h25, h26, h27⟩ := hp
    refine J_nf (nh2 := nh) (ck2 := 0) (sk2 := 0) (st2 := [.int (zI z22)]) rfl rfl rfl rfl ?_
    refine Z_iconst (n := -1) dX12_endsBy_11 ?_
    refine Z_icmp_eq (tgt := 19) dX12_endsBy_12 (by decide) (v_090354fa55 h23 h26) v_d64efa60f9 (fun h28 => ?_) (fun h28 => ?_)
    · refine Z_iconst (n := 0) dX12_endsBy_19 ?_
      exact J_iret dX12_endsBy_20 rfl (jbn v_939070ca3f v_316afd7d0b) (Nat.le_of_ble_eq_true rfl) (Nat.le_of_ble_eq_true rfl) ⟨0, rfl, rfl, v_939070ca3f, v_316afd7d0b, (fun _ => .inl (v_6b24684dc2 q1 h2))⟩
    · refine Z_iconst (n := 1) dX12_endsBy_15 ?_
      refine J_goto (tgt := 20) dX12_endsBy_16 (by decide) ?_
      exact J_iret dX12_endsBy_20 rfl (jbn v_316afd7d0b v_bbcfac9b7d) (Nat.le_of_ble_eq_true rfl) (Nat.le_of_ble_eq_true rfl) ⟨1, rfl, rfl, v_316afd7d0b, v_bbcfac9b7d, (fun _ => .inl (v_6b24684dc2 q1 h2))⟩
set_option maxHeartbeats 4000000 in
set_option maxRecDepth 100000 in
theorem k_findsRound {l : Launch} {G : jG} {nh : Nat} {fh : Nat → Option va_E} (en : Int → Int) (st : Int → Int) (tk : Int → Int) (sm : Int → Int) (ms : Int) (mv : Int) (mt : Int) (mfa : Int) (mtn : Int) (mtk : Int) (mlv : Int) (mbd : Int) (mgo : Int) (mge : Int) (mbk : Int) (mtt : Int) (mtl : Int) (hm : Int) (pm : Int) (hb : Int) (sb : Int) (mfu : Int) (mdm : Int) (mla : Int) (q0 : 1 ≤ hm) (q1 : hm ≤ 1260) (q2 : StM st tk sm hm) (q3 : hm ≤ 14) (q4 : Rg en 229376 0 1) (hk98 : fh 98 = some (.inr (12, (.int (zI ms) :: .int (zI mv) :: .ref 99 :: .ref 100 :: .ref 101 :: .ref 102 :: .ref 103 :: .ref 104 :: .ref 105 :: .int (zI mt) :: .int (zI mfa) :: .ref 106 :: .ref 107 :: .ref 108 :: .int (zI mtn) :: .int (zI mtk) :: .int (zI mlv) :: .int (zI mbd) :: .int (zI mgo) :: .int (zI mge) :: .int (zI mbk) :: .ref 109 :: .int (zI mtt) :: .int (zI mtl) :: .ref 110 :: .ref 111 :: .ref 112 :: .ref 113 :: .ref 114 :: .ref 115 :: .ref 116 :: .ref 117 :: .int (zI hm) :: .int (zI pm) :: .int (zI hb) :: .int (zI sb) :: .ref 118 :: .ref 119 :: .ref 120 :: .ref 121 :: .ref 122 :: .ref 123 :: .ref 124 :: .ref 125 :: .ref 126 :: .ref 127 :: .ref 128 :: .ref 129 :: .int (zI mfu) :: .ref 130 :: .ref 131 :: .ref 132 :: .ref 133 :: .ref 134 :: .int (zI mdm) :: .int (zI mla) :: [])))) (hk112 : fh 112 = some (.inl (0, 27720, .inl (zA st)))) (hk113 : fh 113 = some (.inl (0, 27720, .inl (zA tk)))) (hk114 : fh 114 = some (.inl (0, 1260, .inl (zA sm)))) (hk129 : fh 129 = some (.inl (2, 229376, .inl (zA en)))) : JM l G yX12_findsRound MX12_findsRound { frames := 2, cells := 0, slots := 0, locals := 48 } [.ref 98] (nh, fh) (fun rr h9 => ∃ r : Int, ∃ en2 : Int → Int, rr = some (.int (zI r)) ∧ h9 = (nh, hc fh [(129, .inl (2, 229376, .inl (zA en2)))]) ∧ (0 ≤ r) ∧ (r ≤ 1) ∧ (Rg en2 229376 0 1) ∧ (EndT en2 st sm hm (P2 hm - 1) 0) ∧ (r = 1 → en2 14 = 1 ∧ 2 ≤ hm)) := by
  refine JM.of (by decide) rfl (fun h => by cases h) (Nat.le_of_ble_eq_true rfl) ⟨3, rfl⟩ ?_
  refine J_hc0 (J_ls (ls2 := [some (.ref 98), none, none, none]) rfl ?_)
  refine Z_iconst (n := 1) dX12_findsRound_0 ?_
  refine J_aload_n dX12_findsRound_1 rfl rfl ?_
  refine J_get (v := .int (zI hm)) dX12_findsRound_2 fl_X12_298 hk98 rfl ?_
  obtain ⟨z1, ez1⟩ : ∃ z : Int, zshl 1 hm = z := ⟨_, rfl⟩
  refine Y_ishl (z := z1) dX12_findsRound_5 ez1 ?_
  have h2 : zr z1 := by rw [← ez1]; exact zr_toInt _
  have g3 := P2_all (v_632d2dbe78 q0) (v_20ae70f27a q3) ez1
  refine Z_iconst (n := 1) dX12_findsRound_6 ?_
  refine Z_isub (c := z1 - 1) dX12_findsRound_7 rfl ?_
  refine J_istore_n dX12_findsRound_8 rfl (Nat.le_of_ble_eq_true rfl) rfl ?_
  refine J_ls (ls2 := [some (.ref 98), some (.int (zI (z1 - 1))), none, none]) rfl ?_
  refine J_iload_n dX12_findsRound_9 rfl rfl ?_
  refine J_istore_n dX12_findsRound_10 rfl (Nat.le_of_ble_eq_true rfl) rfl ?_
  refine J_ls (ls2 := [some (.ref 98), some (.int (zI (z1 - 1))), some (.int (zI (z1 - 1))), none]) rfl ?_
  refine J_touch (k := 129) (e := .inl (2, 229376, .inl (zA en))) hk129 ?_
  have lp11 : ∀ (N11 : Nat) (t_11 : Int) (e_11 : Int → Int), (0 ≤ t_11) → (t_11 ≤ (z1 - 1)) → (Rg e_11 229376 0 1) → (EndT e_11 st sm hm (z1 - 1) t_11) → (t_11).toNat < N11 → J l G MX12_findsRound { frames := 2, cells := 0, slots := 0, locals := 48 } jE (jMQ G { frames := 2, cells := 0, slots := 0, locals := 48 } (fun rr h9 => ∃ r : Int, ∃ en2 : Int → Int, rr = some (.int (zI r)) ∧ h9 = (nh, hc fh [(129, .inl (2, 229376, .inl (zA en2)))]) ∧ (0 ≤ r) ∧ (r ≤ 1) ∧ (Rg en2 229376 0 1) ∧ (EndT en2 st sm hm (P2 hm - 1) 0) ∧ (r = 1 → en2 14 = 1 ∧ 2 ≤ hm))) (nh, hc fh [(129, .inl (2, 229376, .inl (zA e_11)))]) 0 0 11 [some (.ref 98), some (.int (zI (z1 - 1))), some (.int (zI t_11)), none] [] := by
    intro N11
    induction N11 with
    | zero => intro t_11 e_11 i11_0 i11_1 i11_2 i11_3 hm; exact absurd hm (Nat.not_lt_zero _)
    | succ N11 ih11 =>
      intro t_11 e_11 i11_0 i11_1 i11_2 i11_3 hm11
      refine J_iload_n dX12_findsRound_11 rfl rfl ?_
      refine Z_if_le (tgt := 72) dX12_findsRound_12 (by decide) (v_dd4bb7a575 g3.2.2 i11_0 i11_1) (fun h4 => ?_) (fun h4 => ?_)
      · refine J_aload_n dX12_findsRound_72 rfl rfl ?_
        refine J_get (v := .int (zI hm)) dX12_findsRound_73 fl_X12_298 hk98 rfl ?_
        refine Z_iconst (n := 1) dX12_findsRound_76 ?_
        refine Z_icmp_le (tgt := 94) dX12_findsRound_77 (by decide) (v_41e398b508 q0 q3) v_4dcc24baa7 (fun h5 => ?_) (fun h5 => ?_)
        · refine Z_iconst (n := 0) dX12_findsRound_94 ?_
          exact J_iret dX12_findsRound_95 rfl (jbn v_939070ca3f v_316afd7d0b) (Nat.le_of_ble_eq_true rfl) (Nat.le_of_ble_eq_true rfl) ⟨0, e_11, rfl, rfl, v_939070ca3f, v_316afd7d0b, i11_2, (by have e : t_11 = 0 := (v_61441cc551 i11_0 h4); have a : (z1 - 1) = P2 hm - 1 := (v_8b98f9dcae g3.1); rw [e, a] at i11_3; exact i11_3), (fun w => absurd w (by decide))⟩
        · refine J_aload_n dX12_findsRound_80 rfl rfl ?_
          refine J_get (v := .ref 129) dX12_findsRound_81 fl_X12_120 hk98 rfl ?_
          refine Z_bipush (n := 14) dX12_findsRound_84 (by decide +kernel) ?_
          obtain ⟨z6, ez6⟩ : ∃ z : Int, e_11 14 = z := ⟨_, rfl⟩
          have h7 := Rg.at i11_2 v_cf0a767ec6 v_c75ac4ddbc ez6
          refine Y_zald (z := z6) 229376 dX12_findsRound_86 rfl rfl (by decide) v_cf0a767ec6 v_c75ac4ddbc ez6 ?_
          refine Z_if_eq (tgt := 94) dX12_findsRound_87 (by decide) (v_5f10a759cd h7.1 h7.2) (fun h8 => ?_) (fun h8 => ?_)
          · refine Z_iconst (n := 0) dX12_findsRound_94 ?_
            exact J_iret dX12_findsRound_95 rfl (jbn v_939070ca3f v_316afd7d0b) (Nat.le_of_ble_eq_true rfl) (Nat.le_of_ble_eq_true rfl) ⟨0, e_11, rfl, rfl, v_939070ca3f, v_316afd7d0b, i11_2, (by have e : t_11 = 0 := (v_61441cc551 i11_0 h4); have a : (z1 - 1) = P2 hm - 1 := (v_8b98f9dcae g3.1); rw [e, a] at i11_3; exact i11_3), (fun w => absurd w (by decide))⟩
          · refine Z_iconst (n := 1) dX12_findsRound_90 ?_
            refine J_goto (tgt := 95) dX12_findsRound_91 (by decide) ?_
            exact J_iret dX12_findsRound_95 rfl (jbn v_316afd7d0b v_bbcfac9b7d) (Nat.le_of_ble_eq_true rfl) (Nat.le_of_ble_eq_true rfl) ⟨1, e_11, rfl, rfl, v_316afd7d0b, v_bbcfac9b7d, i11_2, (by have e : t_11 = 0 := (v_61441cc551 i11_0 h4); have a : (z1 - 1) = P2 hm - 1 := (v_8b98f9dcae g3.1); rw [e, a] at i11_3; exact i11_3), (fun _ => ⟨by rw [ez6]; exact (v_8b15499c4b h7.1 h7.2 h8), (v_b80becc89d h5)⟩)⟩
      · refine Z_iconst (n := 0) dX12_findsRound_15 ?_
        refine J_istore_n dX12_findsRound_16 rfl (Nat.le_of_ble_eq_true rfl) rfl ?_
        refine J_ls (ls2 := [some (.ref 98), some (.int (zI (z1 - 1))), some (.int (zI t_11)), some (.int (zI 0))]) rfl ?_
        have lp17 : ∀ (N17 : Nat) (h_17 : Int) (e_17 : Int → Int), (0 ≤ h_17) → (h_17 ≤ hm) → (Rg e_17 229376 0 1) → (EndT e_17 st sm hm (z1 - 1) t_11) → (EndH e_17 st sm (z1 - 1) t_11 h_17) → (hm - h_17).toNat < N17 → J l G MX12_findsRound { frames := 2, cells := 0, slots := 0, locals := 48 } jE (jMQ G { frames := 2, cells := 0, slots := 0, locals := 48 } (fun rr h9 => ∃ r : Int, ∃ en2 : Int → Int, rr = some (.int (zI r)) ∧ h9 = (nh, hc fh [(129, .inl (2, 229376, .inl (zA en2)))]) ∧ (0 ≤ r) ∧ (r ≤ 1) ∧ (Rg en2 229376 0 1) ∧ (EndT en2 st sm hm (P2 hm - 1) 0) ∧ (r = 1 → en2 14 = 1 ∧ 2 ≤ hm))) (nh, hc fh [(129, .inl (2, 229376, .inl (zA e_17)))]) 0 0 17 [some (.ref 98), some (.int (zI (z1 - 1))), some (.int (zI t_11)), some (.int (zI h_17))] [] := by
          intro N17
          induction N17 with
          | zero => intro h_17 e_17 i17_0 i17_1 i17_2 i17_3 i17_4 hm; exact absurd hm (Nat.not_lt_zero _)
          | succ N17 ih17 =>
            intro h_17 e_17 i17_0 i17_1 i17_2 i17_3 i17_4 hm17
            refine J_iload_n dX12_findsRound_17 rfl rfl ?_
            refine J_aload_n dX12_findsRound_18 rfl rfl ?_
            refine J_get (v := .int (zI hm)) dX12_findsRound_19 fl_X12_298 hk98 rfl ?_
            refine Z_icmp_ge (tgt := 66) dX12_findsRound_22 (by decide) (v_555f17cff2 q3 i17_0 i17_1) (v_41e398b508 q0 q3) (fun h9 => ?_) (fun h9 => ?_)
            · refine Z_iinc (c := t_11 - 1) (ls2 := [some (.ref 98), some (.int (zI (z1 - 1))), some (.int (zI (t_11 - 1))), some (.int (zI h_17))]) dX12_findsRound_66 rfl (Nat.le_of_ble_eq_true rfl) rfl v_c11a8386d1 rfl ?_
              refine J_goto (tgt := 11) dX12_findsRound_69 (by decide) ?_
              refine J_drop (ls2 := [some (.ref 98), some (.int (zI (z1 - 1))), some (.int (zI (t_11 - 1))), none]) [true, true, true, false] rfl ?_
              exact ih11 (t_11 - 1) e_17 (v_37890547f7 h4) (v_12f747270e i11_1) i17_2 (EndT.down i17_3 i17_4 (v_d464d4c634 h9)) (meas_lt v_c458e5b2bb (v_8d20adab6a h4) hm11)
            · refine J_aload_n dX12_findsRound_25 rfl rfl ?_
              refine J_get (v := .ref 129) dX12_findsRound_26 fl_X12_120 hk98 rfl ?_
              refine J_iload_n dX12_findsRound_29 rfl rfl ?_
              refine Z_bipush (n := 14) dX12_findsRound_30 (by decide +kernel) ?_
              refine Z_imul (c := 14 * t_11) dX12_findsRound_32 v_5032df5fa5 ?_
              refine J_iload_n dX12_findsRound_33 rfl rfl ?_
              refine Z_iadd (c := h_17 + 14 * t_11) dX12_findsRound_34 v_50fd58320d ?_
              refine J_iload_n dX12_findsRound_35 rfl rfl ?_
              refine J_iload_n dX12_findsRound_36 rfl rfl ?_
              obtain ⟨z10, ez10⟩ : ∃ z : Int, zshr t_11 h_17 = z := ⟨_, rfl⟩
              refine Y_ishr (z := z10) dX12_findsRound_37 ez10 ?_
              have h11 : zr z10 := by rw [← ez10]; exact zr_toInt _
              refine Z_iconst (n := 1) dX12_findsRound_38 ?_
              obtain ⟨z12, ez12⟩ : ∃ z : Int, zand z10 1 = z := ⟨_, rfl⟩
              refine Y_iand (z := z12) dX12_findsRound_39 ez12 ?_
              have h13 : zr z12 := by rw [← ez12]; exact zr_toInt _
              have h14 : 0 ≤ z12 ∧ z12 ≤ 1 := zand_mask 1 (by decide) (by decide +kernel) (by decide) ez12
              refine Z_iconst (n := 1) dX12_findsRound_40 ?_
              refine Z_icmp_ne (tgt := 58) dX12_findsRound_41 (by decide) (v_5f10a759cd h14.1 h14.2) v_4dcc24baa7 (fun h15 => ?_) (fun h15 => ?_)
              · refine Z_iconst (n := 0) dX12_findsRound_58 ?_
                refine Y_zast (v := 0) 229376 dX12_findsRound_59 rfl rfl (by decide) (v_e403519991 h4 i17_0) (v_e5368f7445 q3 g3.2.2 i11_1 h9) v_939070ca3f v_316afd7d0b (fun f16 ef16 => ?_)
                have h17 : Rg f16 229376 0 1 := Rg.ups i17_2 ef16 v_939070ca3f v_316afd7d0b
                refine Z_iinc (c := h_17 + 1) (ls2 := [some (.ref 98), some (.int (zI (z1 - 1))), some (.int (zI t_11)), some (.int (zI (h_17 + 1)))]) dX12_findsRound_60 rfl (Nat.le_of_ble_eq_true rfl) rfl rfl rfl ?_
                refine J_goto (tgt := 17) dX12_findsRound_63 (by decide) ?_
                refine J_mask (L2 := [(129, .inl (2, 229376, .inl (zA f16)))]) (ks := [129, 129]) [true, false] rfl (by decide +kernel) rfl ?_
                exact ih17 (h_17 + 1) f16 (v_da458fa48a i17_0) (v_e390a36114 h9) h17 (EndT.keep i17_3 q2 (v_5dfb8272e3 q0) (v_20ae70f27a q3) (show (z1 - 1) = P2 hm - 1 from (v_274c3e4811 g3.1)) (v_b835b9514e h4) i17_0 (v_fe9ea41faa h9) v_1524e50ecd ef16) (EndH.put i17_4 q2 (v_5dfb8272e3 q0) (v_20ae70f27a q3) (show (z1 - 1) = P2 hm - 1 from (v_274c3e4811 g3.1)) (v_b835b9514e h4) (v_a0efbdfb1f i11_1) i17_0 (v_fe9ea41faa h9) v_1524e50ecd ef16 (fun w => absurd w (by have u := v_2ca2bbca1f; omega))) (meas_lt v_90eacd6fd4 (v_8b7dd7d486 h9) hm17)
              · refine J_aload_n dX12_findsRound_44 rfl rfl ?_
                refine J_iload_n dX12_findsRound_45 rfl rfl ?_
                refine J_iload_n dX12_findsRound_46 rfl rfl ?_
                refine J_iload_n dX12_findsRound_47 rfl rfl ?_
                refine J_callV (st := [.int (zI (h_17 + 14 * t_11)), .ref 129]) dX12_findsRound_48 cv_X12_348 (k_endsBy t_11 h_17 (z1 - 1) e_17 st tk sm ms mv mt mfa mtn mtk mlv mbd mgo mge mbk mtt mtl hm pm hb sb mfu mdm mla (v_9bf59c6767 h4) i11_1 (v_274c3e4811 g3.1) i17_0 (v_fe9ea41faa h9) q0 q1 q2 q3 i17_2 hk98 hk112 hk113 hk114 rfl) hk98 rfl rfl (Nat.le_of_ble_eq_true rfl) ⟨(Nat.le_of_ble_eq_true rfl), (Nat.le_of_ble_eq_true rfl)⟩ ⟨(Nat.le_of_ble_eq_true rfl), (Nat.le_of_ble_eq_true rfl)⟩ (fun r h9 hp => ?_)
                obtain ⟨z18, rfl, rfl, h19, h20, h21⟩ := hp
                refine J_nf (nh2 := nh) (ck2 := 0) (sk2 := 0) (st2 := [.int (zI z18), .int (zI (h_17 + 14 * t_11)), .ref 129]) rfl rfl rfl rfl ?_
                refine Z_if_eq (tgt := 58) dX12_findsRound_51 (by decide) (v_5f10a759cd h19 h20) (fun h22 => ?_) (fun h22 => ?_)
                · refine Z_iconst (n := 0) dX12_findsRound_58 ?_
                  refine Y_zast (v := 0) 229376 dX12_findsRound_59 rfl rfl (by decide) (v_e403519991 h4 i17_0) (v_e5368f7445 q3 g3.2.2 i11_1 h9) v_939070ca3f v_316afd7d0b (fun f23 ef23 => ?_)
                  have h24 : Rg f23 229376 0 1 := Rg.ups i17_2 ef23 v_939070ca3f v_316afd7d0b
                  refine Z_iinc (c := h_17 + 1) (ls2 := [some (.ref 98), some (.int (zI (z1 - 1))), some (.int (zI t_11)), some (.int (zI (h_17 + 1)))]) dX12_findsRound_60 rfl (Nat.le_of_ble_eq_true rfl) rfl rfl rfl ?_
                  refine J_goto (tgt := 17) dX12_findsRound_63 (by decide) ?_
                  refine J_mask (L2 := [(129, .inl (2, 229376, .inl (zA f23)))]) (ks := [129, 129]) [true, false] rfl (by decide +kernel) rfl ?_
                  exact ih17 (h_17 + 1) f23 (v_da458fa48a i17_0) (v_e390a36114 h9) h24 (EndT.keep i17_3 q2 (v_5dfb8272e3 q0) (v_20ae70f27a q3) (show (z1 - 1) = P2 hm - 1 from (v_274c3e4811 g3.1)) (v_b835b9514e h4) i17_0 (v_fe9ea41faa h9) v_1524e50ecd ef23) (EndH.put i17_4 q2 (v_5dfb8272e3 q0) (v_20ae70f27a q3) (show (z1 - 1) = P2 hm - 1 from (v_274c3e4811 g3.1)) (v_b835b9514e h4) (v_a0efbdfb1f i11_1) i17_0 (v_fe9ea41faa h9) v_1524e50ecd ef23 (fun w => absurd w (by have u := v_2ca2bbca1f; omega))) (meas_lt v_90eacd6fd4 (v_8b7dd7d486 h9) hm17)
                · refine Z_iconst (n := 1) dX12_findsRound_54 ?_
                  refine J_goto (tgt := 59) dX12_findsRound_55 (by decide) ?_
                  refine Y_zast (v := 1) 229376 dX12_findsRound_59 rfl rfl (by decide) (v_e403519991 h4 i17_0) (v_e5368f7445 q3 g3.2.2 i11_1 h9) v_316afd7d0b v_bbcfac9b7d (fun f25 ef25 => ?_)
                  have h26 : Rg f25 229376 0 1 := Rg.ups i17_2 ef25 v_316afd7d0b v_bbcfac9b7d
                  refine Z_iinc (c := h_17 + 1) (ls2 := [some (.ref 98), some (.int (zI (z1 - 1))), some (.int (zI t_11)), some (.int (zI (h_17 + 1)))]) dX12_findsRound_60 rfl (Nat.le_of_ble_eq_true rfl) rfl rfl rfl ?_
                  refine J_goto (tgt := 17) dX12_findsRound_63 (by decide) ?_
                  refine J_mask (L2 := [(129, .inl (2, 229376, .inl (zA f25)))]) (ks := [129, 129]) [true, false] rfl (by decide +kernel) rfl ?_
                  exact ih17 (h_17 + 1) f25 (v_da458fa48a i17_0) (v_e390a36114 h9) h26 (EndT.keep i17_3 q2 (v_5dfb8272e3 q0) (v_20ae70f27a q3) (show (z1 - 1) = P2 hm - 1 from (v_274c3e4811 g3.1)) (v_b835b9514e h4) i17_0 (v_fe9ea41faa h9) v_1524e50ecd ef25) (EndH.put i17_4 q2 (v_5dfb8272e3 q0) (v_20ae70f27a q3) (show (z1 - 1) = P2 hm - 1 from (v_274c3e4811 g3.1)) (v_b835b9514e h4) (v_a0efbdfb1f i11_1) i17_0 (v_fe9ea41faa h9) v_1524e50ecd ef25 (fun _ => h21 (v_8b15499c4b h19 h20 h22))) (meas_lt v_90eacd6fd4 (v_8b7dd7d486 h9) hm17)
        exact lp17 _ 0 e_11 v_939070ca3f (v_632d2dbe78 q0) i11_2 i11_3 (EndH_0) (Nat.lt_succ_self _)
  exact lp11 _ (z1 - 1) en (v_cae5a9b4f3 g3.2.1) v_7d66c0c278 q4 (EndT_0 (Int.le_refl _)) (Nat.lt_succ_self _)
set_option maxHeartbeats 4000000 in
set_option maxRecDepth 100000 in
theorem k_round {l : Launch} {G : jG} {nh : Nat} {fh : Nat → Option va_E} (x : Int) (en : Int → Int) (ms : Int) (mv : Int) (mt : Int) (mfa : Int) (mtn : Int) (mtk : Int) (mlv : Int) (mbd : Int) (mgo : Int) (mge : Int) (mbk : Int) (mtt : Int) (mtl : Int) (hm : Int) (pm : Int) (hb : Int) (sb : Int) (mfu : Int) (mdm : Int) (mla : Int) (K : Int → Int) (co : Int → Int) (cd : Int → Int) (of : Int → Int) (st : Int → Int) (tk : Int → Int) (sm : Int → Int) (cf : Int → Int) (cm : Int → Int) (aq : Int → Int) (q0 : zr x) (q1 : KOK K) (q2 : Rg of 7 0 4) (q3 : zr hb) (q4 : zr mv) (q5 : hb = mv → HouT co cd K hm ∧ hm = Hi K ∧ pm = bsum K) (q6 : zr sb) (q7 : sb = mv → StM st tk sm (Hi K) ∧ CoM cf cm st sm (Hi K)) (q8 : hb ≤ mv) (q9 : sb ≤ mv) (q10 : 0 ≤ mbk) (q11 : mbk ≤ 1) (q12 : Rg aq 8 (-2147483648) 2147483647) (q13 : Rg en 229376 0 1) (hk98 : fh 98 = some (.inr (12, (.int (zI ms) :: .int (zI mv) :: .ref 99 :: .ref 100 :: .ref 101 :: .ref 102 :: .ref 103 :: .ref 104 :: .ref 105 :: .int (zI mt) :: .int (zI mfa) :: .ref 106 :: .ref 107 :: .ref 108 :: .int (zI mtn) :: .int (zI mtk) :: .int (zI mlv) :: .int (zI mbd) :: .int (zI mgo) :: .int (zI mge) :: .int (zI mbk) :: .ref 109 :: .int (zI mtt) :: .int (zI mtl) :: .ref 110 :: .ref 111 :: .ref 112 :: .ref 113 :: .ref 114 :: .ref 115 :: .ref 116 :: .ref 117 :: .int (zI hm) :: .int (zI pm) :: .int (zI hb) :: .int (zI sb) :: .ref 118 :: .ref 119 :: .ref 120 :: .ref 121 :: .ref 122 :: .ref 123 :: .ref 124 :: .ref 125 :: .ref 126 :: .ref 127 :: .ref 128 :: .ref 129 :: .int (zI mfu) :: .ref 130 :: .ref 131 :: .ref 132 :: .ref 133 :: .ref 134 :: .int (zI mdm) :: .int (zI mla) :: [])))) (hk100 : fh 100 = some (.inl (0, 4870, .inl (zA K)))) (hk110 : fh 110 = some (.inl (0, 8820, .inl (zA co)))) (hk111 : fh 111 = some (.inl (0, 1260, .inl (zA cd)))) (hk117 : fh 117 = some (.inl (0, 7, .inl (zA of)))) (hk112 : fh 112 = some (.inl (0, 27720, .inl (zA st)))) (hk113 : fh 113 = some (.inl (0, 27720, .inl (zA tk)))) (hk114 : fh 114 = some (.inl (0, 1260, .inl (zA sm)))) (hk115 : fh 115 = some (.inl (0, 27720, .inl (zA cf)))) (hk116 : fh 116 = some (.inl (0, 1260, .inl (zA cm)))) (hk109 : fh 109 = some (.inl (0, 8, .inl (zA aq)))) (hk129 : fh 129 = some (.inl (2, 229376, .inl (zA en)))) : JM l G yX12_round MX12_round { frames := 43, cells := 0, slots := 0, locals := 1018 } [.ref 98, .int (zI x)] (nh, fh) (fun rr h9 => ∃ r : Int, ∃ hm2 : Int, ∃ pm2 : Int, ∃ hb2 : Int, ∃ co2 : Int → Int, ∃ cd2 : Int → Int, ∃ of2 : Int → Int, ∃ sb2 : Int, ∃ st2 : Int → Int, ∃ tk2 : Int → Int, ∃ sm2 : Int → Int, ∃ cf2 : Int → Int, ∃ cm2 : Int → Int, ∃ aq2 : Int → Int, ∃ go2 : Int, ∃ ge2 : Int, ∃ bk2 : Int, ∃ tt2 : Int, ∃ tl2 : Int, ∃ en2 : Int → Int, rr = some (.int (zI r)) ∧ h9 = (nh, hc fh [(98, .inr (12, (.int (zI ms) :: .int (zI mv) :: .ref 99 :: .ref 100 :: .ref 101 :: .ref 102 :: .ref 103 :: .ref 104 :: .ref 105 :: .int (zI mt) :: .int (zI mfa) :: .ref 106 :: .ref 107 :: .ref 108 :: .int (zI mtn) :: .int (zI mtk) :: .int (zI mlv) :: .int (zI mbd) :: .int (zI go2) :: .int (zI ge2) :: .int (zI bk2) :: .ref 109 :: .int (zI tt2) :: .int (zI tl2) :: .ref 110 :: .ref 111 :: .ref 112 :: .ref 113 :: .ref 114 :: .ref 115 :: .ref 116 :: .ref 117 :: .int (zI hm2) :: .int (zI pm2) :: .int (zI hb2) :: .int (zI sb2) :: .ref 118 :: .ref 119 :: .ref 120 :: .ref 121 :: .ref 122 :: .ref 123 :: .ref 124 :: .ref 125 :: .ref 126 :: .ref 127 :: .ref 128 :: .ref 129 :: .int (zI mfu) :: .ref 130 :: .ref 131 :: .ref 132 :: .ref 133 :: .ref 134 :: .int (zI mdm) :: .int (zI mla) :: []))), (110, .inl (0, 8820, .inl (zA co2))), (111, .inl (0, 1260, .inl (zA cd2))), (117, .inl (0, 7, .inl (zA of2))), (112, .inl (0, 27720, .inl (zA st2))), (113, .inl (0, 27720, .inl (zA tk2))), (114, .inl (0, 1260, .inl (zA sm2))), (115, .inl (0, 27720, .inl (zA cf2))), (116, .inl (0, 1260, .inl (zA cm2))), (109, .inl (0, 8, .inl (zA aq2))), (129, .inl (2, 229376, .inl (zA en2)))]) ∧ (Rg of2 7 0 4) ∧ (zr hb2) ∧ (hb2 = mv → HouT co2 cd2 K hm2 ∧ hm2 = Hi K ∧ pm2 = bsum K) ∧ (zr sb2) ∧ (sb2 = mv → StM st2 tk2 sm2 (Hi K) ∧ CoM cf2 cm2 st2 sm2 (Hi K)) ∧ (hb2 ≤ mv) ∧ (sb2 ≤ mv) ∧ (0 ≤ bk2) ∧ (bk2 ≤ 1) ∧ (Rg aq2 8 (-2147483648) 2147483647) ∧ (Rg en2 229376 0 1)) := by
  refine JM.of (by decide) rfl (fun h => by cases h) (Nat.le_of_ble_eq_true rfl) ⟨5, rfl⟩ ?_
  refine J_hc0 (J_ls (ls2 := [some (.ref 98), some (.int (zI x)), none, none, none, none, none]) rfl ?_)
  refine J_aload_n dX12_round_0 rfl rfl ?_
  refine J_callV (st := []) dX12_round_1 cv_X12_159 (k_laysHouses ms mv mt mfa mtn mtk mlv mbd mgo mge mbk mtt mtl hm pm hb sb mfu mdm mla K co cd of q1.1 q2 q3 q4 q5 hk98 hk100 hk110 hk111 hk117) hk98 rfl rfl (Nat.le_of_ble_eq_true rfl) ⟨(Nat.le_of_ble_eq_true rfl), (Nat.le_of_ble_eq_true rfl)⟩ ⟨(Nat.le_of_ble_eq_true rfl), (Nat.le_of_ble_eq_true rfl)⟩ (fun r h9 hp => ?_)
  obtain ⟨z1, z2, z3, f4, f5, f6, rfl, rfl, h7, h8, h9, h10, h11, h12, h13, h14, h15⟩ := hp
  refine J_nf (nh2 := nh) (ck2 := 0) (sk2 := 0) (st2 := []) rfl rfl rfl rfl ?_
  refine J_app (L3 := [(98, .inr (12, (.int (zI ms) :: .int (zI mv) :: .ref 99 :: .ref 100 :: .ref 101 :: .ref 102 :: .ref 103 :: .ref 104 :: .ref 105 :: .int (zI mt) :: .int (zI mfa) :: .ref 106 :: .ref 107 :: .ref 108 :: .int (zI mtn) :: .int (zI mtk) :: .int (zI mlv) :: .int (zI mbd) :: .int (zI mgo) :: .int (zI mge) :: .int (zI mbk) :: .ref 109 :: .int (zI mtt) :: .int (zI mtl) :: .ref 110 :: .ref 111 :: .ref 112 :: .ref 113 :: .ref 114 :: .ref 115 :: .ref 116 :: .ref 117 :: .int (zI z1) :: .int (zI z2) :: .int (zI z3) :: .int (zI sb) :: .ref 118 :: .ref 119 :: .ref 120 :: .ref 121 :: .ref 122 :: .ref 123 :: .ref 124 :: .ref 125 :: .ref 126 :: .ref 127 :: .ref 128 :: .ref 129 :: .int (zI mfu) :: .ref 130 :: .ref 131 :: .ref 132 :: .ref 133 :: .ref 134 :: .int (zI mdm) :: .int (zI mla) :: []))), (110, .inl (0, 8820, .inl (zA f4))), (111, .inl (0, 1260, .inl (zA f5))), (117, .inl (0, 7, .inl (zA f6)))]) rfl ?_
  refine J_aload_n dX12_round_4 rfl rfl ?_
  refine J_get (v := .int (zI z1)) dX12_round_5 fl_X12_298 rfl rfl ?_
  refine Z_bipush (n := 14) dX12_round_8 (by decide +kernel) ?_
  refine Z_icmp_le (tgt := 15) dX12_round_10 (by decide) (v_81c6732ede h11 h12) v_2a4719925a (fun h16 => ?_) (fun h16 => ?_)
  · refine J_aload_n dX12_round_15 rfl rfl ?_
    refine J_callV (st := []) dX12_round_16 cv_X12_328 (k_looks ms mv mt mfa mtn mtk mlv mbd mgo mge mbk mtt mtl z1 z2 z3 sb mfu mdm mla K f4 f5 f6 st tk sm cf cm aq q1 h10 (v_621074fb26 q4 h15) q4 (fun _ => ⟨h9, h7, h8⟩) q6 q7 (v_94d6d099ed h15) q9 q10 q11 q12 rfl hk100 rfl rfl rfl hk112 hk113 hk114 hk115 hk116 hk109) rfl rfl rfl (Nat.le_of_ble_eq_true rfl) ⟨(Nat.le_of_ble_eq_true rfl), (Nat.le_of_ble_eq_true rfl)⟩ ⟨(Nat.le_of_ble_eq_true rfl), (Nat.le_of_ble_eq_true rfl)⟩ (fun r h9 hp => ?_)
    obtain ⟨z17, z18, z19, f20, f21, f22, z23, f24, f25, f26, f27, f28, f29, z30, z31, z32, z33, z34, rfl, rfl, h35, h36, h37, h38, h39, h40, h41, h42, h43, h44, h45, h46, h47, h48, h49⟩ := hp
    refine J_nf (nh2 := nh) (ck2 := 0) (sk2 := 0) (st2 := []) rfl rfl rfl rfl ?_
    refine J_app (L3 := [(98, .inr (12, (.int (zI ms) :: .int (zI mv) :: .ref 99 :: .ref 100 :: .ref 101 :: .ref 102 :: .ref 103 :: .ref 104 :: .ref 105 :: .int (zI mt) :: .int (zI mfa) :: .ref 106 :: .ref 107 :: .ref 108 :: .int (zI mtn) :: .int (zI mtk) :: .int (zI mlv) :: .int (zI mbd) :: .int (zI z30) :: .int (zI z31) :: .int (zI z32) :: .ref 109 :: .int (zI z33) :: .int (zI z34) :: .ref 110 :: .ref 111 :: .ref 112 :: .ref 113 :: .ref 114 :: .ref 115 :: .ref 116 :: .ref 117 :: .int (zI z17) :: .int (zI z18) :: .int (zI z19) :: .int (zI z23) :: .ref 118 :: .ref 119 :: .ref 120 :: .ref 121 :: .ref 122 :: .ref 123 :: .ref 124 :: .ref 125 :: .ref 126 :: .ref 127 :: .ref 128 :: .ref 129 :: .int (zI mfu) :: .ref 130 :: .ref 131 :: .ref 132 :: .ref 133 :: .ref 134 :: .int (zI mdm) :: .int (zI mla) :: []))), (110, .inl (0, 8820, .inl (zA f20))), (111, .inl (0, 1260, .inl (zA f21))), (117, .inl (0, 7, .inl (zA f22))), (112, .inl (0, 27720, .inl (zA f24))), (113, .inl (0, 27720, .inl (zA f25))), (114, .inl (0, 1260, .inl (zA f26))), (115, .inl (0, 27720, .inl (zA f27))), (116, .inl (0, 1260, .inl (zA f28))), (109, .inl (0, 8, .inl (zA f29))), (98, .inr (12, (.int (zI ms) :: .int (zI mv) :: .ref 99 :: .ref 100 :: .ref 101 :: .ref 102 :: .ref 103 :: .ref 104 :: .ref 105 :: .int (zI mt) :: .int (zI mfa) :: .ref 106 :: .ref 107 :: .ref 108 :: .int (zI mtn) :: .int (zI mtk) :: .int (zI mlv) :: .int (zI mbd) :: .int (zI mgo) :: .int (zI mge) :: .int (zI mbk) :: .ref 109 :: .int (zI mtt) :: .int (zI mtl) :: .ref 110 :: .ref 111 :: .ref 112 :: .ref 113 :: .ref 114 :: .ref 115 :: .ref 116 :: .ref 117 :: .int (zI z1) :: .int (zI z2) :: .int (zI z3) :: .int (zI sb) :: .ref 118 :: .ref 119 :: .ref 120 :: .ref 121 :: .ref 122 :: .ref 123 :: .ref 124 :: .ref 125 :: .ref 126 :: .ref 127 :: .ref 128 :: .ref 129 :: .int (zI mfu) :: .ref 130 :: .ref 131 :: .ref 132 :: .ref 133 :: .ref 134 :: .int (zI mdm) :: .int (zI mla) :: []))), (110, .inl (0, 8820, .inl (zA f4))), (111, .inl (0, 1260, .inl (zA f5))), (117, .inl (0, 7, .inl (zA f6)))]) rfl ?_
    refine J_mask (L2 := [(98, .inr (12, (.int (zI ms) :: .int (zI mv) :: .ref 99 :: .ref 100 :: .ref 101 :: .ref 102 :: .ref 103 :: .ref 104 :: .ref 105 :: .int (zI mt) :: .int (zI mfa) :: .ref 106 :: .ref 107 :: .ref 108 :: .int (zI mtn) :: .int (zI mtk) :: .int (zI mlv) :: .int (zI mbd) :: .int (zI z30) :: .int (zI z31) :: .int (zI z32) :: .ref 109 :: .int (zI z33) :: .int (zI z34) :: .ref 110 :: .ref 111 :: .ref 112 :: .ref 113 :: .ref 114 :: .ref 115 :: .ref 116 :: .ref 117 :: .int (zI z17) :: .int (zI z18) :: .int (zI z19) :: .int (zI z23) :: .ref 118 :: .ref 119 :: .ref 120 :: .ref 121 :: .ref 122 :: .ref 123 :: .ref 124 :: .ref 125 :: .ref 126 :: .ref 127 :: .ref 128 :: .ref 129 :: .int (zI mfu) :: .ref 130 :: .ref 131 :: .ref 132 :: .ref 133 :: .ref 134 :: .int (zI mdm) :: .int (zI mla) :: []))), (110, .inl (0, 8820, .inl (zA f20))), (111, .inl (0, 1260, .inl (zA f21))), (117, .inl (0, 7, .inl (zA f22))), (112, .inl (0, 27720, .inl (zA f24))), (113, .inl (0, 27720, .inl (zA f25))), (114, .inl (0, 1260, .inl (zA f26))), (115, .inl (0, 27720, .inl (zA f27))), (116, .inl (0, 1260, .inl (zA f28))), (109, .inl (0, 8, .inl (zA f29)))]) (ks := [98, 110, 111, 117, 112, 113, 114, 115, 116, 109, 98, 110, 111, 117]) [true, true, true, true, true, true, true, true, true, true, false, false, false, false] rfl (by decide +kernel) rfl ?_
    refine J_aload_n dX12_round_19 rfl rfl ?_
    refine J_callV (st := []) dX12_round_20 cv_X12_351 (k_findsRound en f24 f25 f26 ms mv mt mfa mtn mtk mlv mbd z30 z31 z32 z33 z34 z17 z18 z19 z23 mfu mdm mla h39 h40 h45 (v_8d73c54b20 h7 h16 h35) q13 rfl rfl rfl rfl hk129) rfl rfl rfl (Nat.le_of_ble_eq_true rfl) ⟨(Nat.le_of_ble_eq_true rfl), (Nat.le_of_ble_eq_true rfl)⟩ ⟨(Nat.le_of_ble_eq_true rfl), (Nat.le_of_ble_eq_true rfl)⟩ (fun r h9 hp => ?_)
    obtain ⟨z50, f51, rfl, rfl, h52, h53, h54, h55, h56⟩ := hp
    refine J_nf (nh2 := nh) (ck2 := 0) (sk2 := 0) (st2 := [.int (zI z50)]) rfl rfl rfl rfl ?_
    refine J_app (L3 := [(129, .inl (2, 229376, .inl (zA f51))), (98, .inr (12, (.int (zI ms) :: .int (zI mv) :: .ref 99 :: .ref 100 :: .ref 101 :: .ref 102 :: .ref 103 :: .ref 104 :: .ref 105 :: .int (zI mt) :: .int (zI mfa) :: .ref 106 :: .ref 107 :: .ref 108 :: .int (zI mtn) :: .int (zI mtk) :: .int (zI mlv) :: .int (zI mbd) :: .int (zI z30) :: .int (zI z31) :: .int (zI z32) :: .ref 109 :: .int (zI z33) :: .int (zI z34) :: .ref 110 :: .ref 111 :: .ref 112 :: .ref 113 :: .ref 114 :: .ref 115 :: .ref 116 :: .ref 117 :: .int (zI z17) :: .int (zI z18) :: .int (zI z19) :: .int (zI z23) :: .ref 118 :: .ref 119 :: .ref 120 :: .ref 121 :: .ref 122 :: .ref 123 :: .ref 124 :: .ref 125 :: .ref 126 :: .ref 127 :: .ref 128 :: .ref 129 :: .int (zI mfu) :: .ref 130 :: .ref 131 :: .ref 132 :: .ref 133 :: .ref 134 :: .int (zI mdm) :: .int (zI mla) :: []))), (110, .inl (0, 8820, .inl (zA f20))), (111, .inl (0, 1260, .inl (zA f21))), (117, .inl (0, 7, .inl (zA f22))), (112, .inl (0, 27720, .inl (zA f24))), (113, .inl (0, 27720, .inl (zA f25))), (114, .inl (0, 1260, .inl (zA f26))), (115, .inl (0, 27720, .inl (zA f27))), (116, .inl (0, 1260, .inl (zA f28))), (109, .inl (0, 8, .inl (zA f29)))]) rfl ?_
    refine J_istore_n dX12_round_23 rfl (Nat.le_of_ble_eq_true rfl) rfl ?_
    refine J_ls (ls2 := [some (.ref 98), some (.int (zI x)), some (.int (zI z50)), none, none, none, none]) rfl ?_
    refine J_iload_n dX12_round_24 rfl rfl ?_
    refine Z_iconst (n := -1) dX12_round_25 ?_
    refine Z_icmp_ne (tgt := 39) dX12_round_26 (by decide) (v_b25fa51a85 q0) v_d64efa60f9 (fun h57 => ?_) (fun h57 => ?_)
    · refine J_iload_n dX12_round_39 rfl rfl ?_
      refine Z_if_eq (tgt := 57) dX12_round_40 (by decide) (v_5f10a759cd h52 h53) (fun h58 => ?_) (fun h58 => ?_)
      · refine Z_iconst (n := -1) dX12_round_57 ?_
        refine J_touch (k := 129) (e := .inl (2, 229376, .inl (zA f51))) rfl ?_
        refine J_touch (k := 109) (e := .inl (0, 8, .inl (zA f29))) rfl ?_
        refine J_touch (k := 116) (e := .inl (0, 1260, .inl (zA f28))) rfl ?_
        refine J_touch (k := 115) (e := .inl (0, 27720, .inl (zA f27))) rfl ?_
        refine J_touch (k := 114) (e := .inl (0, 1260, .inl (zA f26))) rfl ?_
        refine J_touch (k := 113) (e := .inl (0, 27720, .inl (zA f25))) rfl ?_
        refine J_touch (k := 112) (e := .inl (0, 27720, .inl (zA f24))) rfl ?_
        refine J_touch (k := 117) (e := .inl (0, 7, .inl (zA f22))) rfl ?_
        refine J_touch (k := 111) (e := .inl (0, 1260, .inl (zA f21))) rfl ?_
        refine J_touch (k := 110) (e := .inl (0, 8820, .inl (zA f20))) rfl ?_
        refine J_touch (k := 98) (e := .inr (12, (.int (zI ms) :: .int (zI mv) :: .ref 99 :: .ref 100 :: .ref 101 :: .ref 102 :: .ref 103 :: .ref 104 :: .ref 105 :: .int (zI mt) :: .int (zI mfa) :: .ref 106 :: .ref 107 :: .ref 108 :: .int (zI mtn) :: .int (zI mtk) :: .int (zI mlv) :: .int (zI mbd) :: .int (zI z30) :: .int (zI z31) :: .int (zI z32) :: .ref 109 :: .int (zI z33) :: .int (zI z34) :: .ref 110 :: .ref 111 :: .ref 112 :: .ref 113 :: .ref 114 :: .ref 115 :: .ref 116 :: .ref 117 :: .int (zI z17) :: .int (zI z18) :: .int (zI z19) :: .int (zI z23) :: .ref 118 :: .ref 119 :: .ref 120 :: .ref 121 :: .ref 122 :: .ref 123 :: .ref 124 :: .ref 125 :: .ref 126 :: .ref 127 :: .ref 128 :: .ref 129 :: .int (zI mfu) :: .ref 130 :: .ref 131 :: .ref 132 :: .ref 133 :: .ref 134 :: .int (zI mdm) :: .int (zI mla) :: []))) rfl ?_
        refine J_mask (L2 := [(98, .inr (12, (.int (zI ms) :: .int (zI mv) :: .ref 99 :: .ref 100 :: .ref 101 :: .ref 102 :: .ref 103 :: .ref 104 :: .ref 105 :: .int (zI mt) :: .int (zI mfa) :: .ref 106 :: .ref 107 :: .ref 108 :: .int (zI mtn) :: .int (zI mtk) :: .int (zI mlv) :: .int (zI mbd) :: .int (zI z30) :: .int (zI z31) :: .int (zI z32) :: .ref 109 :: .int (zI z33) :: .int (zI z34) :: .ref 110 :: .ref 111 :: .ref 112 :: .ref 113 :: .ref 114 :: .ref 115 :: .ref 116 :: .ref 117 :: .int (zI z17) :: .int (zI z18) :: .int (zI z19) :: .int (zI z23) :: .ref 118 :: .ref 119 :: .ref 120 :: .ref 121 :: .ref 122 :: .ref 123 :: .ref 124 :: .ref 125 :: .ref 126 :: .ref 127 :: .ref 128 :: .ref 129 :: .int (zI mfu) :: .ref 130 :: .ref 131 :: .ref 132 :: .ref 133 :: .ref 134 :: .int (zI mdm) :: .int (zI mla) :: []))), (110, .inl (0, 8820, .inl (zA f20))), (111, .inl (0, 1260, .inl (zA f21))), (117, .inl (0, 7, .inl (zA f22))), (112, .inl (0, 27720, .inl (zA f24))), (113, .inl (0, 27720, .inl (zA f25))), (114, .inl (0, 1260, .inl (zA f26))), (115, .inl (0, 27720, .inl (zA f27))), (116, .inl (0, 1260, .inl (zA f28))), (109, .inl (0, 8, .inl (zA f29))), (129, .inl (2, 229376, .inl (zA f51)))]) (ks := [98, 110, 111, 117, 112, 113, 114, 115, 116, 109, 129, 129, 98, 110, 111, 117, 112, 113, 114, 115, 116, 109]) [true, true, true, true, true, true, true, true, true, true, true, false, false, false, false, false, false, false, false, false, false, false] rfl (by decide +kernel) rfl ?_
        exact J_iret dX12_round_58 rfl rfl (Nat.le_of_ble_eq_true rfl) (Nat.le_of_ble_eq_true rfl) ⟨(-1), z17, z18, z19, f20, f21, f22, z23, f24, f25, f26, f27, f28, f29, z30, z31, z32, z33, z34, f51, rfl, rfl, h38, (v_621074fb26 q4 h43), (fun _ => ⟨h37, h35, h36⟩), (v_621074fb26 q4 h44), (fun _ => by rw [← h35]; exact ⟨h45, h46⟩), (v_94d6d099ed h43), (v_94d6d099ed h44), h47, h48, h49, h54⟩
      · refine J_iload_n dX12_round_43 rfl rfl ?_
        refine Z_iconst (n := 0) dX12_round_44 ?_
        refine J_aload_n dX12_round_45 rfl rfl ?_
        refine J_get (v := .int (zI z17)) dX12_round_46 fl_X12_298 rfl rfl ?_
        refine Z_iconst (n := 1) dX12_round_49 ?_
        refine Z_isub (c := z17 - 1) dX12_round_50 rfl ?_
        refine J_callS (st := []) dX12_round_51 cs_X12_138 (k_lies x 0 (z17 - 1) q0 v_b17331891f (v_e7507601e3 h39 h40)) rfl rfl (Nat.le_of_ble_eq_true rfl) ⟨(Nat.le_of_ble_eq_true rfl), (Nat.le_of_ble_eq_true rfl)⟩ ⟨(Nat.le_of_ble_eq_true rfl), (Nat.le_of_ble_eq_true rfl)⟩ (fun r h9 hp => ?_)
        rcases hp with ⟨rfl, rfl, h59, h60⟩ | ⟨rfl, rfl, h61⟩ | ⟨rfl, rfl, h62⟩
        · refine J_nf (nh2 := nh) (ck2 := 0) (sk2 := 0) (st2 := [.int (zI 1)]) rfl rfl rfl rfl ?_
          refine Z_if_ne (tgt := 59) dX12_round_54 (by decide) v_4dcc24baa7 (fun h63 => ?_) (fun h63 => absurd h63 v_3a47bfd896)
          have g64 := P2_lim (n := z17) (v_8d73c54b20 h7 h16 h35)
          refine Z_iconst (n := 0) dX12_round_59 ?_
          refine J_istore_n dX12_round_60 rfl (Nat.le_of_ble_eq_true rfl) rfl ?_
          refine J_ls (ls2 := [some (.ref 98), some (.int (zI x)), some (.int (zI z50)), some (.int (zI 0)), none, none, none]) rfl ?_
          refine Z_iconst (n := 1) dX12_round_61 ?_
          refine J_istore dX12_round_62 (Nat.le_of_ble_eq_true rfl) rfl ?_
          refine J_ls (ls2 := [some (.ref 98), some (.int (zI x)), some (.int (zI z50)), some (.int (zI 0)), some (.int (zI 1)), none, none]) rfl ?_
          refine Z_iconst (n := 0) dX12_round_64 ?_
          refine J_istore dX12_round_65 (Nat.le_of_ble_eq_true rfl) rfl ?_
          refine J_ls (ls2 := [some (.ref 98), some (.int (zI x)), some (.int (zI z50)), some (.int (zI 0)), some (.int (zI 1)), some (.int (zI 0)), none]) rfl ?_
          have lp67 : ∀ (N67 : Nat) (a_67 : Int) (t_67 : Int) (k_67 : Int), (0 ≤ k_67) → (k_67 ≤ x) → (0 ≤ a_67) → (a_67 < z17) → (1 ≤ t_67) → (t_67 < P2 z17) → (f51 (14 * t_67 + a_67) = 1) → (cNe (bt t_67) 0 z17 = k_67 + 1) → (x - k_67).toNat < N67 → J l G MX12_round { frames := 43, cells := 0, slots := 0, locals := 1018 } jE (jMQ G { frames := 43, cells := 0, slots := 0, locals := 1018 } (fun rr h9 => ∃ r : Int, ∃ hm2 : Int, ∃ pm2 : Int, ∃ hb2 : Int, ∃ co2 : Int → Int, ∃ cd2 : Int → Int, ∃ of2 : Int → Int, ∃ sb2 : Int, ∃ st2 : Int → Int, ∃ tk2 : Int → Int, ∃ sm2 : Int → Int, ∃ cf2 : Int → Int, ∃ cm2 : Int → Int, ∃ aq2 : Int → Int, ∃ go2 : Int, ∃ ge2 : Int, ∃ bk2 : Int, ∃ tt2 : Int, ∃ tl2 : Int, ∃ en2 : Int → Int, rr = some (.int (zI r)) ∧ h9 = (nh, hc fh [(98, .inr (12, (.int (zI ms) :: .int (zI mv) :: .ref 99 :: .ref 100 :: .ref 101 :: .ref 102 :: .ref 103 :: .ref 104 :: .ref 105 :: .int (zI mt) :: .int (zI mfa) :: .ref 106 :: .ref 107 :: .ref 108 :: .int (zI mtn) :: .int (zI mtk) :: .int (zI mlv) :: .int (zI mbd) :: .int (zI go2) :: .int (zI ge2) :: .int (zI bk2) :: .ref 109 :: .int (zI tt2) :: .int (zI tl2) :: .ref 110 :: .ref 111 :: .ref 112 :: .ref 113 :: .ref 114 :: .ref 115 :: .ref 116 :: .ref 117 :: .int (zI hm2) :: .int (zI pm2) :: .int (zI hb2) :: .int (zI sb2) :: .ref 118 :: .ref 119 :: .ref 120 :: .ref 121 :: .ref 122 :: .ref 123 :: .ref 124 :: .ref 125 :: .ref 126 :: .ref 127 :: .ref 128 :: .ref 129 :: .int (zI mfu) :: .ref 130 :: .ref 131 :: .ref 132 :: .ref 133 :: .ref 134 :: .int (zI mdm) :: .int (zI mla) :: []))), (110, .inl (0, 8820, .inl (zA co2))), (111, .inl (0, 1260, .inl (zA cd2))), (117, .inl (0, 7, .inl (zA of2))), (112, .inl (0, 27720, .inl (zA st2))), (113, .inl (0, 27720, .inl (zA tk2))), (114, .inl (0, 1260, .inl (zA sm2))), (115, .inl (0, 27720, .inl (zA cf2))), (116, .inl (0, 1260, .inl (zA cm2))), (109, .inl (0, 8, .inl (zA aq2))), (129, .inl (2, 229376, .inl (zA en2)))]) ∧ (Rg of2 7 0 4) ∧ (zr hb2) ∧ (hb2 = mv → HouT co2 cd2 K hm2 ∧ hm2 = Hi K ∧ pm2 = bsum K) ∧ (zr sb2) ∧ (sb2 = mv → StM st2 tk2 sm2 (Hi K) ∧ CoM cf2 cm2 st2 sm2 (Hi K)) ∧ (hb2 ≤ mv) ∧ (sb2 ≤ mv) ∧ (0 ≤ bk2) ∧ (bk2 ≤ 1) ∧ (Rg aq2 8 (-2147483648) 2147483647) ∧ (Rg en2 229376 0 1))) (nh, hc fh [(129, .inl (2, 229376, .inl (zA f51))), (98, .inr (12, (.int (zI ms) :: .int (zI mv) :: .ref 99 :: .ref 100 :: .ref 101 :: .ref 102 :: .ref 103 :: .ref 104 :: .ref 105 :: .int (zI mt) :: .int (zI mfa) :: .ref 106 :: .ref 107 :: .ref 108 :: .int (zI mtn) :: .int (zI mtk) :: .int (zI mlv) :: .int (zI mbd) :: .int (zI z30) :: .int (zI z31) :: .int (zI z32) :: .ref 109 :: .int (zI z33) :: .int (zI z34) :: .ref 110 :: .ref 111 :: .ref 112 :: .ref 113 :: .ref 114 :: .ref 115 :: .ref 116 :: .ref 117 :: .int (zI z17) :: .int (zI z18) :: .int (zI z19) :: .int (zI z23) :: .ref 118 :: .ref 119 :: .ref 120 :: .ref 121 :: .ref 122 :: .ref 123 :: .ref 124 :: .ref 125 :: .ref 126 :: .ref 127 :: .ref 128 :: .ref 129 :: .int (zI mfu) :: .ref 130 :: .ref 131 :: .ref 132 :: .ref 133 :: .ref 134 :: .int (zI mdm) :: .int (zI mla) :: []))), (110, .inl (0, 8820, .inl (zA f20))), (111, .inl (0, 1260, .inl (zA f21))), (117, .inl (0, 7, .inl (zA f22))), (112, .inl (0, 27720, .inl (zA f24))), (113, .inl (0, 27720, .inl (zA f25))), (114, .inl (0, 1260, .inl (zA f26))), (115, .inl (0, 27720, .inl (zA f27))), (116, .inl (0, 1260, .inl (zA f28))), (109, .inl (0, 8, .inl (zA f29)))]) 0 0 67 [some (.ref 98), some (.int (zI x)), some (.int (zI z50)), some (.int (zI a_67)), some (.int (zI t_67)), some (.int (zI k_67)), none] [] := by
            intro N67
            induction N67 with
            | zero => intro a_67 t_67 k_67 i67_0 i67_1 i67_2 i67_3 i67_4 i67_5 i67_6 i67_7 hm; exact absurd hm (Nat.not_lt_zero _)
            | succ N67 ih67 =>
              intro a_67 t_67 k_67 i67_0 i67_1 i67_2 i67_3 i67_4 i67_5 i67_6 i67_7 hm67
              refine J_iload dX12_round_67 rfl ?_
              refine J_iload_n dX12_round_69 rfl rfl ?_
              refine Z_icmp_ge (tgt := 143) dX12_round_70 (by decide) (v_a9f70f4c62 q0 i67_0 i67_1) (v_e33502de53 q0 h59) (fun h65 => ?_) (fun h65 => ?_)
              · refine J_iload_n dX12_round_143 rfl rfl ?_
                refine J_touch (k := 129) (e := .inl (2, 229376, .inl (zA f51))) rfl ?_
                refine J_touch (k := 109) (e := .inl (0, 8, .inl (zA f29))) rfl ?_
                refine J_touch (k := 116) (e := .inl (0, 1260, .inl (zA f28))) rfl ?_
                refine J_touch (k := 115) (e := .inl (0, 27720, .inl (zA f27))) rfl ?_
                refine J_touch (k := 114) (e := .inl (0, 1260, .inl (zA f26))) rfl ?_
                refine J_touch (k := 113) (e := .inl (0, 27720, .inl (zA f25))) rfl ?_
                refine J_touch (k := 112) (e := .inl (0, 27720, .inl (zA f24))) rfl ?_
                refine J_touch (k := 117) (e := .inl (0, 7, .inl (zA f22))) rfl ?_
                refine J_touch (k := 111) (e := .inl (0, 1260, .inl (zA f21))) rfl ?_
                refine J_touch (k := 110) (e := .inl (0, 8820, .inl (zA f20))) rfl ?_
                refine J_touch (k := 98) (e := .inr (12, (.int (zI ms) :: .int (zI mv) :: .ref 99 :: .ref 100 :: .ref 101 :: .ref 102 :: .ref 103 :: .ref 104 :: .ref 105 :: .int (zI mt) :: .int (zI mfa) :: .ref 106 :: .ref 107 :: .ref 108 :: .int (zI mtn) :: .int (zI mtk) :: .int (zI mlv) :: .int (zI mbd) :: .int (zI z30) :: .int (zI z31) :: .int (zI z32) :: .ref 109 :: .int (zI z33) :: .int (zI z34) :: .ref 110 :: .ref 111 :: .ref 112 :: .ref 113 :: .ref 114 :: .ref 115 :: .ref 116 :: .ref 117 :: .int (zI z17) :: .int (zI z18) :: .int (zI z19) :: .int (zI z23) :: .ref 118 :: .ref 119 :: .ref 120 :: .ref 121 :: .ref 122 :: .ref 123 :: .ref 124 :: .ref 125 :: .ref 126 :: .ref 127 :: .ref 128 :: .ref 129 :: .int (zI mfu) :: .ref 130 :: .ref 131 :: .ref 132 :: .ref 133 :: .ref 134 :: .int (zI mdm) :: .int (zI mla) :: []))) rfl ?_
                refine J_mask (L2 := [(98, .inr (12, (.int (zI ms) :: .int (zI mv) :: .ref 99 :: .ref 100 :: .ref 101 :: .ref 102 :: .ref 103 :: .ref 104 :: .ref 105 :: .int (zI mt) :: .int (zI mfa) :: .ref 106 :: .ref 107 :: .ref 108 :: .int (zI mtn) :: .int (zI mtk) :: .int (zI mlv) :: .int (zI mbd) :: .int (zI z30) :: .int (zI z31) :: .int (zI z32) :: .ref 109 :: .int (zI z33) :: .int (zI z34) :: .ref 110 :: .ref 111 :: .ref 112 :: .ref 113 :: .ref 114 :: .ref 115 :: .ref 116 :: .ref 117 :: .int (zI z17) :: .int (zI z18) :: .int (zI z19) :: .int (zI z23) :: .ref 118 :: .ref 119 :: .ref 120 :: .ref 121 :: .ref 122 :: .ref 123 :: .ref 124 :: .ref 125 :: .ref 126 :: .ref 127 :: .ref 128 :: .ref 129 :: .int (zI mfu) :: .ref 130 :: .ref 131 :: .ref 132 :: .ref 133 :: .ref 134 :: .int (zI mdm) :: .int (zI mla) :: []))), (110, .inl (0, 8820, .inl (zA f20))), (111, .inl (0, 1260, .inl (zA f21))), (117, .inl (0, 7, .inl (zA f22))), (112, .inl (0, 27720, .inl (zA f24))), (113, .inl (0, 27720, .inl (zA f25))), (114, .inl (0, 1260, .inl (zA f26))), (115, .inl (0, 27720, .inl (zA f27))), (116, .inl (0, 1260, .inl (zA f28))), (109, .inl (0, 8, .inl (zA f29))), (129, .inl (2, 229376, .inl (zA f51)))]) (ks := [98, 110, 111, 117, 112, 113, 114, 115, 116, 109, 129, 129, 98, 110, 111, 117, 112, 113, 114, 115, 116, 109]) [true, true, true, true, true, true, true, true, true, true, true, false, false, false, false, false, false, false, false, false, false, false] rfl (by decide +kernel) rfl ?_
                exact J_iret dX12_round_144 rfl rfl (Nat.le_of_ble_eq_true rfl) (Nat.le_of_ble_eq_true rfl) ⟨a_67, z17, z18, z19, f20, f21, f22, z23, f24, f25, f26, f27, f28, f29, z30, z31, z32, z33, z34, f51, rfl, rfl, h38, (v_621074fb26 q4 h43), (fun _ => ⟨h37, h35, h36⟩), (v_621074fb26 q4 h44), (fun _ => by rw [← h35]; exact ⟨h45, h46⟩), (v_94d6d099ed h43), (v_94d6d099ed h44), h47, h48, h49, h54⟩
              · obtain ⟨nw, gn0, gn1, gnb, gns, gne⟩ := EndT.next h55 h45 (v_8d73c54b20 h7 h16 h35) (v_5dfb8272e3 h39) rfl (v_5dfb8272e3 i67_4) (v_d1bccf29d4 i67_5) (v_2b02420001 i67_2) (v_b9aca61388 i67_3) rfl i67_6 rfl i67_7 (v_f11d08809e h60 h65)
                refine Z_iconst (n := 0) dX12_round_73 ?_
                refine J_istore dX12_round_74 (Nat.le_of_ble_eq_true rfl) rfl ?_
                refine J_ls (ls2 := [some (.ref 98), some (.int (zI x)), some (.int (zI z50)), some (.int (zI a_67)), some (.int (zI t_67)), some (.int (zI k_67)), some (.int (zI 0))]) rfl ?_
                have lp76 : ∀ (N76 : Nat) (n_76 : Int), (0 ≤ n_76) → (n_76 ≤ nw) → (nw - n_76 + 1).toNat < N76 → J l G MX12_round { frames := 43, cells := 0, slots := 0, locals := 1018 } jE (jMQ G { frames := 43, cells := 0, slots := 0, locals := 1018 } (fun rr h9 => ∃ r : Int, ∃ hm2 : Int, ∃ pm2 : Int, ∃ hb2 : Int, ∃ co2 : Int → Int, ∃ cd2 : Int → Int, ∃ of2 : Int → Int, ∃ sb2 : Int, ∃ st2 : Int → Int, ∃ tk2 : Int → Int, ∃ sm2 : Int → Int, ∃ cf2 : Int → Int, ∃ cm2 : Int → Int, ∃ aq2 : Int → Int, ∃ go2 : Int, ∃ ge2 : Int, ∃ bk2 : Int, ∃ tt2 : Int, ∃ tl2 : Int, ∃ en2 : Int → Int, rr = some (.int (zI r)) ∧ h9 = (nh, hc fh [(98, .inr (12, (.int (zI ms) :: .int (zI mv) :: .ref 99 :: .ref 100 :: .ref 101 :: .ref 102 :: .ref 103 :: .ref 104 :: .ref 105 :: .int (zI mt) :: .int (zI mfa) :: .ref 106 :: .ref 107 :: .ref 108 :: .int (zI mtn) :: .int (zI mtk) :: .int (zI mlv) :: .int (zI mbd) :: .int (zI go2) :: .int (zI ge2) :: .int (zI bk2) :: .ref 109 :: .int (zI tt2) :: .int (zI tl2) :: .ref 110 :: .ref 111 :: .ref 112 :: .ref 113 :: .ref 114 :: .ref 115 :: .ref 116 :: .ref 117 :: .int (zI hm2) :: .int (zI pm2) :: .int (zI hb2) :: .int (zI sb2) :: .ref 118 :: .ref 119 :: .ref 120 :: .ref 121 :: .ref 122 :: .ref 123 :: .ref 124 :: .ref 125 :: .ref 126 :: .ref 127 :: .ref 128 :: .ref 129 :: .int (zI mfu) :: .ref 130 :: .ref 131 :: .ref 132 :: .ref 133 :: .ref 134 :: .int (zI mdm) :: .int (zI mla) :: []))), (110, .inl (0, 8820, .inl (zA co2))), (111, .inl (0, 1260, .inl (zA cd2))), (117, .inl (0, 7, .inl (zA of2))), (112, .inl (0, 27720, .inl (zA st2))), (113, .inl (0, 27720, .inl (zA tk2))), (114, .inl (0, 1260, .inl (zA sm2))), (115, .inl (0, 27720, .inl (zA cf2))), (116, .inl (0, 1260, .inl (zA cm2))), (109, .inl (0, 8, .inl (zA aq2))), (129, .inl (2, 229376, .inl (zA en2)))]) ∧ (Rg of2 7 0 4) ∧ (zr hb2) ∧ (hb2 = mv → HouT co2 cd2 K hm2 ∧ hm2 = Hi K ∧ pm2 = bsum K) ∧ (zr sb2) ∧ (sb2 = mv → StM st2 tk2 sm2 (Hi K) ∧ CoM cf2 cm2 st2 sm2 (Hi K)) ∧ (hb2 ≤ mv) ∧ (sb2 ≤ mv) ∧ (0 ≤ bk2) ∧ (bk2 ≤ 1) ∧ (Rg aq2 8 (-2147483648) 2147483647) ∧ (Rg en2 229376 0 1))) (nh, hc fh [(129, .inl (2, 229376, .inl (zA f51))), (98, .inr (12, (.int (zI ms) :: .int (zI mv) :: .ref 99 :: .ref 100 :: .ref 101 :: .ref 102 :: .ref 103 :: .ref 104 :: .ref 105 :: .int (zI mt) :: .int (zI mfa) :: .ref 106 :: .ref 107 :: .ref 108 :: .int (zI mtn) :: .int (zI mtk) :: .int (zI mlv) :: .int (zI mbd) :: .int (zI z30) :: .int (zI z31) :: .int (zI z32) :: .ref 109 :: .int (zI z33) :: .int (zI z34) :: .ref 110 :: .ref 111 :: .ref 112 :: .ref 113 :: .ref 114 :: .ref 115 :: .ref 116 :: .ref 117 :: .int (zI z17) :: .int (zI z18) :: .int (zI z19) :: .int (zI z23) :: .ref 118 :: .ref 119 :: .ref 120 :: .ref 121 :: .ref 122 :: .ref 123 :: .ref 124 :: .ref 125 :: .ref 126 :: .ref 127 :: .ref 128 :: .ref 129 :: .int (zI mfu) :: .ref 130 :: .ref 131 :: .ref 132 :: .ref 133 :: .ref 134 :: .int (zI mdm) :: .int (zI mla) :: []))), (110, .inl (0, 8820, .inl (zA f20))), (111, .inl (0, 1260, .inl (zA f21))), (117, .inl (0, 7, .inl (zA f22))), (112, .inl (0, 27720, .inl (zA f24))), (113, .inl (0, 27720, .inl (zA f25))), (114, .inl (0, 1260, .inl (zA f26))), (115, .inl (0, 27720, .inl (zA f27))), (116, .inl (0, 1260, .inl (zA f28))), (109, .inl (0, 8, .inl (zA f29)))]) 0 0 76 [some (.ref 98), some (.int (zI x)), some (.int (zI z50)), some (.int (zI a_67)), some (.int (zI t_67)), some (.int (zI k_67)), some (.int (zI n_76))] [] := by
                  intro N76
                  induction N76 with
                  | zero => intro n_76 i76_0 i76_1 hm; exact absurd hm (Nat.not_lt_zero _)
                  | succ N76 ih76 =>
                    intro n_76 i76_0 i76_1 hm76
                    refine J_iload dX12_round_76 rfl ?_
                    refine J_iload dX12_round_78 rfl ?_
                    obtain ⟨z66, ez66⟩ : ∃ z : Int, zshr t_67 n_76 = z := ⟨_, rfl⟩
                    refine Y_ishr (z := z66) dX12_round_80 ez66 ?_
                    have h67 : zr z66 := by rw [← ez66]; exact zr_toInt _
                    refine Z_iconst (n := 1) dX12_round_81 ?_
                    obtain ⟨z68, ez68⟩ : ∃ z : Int, zand z66 1 = z := ⟨_, rfl⟩
                    refine Y_iand (z := z68) dX12_round_82 ez68 ?_
                    have h69 : zr z68 := by rw [← ez68]; exact zr_toInt _
                    have h70 : 0 ≤ z68 ∧ z68 ≤ 1 := zand_mask 1 (by decide) (by decide +kernel) (by decide) ez68
                    refine Z_iconst (n := 1) dX12_round_83 ?_
                    refine Z_icmp_eq (tgt := 119) dX12_round_84 (by decide) (v_5f10a759cd h70.1 h70.2) v_4dcc24baa7 (fun h71 => ?_) (fun h71 => ?_)
                    · refine Z_iinc (c := n_76 + 1) (ls2 := [some (.ref 98), some (.int (zI x)), some (.int (zI z50)), some (.int (zI a_67)), some (.int (zI t_67)), some (.int (zI k_67)), some (.int (zI (n_76 + 1)))]) dX12_round_119 rfl (Nat.le_of_ble_eq_true rfl) rfl rfl rfl ?_
                      refine J_goto (tgt := 76) dX12_round_122 (by decide) ?_
                      exact ih76 (n_76 + 1) (v_da458fa48a i76_0) ((fun (w : ¬ n_76 = nw) => by have i := i76_1; omega) (fun w => by rw [← w] at gnb; have e : bt t_67 n_76 = z68 := (by unfold bt; rw [ez66, ez68]); rw [gnb] at e; have u := (v_a2994583ad h70.2 h71); omega)) (meas_lt v_197122e72b (v_34206d4e94 i76_1) hm76)
                    · refine J_aload_n dX12_round_87 rfl rfl ?_
                      refine J_iload_n dX12_round_88 rfl rfl ?_
                      refine J_iload dX12_round_89 rfl ?_
                      refine J_callV (st := []) dX12_round_91 cv_X12_340 (k_stepBetweenF a_67 n_76 f24 f25 f26 ms mv mt mfa mtn mtk mlv mbd z30 z31 z32 z33 z34 z17 z18 z19 z23 mfu mdm mla i67_2 i67_3 (v_13fa344ddd h40 gn1 i76_0 i76_1) h39 h40 h45 rfl rfl rfl rfl) rfl rfl rfl (Nat.le_of_ble_eq_true rfl) ⟨(Nat.le_of_ble_eq_true rfl), (Nat.le_of_ble_eq_true rfl)⟩ ⟨(Nat.le_of_ble_eq_true rfl), (Nat.le_of_ble_eq_true rfl)⟩ (fun r h9 hp => ?_)
                      obtain ⟨z72, rfl, rfl, h73, h74, h75, h76, h77⟩ := hp
                      refine J_nf (nh2 := nh) (ck2 := 0) (sk2 := 0) (st2 := [.int (zI z72)]) rfl rfl rfl rfl ?_
                      refine Z_iconst (n := -1) dX12_round_94 ?_
                      refine Z_icmp_eq (tgt := 119) dX12_round_95 (by decide) (v_090354fa55 h73 h76) v_d64efa60f9 (fun h78 => ?_) (fun h78 => ?_)
                      · refine Z_iinc (c := n_76 + 1) (ls2 := [some (.ref 98), some (.int (zI x)), some (.int (zI z50)), some (.int (zI a_67)), some (.int (zI t_67)), some (.int (zI k_67)), some (.int (zI (n_76 + 1)))]) dX12_round_119 rfl (Nat.le_of_ble_eq_true rfl) rfl rfl rfl ?_
                        refine J_goto (tgt := 76) dX12_round_122 (by decide) ?_
                        exact ih76 (n_76 + 1) (v_da458fa48a i76_0) ((fun (w : ¬ n_76 = nw) => by have i := i76_1; omega) (fun w => by rw [← w] at gns; obtain ⟨j, j0, j1, j2⟩ := gns; exact absurd (StB.pos h75 (v_4f729da59d h73) j0 rfl j1 rfl j2) (by have u := (v_1022695464 h73 h78); omega))) (meas_lt v_197122e72b (v_34206d4e94 i76_1) hm76)
                      · refine J_aload_n dX12_round_98 rfl rfl ?_
                        refine J_get (v := .ref 129) dX12_round_99 fl_X12_120 rfl rfl ?_
                        refine J_iload dX12_round_102 rfl ?_
                        refine Z_iconst (n := 1) dX12_round_104 ?_
                        refine J_iload dX12_round_105 rfl ?_
                        obtain ⟨z79, ez79⟩ : ∃ z : Int, zshl 1 n_76 = z := ⟨_, rfl⟩
                        refine Y_ishl (z := z79) dX12_round_107 ez79 ?_
                        have h80 : zr z79 := by rw [← ez79]; exact zr_toInt _
                        obtain ⟨z81, ez81⟩ : ∃ z : Int, zor t_67 z79 = z := ⟨_, rfl⟩
                        refine Y_ior (z := z81) dX12_round_108 ez81 ?_
                        have h82 : zr z81 := by rw [← ez81]; exact zr_toInt _
                        have g83 := P2_or (n := z17) (v_632d2dbe78 h39) (v_8d73c54b20 h7 h16 h35) (v_632d2dbe78 i67_4) (v_b9aca61388 i67_5) (v_2b02420001 i76_0) (v_d32d674a0e gn1 i76_1) ez79 ez81
                        refine Z_bipush (n := 14) dX12_round_109 (by decide +kernel) ?_
                        refine Z_imul (c := 14 * z81) dX12_round_111 v_5032df5fa5 ?_
                        refine J_iload dX12_round_112 rfl ?_
                        refine Z_iadd (c := n_76 + 14 * z81) dX12_round_114 v_50fd58320d ?_
                        obtain ⟨z84, ez84⟩ : ∃ z : Int, f51 (n_76 + 14 * z81) = z := ⟨_, rfl⟩
                        have h85 := Rg.at h54 (v_7d015456a6 i76_0 g83.1) (v_53c5b71a3e h7 h16 h35 g64.2 gn1 i76_1 g83.2.1) ez84
                        refine Y_zald (z := z84) 229376 dX12_round_115 rfl rfl (by decide) (v_7d015456a6 i76_0 g83.1) (v_53c5b71a3e h7 h16 h35 g64.2 gn1 i76_1 g83.2.1) ez84 ?_
                        refine Z_if_ne (tgt := 125) dX12_round_116 (by decide) (v_5f10a759cd h85.1 h85.2) (fun h86 => ?_) (fun h86 => ?_)
                        · have gb0 : bt t_67 n_76 = 0 := by unfold bt; rw [ez66, ez68]; have u := (v_e2b7e3cd44 h70.1 h70.2 h71); omega
                          refine J_iload dX12_round_125 rfl ?_
                          refine Z_iconst (n := 1) dX12_round_127 ?_
                          refine J_iload dX12_round_128 rfl ?_
                          refine Y_ishl (z := z79) dX12_round_130 ez79 ?_
                          refine Y_ior (z := z81) dX12_round_131 ez81 ?_
                          have g87 := P2_or (n := z17) (v_632d2dbe78 h39) (v_8d73c54b20 h7 h16 h35) (v_632d2dbe78 i67_4) (v_b9aca61388 i67_5) (v_2b02420001 i76_0) (v_d32d674a0e gn1 i76_1) ez79 ez81
                          refine J_istore dX12_round_132 (Nat.le_of_ble_eq_true rfl) rfl ?_
                          refine J_ls (ls2 := [some (.ref 98), some (.int (zI x)), some (.int (zI z50)), some (.int (zI a_67)), some (.int (zI z81)), some (.int (zI k_67)), some (.int (zI n_76))]) rfl ?_
                          refine J_iload dX12_round_134 rfl ?_
                          refine J_istore_n dX12_round_136 rfl (Nat.le_of_ble_eq_true rfl) rfl ?_
                          refine J_ls (ls2 := [some (.ref 98), some (.int (zI x)), some (.int (zI z50)), some (.int (zI n_76)), some (.int (zI z81)), some (.int (zI k_67)), some (.int (zI n_76))]) rfl ?_
                          refine Z_iinc (c := k_67 + 1) (ls2 := [some (.ref 98), some (.int (zI x)), some (.int (zI z50)), some (.int (zI n_76)), some (.int (zI z81)), some (.int (zI (k_67 + 1))), some (.int (zI n_76))]) dX12_round_137 rfl (Nat.le_of_ble_eq_true rfl) rfl rfl rfl ?_
                          refine J_goto (tgt := 67) dX12_round_140 (by decide) ?_
                          refine J_drop (ls2 := [some (.ref 98), some (.int (zI x)), some (.int (zI z50)), some (.int (zI n_76)), some (.int (zI z81)), some (.int (zI (k_67 + 1))), none]) [true, true, true, true, true, true, false] rfl ?_
                          exact ih67 n_76 z81 (k_67 + 1) (v_da458fa48a i67_0) (v_e390a36114 h65) i76_0 (v_d32d674a0e gn1 i76_1) (v_1f82cf6800 i67_4 g83.2.2) g87.2.1 (by rw [show (14 * z81 + n_76 : Int) = n_76 + 14 * z81 by omega, ez84]; exact (v_8b15499c4b h85.1 h85.2 h86)) (by rw [bt_cnt (n := z17) (v_8d73c54b20 h7 h16 h35) (v_632d2dbe78 i67_4) (v_b9aca61388 i67_5) (v_2b02420001 i76_0) (v_d32d674a0e gn1 i76_1) gb0 ez79 ez81, i67_7]) (meas_lt v_90eacd6fd4 (v_8b7dd7d486 h65) hm67)
                        · refine Z_iinc (c := n_76 + 1) (ls2 := [some (.ref 98), some (.int (zI x)), some (.int (zI z50)), some (.int (zI a_67)), some (.int (zI t_67)), some (.int (zI k_67)), some (.int (zI (n_76 + 1)))]) dX12_round_119 rfl (Nat.le_of_ble_eq_true rfl) rfl rfl rfl ?_
                          refine J_goto (tgt := 76) dX12_round_122 (by decide) ?_
                          exact ih76 (n_76 + 1) (v_da458fa48a i76_0) ((fun (w : ¬ n_76 = nw) => by have i := i76_1; omega) (fun w => by rw [← w, ez79, ez81, show (14 * z81 + n_76 : Int) = n_76 + 14 * z81 by omega, ez84] at gne; have u := (v_bd6c74a791 h85.1 h86); omega)) (meas_lt v_197122e72b (v_34206d4e94 i76_1) hm76)
                exact lp76 _ 0 v_939070ca3f gn0 (Nat.lt_succ_self _)
          exact lp67 _ 0 1 0 v_939070ca3f h59 v_939070ca3f (v_8cacc2f855 h39) v_bbcfac9b7d (by have u := (P2_rng (n := z17) (h56 (v_8b15499c4b h52 h53 h58)).2 (v_8d73c54b20 h7 h16 h35)).1; omega) (by rw [show (14 * 1 + 0 : Int) = 14 from rfl]; exact (h56 (v_8b15499c4b h52 h53 h58)).1) (by rw [bt_one (v_5dfb8272e3 h39) (v_8d73c54b20 h7 h16 h35)]; rfl) (Nat.lt_succ_self _)
        · refine J_nf (nh2 := nh) (ck2 := 0) (sk2 := 0) (st2 := [.int (zI 0)]) rfl rfl rfl rfl ?_
          refine Z_if_ne (tgt := 59) dX12_round_54 (by decide) v_b17331891f (fun h88 => absurd h88 (fun q => q v_2ca2bbca1f)) (fun h88 => ?_)
          refine Z_iconst (n := -1) dX12_round_57 ?_
          refine J_touch (k := 129) (e := .inl (2, 229376, .inl (zA f51))) rfl ?_
          refine J_touch (k := 109) (e := .inl (0, 8, .inl (zA f29))) rfl ?_
          refine J_touch (k := 116) (e := .inl (0, 1260, .inl (zA f28))) rfl ?_
          refine J_touch (k := 115) (e := .inl (0, 27720, .inl (zA f27))) rfl ?_
          refine J_touch (k := 114) (e := .inl (0, 1260, .inl (zA f26))) rfl ?_
          refine J_touch (k := 113) (e := .inl (0, 27720, .inl (zA f25))) rfl ?_
          refine J_touch (k := 112) (e := .inl (0, 27720, .inl (zA f24))) rfl ?_
          refine J_touch (k := 117) (e := .inl (0, 7, .inl (zA f22))) rfl ?_
          refine J_touch (k := 111) (e := .inl (0, 1260, .inl (zA f21))) rfl ?_
          refine J_touch (k := 110) (e := .inl (0, 8820, .inl (zA f20))) rfl ?_
          refine J_touch (k := 98) (e := .inr (12, (.int (zI ms) :: .int (zI mv) :: .ref 99 :: .ref 100 :: .ref 101 :: .ref 102 :: .ref 103 :: .ref 104 :: .ref 105 :: .int (zI mt) :: .int (zI mfa) :: .ref 106 :: .ref 107 :: .ref 108 :: .int (zI mtn) :: .int (zI mtk) :: .int (zI mlv) :: .int (zI mbd) :: .int (zI z30) :: .int (zI z31) :: .int (zI z32) :: .ref 109 :: .int (zI z33) :: .int (zI z34) :: .ref 110 :: .ref 111 :: .ref 112 :: .ref 113 :: .ref 114 :: .ref 115 :: .ref 116 :: .ref 117 :: .int (zI z17) :: .int (zI z18) :: .int (zI z19) :: .int (zI z23) :: .ref 118 :: .ref 119 :: .ref 120 :: .ref 121 :: .ref 122 :: .ref 123 :: .ref 124 :: .ref 125 :: .ref 126 :: .ref 127 :: .ref 128 :: .ref 129 :: .int (zI mfu) :: .ref 130 :: .ref 131 :: .ref 132 :: .ref 133 :: .ref 134 :: .int (zI mdm) :: .int (zI mla) :: []))) rfl ?_
          refine J_mask (L2 := [(98, .inr (12, (.int (zI ms) :: .int (zI mv) :: .ref 99 :: .ref 100 :: .ref 101 :: .ref 102 :: .ref 103 :: .ref 104 :: .ref 105 :: .int (zI mt) :: .int (zI mfa) :: .ref 106 :: .ref 107 :: .ref 108 :: .int (zI mtn) :: .int (zI mtk) :: .int (zI mlv) :: .int (zI mbd) :: .int (zI z30) :: .int (zI z31) :: .int (zI z32) :: .ref 109 :: .int (zI z33) :: .int (zI z34) :: .ref 110 :: .ref 111 :: .ref 112 :: .ref 113 :: .ref 114 :: .ref 115 :: .ref 116 :: .ref 117 :: .int (zI z17) :: .int (zI z18) :: .int (zI z19) :: .int (zI z23) :: .ref 118 :: .ref 119 :: .ref 120 :: .ref 121 :: .ref 122 :: .ref 123 :: .ref 124 :: .ref 125 :: .ref 126 :: .ref 127 :: .ref 128 :: .ref 129 :: .int (zI mfu) :: .ref 130 :: .ref 131 :: .ref 132 :: .ref 133 :: .ref 134 :: .int (zI mdm) :: .int (zI mla) :: []))), (110, .inl (0, 8820, .inl (zA f20))), (111, .inl (0, 1260, .inl (zA f21))), (117, .inl (0, 7, .inl (zA f22))), (112, .inl (0, 27720, .inl (zA f24))), (113, .inl (0, 27720, .inl (zA f25))), (114, .inl (0, 1260, .inl (zA f26))), (115, .inl (0, 27720, .inl (zA f27))), (116, .inl (0, 1260, .inl (zA f28))), (109, .inl (0, 8, .inl (zA f29))), (129, .inl (2, 229376, .inl (zA f51)))]) (ks := [98, 110, 111, 117, 112, 113, 114, 115, 116, 109, 129, 129, 98, 110, 111, 117, 112, 113, 114, 115, 116, 109]) [true, true, true, true, true, true, true, true, true, true, true, false, false, false, false, false, false, false, false, false, false, false] rfl (by decide +kernel) rfl ?_
          exact J_iret dX12_round_58 rfl rfl (Nat.le_of_ble_eq_true rfl) (Nat.le_of_ble_eq_true rfl) ⟨(-1), z17, z18, z19, f20, f21, f22, z23, f24, f25, f26, f27, f28, f29, z30, z31, z32, z33, z34, f51, rfl, rfl, h38, (v_621074fb26 q4 h43), (fun _ => ⟨h37, h35, h36⟩), (v_621074fb26 q4 h44), (fun _ => by rw [← h35]; exact ⟨h45, h46⟩), (v_94d6d099ed h43), (v_94d6d099ed h44), h47, h48, h49, h54⟩
        · refine J_nf (nh2 := nh) (ck2 := 0) (sk2 := 0) (st2 := [.int (zI 0)]) rfl rfl rfl rfl ?_
          refine Z_if_ne (tgt := 59) dX12_round_54 (by decide) v_b17331891f (fun h89 => absurd h89 (fun q => q v_2ca2bbca1f)) (fun h89 => ?_)
          refine Z_iconst (n := -1) dX12_round_57 ?_
          refine J_touch (k := 129) (e := .inl (2, 229376, .inl (zA f51))) rfl ?_
          refine J_touch (k := 109) (e := .inl (0, 8, .inl (zA f29))) rfl ?_
          refine J_touch (k := 116) (e := .inl (0, 1260, .inl (zA f28))) rfl ?_
          refine J_touch (k := 115) (e := .inl (0, 27720, .inl (zA f27))) rfl ?_
          refine J_touch (k := 114) (e := .inl (0, 1260, .inl (zA f26))) rfl ?_
          refine J_touch (k := 113) (e := .inl (0, 27720, .inl (zA f25))) rfl ?_
          refine J_touch (k := 112) (e := .inl (0, 27720, .inl (zA f24))) rfl ?_
          refine J_touch (k := 117) (e := .inl (0, 7, .inl (zA f22))) rfl ?_
          refine J_touch (k := 111) (e := .inl (0, 1260, .inl (zA f21))) rfl ?_
          refine J_touch (k := 110) (e := .inl (0, 8820, .inl (zA f20))) rfl ?_
          refine J_touch (k := 98) (e := .inr (12, (.int (zI ms) :: .int (zI mv) :: .ref 99 :: .ref 100 :: .ref 101 :: .ref 102 :: .ref 103 :: .ref 104 :: .ref 105 :: .int (zI mt) :: .int (zI mfa) :: .ref 106 :: .ref 107 :: .ref 108 :: .int (zI mtn) :: .int (zI mtk) :: .int (zI mlv) :: .int (zI mbd) :: .int (zI z30) :: .int (zI z31) :: .int (zI z32) :: .ref 109 :: .int (zI z33) :: .int (zI z34) :: .ref 110 :: .ref 111 :: .ref 112 :: .ref 113 :: .ref 114 :: .ref 115 :: .ref 116 :: .ref 117 :: .int (zI z17) :: .int (zI z18) :: .int (zI z19) :: .int (zI z23) :: .ref 118 :: .ref 119 :: .ref 120 :: .ref 121 :: .ref 122 :: .ref 123 :: .ref 124 :: .ref 125 :: .ref 126 :: .ref 127 :: .ref 128 :: .ref 129 :: .int (zI mfu) :: .ref 130 :: .ref 131 :: .ref 132 :: .ref 133 :: .ref 134 :: .int (zI mdm) :: .int (zI mla) :: []))) rfl ?_
          refine J_mask (L2 := [(98, .inr (12, (.int (zI ms) :: .int (zI mv) :: .ref 99 :: .ref 100 :: .ref 101 :: .ref 102 :: .ref 103 :: .ref 104 :: .ref 105 :: .int (zI mt) :: .int (zI mfa) :: .ref 106 :: .ref 107 :: .ref 108 :: .int (zI mtn) :: .int (zI mtk) :: .int (zI mlv) :: .int (zI mbd) :: .int (zI z30) :: .int (zI z31) :: .int (zI z32) :: .ref 109 :: .int (zI z33) :: .int (zI z34) :: .ref 110 :: .ref 111 :: .ref 112 :: .ref 113 :: .ref 114 :: .ref 115 :: .ref 116 :: .ref 117 :: .int (zI z17) :: .int (zI z18) :: .int (zI z19) :: .int (zI z23) :: .ref 118 :: .ref 119 :: .ref 120 :: .ref 121 :: .ref 122 :: .ref 123 :: .ref 124 :: .ref 125 :: .ref 126 :: .ref 127 :: .ref 128 :: .ref 129 :: .int (zI mfu) :: .ref 130 :: .ref 131 :: .ref 132 :: .ref 133 :: .ref 134 :: .int (zI mdm) :: .int (zI mla) :: []))), (110, .inl (0, 8820, .inl (zA f20))), (111, .inl (0, 1260, .inl (zA f21))), (117, .inl (0, 7, .inl (zA f22))), (112, .inl (0, 27720, .inl (zA f24))), (113, .inl (0, 27720, .inl (zA f25))), (114, .inl (0, 1260, .inl (zA f26))), (115, .inl (0, 27720, .inl (zA f27))), (116, .inl (0, 1260, .inl (zA f28))), (109, .inl (0, 8, .inl (zA f29))), (129, .inl (2, 229376, .inl (zA f51)))]) (ks := [98, 110, 111, 117, 112, 113, 114, 115, 116, 109, 129, 129, 98, 110, 111, 117, 112, 113, 114, 115, 116, 109]) [true, true, true, true, true, true, true, true, true, true, true, false, false, false, false, false, false, false, false, false, false, false] rfl (by decide +kernel) rfl ?_
          exact J_iret dX12_round_58 rfl rfl (Nat.le_of_ble_eq_true rfl) (Nat.le_of_ble_eq_true rfl) ⟨(-1), z17, z18, z19, f20, f21, f22, z23, f24, f25, f26, f27, f28, f29, z30, z31, z32, z33, z34, f51, rfl, rfl, h38, (v_621074fb26 q4 h43), (fun _ => ⟨h37, h35, h36⟩), (v_621074fb26 q4 h44), (fun _ => by rw [← h35]; exact ⟨h45, h46⟩), (v_94d6d099ed h43), (v_94d6d099ed h44), h47, h48, h49, h54⟩
    · refine J_iload_n dX12_round_29 rfl rfl ?_
      refine Z_if_eq (tgt := 37) dX12_round_30 (by decide) (v_5f10a759cd h52 h53) (fun h90 => ?_) (fun h90 => ?_)
      · refine Z_iconst (n := 0) dX12_round_37 ?_
        refine J_touch (k := 129) (e := .inl (2, 229376, .inl (zA f51))) rfl ?_
        refine J_touch (k := 109) (e := .inl (0, 8, .inl (zA f29))) rfl ?_
        refine J_touch (k := 116) (e := .inl (0, 1260, .inl (zA f28))) rfl ?_
        refine J_touch (k := 115) (e := .inl (0, 27720, .inl (zA f27))) rfl ?_
        refine J_touch (k := 114) (e := .inl (0, 1260, .inl (zA f26))) rfl ?_
        refine J_touch (k := 113) (e := .inl (0, 27720, .inl (zA f25))) rfl ?_
        refine J_touch (k := 112) (e := .inl (0, 27720, .inl (zA f24))) rfl ?_
        refine J_touch (k := 117) (e := .inl (0, 7, .inl (zA f22))) rfl ?_
        refine J_touch (k := 111) (e := .inl (0, 1260, .inl (zA f21))) rfl ?_
        refine J_touch (k := 110) (e := .inl (0, 8820, .inl (zA f20))) rfl ?_
        refine J_touch (k := 98) (e := .inr (12, (.int (zI ms) :: .int (zI mv) :: .ref 99 :: .ref 100 :: .ref 101 :: .ref 102 :: .ref 103 :: .ref 104 :: .ref 105 :: .int (zI mt) :: .int (zI mfa) :: .ref 106 :: .ref 107 :: .ref 108 :: .int (zI mtn) :: .int (zI mtk) :: .int (zI mlv) :: .int (zI mbd) :: .int (zI z30) :: .int (zI z31) :: .int (zI z32) :: .ref 109 :: .int (zI z33) :: .int (zI z34) :: .ref 110 :: .ref 111 :: .ref 112 :: .ref 113 :: .ref 114 :: .ref 115 :: .ref 116 :: .ref 117 :: .int (zI z17) :: .int (zI z18) :: .int (zI z19) :: .int (zI z23) :: .ref 118 :: .ref 119 :: .ref 120 :: .ref 121 :: .ref 122 :: .ref 123 :: .ref 124 :: .ref 125 :: .ref 126 :: .ref 127 :: .ref 128 :: .ref 129 :: .int (zI mfu) :: .ref 130 :: .ref 131 :: .ref 132 :: .ref 133 :: .ref 134 :: .int (zI mdm) :: .int (zI mla) :: []))) rfl ?_
        refine J_mask (L2 := [(98, .inr (12, (.int (zI ms) :: .int (zI mv) :: .ref 99 :: .ref 100 :: .ref 101 :: .ref 102 :: .ref 103 :: .ref 104 :: .ref 105 :: .int (zI mt) :: .int (zI mfa) :: .ref 106 :: .ref 107 :: .ref 108 :: .int (zI mtn) :: .int (zI mtk) :: .int (zI mlv) :: .int (zI mbd) :: .int (zI z30) :: .int (zI z31) :: .int (zI z32) :: .ref 109 :: .int (zI z33) :: .int (zI z34) :: .ref 110 :: .ref 111 :: .ref 112 :: .ref 113 :: .ref 114 :: .ref 115 :: .ref 116 :: .ref 117 :: .int (zI z17) :: .int (zI z18) :: .int (zI z19) :: .int (zI z23) :: .ref 118 :: .ref 119 :: .ref 120 :: .ref 121 :: .ref 122 :: .ref 123 :: .ref 124 :: .ref 125 :: .ref 126 :: .ref 127 :: .ref 128 :: .ref 129 :: .int (zI mfu) :: .ref 130 :: .ref 131 :: .ref 132 :: .ref 133 :: .ref 134 :: .int (zI mdm) :: .int (zI mla) :: []))), (110, .inl (0, 8820, .inl (zA f20))), (111, .inl (0, 1260, .inl (zA f21))), (117, .inl (0, 7, .inl (zA f22))), (112, .inl (0, 27720, .inl (zA f24))), (113, .inl (0, 27720, .inl (zA f25))), (114, .inl (0, 1260, .inl (zA f26))), (115, .inl (0, 27720, .inl (zA f27))), (116, .inl (0, 1260, .inl (zA f28))), (109, .inl (0, 8, .inl (zA f29))), (129, .inl (2, 229376, .inl (zA f51)))]) (ks := [98, 110, 111, 117, 112, 113, 114, 115, 116, 109, 129, 129, 98, 110, 111, 117, 112, 113, 114, 115, 116, 109]) [true, true, true, true, true, true, true, true, true, true, true, false, false, false, false, false, false, false, false, false, false, false] rfl (by decide +kernel) rfl ?_
        exact J_iret dX12_round_38 rfl rfl (Nat.le_of_ble_eq_true rfl) (Nat.le_of_ble_eq_true rfl) ⟨0, z17, z18, z19, f20, f21, f22, z23, f24, f25, f26, f27, f28, f29, z30, z31, z32, z33, z34, f51, rfl, rfl, h38, (v_621074fb26 q4 h43), (fun _ => ⟨h37, h35, h36⟩), (v_621074fb26 q4 h44), (fun _ => by rw [← h35]; exact ⟨h45, h46⟩), (v_94d6d099ed h43), (v_94d6d099ed h44), h47, h48, h49, h54⟩
      · refine Z_iconst (n := 1) dX12_round_33 ?_
        refine J_goto (tgt := 38) dX12_round_34 (by decide) ?_
        refine J_touch (k := 129) (e := .inl (2, 229376, .inl (zA f51))) rfl ?_
        refine J_touch (k := 109) (e := .inl (0, 8, .inl (zA f29))) rfl ?_
        refine J_touch (k := 116) (e := .inl (0, 1260, .inl (zA f28))) rfl ?_
        refine J_touch (k := 115) (e := .inl (0, 27720, .inl (zA f27))) rfl ?_
        refine J_touch (k := 114) (e := .inl (0, 1260, .inl (zA f26))) rfl ?_
        refine J_touch (k := 113) (e := .inl (0, 27720, .inl (zA f25))) rfl ?_
        refine J_touch (k := 112) (e := .inl (0, 27720, .inl (zA f24))) rfl ?_
        refine J_touch (k := 117) (e := .inl (0, 7, .inl (zA f22))) rfl ?_
        refine J_touch (k := 111) (e := .inl (0, 1260, .inl (zA f21))) rfl ?_
        refine J_touch (k := 110) (e := .inl (0, 8820, .inl (zA f20))) rfl ?_
        refine J_touch (k := 98) (e := .inr (12, (.int (zI ms) :: .int (zI mv) :: .ref 99 :: .ref 100 :: .ref 101 :: .ref 102 :: .ref 103 :: .ref 104 :: .ref 105 :: .int (zI mt) :: .int (zI mfa) :: .ref 106 :: .ref 107 :: .ref 108 :: .int (zI mtn) :: .int (zI mtk) :: .int (zI mlv) :: .int (zI mbd) :: .int (zI z30) :: .int (zI z31) :: .int (zI z32) :: .ref 109 :: .int (zI z33) :: .int (zI z34) :: .ref 110 :: .ref 111 :: .ref 112 :: .ref 113 :: .ref 114 :: .ref 115 :: .ref 116 :: .ref 117 :: .int (zI z17) :: .int (zI z18) :: .int (zI z19) :: .int (zI z23) :: .ref 118 :: .ref 119 :: .ref 120 :: .ref 121 :: .ref 122 :: .ref 123 :: .ref 124 :: .ref 125 :: .ref 126 :: .ref 127 :: .ref 128 :: .ref 129 :: .int (zI mfu) :: .ref 130 :: .ref 131 :: .ref 132 :: .ref 133 :: .ref 134 :: .int (zI mdm) :: .int (zI mla) :: []))) rfl ?_
        refine J_mask (L2 := [(98, .inr (12, (.int (zI ms) :: .int (zI mv) :: .ref 99 :: .ref 100 :: .ref 101 :: .ref 102 :: .ref 103 :: .ref 104 :: .ref 105 :: .int (zI mt) :: .int (zI mfa) :: .ref 106 :: .ref 107 :: .ref 108 :: .int (zI mtn) :: .int (zI mtk) :: .int (zI mlv) :: .int (zI mbd) :: .int (zI z30) :: .int (zI z31) :: .int (zI z32) :: .ref 109 :: .int (zI z33) :: .int (zI z34) :: .ref 110 :: .ref 111 :: .ref 112 :: .ref 113 :: .ref 114 :: .ref 115 :: .ref 116 :: .ref 117 :: .int (zI z17) :: .int (zI z18) :: .int (zI z19) :: .int (zI z23) :: .ref 118 :: .ref 119 :: .ref 120 :: .ref 121 :: .ref 122 :: .ref 123 :: .ref 124 :: .ref 125 :: .ref 126 :: .ref 127 :: .ref 128 :: .ref 129 :: .int (zI mfu) :: .ref 130 :: .ref 131 :: .ref 132 :: .ref 133 :: .ref 134 :: .int (zI mdm) :: .int (zI mla) :: []))), (110, .inl (0, 8820, .inl (zA f20))), (111, .inl (0, 1260, .inl (zA f21))), (117, .inl (0, 7, .inl (zA f22))), (112, .inl (0, 27720, .inl (zA f24))), (113, .inl (0, 27720, .inl (zA f25))), (114, .inl (0, 1260, .inl (zA f26))), (115, .inl (0, 27720, .inl (zA f27))), (116, .inl (0, 1260, .inl (zA f28))), (109, .inl (0, 8, .inl (zA f29))), (129, .inl (2, 229376, .inl (zA f51)))]) (ks := [98, 110, 111, 117, 112, 113, 114, 115, 116, 109, 129, 129, 98, 110, 111, 117, 112, 113, 114, 115, 116, 109]) [true, true, true, true, true, true, true, true, true, true, true, false, false, false, false, false, false, false, false, false, false, false] rfl (by decide +kernel) rfl ?_
        exact J_iret dX12_round_38 rfl rfl (Nat.le_of_ble_eq_true rfl) (Nat.le_of_ble_eq_true rfl) ⟨1, z17, z18, z19, f20, f21, f22, z23, f24, f25, f26, f27, f28, f29, z30, z31, z32, z33, z34, f51, rfl, rfl, h38, (v_621074fb26 q4 h43), (fun _ => ⟨h37, h35, h36⟩), (v_621074fb26 q4 h44), (fun _ => by rw [← h35]; exact ⟨h45, h46⟩), (v_94d6d099ed h43), (v_94d6d099ed h44), h47, h48, h49, h54⟩
  · refine Z_iconst (n := -1) dX12_round_13 ?_
    refine J_touch (k := 129) (e := .inl (2, 229376, .inl (zA en))) hk129 ?_
    refine J_touch (k := 109) (e := .inl (0, 8, .inl (zA aq))) hk109 ?_
    refine J_touch (k := 116) (e := .inl (0, 1260, .inl (zA cm))) hk116 ?_
    refine J_touch (k := 115) (e := .inl (0, 27720, .inl (zA cf))) hk115 ?_
    refine J_touch (k := 114) (e := .inl (0, 1260, .inl (zA sm))) hk114 ?_
    refine J_touch (k := 113) (e := .inl (0, 27720, .inl (zA tk))) hk113 ?_
    refine J_touch (k := 112) (e := .inl (0, 27720, .inl (zA st))) hk112 ?_
    refine J_touch (k := 117) (e := .inl (0, 7, .inl (zA f6))) rfl ?_
    refine J_touch (k := 111) (e := .inl (0, 1260, .inl (zA f5))) rfl ?_
    refine J_touch (k := 110) (e := .inl (0, 8820, .inl (zA f4))) rfl ?_
    refine J_touch (k := 98) (e := .inr (12, (.int (zI ms) :: .int (zI mv) :: .ref 99 :: .ref 100 :: .ref 101 :: .ref 102 :: .ref 103 :: .ref 104 :: .ref 105 :: .int (zI mt) :: .int (zI mfa) :: .ref 106 :: .ref 107 :: .ref 108 :: .int (zI mtn) :: .int (zI mtk) :: .int (zI mlv) :: .int (zI mbd) :: .int (zI mgo) :: .int (zI mge) :: .int (zI mbk) :: .ref 109 :: .int (zI mtt) :: .int (zI mtl) :: .ref 110 :: .ref 111 :: .ref 112 :: .ref 113 :: .ref 114 :: .ref 115 :: .ref 116 :: .ref 117 :: .int (zI z1) :: .int (zI z2) :: .int (zI z3) :: .int (zI sb) :: .ref 118 :: .ref 119 :: .ref 120 :: .ref 121 :: .ref 122 :: .ref 123 :: .ref 124 :: .ref 125 :: .ref 126 :: .ref 127 :: .ref 128 :: .ref 129 :: .int (zI mfu) :: .ref 130 :: .ref 131 :: .ref 132 :: .ref 133 :: .ref 134 :: .int (zI mdm) :: .int (zI mla) :: []))) rfl ?_
    refine J_mask (L2 := [(98, .inr (12, (.int (zI ms) :: .int (zI mv) :: .ref 99 :: .ref 100 :: .ref 101 :: .ref 102 :: .ref 103 :: .ref 104 :: .ref 105 :: .int (zI mt) :: .int (zI mfa) :: .ref 106 :: .ref 107 :: .ref 108 :: .int (zI mtn) :: .int (zI mtk) :: .int (zI mlv) :: .int (zI mbd) :: .int (zI mgo) :: .int (zI mge) :: .int (zI mbk) :: .ref 109 :: .int (zI mtt) :: .int (zI mtl) :: .ref 110 :: .ref 111 :: .ref 112 :: .ref 113 :: .ref 114 :: .ref 115 :: .ref 116 :: .ref 117 :: .int (zI z1) :: .int (zI z2) :: .int (zI z3) :: .int (zI sb) :: .ref 118 :: .ref 119 :: .ref 120 :: .ref 121 :: .ref 122 :: .ref 123 :: .ref 124 :: .ref 125 :: .ref 126 :: .ref 127 :: .ref 128 :: .ref 129 :: .int (zI mfu) :: .ref 130 :: .ref 131 :: .ref 132 :: .ref 133 :: .ref 134 :: .int (zI mdm) :: .int (zI mla) :: []))), (110, .inl (0, 8820, .inl (zA f4))), (111, .inl (0, 1260, .inl (zA f5))), (117, .inl (0, 7, .inl (zA f6))), (112, .inl (0, 27720, .inl (zA st))), (113, .inl (0, 27720, .inl (zA tk))), (114, .inl (0, 1260, .inl (zA sm))), (115, .inl (0, 27720, .inl (zA cf))), (116, .inl (0, 1260, .inl (zA cm))), (109, .inl (0, 8, .inl (zA aq))), (129, .inl (2, 229376, .inl (zA en)))]) (ks := [98, 110, 111, 117, 112, 113, 114, 115, 116, 109, 129, 98, 110, 111, 117]) [true, true, true, true, true, true, true, true, true, true, true, false, false, false, false] rfl (by decide +kernel) rfl ?_
    exact J_iret dX12_round_14 rfl rfl (Nat.le_of_ble_eq_true rfl) (Nat.le_of_ble_eq_true rfl) ⟨(-1), z1, z2, z3, f4, f5, f6, sb, st, tk, sm, cf, cm, aq, mgo, mge, mbk, mtt, mtl, en, rfl, rfl, h10, (v_621074fb26 q4 h15), (fun _ => ⟨h9, h7, h8⟩), q6, (q7), (v_94d6d099ed h15), q9, q10, q11, q12, q13⟩
