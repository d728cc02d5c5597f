abbrev MX7_gatherNexts : jM := (RX7, cX7_gatherNexts, 5, none, false)
set_option maxRecDepth 20000 in
theorem iX7_at : ∀ k : Nat, k < 7 → u_lay RX7 TX7 k ∈ jtb
  | 0, _ => jt2 89 rfl rfl
  | 1, _ => jt2 91 rfl rfl
  | 2, _ => jt2 93 rfl rfl
  | 3, _ => jt2 95 rfl rfl
  | 4, _ => jt2 97 rfl rfl
  | 5, _ => jt2 99 rfl rfl
  | 6, _ => jt2 101 rfl rfl
  | (n + 7), h => absurd h (by omega)
theorem iX7 : ∀ w ∈ u_ws RX7 TX7 7, w ∈ jtb := fun w hw => by
  obtain ⟨k, hk, rfl⟩ := List.mem_map.mp hw
  exact iX7_at k (List.mem_range.mp hk)
theorem fl_X7_11 : jFL RX7 11 7 2 := ⟨_, _, _, rfl, iX7, by decide, Or.inl (jt2 84 rfl rfl)⟩
theorem fl_X7_33 : jFL RX7 33 7 1 := ⟨_, _, _, rfl, iX7, by decide, Or.inl (jt2 83 rfl rfl)⟩
theorem cv_X7_57 : jCV RX7 57 9 yX9_degree MX9_degree 1 := ⟨_, _, rfl, (jt4 182 rfl rfl), (jt4 180 rfl rfl), (jt4 181 rfl rfl), (jt1 5 rfl rfl), ⟨by decide, by decide, by decide +kernel⟩, Or.inl (jt5 119 rfl rfl)⟩
theorem cv_X7_61 : jCV RX7 61 9 yX9_to MX9_to 2 := ⟨_, _, rfl, (jt4 206 rfl rfl), (jt4 204 rfl rfl), (jt4 205 rfl rfl), (jt1 5 rfl rfl), ⟨by decide, by decide, by decide +kernel⟩, Or.inl (jt5 120 rfl rfl)⟩
abbrev MX7_goesOn : jM := (RX7, cX7_goesOn, 6, some .int, false)
theorem fl_X7_18 : jFL RX7 18 7 4 := ⟨_, _, _, rfl, iX7, by decide, Or.inl (jt2 86 rfl rfl)⟩
abbrev MX7_goRound : jM := (RX7, cX7_goRound, 5, none, false)
theorem fl_X7_15 : jFL RX7 15 7 3 := ⟨_, _, _, rfl, iX7, by decide, Or.inl (jt2 85 rfl rfl)⟩
theorem cv_X7_69 : jCV RX7 69 7 yX7_goesOn MX7_goesOn 3 := ⟨_, _, rfl, (jt5 129 rfl rfl), (jt5 128 rfl rfl), (jtp (q := (⟨"BeanStreet$Rounds", "goesOn", "(III)I"⟩, 7)) (List.mem_of_getElem? (i := 47) rfl)), (jt1 9 rfl rfl), ⟨by decide, by decide, by decide +kernel⟩, Or.inl (jt5 126 rfl rfl)⟩
abbrev MX7_gatherEnds : jM := (RX7, cX7_gatherEnds, 6, none, false)
theorem cs_X7_65 : jCS RX7 65 yX11_grown MX11_grown 2 := ⟨(jt4 171 rfl rfl), (jt4 170 rfl rfl), (jt1 1 rfl rfl), ⟨by decide, by decide, by decide +kernel⟩, Or.inr ⟨"BeanStreet", (jn5 125 rfl rfl)⟩⟩
theorem fw_X7_18 : jFW RX7 18 7 4 (.array .int) false := ⟨_, _, _, tyX7, rfl, iX7, tyX7_ok, nmX7, by decide, rfl, rfl, (fun h => by cases h), Or.inl (jt2 86 rfl rfl)⟩
abbrev MX7_at : jM := (RX7, cX7_at, 2, some .int, false)
theorem fl_X7_29 : jFL RX7 29 7 0 := ⟨_, _, _, rfl, iX7, by decide, Or.inl (jt2 82 rfl rfl)⟩
theorem cv_X7_37 : jCV RX7 37 0 yX0_many MX0_many 0 := ⟨_, _, rfl, (jt3 68 rfl rfl), (jt3 66 rfl rfl), (jt3 67 rfl rfl), (jt1 3 rfl rfl), ⟨by decide, by decide, by decide +kernel⟩, Or.inl (jt5 114 rfl rfl)⟩
abbrev MX7_exists : jM := (RX7, cX7_exists, 2, some .boolean, false)
theorem fl_X7_25 : jFL RX7 25 7 6 := ⟨_, _, _, rfl, iX7, by decide, Or.inl (jt2 88 rfl rfl)⟩
theorem cv_X7_43 : jCV RX7 43 9 yX9_version MX9_version 0 := ⟨_, _, rfl, (jt4 226 rfl rfl), (jt4 224 rfl rfl), (jt4 225 rfl rfl), (jt1 5 rfl rfl), ⟨by decide, by decide, by decide +kernel⟩, Or.inl (jt5 113 rfl rfl)⟩
theorem fl_X7_21 : jFL RX7 21 7 5 := ⟨_, _, _, rfl, iX7, by decide, Or.inl (jt2 87 rfl rfl)⟩
theorem fw_X7_25 : jFW RX7 25 7 6 (.int) false := ⟨_, _, _, tyX7, rfl, iX7, tyX7_ok, nmX7, by decide, rfl, rfl, (fun h => by cases h), Or.inl (jt2 88 rfl rfl)⟩
theorem fw_X7_21 : jFW RX7 21 7 5 (.boolean) false := ⟨_, _, _, tyX7, rfl, iX7, tyX7_ok, nmX7, by decide, rfl, rfl, (fun h => by cases h), Or.inl (jt2 87 rfl rfl)⟩
theorem cv_X7_47 : jCV RX7 47 7 yX7_gatherNexts MX7_gatherNexts 1 := ⟨_, _, rfl, (jt5 118 rfl rfl), (jt5 117 rfl rfl), (jtp (q := (⟨"BeanStreet$Rounds", "gatherNexts", "(I)V"⟩, 7)) (List.mem_of_getElem? (i := 45) rfl)), (jt1 9 rfl rfl), ⟨by decide, by decide, by decide +kernel⟩, Or.inl (jt5 115 rfl rfl)⟩
theorem cv_X7_51 : jCV RX7 51 7 yX7_gatherEnds MX7_gatherEnds 1 := ⟨_, _, rfl, (jt5 124 rfl rfl), (jt5 123 rfl rfl), (jtp (q := (⟨"BeanStreet$Rounds", "gatherEnds", "(I)V"⟩, 7)) (List.mem_of_getElem? (i := 46) rfl)), (jt1 9 rfl rfl), ⟨by decide, by decide, by decide +kernel⟩, Or.inl (jt5 121 rfl rfl)⟩
theorem cv_X7_54 : jCV RX7 54 7 yX7_goRound MX7_goRound 1 := ⟨_, _, rfl, (jt5 133 rfl rfl), (jt5 132 rfl rfl), (jtp (q := (⟨"BeanStreet$Rounds", "goRound", "(I)V"⟩, 7)) (List.mem_of_getElem? (i := 48) rfl)), (jt1 9 rfl rfl), ⟨by decide, by decide, by decide +kernel⟩, Or.inl (jt5 130 rfl rfl)⟩
abbrev MX2_prepare : jM := (RX2, cX2_prepare, 2, none, false)
set_option maxRecDepth 20000 in
theorem iX2_at : ∀ k : Nat, k < 4 → u_lay RX2 TX2 k ∈ jtb
  | 0, _ => jt2 114 rfl rfl
  | 1, _ => jt2 116 rfl rfl
  | 2, _ => jt2 118 rfl rfl
  | 3, _ => jt2 120 rfl rfl
  | (n + 4), h => absurd h (by omega)
theorem iX2 : ∀ w ∈ u_ws RX2 TX2 4, w ∈ jtb := fun w hw => by
  obtain ⟨k, hk, rfl⟩ := List.mem_map.mp hw
  exact iX2_at k (List.mem_range.mp hk)
theorem fl_X2_18 : jFL RX2 18 2 0 := ⟨_, _, _, rfl, iX2, by decide, Or.inl (jt2 110 rfl rfl)⟩
theorem fl_X2_26 : jFL RX2 26 8 13 := ⟨_, _, _, rfl, iX8, by decide, Or.inr ⟨"BeanStreet", (jn1 67 rfl rfl)⟩⟩
theorem fl_X2_9 : jFL RX2 9 2 2 := ⟨_, _, _, rfl, iX2, by decide, Or.inl (jt2 112 rfl rfl)⟩
theorem fl_X2_22 : jFL RX2 22 2 1 := ⟨_, _, _, rfl, iX2, by decide, Or.inl (jt2 111 rfl rfl)⟩
theorem fl_X2_32 : jFL RX2 32 8 11 := ⟨_, _, _, rfl, iX8, by decide, Or.inr ⟨"BeanStreet", (jn1 63 rfl rfl)⟩⟩
theorem cv_X2_35 : jCV RX2 35 0 yX0_shiftOf MX0_shiftOf 1 := ⟨_, _, rfl, (jt3 89 rfl rfl), (jt3 87 rfl rfl), (jt3 88 rfl rfl), (jt1 3 rfl rfl), ⟨by decide, by decide, by decide +kernel⟩, Or.inl (jt5 156 rfl rfl)⟩
theorem fl_X2_15 : jFL RX2 15 2 3 := ⟨_, _, _, rfl, iX2, by decide, Or.inl (jt2 113 rfl rfl)⟩
theorem fl_X2_41 : jFL RX2 41 8 12 := ⟨_, _, _, rfl, iX8, by decide, Or.inr ⟨"BeanStreet", (jn1 65 rfl rfl)⟩⟩
abbrev MX2_run : jM := (RX2, cX2_run, 8, some .int, false)
theorem cs_X2_65 : jCS RX2 65 yX0_colourAt MX0_colourAt 2 := ⟨(jt3 92 rfl rfl), (jt3 91 rfl rfl), (jt1 3 rfl rfl), ⟨by decide, by decide, by decide +kernel⟩, Or.inl (jt5 171 rfl rfl)⟩
theorem cs_X2_68 : jCS RX2 68 yX0_exchanged MX0_exchanged 3 := ⟨(jt4 192 rfl rfl), (jt4 191 rfl rfl), (jt1 3 rfl rfl), ⟨by decide, by decide, by decide +kernel⟩, Or.inl (jt5 172 rfl rfl)⟩
abbrev MX2_tally : jM := (RX2, cX2_tally, 6, some .int, false)
theorem cv_X2_44 : jCV RX2 44 0 yX0_rowOf MX0_rowOf 1 := ⟨_, _, rfl, (jt3 84 rfl rfl), (jt3 82 rfl rfl), (jt3 83 rfl rfl), (jt1 3 rfl rfl), ⟨by decide, by decide, by decide +kernel⟩, Or.inl (jt5 165 rfl rfl)⟩
theorem cv_X2_58 : jCV RX2 58 0 yX0_many MX0_many 0 := ⟨_, _, rfl, (jt3 68 rfl rfl), (jt3 66 rfl rfl), (jt3 67 rfl rfl), (jt1 3 rfl rfl), ⟨by decide, by decide, by decide +kernel⟩, Or.inl (jt5 166 rfl rfl)⟩
theorem cv_X2_47 : jCV RX2 47 2 yX2_run MX2_run 3 := ⟨_, _, rfl, (jt5 170 rfl rfl), (jt5 169 rfl rfl), (jtp (q := (⟨"BeanStreet$Machine", "run", "(III)I"⟩, 4)) (List.mem_of_getElem? (i := 50) rfl)), (jt1 10 rfl rfl), ⟨by decide, by decide, by decide +kernel⟩, Or.inl (jt5 167 rfl rfl)⟩
abbrev MX2_sortedAll : jM := (RX2, cX2_sortedAll, 1, some .int, false)
theorem cv_X2_54 : jCV RX2 54 2 yX2_tally MX2_tally 2 := ⟨_, _, rfl, (jt5 164 rfl rfl), (jt5 163 rfl rfl), (jtp (q := (⟨"BeanStreet$Machine", "tally", "(II)I"⟩, 4)) (List.mem_of_getElem? (i := 49) rfl)), (jt1 10 rfl rfl), ⟨by decide, by decide, by decide +kernel⟩, Or.inl (jt5 161 rfl rfl)⟩
abbrev MX2_result : jM := (RX2, cX2_result, 2, some .int, false)
theorem cv_X2_51 : jCV RX2 51 0 yX0_find MX0_find 1 := ⟨_, _, rfl, (jt3 104 rfl rfl), (jt3 102 rfl rfl), (jt3 103 rfl rfl), (jt1 3 rfl rfl), ⟨by decide, by decide, by decide +kernel⟩, Or.inl (jt5 194 rfl rfl)⟩
abbrev MX2_firstUnsorted : jM := (RX2, cX2_firstUnsorted, 3, some .int, false)
abbrev MX2_needless : jM := (RX2, cX2_needless, 4, some .int, false)
theorem cv_X2_62 : jCV RX2 62 2 yX2_sortedAll MX2_sortedAll 0 := ⟨_, _, rfl, (jt5 160 rfl rfl), (jt5 158 rfl rfl), (jt5 159 rfl rfl), (jt1 10 rfl rfl), ⟨by decide, by decide, by decide +kernel⟩, Or.inl (jt5 181 rfl rfl)⟩
abbrev MX2_fewestFirst : jM := (RX2, cX2_fewestFirst, 3, some .int, false)
theorem dX7_gatherNexts_0 : decode cX7_gatherNexts 0 = .ok (.iconst 0, 1) := by decide +kernel
theorem dX7_gatherNexts_1 : decode cX7_gatherNexts 1 = .ok (.istore_n 2, 1) := by decide +kernel
theorem dX7_gatherNexts_2 : decode cX7_gatherNexts 2 = .ok (.iload_n 2, 1) := by decide +kernel
theorem dX7_gatherNexts_3 : decode cX7_gatherNexts 3 = .ok (.iload_n 1, 1) := by decide +kernel
theorem dX7_gatherNexts_4 : decode cX7_gatherNexts 4 = .ok (.if_icmp .ge 61, 3) := by decide +kernel
theorem dX7_gatherNexts_65 : decode cX7_gatherNexts 65 = .ok (.return_, 1) := by decide +kernel
theorem dX7_gatherNexts_7 : decode cX7_gatherNexts 7 = .ok (.aload_n 0, 1) := by decide +kernel
theorem dX7_gatherNexts_8 : decode cX7_gatherNexts 8 = .ok (.getfield 11, 3) := by decide +kernel
theorem dX7_gatherNexts_11 : decode cX7_gatherNexts 11 = .ok (.iload_n 2, 1) := by decide +kernel
theorem dX7_gatherNexts_12 : decode cX7_gatherNexts 12 = .ok (.iconst 0, 1) := by decide +kernel
theorem dX7_gatherNexts_13 : decode cX7_gatherNexts 13 = .ok (.iastore, 1) := by decide +kernel
theorem dX7_gatherNexts_14 : decode cX7_gatherNexts 14 = .ok (.aload_n 0, 1) := by decide +kernel
theorem dX7_gatherNexts_15 : decode cX7_gatherNexts 15 = .ok (.getfield 33, 3) := by decide +kernel
theorem dX7_gatherNexts_18 : decode cX7_gatherNexts 18 = .ok (.iload_n 2, 1) := by decide +kernel
theorem dX7_gatherNexts_19 : decode cX7_gatherNexts 19 = .ok (.invokevirtual 57, 3) := by decide +kernel
theorem dX7_gatherNexts_22 : decode cX7_gatherNexts 22 = .ok (.istore_n 3, 1) := by decide +kernel
theorem dX7_gatherNexts_23 : decode cX7_gatherNexts 23 = .ok (.iconst 0, 1) := by decide +kernel
theorem dX7_gatherNexts_24 : decode cX7_gatherNexts 24 = .ok (.istore 4, 2) := by decide +kernel
theorem dX7_gatherNexts_26 : decode cX7_gatherNexts 26 = .ok (.iload 4, 2) := by decide +kernel
theorem dX7_gatherNexts_28 : decode cX7_gatherNexts 28 = .ok (.iload_n 3, 1) := by decide +kernel
theorem dX7_gatherNexts_29 : decode cX7_gatherNexts 29 = .ok (.if_icmp .ge 30, 3) := by decide +kernel
theorem dX7_gatherNexts_59 : decode cX7_gatherNexts 59 = .ok (.iinc 2 1, 3) := by decide +kernel
theorem dX7_gatherNexts_62 : decode cX7_gatherNexts 62 = .ok (.goto (-60), 3) := by decide +kernel
theorem dX7_gatherNexts_32 : decode cX7_gatherNexts 32 = .ok (.aload_n 0, 1) := by decide +kernel
theorem dX7_gatherNexts_33 : decode cX7_gatherNexts 33 = .ok (.getfield 11, 3) := by decide +kernel
theorem dX7_gatherNexts_36 : decode cX7_gatherNexts 36 = .ok (.iload_n 2, 1) := by decide +kernel
theorem dX7_gatherNexts_37 : decode cX7_gatherNexts 37 = .ok (.dup2, 1) := by decide +kernel
theorem dX7_gatherNexts_38 : decode cX7_gatherNexts 38 = .ok (.iaload, 1) := by decide +kernel
theorem dX7_gatherNexts_39 : decode cX7_gatherNexts 39 = .ok (.iconst 1, 1) := by decide +kernel
theorem dX7_gatherNexts_40 : decode cX7_gatherNexts 40 = .ok (.aload_n 0, 1) := by decide +kernel
theorem dX7_gatherNexts_41 : decode cX7_gatherNexts 41 = .ok (.getfield 33, 3) := by decide +kernel
theorem dX7_gatherNexts_44 : decode cX7_gatherNexts 44 = .ok (.iload_n 2, 1) := by decide +kernel
theorem dX7_gatherNexts_45 : decode cX7_gatherNexts 45 = .ok (.iload 4, 2) := by decide +kernel
theorem dX7_gatherNexts_47 : decode cX7_gatherNexts 47 = .ok (.invokevirtual 61, 3) := by decide +kernel
theorem dX7_gatherNexts_50 : decode cX7_gatherNexts 50 = .ok (.ishl, 1) := by decide +kernel
theorem dX7_gatherNexts_51 : decode cX7_gatherNexts 51 = .ok (.ior, 1) := by decide +kernel
theorem dX7_gatherNexts_52 : decode cX7_gatherNexts 52 = .ok (.iastore, 1) := by decide +kernel
theorem dX7_gatherNexts_53 : decode cX7_gatherNexts 53 = .ok (.iinc 4 1, 3) := by decide +kernel
theorem dX7_gatherNexts_56 : decode cX7_gatherNexts 56 = .ok (.goto (-30), 3) := by decide +kernel
theorem dX7_goesOn_0 : decode cX7_goesOn 0 = .ok (.aload_n 0, 1) := by decide +kernel
theorem dX7_goesOn_1 : decode cX7_goesOn 1 = .ok (.getfield 11, 3) := by decide +kernel
theorem dX7_goesOn_4 : decode cX7_goesOn 4 = .ok (.iload_n 2, 1) := by decide +kernel
theorem dX7_goesOn_5 : decode cX7_goesOn 5 = .ok (.iaload, 1) := by decide +kernel
theorem dX7_goesOn_6 : decode cX7_goesOn 6 = .ok (.iload_n 1, 1) := by decide +kernel
theorem dX7_goesOn_7 : decode cX7_goesOn 7 = .ok (.iconst (-1), 1) := by decide +kernel
theorem dX7_goesOn_8 : decode cX7_goesOn 8 = .ok (.ixor, 1) := by decide +kernel
theorem dX7_goesOn_9 : decode cX7_goesOn 9 = .ok (.iand, 1) := by decide +kernel
theorem dX7_goesOn_10 : decode cX7_goesOn 10 = .ok (.istore 4, 2) := by decide +kernel
theorem dX7_goesOn_12 : decode cX7_goesOn 12 = .ok (.iconst 0, 1) := by decide +kernel
theorem dX7_goesOn_13 : decode cX7_goesOn 13 = .ok (.istore 5, 2) := by decide +kernel
theorem dX7_goesOn_15 : decode cX7_goesOn 15 = .ok (.iload 5, 2) := by decide +kernel
theorem dX7_goesOn_17 : decode cX7_goesOn 17 = .ok (.iload_n 3, 1) := by decide +kernel
theorem dX7_goesOn_18 : decode cX7_goesOn 18 = .ok (.if_icmp .ge 41, 3) := by decide +kernel
theorem dX7_goesOn_59 : decode cX7_goesOn 59 = .ok (.iconst (-1), 1) := by decide +kernel
theorem dX7_goesOn_60 : decode cX7_goesOn 60 = .ok (.ireturn, 1) := by decide +kernel
theorem dX7_goesOn_21 : decode cX7_goesOn 21 = .ok (.iload 4, 2) := by decide +kernel
theorem dX7_goesOn_23 : decode cX7_goesOn 23 = .ok (.iload 5, 2) := by decide +kernel
theorem dX7_goesOn_25 : decode cX7_goesOn 25 = .ok (.ishr, 1) := by decide +kernel
theorem dX7_goesOn_26 : decode cX7_goesOn 26 = .ok (.iconst 1, 1) := by decide +kernel
theorem dX7_goesOn_27 : decode cX7_goesOn 27 = .ok (.iand, 1) := by decide +kernel
theorem dX7_goesOn_28 : decode cX7_goesOn 28 = .ok (.ifCond .eq 25, 3) := by decide +kernel
theorem dX7_goesOn_53 : decode cX7_goesOn 53 = .ok (.iinc 5 1, 3) := by decide +kernel
theorem dX7_goesOn_56 : decode cX7_goesOn 56 = .ok (.goto (-41), 3) := by decide +kernel
theorem dX7_goesOn_31 : decode cX7_goesOn 31 = .ok (.aload_n 0, 1) := by decide +kernel
theorem dX7_goesOn_32 : decode cX7_goesOn 32 = .ok (.getfield 18, 3) := by decide +kernel
theorem dX7_goesOn_35 : decode cX7_goesOn 35 = .ok (.iload_n 1, 1) := by decide +kernel
theorem dX7_goesOn_36 : decode cX7_goesOn 36 = .ok (.iconst 1, 1) := by decide +kernel
theorem dX7_goesOn_37 : decode cX7_goesOn 37 = .ok (.iload 5, 2) := by decide +kernel
theorem dX7_goesOn_39 : decode cX7_goesOn 39 = .ok (.ishl, 1) := by decide +kernel
theorem dX7_goesOn_40 : decode cX7_goesOn 40 = .ok (.ior, 1) := by decide +kernel
theorem dX7_goesOn_41 : decode cX7_goesOn 41 = .ok (.iaload, 1) := by decide +kernel
theorem dX7_goesOn_42 : decode cX7_goesOn 42 = .ok (.iload 5, 2) := by decide +kernel
theorem dX7_goesOn_44 : decode cX7_goesOn 44 = .ok (.ishr, 1) := by decide +kernel
theorem dX7_goesOn_45 : decode cX7_goesOn 45 = .ok (.iconst 1, 1) := by decide +kernel
theorem dX7_goesOn_46 : decode cX7_goesOn 46 = .ok (.iand, 1) := by decide +kernel
theorem dX7_goesOn_47 : decode cX7_goesOn 47 = .ok (.ifCond .eq 6, 3) := by decide +kernel
theorem dX7_goesOn_50 : decode cX7_goesOn 50 = .ok (.iload 5, 2) := by decide +kernel
theorem dX7_goesOn_52 : decode cX7_goesOn 52 = .ok (.ireturn, 1) := by decide +kernel
theorem dX7_goRound_0 : decode cX7_goRound 0 = .ok (.iconst 1, 1) := by decide +kernel
theorem dX7_goRound_1 : decode cX7_goRound 1 = .ok (.istore_n 2, 1) := by decide +kernel
theorem dX7_goRound_2 : decode cX7_goRound 2 = .ok (.iconst 0, 1) := by decide +kernel
theorem dX7_goRound_3 : decode cX7_goRound 3 = .ok (.istore_n 3, 1) := by decide +kernel
theorem dX7_goRound_4 : decode cX7_goRound 4 = .ok (.aload_n 0, 1) := by decide +kernel
theorem dX7_goRound_5 : decode cX7_goRound 5 = .ok (.getfield 15, 3) := by decide +kernel
theorem dX7_goRound_8 : decode cX7_goRound 8 = .ok (.iconst 0, 1) := by decide +kernel
theorem dX7_goRound_9 : decode cX7_goRound 9 = .ok (.iconst 0, 1) := by decide +kernel
theorem dX7_goRound_10 : decode cX7_goRound 10 = .ok (.iastore, 1) := by decide +kernel
theorem dX7_goRound_11 : decode cX7_goRound 11 = .ok (.iconst 1, 1) := by decide +kernel
theorem dX7_goRound_12 : decode cX7_goRound 12 = .ok (.istore 4, 2) := by decide +kernel
theorem dX7_goRound_14 : decode cX7_goRound 14 = .ok (.iload 4, 2) := by decide +kernel
theorem dX7_goRound_16 : decode cX7_goRound 16 = .ok (.iload_n 1, 1) := by decide +kernel
theorem dX7_goRound_17 : decode cX7_goRound 17 = .ok (.if_icmp .ge 35, 3) := by decide +kernel
theorem dX7_goRound_52 : decode cX7_goRound 52 = .ok (.return_, 1) := by decide +kernel
theorem dX7_goRound_20 : decode cX7_goRound 20 = .ok (.iconst 0, 1) := by decide +kernel
theorem dX7_goRound_21 : decode cX7_goRound 21 = .ok (.aload_n 0, 1) := by decide +kernel
theorem dX7_goRound_22 : decode cX7_goRound 22 = .ok (.iload_n 2, 1) := by decide +kernel
theorem dX7_goRound_23 : decode cX7_goRound 23 = .ok (.iload_n 3, 1) := by decide +kernel
theorem dX7_goRound_24 : decode cX7_goRound 24 = .ok (.iload_n 1, 1) := by decide +kernel
theorem dX7_goRound_25 : decode cX7_goRound 25 = .ok (.invokevirtual 69, 3) := by decide +kernel
theorem dX7_goRound_28 : decode cX7_goRound 28 = .ok (.invokestatic 73, 3) := by decide +kernel
theorem dX7_goRound_31 : decode cX7_goRound 31 = .ok (.istore_n 3, 1) := by decide +kernel
theorem dX7_goRound_32 : decode cX7_goRound 32 = .ok (.iload_n 2, 1) := by decide +kernel
theorem dX7_goRound_33 : decode cX7_goRound 33 = .ok (.iconst 1, 1) := by decide +kernel
theorem dX7_goRound_34 : decode cX7_goRound 34 = .ok (.iload_n 3, 1) := by decide +kernel
theorem dX7_goRound_35 : decode cX7_goRound 35 = .ok (.ishl, 1) := by decide +kernel
theorem dX7_goRound_36 : decode cX7_goRound 36 = .ok (.ior, 1) := by decide +kernel
theorem dX7_goRound_37 : decode cX7_goRound 37 = .ok (.istore_n 2, 1) := by decide +kernel
theorem dX7_goRound_38 : decode cX7_goRound 38 = .ok (.aload_n 0, 1) := by decide +kernel
theorem dX7_goRound_39 : decode cX7_goRound 39 = .ok (.getfield 15, 3) := by decide +kernel
theorem dX7_goRound_42 : decode cX7_goRound 42 = .ok (.iload 4, 2) := by decide +kernel
theorem dX7_goRound_44 : decode cX7_goRound 44 = .ok (.iload_n 3, 1) := by decide +kernel
theorem dX7_goRound_45 : decode cX7_goRound 45 = .ok (.iastore, 1) := by decide +kernel
theorem dX7_goRound_46 : decode cX7_goRound 46 = .ok (.iinc 4 1, 3) := by decide +kernel
theorem dX7_goRound_49 : decode cX7_goRound 49 = .ok (.goto (-35), 3) := by decide +kernel
theorem dX7_gatherEnds_0 : decode cX7_gatherEnds 0 = .ok (.iconst 1, 1) := by decide +kernel
theorem dX7_gatherEnds_1 : decode cX7_gatherEnds 1 = .ok (.iload_n 1, 1) := by decide +kernel
theorem dX7_gatherEnds_2 : decode cX7_gatherEnds 2 = .ok (.ishl, 1) := by decide +kernel
theorem dX7_gatherEnds_3 : decode cX7_gatherEnds 3 = .ok (.iconst 1, 1) := by decide +kernel
theorem dX7_gatherEnds_4 : decode cX7_gatherEnds 4 = .ok (.isub, 1) := by decide +kernel
theorem dX7_gatherEnds_5 : decode cX7_gatherEnds 5 = .ok (.istore_n 2, 1) := by decide +kernel
theorem dX7_gatherEnds_6 : decode cX7_gatherEnds 6 = .ok (.aload_n 0, 1) := by decide +kernel
theorem dX7_gatherEnds_7 : decode cX7_gatherEnds 7 = .ok (.aload_n 0, 1) := by decide +kernel
theorem dX7_gatherEnds_8 : decode cX7_gatherEnds 8 = .ok (.getfield 18, 3) := by decide +kernel
theorem dX7_gatherEnds_11 : decode cX7_gatherEnds 11 = .ok (.iload_n 2, 1) := by decide +kernel
theorem dX7_gatherEnds_12 : decode cX7_gatherEnds 12 = .ok (.iconst 1, 1) := by decide +kernel
theorem dX7_gatherEnds_13 : decode cX7_gatherEnds 13 = .ok (.iadd, 1) := by decide +kernel
theorem dX7_gatherEnds_14 : decode cX7_gatherEnds 14 = .ok (.invokestatic 65, 3) := by decide +kernel
theorem dX7_gatherEnds_17 : decode cX7_gatherEnds 17 = .ok (.putfield 18, 3) := by decide +kernel
theorem dX7_gatherEnds_20 : decode cX7_gatherEnds 20 = .ok (.iload_n 2, 1) := by decide +kernel
theorem dX7_gatherEnds_21 : decode cX7_gatherEnds 21 = .ok (.istore_n 3, 1) := by decide +kernel
theorem dX7_gatherEnds_22 : decode cX7_gatherEnds 22 = .ok (.iload_n 3, 1) := by decide +kernel
theorem dX7_gatherEnds_23 : decode cX7_gatherEnds 23 = .ok (.ifCond .le 97, 3) := by decide +kernel
theorem dX7_gatherEnds_120 : decode cX7_gatherEnds 120 = .ok (.return_, 1) := by decide +kernel
theorem dX7_gatherEnds_26 : decode cX7_gatherEnds 26 = .ok (.aload_n 0, 1) := by decide +kernel
theorem dX7_gatherEnds_27 : decode cX7_gatherEnds 27 = .ok (.getfield 18, 3) := by decide +kernel
theorem dX7_gatherEnds_30 : decode cX7_gatherEnds 30 = .ok (.iload_n 3, 1) := by decide +kernel
theorem dX7_gatherEnds_31 : decode cX7_gatherEnds 31 = .ok (.iconst 0, 1) := by decide +kernel
theorem dX7_gatherEnds_32 : decode cX7_gatherEnds 32 = .ok (.iastore, 1) := by decide +kernel
theorem dX7_gatherEnds_33 : decode cX7_gatherEnds 33 = .ok (.iconst 0, 1) := by decide +kernel
theorem dX7_gatherEnds_34 : decode cX7_gatherEnds 34 = .ok (.istore 4, 2) := by decide +kernel
theorem dX7_gatherEnds_36 : decode cX7_gatherEnds 36 = .ok (.iload 4, 2) := by decide +kernel
theorem dX7_gatherEnds_38 : decode cX7_gatherEnds 38 = .ok (.iload_n 1, 1) := by decide +kernel
theorem dX7_gatherEnds_39 : decode cX7_gatherEnds 39 = .ok (.if_icmp .ge 75, 3) := by decide +kernel
theorem dX7_gatherEnds_114 : decode cX7_gatherEnds 114 = .ok (.iinc 3 (-1), 3) := by decide +kernel
theorem dX7_gatherEnds_117 : decode cX7_gatherEnds 117 = .ok (.goto (-95), 3) := by decide +kernel
theorem dX7_gatherEnds_56 : decode cX7_gatherEnds 56 = .ok (.istore 5, 2) := by decide +kernel
theorem dX7_gatherEnds_58 : decode cX7_gatherEnds 58 = .ok (.iload 5, 2) := by decide +kernel
theorem dX7_gatherEnds_60 : decode cX7_gatherEnds 60 = .ok (.ifCond .eq 48, 3) := by decide +kernel
theorem dX7_gatherEnds_108 : decode cX7_gatherEnds 108 = .ok (.iinc 4 1, 3) := by decide +kernel
theorem dX7_gatherEnds_111 : decode cX7_gatherEnds 111 = .ok (.goto (-75), 3) := by decide +kernel
theorem dX7_gatherEnds_63 : decode cX7_gatherEnds 63 = .ok (.iload_n 3, 1) := by decide +kernel
theorem dX7_gatherEnds_64 : decode cX7_gatherEnds 64 = .ok (.iload_n 2, 1) := by decide +kernel
theorem dX7_gatherEnds_65 : decode cX7_gatherEnds 65 = .ok (.if_icmp .ne 18, 3) := by decide +kernel
theorem dX7_gatherEnds_83 : decode cX7_gatherEnds 83 = .ok (.aload_n 0, 1) := by decide +kernel
theorem dX7_gatherEnds_84 : decode cX7_gatherEnds 84 = .ok (.iload_n 3, 1) := by decide +kernel
theorem dX7_gatherEnds_85 : decode cX7_gatherEnds 85 = .ok (.iload 4, 2) := by decide +kernel
theorem dX7_gatherEnds_87 : decode cX7_gatherEnds 87 = .ok (.iload_n 1, 1) := by decide +kernel
theorem dX7_gatherEnds_88 : decode cX7_gatherEnds 88 = .ok (.invokevirtual 69, 3) := by decide +kernel
theorem dX7_gatherEnds_91 : decode cX7_gatherEnds 91 = .ok (.iconst (-1), 1) := by decide +kernel
theorem dX7_gatherEnds_92 : decode cX7_gatherEnds 92 = .ok (.if_icmp .eq 16, 3) := by decide +kernel
theorem dX7_gatherEnds_95 : decode cX7_gatherEnds 95 = .ok (.aload_n 0, 1) := by decide +kernel
theorem dX7_gatherEnds_96 : decode cX7_gatherEnds 96 = .ok (.getfield 18, 3) := by decide +kernel
theorem dX7_gatherEnds_99 : decode cX7_gatherEnds 99 = .ok (.iload_n 3, 1) := by decide +kernel
theorem dX7_gatherEnds_100 : decode cX7_gatherEnds 100 = .ok (.dup2, 1) := by decide +kernel
theorem dX7_gatherEnds_101 : decode cX7_gatherEnds 101 = .ok (.iaload, 1) := by decide +kernel
theorem dX7_gatherEnds_102 : decode cX7_gatherEnds 102 = .ok (.iconst 1, 1) := by decide +kernel
theorem dX7_gatherEnds_103 : decode cX7_gatherEnds 103 = .ok (.iload 4, 2) := by decide +kernel
theorem dX7_gatherEnds_105 : decode cX7_gatherEnds 105 = .ok (.ishl, 1) := by decide +kernel
theorem dX7_gatherEnds_106 : decode cX7_gatherEnds 106 = .ok (.ior, 1) := by decide +kernel
theorem dX7_gatherEnds_107 : decode cX7_gatherEnds 107 = .ok (.iastore, 1) := by decide +kernel
theorem dX7_gatherEnds_68 : decode cX7_gatherEnds 68 = .ok (.aload_n 0, 1) := by decide +kernel
theorem dX7_gatherEnds_69 : decode cX7_gatherEnds 69 = .ok (.getfield 11, 3) := by decide +kernel
theorem dX7_gatherEnds_72 : decode cX7_gatherEnds 72 = .ok (.iload 4, 2) := by decide +kernel
theorem dX7_gatherEnds_74 : decode cX7_gatherEnds 74 = .ok (.iaload, 1) := by decide +kernel
theorem dX7_gatherEnds_75 : decode cX7_gatherEnds 75 = .ok (.iconst 1, 1) := by decide +kernel
theorem dX7_gatherEnds_76 : decode cX7_gatherEnds 76 = .ok (.iand, 1) := by decide +kernel
theorem dX7_gatherEnds_77 : decode cX7_gatherEnds 77 = .ok (.ifCond .eq 31, 3) := by decide +kernel
theorem dX7_gatherEnds_80 : decode cX7_gatherEnds 80 = .ok (.goto 15, 3) := by decide +kernel
theorem dX7_gatherEnds_42 : decode cX7_gatherEnds 42 = .ok (.iload_n 3, 1) := by decide +kernel
theorem dX7_gatherEnds_43 : decode cX7_gatherEnds 43 = .ok (.iload 4, 2) := by decide +kernel
theorem dX7_gatherEnds_45 : decode cX7_gatherEnds 45 = .ok (.ishr, 1) := by decide +kernel
theorem dX7_gatherEnds_46 : decode cX7_gatherEnds 46 = .ok (.iconst 1, 1) := by decide +kernel
theorem dX7_gatherEnds_47 : decode cX7_gatherEnds 47 = .ok (.iand, 1) := by decide +kernel
theorem dX7_gatherEnds_48 : decode cX7_gatherEnds 48 = .ok (.ifCond .eq 7, 3) := by decide +kernel
theorem dX7_gatherEnds_55 : decode cX7_gatherEnds 55 = .ok (.iconst 0, 1) := by decide +kernel
theorem dX7_gatherEnds_51 : decode cX7_gatherEnds 51 = .ok (.iconst 1, 1) := by decide +kernel
theorem dX7_gatherEnds_52 : decode cX7_gatherEnds 52 = .ok (.goto 4, 3) := by decide +kernel
theorem dX7_at_0 : decode cX7_at 0 = .ok (.iload_n 1, 1) := by decide +kernel
theorem dX7_at_1 : decode cX7_at 1 = .ok (.ifCond .lt 29, 3) := by decide +kernel
theorem dX7_at_30 : decode cX7_at 30 = .ok (.iconst (-1), 1) := by decide +kernel
theorem dX7_at_31 : decode cX7_at 31 = .ok (.ireturn, 1) := by decide +kernel
theorem dX7_at_4 : decode cX7_at 4 = .ok (.iload_n 1, 1) := by decide +kernel
theorem dX7_at_5 : decode cX7_at 5 = .ok (.aload_n 0, 1) := by decide +kernel
theorem dX7_at_6 : decode cX7_at 6 = .ok (.getfield 29, 3) := by decide +kernel
theorem dX7_at_9 : decode cX7_at 9 = .ok (.invokevirtual 37, 3) := by decide +kernel
theorem dX7_at_12 : decode cX7_at 12 = .ok (.if_icmp .ge 18, 3) := by decide +kernel
theorem dX7_at_15 : decode cX7_at 15 = .ok (.iload_n 1, 1) := by decide +kernel
theorem dX7_at_16 : decode cX7_at 16 = .ok (.bipush 14, 2) := by decide +kernel
theorem dX7_at_18 : decode cX7_at 18 = .ok (.if_icmp .ge 12, 3) := by decide +kernel
theorem dX7_at_21 : decode cX7_at 21 = .ok (.aload_n 0, 1) := by decide +kernel
theorem dX7_at_22 : decode cX7_at 22 = .ok (.getfield 15, 3) := by decide +kernel
theorem dX7_at_25 : decode cX7_at 25 = .ok (.iload_n 1, 1) := by decide +kernel
theorem dX7_at_26 : decode cX7_at 26 = .ok (.iaload, 1) := by decide +kernel
theorem dX7_at_27 : decode cX7_at 27 = .ok (.goto 4, 3) := by decide +kernel
theorem dX7_exists_0 : decode cX7_exists 0 = .ok (.aload_n 0, 1) := by decide +kernel
theorem dX7_exists_1 : decode cX7_exists 1 = .ok (.getfield 25, 3) := by decide +kernel
theorem dX7_exists_4 : decode cX7_exists 4 = .ok (.aload_n 0, 1) := by decide +kernel
theorem dX7_exists_5 : decode cX7_exists 5 = .ok (.getfield 33, 3) := by decide +kernel
theorem dX7_exists_8 : decode cX7_exists 8 = .ok (.invokevirtual 43, 3) := by decide +kernel
theorem dX7_exists_11 : decode cX7_exists 11 = .ok (.if_icmp .eq 80, 3) := by decide +kernel
theorem dX7_exists_91 : decode cX7_exists 91 = .ok (.aload_n 0, 1) := by decide +kernel
theorem dX7_exists_92 : decode cX7_exists 92 = .ok (.getfield 21, 3) := by decide +kernel
theorem dX7_exists_95 : decode cX7_exists 95 = .ok (.ireturn, 1) := by decide +kernel
theorem dX7_exists_14 : decode cX7_exists 14 = .ok (.aload_n 0, 1) := by decide +kernel
theorem dX7_exists_15 : decode cX7_exists 15 = .ok (.aload_n 0, 1) := by decide +kernel
theorem dX7_exists_16 : decode cX7_exists 16 = .ok (.getfield 33, 3) := by decide +kernel
theorem dX7_exists_19 : decode cX7_exists 19 = .ok (.invokevirtual 43, 3) := by decide +kernel
theorem dX7_exists_22 : decode cX7_exists 22 = .ok (.putfield 25, 3) := by decide +kernel
theorem dX7_exists_25 : decode cX7_exists 25 = .ok (.aload_n 0, 1) := by decide +kernel
theorem dX7_exists_26 : decode cX7_exists 26 = .ok (.getfield 29, 3) := by decide +kernel
theorem dX7_exists_29 : decode cX7_exists 29 = .ok (.invokevirtual 37, 3) := by decide +kernel
theorem dX7_exists_32 : decode cX7_exists 32 = .ok (.istore_n 1, 1) := by decide +kernel
theorem dX7_exists_33 : decode cX7_exists 33 = .ok (.aload_n 0, 1) := by decide +kernel
theorem dX7_exists_34 : decode cX7_exists 34 = .ok (.iconst 0, 1) := by decide +kernel
theorem dX7_exists_35 : decode cX7_exists 35 = .ok (.putfield 21, 3) := by decide +kernel
theorem dX7_exists_38 : decode cX7_exists 38 = .ok (.iload_n 1, 1) := by decide +kernel
theorem dX7_exists_39 : decode cX7_exists 39 = .ok (.iconst 1, 1) := by decide +kernel
theorem dX7_exists_40 : decode cX7_exists 40 = .ok (.if_icmp .le 39, 3) := by decide +kernel
theorem dX7_exists_79 : decode cX7_exists 79 = .ok (.aload_n 0, 1) := by decide +kernel
theorem dX7_exists_80 : decode cX7_exists 80 = .ok (.getfield 21, 3) := by decide +kernel
theorem dX7_exists_83 : decode cX7_exists 83 = .ok (.ifCond .eq 8, 3) := by decide +kernel
theorem dX7_exists_43 : decode cX7_exists 43 = .ok (.iload_n 1, 1) := by decide +kernel
theorem dX7_exists_44 : decode cX7_exists 44 = .ok (.bipush 14, 2) := by decide +kernel
theorem dX7_exists_46 : decode cX7_exists 46 = .ok (.if_icmp .gt 33, 3) := by decide +kernel
theorem dX7_exists_49 : decode cX7_exists 49 = .ok (.aload_n 0, 1) := by decide +kernel
theorem dX7_exists_50 : decode cX7_exists 50 = .ok (.iload_n 1, 1) := by decide +kernel
theorem dX7_exists_51 : decode cX7_exists 51 = .ok (.invokevirtual 47, 3) := by decide +kernel
theorem dX7_exists_54 : decode cX7_exists 54 = .ok (.aload_n 0, 1) := by decide +kernel
theorem dX7_exists_55 : decode cX7_exists 55 = .ok (.iload_n 1, 1) := by decide +kernel
theorem dX7_exists_56 : decode cX7_exists 56 = .ok (.invokevirtual 51, 3) := by decide +kernel
theorem dX7_exists_59 : decode cX7_exists 59 = .ok (.aload_n 0, 1) := by decide +kernel
theorem dX7_exists_60 : decode cX7_exists 60 = .ok (.aload_n 0, 1) := by decide +kernel
theorem dX7_exists_61 : decode cX7_exists 61 = .ok (.getfield 18, 3) := by decide +kernel
theorem dX7_exists_64 : decode cX7_exists 64 = .ok (.iconst 1, 1) := by decide +kernel
theorem dX7_exists_65 : decode cX7_exists 65 = .ok (.iaload, 1) := by decide +kernel
theorem dX7_exists_66 : decode cX7_exists 66 = .ok (.iconst 1, 1) := by decide +kernel
theorem dX7_exists_67 : decode cX7_exists 67 = .ok (.iand, 1) := by decide +kernel
theorem dX7_exists_68 : decode cX7_exists 68 = .ok (.ifCond .eq 7, 3) := by decide +kernel
theorem dX7_exists_75 : decode cX7_exists 75 = .ok (.iconst 0, 1) := by decide +kernel
theorem dX7_exists_76 : decode cX7_exists 76 = .ok (.putfield 21, 3) := by decide +kernel
theorem dX7_exists_71 : decode cX7_exists 71 = .ok (.iconst 1, 1) := by decide +kernel
theorem dX7_exists_72 : decode cX7_exists 72 = .ok (.goto 4, 3) := by decide +kernel
theorem dX7_exists_86 : decode cX7_exists 86 = .ok (.aload_n 0, 1) := by decide +kernel
theorem dX7_exists_87 : decode cX7_exists 87 = .ok (.iload_n 1, 1) := by decide +kernel
theorem dX7_exists_88 : decode cX7_exists 88 = .ok (.invokevirtual 54, 3) := by decide +kernel
theorem dX2_prepare_0 : decode cX2_prepare 0 = .ok (.iconst 0, 1) := by decide +kernel
theorem dX2_prepare_1 : decode cX2_prepare 1 = .ok (.istore_n 1, 1) := by decide +kernel
theorem dX2_prepare_2 : decode cX2_prepare 2 = .ok (.iload_n 1, 1) := by decide +kernel
theorem dX2_prepare_3 : decode cX2_prepare 3 = .ok (.aload_n 0, 1) := by decide +kernel
theorem dX2_prepare_4 : decode cX2_prepare 4 = .ok (.getfield 18, 3) := by decide +kernel
theorem dX2_prepare_7 : decode cX2_prepare 7 = .ok (.getfield 26, 3) := by decide +kernel
theorem dX2_prepare_10 : decode cX2_prepare 10 = .ok (.if_icmp .ge 53, 3) := by decide +kernel
theorem dX2_prepare_63 : decode cX2_prepare 63 = .ok (.return_, 1) := by decide +kernel
theorem dX2_prepare_13 : decode cX2_prepare 13 = .ok (.aload_n 0, 1) := by decide +kernel
theorem dX2_prepare_14 : decode cX2_prepare 14 = .ok (.getfield 9, 3) := by decide +kernel
theorem dX2_prepare_17 : decode cX2_prepare 17 = .ok (.iload_n 1, 1) := by decide +kernel
theorem dX2_prepare_18 : decode cX2_prepare 18 = .ok (.aload_n 0, 1) := by decide +kernel
theorem dX2_prepare_19 : decode cX2_prepare 19 = .ok (.getfield 22, 3) := by decide +kernel
theorem dX2_prepare_22 : decode cX2_prepare 22 = .ok (.aload_n 0, 1) := by decide +kernel
theorem dX2_prepare_23 : decode cX2_prepare 23 = .ok (.getfield 18, 3) := by decide +kernel
theorem dX2_prepare_26 : decode cX2_prepare 26 = .ok (.getfield 32, 3) := by decide +kernel
theorem dX2_prepare_29 : decode cX2_prepare 29 = .ok (.iload_n 1, 1) := by decide +kernel
theorem dX2_prepare_30 : decode cX2_prepare 30 = .ok (.iaload, 1) := by decide +kernel
theorem dX2_prepare_31 : decode cX2_prepare 31 = .ok (.invokevirtual 35, 3) := by decide +kernel
theorem dX2_prepare_34 : decode cX2_prepare 34 = .ok (.iastore, 1) := by decide +kernel
theorem dX2_prepare_35 : decode cX2_prepare 35 = .ok (.aload_n 0, 1) := by decide +kernel
theorem dX2_prepare_36 : decode cX2_prepare 36 = .ok (.getfield 15, 3) := by decide +kernel
theorem dX2_prepare_39 : decode cX2_prepare 39 = .ok (.iload_n 1, 1) := by decide +kernel
theorem dX2_prepare_40 : decode cX2_prepare 40 = .ok (.aload_n 0, 1) := by decide +kernel
theorem dX2_prepare_41 : decode cX2_prepare 41 = .ok (.getfield 22, 3) := by decide +kernel
theorem dX2_prepare_44 : decode cX2_prepare 44 = .ok (.aload_n 0, 1) := by decide +kernel
theorem dX2_prepare_45 : decode cX2_prepare 45 = .ok (.getfield 18, 3) := by decide +kernel
theorem dX2_prepare_48 : decode cX2_prepare 48 = .ok (.getfield 41, 3) := by decide +kernel
theorem dX2_prepare_51 : decode cX2_prepare 51 = .ok (.iload_n 1, 1) := by decide +kernel
theorem dX2_prepare_52 : decode cX2_prepare 52 = .ok (.iaload, 1) := by decide +kernel
theorem dX2_prepare_53 : decode cX2_prepare 53 = .ok (.invokevirtual 35, 3) := by decide +kernel
theorem dX2_prepare_56 : decode cX2_prepare 56 = .ok (.iastore, 1) := by decide +kernel
theorem dX2_prepare_57 : decode cX2_prepare 57 = .ok (.iinc 1 1, 3) := by decide +kernel
theorem dX2_prepare_60 : decode cX2_prepare 60 = .ok (.goto (-58), 3) := by decide +kernel
theorem dX2_run_0 : decode cX2_run 0 = .ok (.iload_n 1, 1) := by decide +kernel
theorem dX2_run_1 : decode cX2_run 1 = .ok (.istore 4, 2) := by decide +kernel
theorem dX2_run_3 : decode cX2_run 3 = .ok (.iconst 0, 1) := by decide +kernel
theorem dX2_run_4 : decode cX2_run 4 = .ok (.istore 5, 2) := by decide +kernel
theorem dX2_run_6 : decode cX2_run 6 = .ok (.iload 5, 2) := by decide +kernel
theorem dX2_run_8 : decode cX2_run 8 = .ok (.iload_n 2, 1) := by decide +kernel
theorem dX2_run_9 : decode cX2_run 9 = .ok (.if_icmp .ge 73, 3) := by decide +kernel
theorem dX2_run_82 : decode cX2_run 82 = .ok (.iload 4, 2) := by decide +kernel
theorem dX2_run_84 : decode cX2_run 84 = .ok (.ireturn, 1) := by decide +kernel
theorem dX2_run_12 : decode cX2_run 12 = .ok (.iload 5, 2) := by decide +kernel
theorem dX2_run_14 : decode cX2_run 14 = .ok (.aload_n 0, 1) := by decide +kernel
theorem dX2_run_15 : decode cX2_run 15 = .ok (.getfield 18, 3) := by decide +kernel
theorem dX2_run_18 : decode cX2_run 18 = .ok (.getfield 26, 3) := by decide +kernel
theorem dX2_run_21 : decode cX2_run 21 = .ok (.if_icmp .ge 61, 3) := by decide +kernel
theorem dX2_run_24 : decode cX2_run 24 = .ok (.aload_n 0, 1) := by decide +kernel
theorem dX2_run_25 : decode cX2_run 25 = .ok (.getfield 9, 3) := by decide +kernel
theorem dX2_run_28 : decode cX2_run 28 = .ok (.iload 5, 2) := by decide +kernel
theorem dX2_run_30 : decode cX2_run 30 = .ok (.iaload, 1) := by decide +kernel
theorem dX2_run_31 : decode cX2_run 31 = .ok (.istore 6, 2) := by decide +kernel
theorem dX2_run_33 : decode cX2_run 33 = .ok (.aload_n 0, 1) := by decide +kernel
theorem dX2_run_34 : decode cX2_run 34 = .ok (.getfield 15, 3) := by decide +kernel
theorem dX2_run_37 : decode cX2_run 37 = .ok (.iload 5, 2) := by decide +kernel
theorem dX2_run_39 : decode cX2_run 39 = .ok (.iaload, 1) := by decide +kernel
theorem dX2_run_40 : decode cX2_run 40 = .ok (.istore 7, 2) := by decide +kernel
theorem dX2_run_42 : decode cX2_run 42 = .ok (.iload 5, 2) := by decide +kernel
theorem dX2_run_44 : decode cX2_run 44 = .ok (.iload_n 3, 1) := by decide +kernel
theorem dX2_run_45 : decode cX2_run 45 = .ok (.if_icmp .eq 31, 3) := by decide +kernel
theorem dX2_run_76 : decode cX2_run 76 = .ok (.iinc 5 1, 3) := by decide +kernel
theorem dX2_run_79 : decode cX2_run 79 = .ok (.goto (-73), 3) := by decide +kernel
theorem dX2_run_48 : decode cX2_run 48 = .ok (.iload 4, 2) := by decide +kernel
theorem dX2_run_50 : decode cX2_run 50 = .ok (.iload 6, 2) := by decide +kernel
theorem dX2_run_52 : decode cX2_run 52 = .ok (.invokestatic 65, 3) := by decide +kernel
theorem dX2_run_55 : decode cX2_run 55 = .ok (.iload 4, 2) := by decide +kernel
theorem dX2_run_57 : decode cX2_run 57 = .ok (.iload 7, 2) := by decide +kernel
theorem dX2_run_59 : decode cX2_run 59 = .ok (.invokestatic 65, 3) := by decide +kernel
theorem dX2_run_62 : decode cX2_run 62 = .ok (.if_icmp .le 14, 3) := by decide +kernel
theorem dX2_run_65 : decode cX2_run 65 = .ok (.iload 4, 2) := by decide +kernel
theorem dX2_run_67 : decode cX2_run 67 = .ok (.iload 6, 2) := by decide +kernel
theorem dX2_run_69 : decode cX2_run 69 = .ok (.iload 7, 2) := by decide +kernel
theorem dX2_run_71 : decode cX2_run 71 = .ok (.invokestatic 68, 3) := by decide +kernel
theorem dX2_run_74 : decode cX2_run 74 = .ok (.istore 4, 2) := by decide +kernel
theorem dX2_tally_0 : decode cX2_tally 0 = .ok (.aload_n 0, 1) := by decide +kernel
theorem dX2_tally_1 : decode cX2_tally 1 = .ok (.getfield 22, 3) := by decide +kernel
theorem dX2_tally_4 : decode cX2_tally 4 = .ok (.iconst 0, 1) := by decide +kernel
theorem dX2_tally_5 : decode cX2_tally 5 = .ok (.invokevirtual 44, 3) := by decide +kernel
theorem dX2_tally_8 : decode cX2_tally 8 = .ok (.istore_n 3, 1) := by decide +kernel
theorem dX2_tally_9 : decode cX2_tally 9 = .ok (.iconst 0, 1) := by decide +kernel
theorem dX2_tally_10 : decode cX2_tally 10 = .ok (.istore 4, 2) := by decide +kernel
theorem dX2_tally_12 : decode cX2_tally 12 = .ok (.iconst 0, 1) := by decide +kernel
theorem dX2_tally_13 : decode cX2_tally 13 = .ok (.istore 5, 2) := by decide +kernel
theorem dX2_tally_15 : decode cX2_tally 15 = .ok (.iload 5, 2) := by decide +kernel
theorem dX2_tally_17 : decode cX2_tally 17 = .ok (.aload_n 0, 1) := by decide +kernel
theorem dX2_tally_18 : decode cX2_tally 18 = .ok (.getfield 22, 3) := by decide +kernel
theorem dX2_tally_21 : decode cX2_tally 21 = .ok (.invokevirtual 58, 3) := by decide +kernel
theorem dX2_tally_24 : decode cX2_tally 24 = .ok (.if_icmp .ge 31, 3) := by decide +kernel
theorem dX2_tally_55 : decode cX2_tally 55 = .ok (.iload 4, 2) := by decide +kernel
theorem dX2_tally_57 : decode cX2_tally 57 = .ok (.ireturn, 1) := by decide +kernel
theorem dX2_tally_27 : decode cX2_tally 27 = .ok (.aload_n 0, 1) := by decide +kernel
theorem dX2_tally_28 : decode cX2_tally 28 = .ok (.aload_n 0, 1) := by decide +kernel
theorem dX2_tally_29 : decode cX2_tally 29 = .ok (.getfield 22, 3) := by decide +kernel
theorem dX2_tally_32 : decode cX2_tally 32 = .ok (.iload 5, 2) := by decide +kernel
theorem dX2_tally_34 : decode cX2_tally 34 = .ok (.invokevirtual 44, 3) := by decide +kernel
theorem dX2_tally_37 : decode cX2_tally 37 = .ok (.iload_n 1, 1) := by decide +kernel
theorem dX2_tally_38 : decode cX2_tally 38 = .ok (.iload_n 2, 1) := by decide +kernel
theorem dX2_tally_39 : decode cX2_tally 39 = .ok (.invokevirtual 47, 3) := by decide +kernel
theorem dX2_tally_42 : decode cX2_tally 42 = .ok (.iload_n 3, 1) := by decide +kernel
theorem dX2_tally_43 : decode cX2_tally 43 = .ok (.if_icmp .ne 6, 3) := by decide +kernel
theorem dX2_tally_49 : decode cX2_tally 49 = .ok (.iinc 5 1, 3) := by decide +kernel
theorem dX2_tally_52 : decode cX2_tally 52 = .ok (.goto (-37), 3) := by decide +kernel
theorem dX2_tally_46 : decode cX2_tally 46 = .ok (.iinc 4 1, 3) := by decide +kernel
theorem dX2_sortedAll_0 : decode cX2_sortedAll 0 = .ok (.aload_n 0, 1) := by decide +kernel
theorem dX2_sortedAll_1 : decode cX2_sortedAll 1 = .ok (.aload_n 0, 1) := by decide +kernel
theorem dX2_sortedAll_2 : decode cX2_sortedAll 2 = .ok (.getfield 18, 3) := by decide +kernel
theorem dX2_sortedAll_5 : decode cX2_sortedAll 5 = .ok (.getfield 26, 3) := by decide +kernel
theorem dX2_sortedAll_8 : decode cX2_sortedAll 8 = .ok (.iconst (-1), 1) := by decide +kernel
theorem dX2_sortedAll_9 : decode cX2_sortedAll 9 = .ok (.invokevirtual 54, 3) := by decide +kernel
theorem dX2_sortedAll_12 : decode cX2_sortedAll 12 = .ok (.ireturn, 1) := by decide +kernel
theorem dX2_result_0 : decode cX2_result 0 = .ok (.aload_n 0, 1) := by decide +kernel
theorem dX2_result_1 : decode cX2_result 1 = .ok (.getfield 22, 3) := by decide +kernel
theorem dX2_result_4 : decode cX2_result 4 = .ok (.aload_n 0, 1) := by decide +kernel
theorem dX2_result_5 : decode cX2_result 5 = .ok (.aload_n 0, 1) := by decide +kernel
theorem dX2_result_6 : decode cX2_result 6 = .ok (.getfield 22, 3) := by decide +kernel
theorem dX2_result_9 : decode cX2_result 9 = .ok (.iload_n 1, 1) := by decide +kernel
theorem dX2_result_10 : decode cX2_result 10 = .ok (.invokevirtual 44, 3) := by decide +kernel
theorem dX2_result_13 : decode cX2_result 13 = .ok (.aload_n 0, 1) := by decide +kernel
theorem dX2_result_14 : decode cX2_result 14 = .ok (.getfield 18, 3) := by decide +kernel
theorem dX2_result_17 : decode cX2_result 17 = .ok (.getfield 26, 3) := by decide +kernel
theorem dX2_result_20 : decode cX2_result 20 = .ok (.iconst (-1), 1) := by decide +kernel
theorem dX2_result_21 : decode cX2_result 21 = .ok (.invokevirtual 47, 3) := by decide +kernel
theorem dX2_result_24 : decode cX2_result 24 = .ok (.invokevirtual 51, 3) := by decide +kernel
theorem dX2_result_27 : decode cX2_result 27 = .ok (.ireturn, 1) := by decide +kernel
theorem dX2_firstUnsorted_0 : decode cX2_firstUnsorted 0 = .ok (.aload_n 0, 1) := by decide +kernel
theorem dX2_firstUnsorted_1 : decode cX2_firstUnsorted 1 = .ok (.getfield 22, 3) := by decide +kernel
theorem dX2_firstUnsorted_4 : decode cX2_firstUnsorted 4 = .ok (.iconst 0, 1) := by decide +kernel
theorem dX2_firstUnsorted_5 : decode cX2_firstUnsorted 5 = .ok (.invokevirtual 44, 3) := by decide +kernel
theorem dX2_firstUnsorted_8 : decode cX2_firstUnsorted 8 = .ok (.istore_n 1, 1) := by decide +kernel
theorem dX2_firstUnsorted_9 : decode cX2_firstUnsorted 9 = .ok (.iconst 0, 1) := by decide +kernel
theorem dX2_firstUnsorted_10 : decode cX2_firstUnsorted 10 = .ok (.istore_n 2, 1) := by decide +kernel
theorem dX2_firstUnsorted_11 : decode cX2_firstUnsorted 11 = .ok (.iload_n 2, 1) := by decide +kernel
theorem dX2_firstUnsorted_12 : decode cX2_firstUnsorted 12 = .ok (.aload_n 0, 1) := by decide +kernel
theorem dX2_firstUnsorted_13 : decode cX2_firstUnsorted 13 = .ok (.getfield 22, 3) := by decide +kernel
theorem dX2_firstUnsorted_16 : decode cX2_firstUnsorted 16 = .ok (.invokevirtual 58, 3) := by decide +kernel
theorem dX2_firstUnsorted_19 : decode cX2_firstUnsorted 19 = .ok (.if_icmp .ge 35, 3) := by decide +kernel
theorem dX2_firstUnsorted_54 : decode cX2_firstUnsorted 54 = .ok (.iconst (-1), 1) := by decide +kernel
theorem dX2_firstUnsorted_55 : decode cX2_firstUnsorted 55 = .ok (.ireturn, 1) := by decide +kernel
theorem dX2_firstUnsorted_22 : decode cX2_firstUnsorted 22 = .ok (.aload_n 0, 1) := by decide +kernel
theorem dX2_firstUnsorted_23 : decode cX2_firstUnsorted 23 = .ok (.aload_n 0, 1) := by decide +kernel
theorem dX2_firstUnsorted_24 : decode cX2_firstUnsorted 24 = .ok (.getfield 22, 3) := by decide +kernel
theorem dX2_firstUnsorted_27 : decode cX2_firstUnsorted 27 = .ok (.iload_n 2, 1) := by decide +kernel
theorem dX2_firstUnsorted_28 : decode cX2_firstUnsorted 28 = .ok (.invokevirtual 44, 3) := by decide +kernel
theorem dX2_firstUnsorted_31 : decode cX2_firstUnsorted 31 = .ok (.aload_n 0, 1) := by decide +kernel
theorem dX2_firstUnsorted_32 : decode cX2_firstUnsorted 32 = .ok (.getfield 18, 3) := by decide +kernel
theorem dX2_firstUnsorted_35 : decode cX2_firstUnsorted 35 = .ok (.getfield 26, 3) := by decide +kernel
theorem dX2_firstUnsorted_38 : decode cX2_firstUnsorted 38 = .ok (.iconst (-1), 1) := by decide +kernel
theorem dX2_firstUnsorted_39 : decode cX2_firstUnsorted 39 = .ok (.invokevirtual 47, 3) := by decide +kernel
theorem dX2_firstUnsorted_42 : decode cX2_firstUnsorted 42 = .ok (.iload_n 1, 1) := by decide +kernel
theorem dX2_firstUnsorted_43 : decode cX2_firstUnsorted 43 = .ok (.if_icmp .eq 5, 3) := by decide +kernel
theorem dX2_firstUnsorted_48 : decode cX2_firstUnsorted 48 = .ok (.iinc 2 1, 3) := by decide +kernel
theorem dX2_firstUnsorted_51 : decode cX2_firstUnsorted 51 = .ok (.goto (-40), 3) := by decide +kernel
theorem dX2_firstUnsorted_46 : decode cX2_firstUnsorted 46 = .ok (.iload_n 2, 1) := by decide +kernel
theorem dX2_firstUnsorted_47 : decode cX2_firstUnsorted 47 = .ok (.ireturn, 1) := by decide +kernel
theorem dX2_needless_0 : decode cX2_needless 0 = .ok (.aload_n 0, 1) := by decide +kernel
theorem dX2_needless_1 : decode cX2_needless 1 = .ok (.invokevirtual 62, 3) := by decide +kernel
theorem dX2_needless_4 : decode cX2_needless 4 = .ok (.istore_n 1, 1) := by decide +kernel
theorem dX2_needless_5 : decode cX2_needless 5 = .ok (.iconst 0, 1) := by decide +kernel
theorem dX2_needless_6 : decode cX2_needless 6 = .ok (.istore_n 2, 1) := by decide +kernel
theorem dX2_needless_7 : decode cX2_needless 7 = .ok (.iconst 0, 1) := by decide +kernel
theorem dX2_needless_8 : decode cX2_needless 8 = .ok (.istore_n 3, 1) := by decide +kernel
theorem dX2_needless_9 : decode cX2_needless 9 = .ok (.iload_n 3, 1) := by decide +kernel
theorem dX2_needless_10 : decode cX2_needless 10 = .ok (.aload_n 0, 1) := by decide +kernel
theorem dX2_needless_11 : decode cX2_needless 11 = .ok (.getfield 18, 3) := by decide +kernel
theorem dX2_needless_14 : decode cX2_needless 14 = .ok (.getfield 26, 3) := by decide +kernel
theorem dX2_needless_17 : decode cX2_needless 17 = .ok (.if_icmp .ge 31, 3) := by decide +kernel
theorem dX2_needless_48 : decode cX2_needless 48 = .ok (.iload_n 2, 1) := by decide +kernel
theorem dX2_needless_49 : decode cX2_needless 49 = .ok (.ireturn, 1) := by decide +kernel
theorem dX2_needless_20 : decode cX2_needless 20 = .ok (.aload_n 0, 1) := by decide +kernel
theorem dX2_needless_21 : decode cX2_needless 21 = .ok (.aload_n 0, 1) := by decide +kernel
theorem dX2_needless_22 : decode cX2_needless 22 = .ok (.getfield 18, 3) := by decide +kernel
theorem dX2_needless_25 : decode cX2_needless 25 = .ok (.getfield 26, 3) := by decide +kernel
theorem dX2_needless_28 : decode cX2_needless 28 = .ok (.iload_n 3, 1) := by decide +kernel
theorem dX2_needless_29 : decode cX2_needless 29 = .ok (.invokevirtual 54, 3) := by decide +kernel
theorem dX2_needless_32 : decode cX2_needless 32 = .ok (.iload_n 1, 1) := by decide +kernel
theorem dX2_needless_33 : decode cX2_needless 33 = .ok (.if_icmp .lt 9, 3) := by decide +kernel
theorem dX2_needless_42 : decode cX2_needless 42 = .ok (.iinc 3 1, 3) := by decide +kernel
theorem dX2_needless_45 : decode cX2_needless 45 = .ok (.goto (-36), 3) := by decide +kernel
theorem dX2_needless_36 : decode cX2_needless 36 = .ok (.iload_n 2, 1) := by decide +kernel
theorem dX2_needless_37 : decode cX2_needless 37 = .ok (.iconst 1, 1) := by decide +kernel
theorem dX2_needless_38 : decode cX2_needless 38 = .ok (.iload_n 3, 1) := by decide +kernel
theorem dX2_needless_39 : decode cX2_needless 39 = .ok (.ishl, 1) := by decide +kernel
theorem dX2_needless_40 : decode cX2_needless 40 = .ok (.ior, 1) := by decide +kernel
theorem dX2_needless_41 : decode cX2_needless 41 = .ok (.istore_n 2, 1) := by decide +kernel
theorem dX2_fewestFirst_0 : decode cX2_fewestFirst 0 = .ok (.aload_n 0, 1) := by decide +kernel
theorem dX2_fewestFirst_1 : decode cX2_fewestFirst 1 = .ok (.invokevirtual 62, 3) := by decide +kernel
theorem dX2_fewestFirst_4 : decode cX2_fewestFirst 4 = .ok (.istore_n 1, 1) := by decide +kernel
theorem dX2_fewestFirst_5 : decode cX2_fewestFirst 5 = .ok (.iconst 0, 1) := by decide +kernel
theorem dX2_fewestFirst_6 : decode cX2_fewestFirst 6 = .ok (.istore_n 2, 1) := by decide +kernel
theorem dX2_fewestFirst_7 : decode cX2_fewestFirst 7 = .ok (.iload_n 2, 1) := by decide +kernel
theorem dX2_fewestFirst_8 : decode cX2_fewestFirst 8 = .ok (.aload_n 0, 1) := by decide +kernel
theorem dX2_fewestFirst_9 : decode cX2_fewestFirst 9 = .ok (.getfield 18, 3) := by decide +kernel
theorem dX2_fewestFirst_12 : decode cX2_fewestFirst 12 = .ok (.getfield 26, 3) := by decide +kernel
theorem dX2_fewestFirst_15 : decode cX2_fewestFirst 15 = .ok (.if_icmp .ge 19, 3) := by decide +kernel
theorem dX2_fewestFirst_34 : decode cX2_fewestFirst 34 = .ok (.iload_n 2, 1) := by decide +kernel
theorem dX2_fewestFirst_35 : decode cX2_fewestFirst 35 = .ok (.ireturn, 1) := by decide +kernel
theorem dX2_fewestFirst_18 : decode cX2_fewestFirst 18 = .ok (.aload_n 0, 1) := by decide +kernel
theorem dX2_fewestFirst_19 : decode cX2_fewestFirst 19 = .ok (.iload_n 2, 1) := by decide +kernel
theorem dX2_fewestFirst_20 : decode cX2_fewestFirst 20 = .ok (.iconst (-1), 1) := by decide +kernel
theorem dX2_fewestFirst_21 : decode cX2_fewestFirst 21 = .ok (.invokevirtual 54, 3) := by decide +kernel
theorem dX2_fewestFirst_24 : decode cX2_fewestFirst 24 = .ok (.iload_n 1, 1) := by decide +kernel
theorem dX2_fewestFirst_25 : decode cX2_fewestFirst 25 = .ok (.if_icmp .ge 9, 3) := by decide +kernel
theorem dX2_fewestFirst_28 : decode cX2_fewestFirst 28 = .ok (.iinc 2 1, 3) := by decide +kernel
theorem dX2_fewestFirst_31 : decode cX2_fewestFirst 31 = .ok (.goto (-24), 3) := by decide +kernel
theorem v_555f17cff2 {a0 a1 : Int} (h0 : a0 ≤ 14) (h1 : 0 ≤ a1) (h2 : a1 ≤ a0) : zr a1 := by omega
theorem v_41e398b508 {a0 : Int} (h0 : 1 ≤ a0) (h1 : a0 ≤ 14) : zr a0 := by omega
theorem v_202a50a2c8 {a0 a1 : Int} (h0 : a0 ≤ 14) (h1 : ¬ a0 ≤ a1) : a1 < 14 := by omega
theorem v_0c12b743d1 {a0 : Int} (h0 : 2 ≤ a0) : 2 ≤ a0 := by omega
theorem v_20ae70f27a {a0 : Int} (h0 : a0 ≤ 14) : a0 ≤ 14 := by omega
theorem v_9cac810b1f {a0 a1 : Int} (h0 : a0 < a1) (h1 : a1 ≤ 14) : a0 < 14 := by omega
theorem v_1b36648a9f {a0 : Int} (h0 : 2 ≤ a0) : 0 ≤ a0 := by omega
theorem v_0e3ebc5ccb {a0 : Int} (h0 : 2 ≤ a0) (h1 : a0 ≤ 14) : zr a0 := by omega
theorem v_949e163c88 {a0 : Int} (h0 : 2 ≤ a0) : (-1) < a0 := by omega
theorem v_ecd8e9aab1 {a0 a1 : Int} (h0 : a0 ≤ a1) (h1 : 4 ≤ a0) : 0 ≤ a1 := by omega
theorem v_54640227a3 {a0 : Int} (h0 : a0 ≤ 40000) : a0 ≤ 2147483647 := by omega
theorem v_2fb8916692 {a0 a1 a2 : Int} (h0 : a0 ≤ a1) (h1 : a2 < a0) : a2 < a1 := by omega
theorem v_9c875d88fc : (0 : Int) < 14 := by omega
theorem v_37525a0dce {a0 : Int} (h0 : 2 ≤ a0) : 1 ≤ a0 := by omega
theorem v_21b859380a {a0 : Int} (h0 : 4 ≤ a0) : 1 < a0 := by omega
theorem v_5085e1298b {a0 : Int} (h0 : 2 ≤ a0) : 0 < a0 := by omega
theorem v_16538fa339 {a0 a1 : Int} (h0 : a0 ≤ 14) (h1 : 1 ≤ a1) (h2 : a1 ≤ a0) : zr a1 := by omega
theorem v_35ba6204af {a0 a1 : Int} (h0 : a0 ≤ 14) (h1 : -1 ≤ a1) (h2 : a1 < a0) : zr a1 := by omega
theorem v_317307568c {a0 : Int} (h0 : a0 ≤ 14) : a0 ≤ 30 := by omega
theorem v_c23c4a6639 {a0 : Int} : a0 - 1 + 1 = a0 := by omega
theorem v_c331f4fd15 {a0 : Int} (h0 : a0 ≤ 40000) : a0 ≤ 100000 := by omega
theorem v_7c6177c54d {a0 a1 : Int} (h0 : a0 = a1) (h1 : 4 ≤ a1) : 0 ≤ a0 := by omega
theorem v_8cbfe21f51 {a0 a1 : Int} (h0 : a0 = a1) (h1 : a1 ≤ 16384) : a0 ≤ 50000 := by omega
theorem v_45fda7ce18 {a0 a1 : Int} (h0 : a0 = a1) (h1 : 4 ≤ a1) : 0 ≤ (a0 - 1) := by omega
theorem v_9f76525bb5 {a0 a1 : Int} (h0 : a0 = a1) : (a0 - 1) < a1 := by omega
theorem v_1a60bb62b5 {a0 a1 : Int} (h0 : a0 ≤ 16384) (h1 : 0 ≤ a1) (h2 : a1 < a0) : zr a1 := by omega
theorem v_b835b9514e {a0 : Int} (h0 : ¬ a0 ≤ 0) : 0 ≤ a0 := by omega
theorem v_0aad64ee8d {a0 a1 a2 a3 : Int} (h0 : a0 = a1) (h1 : a0 ≤ a2) (h2 : a3 < a1) : a3 < a2 := by omega
theorem v_37890547f7 {a0 : Int} (h0 : ¬ a0 ≤ 0) : 0 ≤ (a0 - 1) := by omega
theorem v_8d20adab6a {a0 : Int} (h0 : ¬ a0 ≤ 0) : 0 < a0 := by omega
theorem v_d6489016d8 {a0 a1 : Int} (h0 : a0 ≤ 16384) (h1 : a1 < a0) (h2 : ¬ a1 ≤ 0) : zr a1 := by omega
theorem v_8ba8623eb1 {a0 a1 : Int} (h0 : zr a0) (h1 : a0 = a1) (h2 : 4 ≤ a1) : zr ((a0 - 1)) := by omega
theorem v_2ed20801bb {a0 a1 a2 : Int} (h0 : a0 ≤ a1) (h1 : a2 = a0 - 1) : a2 < a1 := by omega
theorem v_a76feea142 {a0 a1 : Int} (h0 : 0 ≤ a0) (h1 : a0 < a1) : 0 ≤ (a1 - 1) := by omega
theorem v_b62fecc296 {a0 a1 a2 : Int} (h0 : a0 = a1) (h1 : a1 ≤ 16384) (h2 : a2 ≤ 2 * a0) : a2 ≤ 40000 := by omega
theorem v_d7c2909a09 {a0 a1 a2 : Int} (h0 : a0 = a1) (h1 : a2 < a0) : a2 < a1 := by omega
theorem v_5a069f1e34 {a0 a1 a2 : Int} (h0 : a0 = a1) (h1 : a1 ≤ 16384) (h2 : a2 ≤ 2 * a0) : a2 ≤ 2147483647 := by omega
theorem v_97c62ea6fe {a0 a1 : Int} (h0 : zr a0) (h1 : a0 ≤ a1) (h2 : a1 ≤ 2 * a0) : zr ((a0 - 1)) := by omega
theorem v_1c67b5f51d {a0 : Int} (h0 : ¬ 14 ≤ a0) : a0 < 14 := by omega
theorem v_6b0b292328 {a0 : Int} (h0 : a0 ≤ 1) : a0 ≤ 1 := by omega
theorem v_af4055d7b7 {a0 : Int} (h0 : a0 ≤ 1260) (h1 : ¬ a0 ≤ 1) : zr a0 := by omega
theorem v_fd1ff53b5c {a0 : Int} (h0 : ¬ 14 < a0) : a0 ≤ 14 := by omega
theorem v_b80becc89d {a0 : Int} (h0 : ¬ a0 ≤ 1) : 2 ≤ a0 := by omega
theorem v_c0afb76323 {a0 a1 : Int} (h0 : 4 ≤ a0) (h1 : a0 ≤ a1) : 0 ≤ a1 := by omega
theorem v_b7af36be0d {a0 a1 : Int} (h0 : 4 ≤ a0) (h1 : a0 ≤ a1) : 1 < a1 := by omega
theorem v_1c3b5eb737 {a0 : Int} (h0 : a0 ≤ 6) : a0 ≤ 7 := by omega
theorem v_3428687bcd {a0 a1 a2 : Int} (h0 : 0 ≤ a0) (h1 : a1 ≤ 6) (h2 : a2 = 3 * a0 - 3 * a1 - 3) : -2147483648 ≤ a2 := by omega
theorem v_55ab8d5737 {a0 a1 a2 : Int} (h0 : a0 ≤ 7) (h1 : 0 ≤ a1) (h2 : a2 = 3 * a0 - 3 * a1 - 3) : a2 ≤ 2147483647 := by omega
theorem v_e51e95ceb4 {a0 a1 a2 : Int} (h0 : a0 ≤ a1) (h1 : a1 ≤ 12) (h2 : 0 ≤ a2) (h3 : a2 ≤ a0) : zr a2 := by omega
theorem v_6fc6724a30 {a0 a1 : Int} (h0 : 0 ≤ a0) (h1 : a0 ≤ a1) (h2 : a1 ≤ 12) : zr a0 := by omega
theorem v_70ddb75846 {a0 a1 a2 : Int} (h0 : a0 ≤ a1) (h1 : a1 ≤ 12) (h2 : 0 ≤ a2) (h3 : ¬ a0 ≤ a2) : zr a2 := by omega
theorem v_3bf5677fcc {a0 a1 a2 : Int} (h0 : a0 ≤ a1) (h1 : ¬ a0 ≤ a2) : ¬ a1 ≤ a2 := by omega
theorem v_3c018e310c {a0 a1 : Int} (h0 : a0 ≤ 12) (h1 : 0 ≤ a1) (h2 : ¬ a0 ≤ a1) : zr a1 := by omega
theorem v_63da0c30f3 {a0 : Int} : 12 - (a0 + 1) < (12 - a0) := by omega
theorem v_f30c213be9 {a0 a1 : Int} (h0 : a0 ≤ 12) (h1 : ¬ a0 ≤ a1) : 0 < 12 - a1 := by omega
theorem v_8cacc2f855 {a0 : Int} (h0 : 1 ≤ a0) : 0 < a0 := by omega
theorem v_76c5703d3a {a0 a1 a2 : Int} (h0 : a0 ≤ 1260) (h1 : a1 ≤ a0) (h2 : a2 ≤ a1) : a2 ≤ 1260 := by omega
set_option maxHeartbeats 4000000 in
set_option maxRecDepth 100000 in
theorem r_gatherNexts {l : Launch} {G : jG} {nh : Nat} {fh : Nat → Option va_E} (ks : Nat) (ve : Int) (ss : Int) (vs : Int) (many : Int) (places : Int) (ff : Int → Int) (rf : Int → Int) (lc : Int) (fo : Int) (wc : Int) (cc : Int) (sc : Int) (wa : Int → Int) (wb : Int → Int) (tf : Int → Int) (df : Int → Int) (sf : Int → Int) (ns : Int) (vf : Int → Int) (ke : Nat) (fd : Int) (rv : Int) (nx : Int → Int) (q0 : Fx ks) (q1 : 0 ≤ ss) (q2 : ss ≤ 1) (q3 : 0 ≤ vs) (q4 : vs ≤ 1) (q5 : zr ve) (q6 : 1 ≤ many) (q7 : many ≤ 1260) (q8 : 0 ≤ places) (q9 : places ≤ 7) (q10 : okF ff) (q11 : many = Hi ff) (q12 : places = bsum ff) (q13 : RowsTo rf ff many) (q14 : Rg rf 1260 (-2147483648) 2147483647) (q15 : 0 ≤ lc) (q16 : lc ≤ 6) (q17 : -1 ≤ fo) (q18 : fo < lc) (q19 : 0 ≤ wc) (q20 : wc ≤ 8) (q21 : 0 ≤ cc) (q22 : cc ≤ 6) (q23 : 0 ≤ sc) (q24 : sc ≤ 12) (q25 : Rg wa 8 (-2147483648) 2147483647) (q26 : Rg wb 8 (-2147483648) 2147483647) (q27 : Rg tf 2 (-2147483648) 2147483647) (q28 : Rg vf 2625 0 99) (q29 : 22 * many ≤ ns) (q30 : ns ≤ 100000) (q31 : StOK df sf many) (q32 : Rg sf ns (-2147483648) 2147483647) (q33 : many ≤ 14) (q34 : Rg nx 14 (-2147483648) 2147483647) (hk57 : fh 57 = some (.inr (9, [.ref 1, .ref 51, .ref 58, .ref 61, .ref 62, .ref ks, .ref 64, .int (zI ve), .int (zI ss), .int (zI vs)]))) (hk51 : fh 51 = some (.inr (0, [.ref 52, .ref 53, .int (zI many), .int (zI places)]))) (hk52 : fh 52 = some (.inl (0, 1260, .inl (zA rf)))) (hk1 : fh 1 = some (.inr (8, [.ref 2, .ref 3, .ref 4, .int (zI lc), .int (zI fo), .ref 11, .ref 12, .int (zI wc), .ref 13, .ref 14, .int (zI cc), .ref 15, .ref 16, .int (zI sc)]))) (hk3 : fh 3 = some (.inl (0, 2, .inl (zA tf)))) (hk11 : fh 11 = some (.inl (0, 8, .inl (zA wa)))) (hk12 : fh 12 = some (.inl (0, 8, .inl (zA wb)))) (hk62 : fh 62 = some (.inl (0, 1260, .inl (zA df)))) (hkks : fh ks = some (.inl (0, (ns).toNat, .inl (zA sf)))) (hk64 : fh 64 = some (.inl (0, 2625, .inl (zA vf)))) (hk81 : fh 81 = some (.inr (7, [.ref 51, .ref 57, .ref 82, .ref 83, .ref ke, .int (zI fd), .int (zI rv)]))) (hk82 : fh 82 = some (.inl (0, 14, .inl (zA nx)))) : JM l G yX7_gatherNexts MX7_gatherNexts { frames := 4, cells := 0, slots := 0, locals := 100 } [.ref 81, .int (zI many)] (nh, fh) (fun rr h9 => ∃ nx2 : Int → Int, ∃ dg : Int → Int, ∃ sg : Int → Int, rr = none ∧ h9 = (nh, hc fh [(82, .inl (0, 14, .inl (zA nx2))), (62, .inl (0, 1260, .inl (zA dg))), (ks, .inl (0, (ns).toNat, .inl (zA sg)))]) ∧ (Rg nx2 14 (-2147483648) 2147483647) ∧ (StOK dg sg many) ∧ (Rg sg ns (-2147483648) 2147483647)) := by
  refine JM.of (by decide) rfl (fun h => by cases h) (Nat.le_of_ble_eq_true rfl) ⟨3, rfl⟩ ?_
  refine J_hc0 (J_ls (ls2 := [some (.ref 81), some (.int (zI many)), none, none, none]) rfl ?_)
  refine Z_iconst (n := 0) dX7_gatherNexts_0 ?_
  refine J_istore_n dX7_gatherNexts_1 rfl (Nat.le_of_ble_eq_true rfl) rfl ?_
  refine J_ls (ls2 := [some (.ref 81), some (.int (zI many)), some (.int (zI 0)), none, none]) rfl ?_
  refine J_touch (k := 62) (e := .inl (0, 1260, .inl (zA df))) hk62 ?_
  refine J_touch (k := ks) (e := .inl (0, (ns).toNat, .inl (zA sf))) (hcn (q0 62 (by decide)) hkks) ?_
  refine J_touch (k := 82) (e := .inl (0, 14, .inl (zA nx))) (hcn (Ne.symm (q0 82 (by decide))) (hcn (by decide) hk82)) ?_
  have lp2 : ∀ (N2 : Nat) (h_2 : Int) (dx_2 : Int → Int) (sx_2 : Int → Int) (nz_2 : Int → Int), (0 ≤ h_2) → (h_2 ≤ many) → (StOK dx_2 sx_2 many) → (Rg sx_2 ns (-2147483648) 2147483647) → (Rg nz_2 14 (-2147483648) 2147483647) → (many - h_2).toNat < N2 → J l G MX7_gatherNexts { frames := 4, cells := 0, slots := 0, locals := 100 } jE (jMQ G { frames := 4, cells := 0, slots := 0, locals := 100 } (fun rr h9 => ∃ nx2 : Int → Int, ∃ dg : Int → Int, ∃ sg : Int → Int, rr = none ∧ h9 = (nh, hc fh [(82, .inl (0, 14, .inl (zA nx2))), (62, .inl (0, 1260, .inl (zA dg))), (ks, .inl (0, (ns).toNat, .inl (zA sg)))]) ∧ (Rg nx2 14 (-2147483648) 2147483647) ∧ (StOK dg sg many) ∧ (Rg sg ns (-2147483648) 2147483647))) (nh, hc fh [(82, .inl (0, 14, .inl (zA nz_2))), (ks, .inl (0, (ns).toNat, .inl (zA sx_2))), (62, .inl (0, 1260, .inl (zA dx_2)))]) 0 0 2 [some (.ref 81), some (.int (zI many)), some (.int (zI h_2)), none, none] [] := by
    intro N2
    induction N2 with
    | zero => intro h_2 dx_2 sx_2 nz_2 i2_0 i2_1 i2_2 i2_3 i2_4 hm; exact absurd hm (Nat.not_lt_zero _)
    | succ N2 ih2 =>
      intro h_2 dx_2 sx_2 nz_2 i2_0 i2_1 i2_2 i2_3 i2_4 hm2
      refine J_iload_n dX7_gatherNexts_2 rfl rfl ?_
      refine J_iload_n dX7_gatherNexts_3 rfl rfl ?_
      refine Z_icmp_ge (tgt := 65) dX7_gatherNexts_4 (by decide) (v_555f17cff2 q33 i2_0 i2_1) (v_41e398b508 q6 q33) (fun h1 => ?_) (fun h1 => ?_)
      · refine J_touch (k := ks) (e := .inl (0, (ns).toNat, .inl (zA sx_2))) (hcn (q0 82 (by decide)) hch) ?_
        refine J_touch (k := 62) (e := .inl (0, 1260, .inl (zA dx_2))) (hcn (Ne.symm (q0 62 (by decide))) (hcn (by decide) (hcn (Ne.symm (q0 62 (by decide))) hch))) ?_
        refine J_touch (k := 82) (e := .inl (0, 14, .inl (zA nz_2))) (hcn (by decide) (hcn (Ne.symm (q0 82 (by decide))) hch)) ?_
        refine J_dupc (A := [(82, .inl (0, 14, .inl (zA nz_2))), (62, .inl (0, 1260, .inl (zA dx_2))), (ks, .inl (0, (ns).toNat, .inl (zA sx_2)))]) (B := [(ks, .inl (0, (ns).toNat, .inl (zA sx_2))), (62, .inl (0, 1260, .inl (zA dx_2)))]) (L2 := [(82, .inl (0, 14, .inl (zA nz_2))), (62, .inl (0, 1260, .inl (zA dx_2))), (ks, .inl (0, (ns).toNat, .inl (zA sx_2))), (ks, .inl (0, (ns).toNat, .inl (zA sx_2))), (62, .inl (0, 1260, .inl (zA dx_2)))]) (k := 82) (c := .inl (0, 14, .inl (zA nz_2))) (e := .inl (0, 14, .inl (zA nz_2))) rfl rfl (List.mem_of_getElem? (i := 0) rfl) ?_
        refine J_dupc (A := [(82, .inl (0, 14, .inl (zA nz_2))), (62, .inl (0, 1260, .inl (zA dx_2))), (ks, .inl (0, (ns).toNat, .inl (zA sx_2)))]) (B := [(62, .inl (0, 1260, .inl (zA dx_2)))]) (L2 := [(82, .inl (0, 14, .inl (zA nz_2))), (62, .inl (0, 1260, .inl (zA dx_2))), (ks, .inl (0, (ns).toNat, .inl (zA sx_2))), (62, .inl (0, 1260, .inl (zA dx_2)))]) (k := ks) (c := .inl (0, (ns).toNat, .inl (zA sx_2))) (e := .inl (0, (ns).toNat, .inl (zA sx_2))) rfl rfl (List.mem_of_getElem? (i := 2) rfl) ?_
        refine J_dupc (A := [(82, .inl (0, 14, .inl (zA nz_2))), (62, .inl (0, 1260, .inl (zA dx_2))), (ks, .inl (0, (ns).toNat, .inl (zA sx_2)))]) (B := []) (L2 := [(82, .inl (0, 14, .inl (zA nz_2))), (62, .inl (0, 1260, .inl (zA dx_2))), (ks, .inl (0, (ns).toNat, .inl (zA sx_2)))]) (k := 62) (c := .inl (0, 1260, .inl (zA dx_2))) (e := .inl (0, 1260, .inl (zA dx_2))) rfl rfl (List.mem_of_getElem? (i := 1) rfl) ?_
        exact J_vret dX7_gatherNexts_65 rfl (Nat.le_of_ble_eq_true rfl) (Nat.le_of_ble_eq_true rfl) ⟨nz_2, dx_2, sx_2, rfl, rfl, i2_4, i2_2, i2_3⟩
      · refine J_aload_n dX7_gatherNexts_7 rfl rfl ?_
        refine J_get (v := .ref 82) dX7_gatherNexts_8 fl_X7_11 (hcn (by decide) (hcn (Ne.symm (q0 81 (by decide))) (hcn (by decide) hk81))) rfl ?_
        refine J_iload_n dX7_gatherNexts_11 rfl rfl ?_
        refine Z_iconst (n := 0) dX7_gatherNexts_12 ?_
        refine Y_iast (v := 0) 14 dX7_gatherNexts_13 rfl rfl (by decide) (v_2b02420001 i2_0) (v_202a50a2c8 q33 h1) (fun f2 ef2 => ?_)
        have h3 : Rg f2 14 (-2147483648) 2147483647 := Rg.ups i2_4 ef2 v_9c5011c36f v_cd342b47c7
        refine J_aload_n dX7_gatherNexts_14 rfl rfl ?_
        refine J_get (v := .ref 57) dX7_gatherNexts_15 fl_X7_33 (hcn (by decide) (hcn (by decide) (hcn (Ne.symm (q0 81 (by decide))) (hcn (by decide) hk81)))) rfl ?_
        refine J_iload_n dX7_gatherNexts_18 rfl rfl ?_
        refine J_callV (st := []) dX7_gatherNexts_19 cv_X7_57 (t_degree h_2 ks ve ss vs many places ff rf lc fo wc cc sc wa wb tf dx_2 sx_2 ns vf i2_0 (v_fe9ea41faa h1) q0 q1 q2 q3 q4 q5 q6 q7 q8 q9 q10 q11 q12 q13 q14 q15 q16 q17 q18 q19 q20 q21 q22 q23 q24 q25 q26 q27 q28 q29 q30 i2_2 i2_3 (hcn (by decide) (hcn (by decide) (hcn (Ne.symm (q0 57 (by decide))) (hcn (by decide) hk57)))) (hcn (by decide) (hcn (by decide) (hcn (Ne.symm (q0 51 (by decide))) (hcn (by decide) hk51)))) (hcn (by decide) (hcn (by decide) (hcn (Ne.symm (q0 52 (by decide))) (hcn (by decide) hk52)))) (hcn (by decide) (hcn (by decide) (hcn (Ne.symm (q0 1 (by decide))) (hcn (by decide) hk1)))) (hcn (by decide) (hcn (by decide) (hcn (Ne.symm (q0 3 (by decide))) (hcn (by decide) hk3)))) (hcn (by decide) (hcn (by decide) (hcn (Ne.symm (q0 11 (by decide))) (hcn (by decide) hk11)))) (hcn (by decide) (hcn (by decide) (hcn (Ne.symm (q0 12 (by decide))) (hcn (by decide) hk12)))) (hcn (by decide) (hcn (by decide) (hcn (Ne.symm (q0 62 (by decide))) hch))) (hcn (q0 82 (by decide)) (hcn (q0 82 (by decide)) hch)) (hcn (by decide) (hcn (by decide) (hcn (Ne.symm (q0 64 (by decide))) (hcn (by decide) hk64))))) (hcn (by decide) (hcn (by decide) (hcn (Ne.symm (q0 57 (by decide))) (hcn (by decide) hk57)))) rfl rfl (Nat.le_of_ble_eq_true rfl) ⟨(Nat.le_of_ble_eq_true rfl), (Nat.le_of_ble_eq_true rfl)⟩ ⟨(Nat.le_of_ble_eq_true rfl), (Nat.le_of_ble_eq_true rfl)⟩ (fun r h9 hp => ?_)
        obtain ⟨z4, f5, f6, rfl, rfl, h7, h8, h9, h10, h11, h12⟩ := hp
        refine J_nf (nh2 := nh) (ck2 := 0) (sk2 := 0) (st2 := [.int (zI z4)]) rfl rfl rfl rfl ?_
        refine J_app (L3 := [(62, .inl (0, 1260, .inl (zA f5))), (ks, .inl (0, (ns).toNat, .inl (zA f6))), (82, .inl (0, 14, .inl (zA f2))), (82, .inl (0, 14, .inl (zA nz_2))), (ks, .inl (0, (ns).toNat, .inl (zA sx_2))), (62, .inl (0, 1260, .inl (zA dx_2)))]) rfl ?_
        refine J_dupc (A := [(62, .inl (0, 1260, .inl (zA f5))), (ks, .inl (0, (ns).toNat, .inl (zA f6))), (82, .inl (0, 14, .inl (zA f2)))]) (B := [(ks, .inl (0, (ns).toNat, .inl (zA sx_2))), (62, .inl (0, 1260, .inl (zA dx_2)))]) (L2 := [(62, .inl (0, 1260, .inl (zA f5))), (ks, .inl (0, (ns).toNat, .inl (zA f6))), (82, .inl (0, 14, .inl (zA f2))), (ks, .inl (0, (ns).toNat, .inl (zA sx_2))), (62, .inl (0, 1260, .inl (zA dx_2)))]) (k := 82) (c := .inl (0, 14, .inl (zA nz_2))) (e := .inl (0, 14, .inl (zA f2))) rfl rfl (List.mem_of_getElem? (i := 2) rfl) ?_
        refine J_dupc (A := [(62, .inl (0, 1260, .inl (zA f5))), (ks, .inl (0, (ns).toNat, .inl (zA f6))), (82, .inl (0, 14, .inl (zA f2)))]) (B := [(62, .inl (0, 1260, .inl (zA dx_2)))]) (L2 := [(62, .inl (0, 1260, .inl (zA f5))), (ks, .inl (0, (ns).toNat, .inl (zA f6))), (82, .inl (0, 14, .inl (zA f2))), (62, .inl (0, 1260, .inl (zA dx_2)))]) (k := ks) (c := .inl (0, (ns).toNat, .inl (zA sx_2))) (e := .inl (0, (ns).toNat, .inl (zA f6))) rfl rfl (List.mem_of_getElem? (i := 1) rfl) ?_
        refine J_dupc (A := [(62, .inl (0, 1260, .inl (zA f5))), (ks, .inl (0, (ns).toNat, .inl (zA f6))), (82, .inl (0, 14, .inl (zA f2)))]) (B := []) (L2 := [(62, .inl (0, 1260, .inl (zA f5))), (ks, .inl (0, (ns).toNat, .inl (zA f6))), (82, .inl (0, 14, .inl (zA f2)))]) (k := 62) (c := .inl (0, 1260, .inl (zA dx_2))) (e := .inl (0, 1260, .inl (zA f5))) rfl rfl (List.mem_of_getElem? (i := 0) rfl) ?_
        refine J_istore_n dX7_gatherNexts_22 rfl (Nat.le_of_ble_eq_true rfl) rfl ?_
        refine J_ls (ls2 := [some (.ref 81), some (.int (zI many)), some (.int (zI h_2)), some (.int (zI z4)), none]) rfl ?_
        refine Z_iconst (n := 0) dX7_gatherNexts_23 ?_
        refine J_istore dX7_gatherNexts_24 (Nat.le_of_ble_eq_true rfl) rfl ?_
        refine J_ls (ls2 := [some (.ref 81), some (.int (zI many)), some (.int (zI h_2)), some (.int (zI z4)), some (.int (zI 0))]) rfl ?_
        have lp26 : ∀ (N26 : Nat) (i_26 : Int) (nz_26 : Int → Int), (0 ≤ i_26) → (i_26 ≤ z4) → (Rg nz_26 14 (-2147483648) 2147483647) → (z4 - i_26).toNat < N26 → J l G MX7_gatherNexts { frames := 4, cells := 0, slots := 0, locals := 100 } jE (jMQ G { frames := 4, cells := 0, slots := 0, locals := 100 } (fun rr h9 => ∃ nx2 : Int → Int, ∃ dg : Int → Int, ∃ sg : Int → Int, rr = none ∧ h9 = (nh, hc fh [(82, .inl (0, 14, .inl (zA nx2))), (62, .inl (0, 1260, .inl (zA dg))), (ks, .inl (0, (ns).toNat, .inl (zA sg)))]) ∧ (Rg nx2 14 (-2147483648) 2147483647) ∧ (StOK dg sg many) ∧ (Rg sg ns (-2147483648) 2147483647))) (nh, hc fh [(62, .inl (0, 1260, .inl (zA f5))), (ks, .inl (0, (ns).toNat, .inl (zA f6))), (82, .inl (0, 14, .inl (zA nz_26)))]) 0 0 26 [some (.ref 81), some (.int (zI many)), some (.int (zI h_2)), some (.int (zI z4)), some (.int (zI i_26))] [] := by
          intro N26
          induction N26 with
          | zero => intro i_26 nz_26 i26_0 i26_1 i26_2 hm; exact absurd hm (Nat.not_lt_zero _)
          | succ N26 ih26 =>
            intro i_26 nz_26 i26_0 i26_1 i26_2 hm26
            refine J_iload dX7_gatherNexts_26 rfl ?_
            refine J_iload_n dX7_gatherNexts_28 rfl rfl ?_
            refine Z_icmp_ge (tgt := 59) dX7_gatherNexts_29 (by decide) (v_dcf9f538e3 h9 i26_0 i26_1) (v_ee6ec25f58 h8 h9) (fun h13 => ?_) (fun h13 => ?_)
            · refine Z_iinc (c := h_2 + 1) (ls2 := [some (.ref 81), some (.int (zI many)), some (.int (zI (h_2 + 1))), some (.int (zI z4)), some (.int (zI i_26))]) dX7_gatherNexts_59 rfl (Nat.le_of_ble_eq_true rfl) rfl rfl rfl ?_
              refine J_goto (tgt := 2) dX7_gatherNexts_62 (by decide) ?_
              refine J_touch (k := 62) (e := .inl (0, 1260, .inl (zA f5))) rfl ?_
              refine J_touch (k := ks) (e := .inl (0, (ns).toNat, .inl (zA f6))) (hcn (q0 62 (by decide)) (hcn (q0 62 (by decide)) hch)) ?_
              refine J_touch (k := 82) (e := .inl (0, 14, .inl (zA nz_26))) (hcn (Ne.symm (q0 82 (by decide))) (hcn (by decide) (hcn (by decide) (hcn (Ne.symm (q0 82 (by decide))) hch)))) ?_
              refine J_dupc (A := [(82, .inl (0, 14, .inl (zA nz_26))), (ks, .inl (0, (ns).toNat, .inl (zA f6))), (62, .inl (0, 1260, .inl (zA f5)))]) (B := [(ks, .inl (0, (ns).toNat, .inl (zA f6))), (82, .inl (0, 14, .inl (zA nz_26)))]) (L2 := [(82, .inl (0, 14, .inl (zA nz_26))), (ks, .inl (0, (ns).toNat, .inl (zA f6))), (62, .inl (0, 1260, .inl (zA f5))), (ks, .inl (0, (ns).toNat, .inl (zA f6))), (82, .inl (0, 14, .inl (zA nz_26)))]) (k := 62) (c := .inl (0, 1260, .inl (zA f5))) (e := .inl (0, 1260, .inl (zA f5))) rfl rfl (List.mem_of_getElem? (i := 2) rfl) ?_
              refine J_dupc (A := [(82, .inl (0, 14, .inl (zA nz_26))), (ks, .inl (0, (ns).toNat, .inl (zA f6))), (62, .inl (0, 1260, .inl (zA f5)))]) (B := [(82, .inl (0, 14, .inl (zA nz_26)))]) (L2 := [(82, .inl (0, 14, .inl (zA nz_26))), (ks, .inl (0, (ns).toNat, .inl (zA f6))), (62, .inl (0, 1260, .inl (zA f5))), (82, .inl (0, 14, .inl (zA nz_26)))]) (k := ks) (c := .inl (0, (ns).toNat, .inl (zA f6))) (e := .inl (0, (ns).toNat, .inl (zA f6))) rfl rfl (List.mem_of_getElem? (i := 1) rfl) ?_
              refine J_dupc (A := [(82, .inl (0, 14, .inl (zA nz_26))), (ks, .inl (0, (ns).toNat, .inl (zA f6))), (62, .inl (0, 1260, .inl (zA f5)))]) (B := []) (L2 := [(82, .inl (0, 14, .inl (zA nz_26))), (ks, .inl (0, (ns).toNat, .inl (zA f6))), (62, .inl (0, 1260, .inl (zA f5)))]) (k := 82) (c := .inl (0, 14, .inl (zA nz_26))) (e := .inl (0, 14, .inl (zA nz_26))) rfl rfl (List.mem_of_getElem? (i := 0) rfl) ?_
              refine J_drop (ls2 := [some (.ref 81), some (.int (zI many)), some (.int (zI (h_2 + 1))), none, none]) [true, true, true, false, false] rfl ?_
              exact ih2 (h_2 + 1) f5 f6 nz_26 (v_da458fa48a i2_0) (v_e390a36114 h1) h10 h12 i26_2 (meas_lt v_90eacd6fd4 (v_8b7dd7d486 h1) hm2)
            · refine J_aload_n dX7_gatherNexts_32 rfl rfl ?_
              refine J_get (v := .ref 82) dX7_gatherNexts_33 fl_X7_11 (hcn (by decide) (hcn (Ne.symm (q0 81 (by decide))) (hcn (by decide) hk81))) rfl ?_
              refine J_iload_n dX7_gatherNexts_36 rfl rfl ?_
              refine J_dup2_11 dX7_gatherNexts_37 rfl rfl ?_
              obtain ⟨z14, ez14⟩ : ∃ z : Int, nz_26 h_2 = z := ⟨_, rfl⟩
              have h15 := Rg.at i26_2 (v_2b02420001 i2_0) (v_202a50a2c8 q33 h1) ez14
              refine Y_iald (z := z14) 14 dX7_gatherNexts_38 (hcn (by decide) (hcn (Ne.symm (q0 82 (by decide))) hch)) rfl (by decide) (v_2b02420001 i2_0) (v_202a50a2c8 q33 h1) ez14 ?_
              refine Z_iconst (n := 1) dX7_gatherNexts_39 ?_
              refine J_aload_n dX7_gatherNexts_40 rfl rfl ?_
              refine J_get (v := .ref 57) dX7_gatherNexts_41 fl_X7_33 (hcn (by decide) (hcn (Ne.symm (q0 81 (by decide))) (hcn (by decide) hk81))) rfl ?_
              refine J_iload_n dX7_gatherNexts_44 rfl rfl ?_
              refine J_iload dX7_gatherNexts_45 rfl ?_
              refine J_callV (st := [.int (zI 1), .int (zI z14), .int (zI h_2), .ref 82]) dX7_gatherNexts_47 cv_X7_61 (t_to h_2 i_26 many ks ve ss vs f5 f6 ns i2_0 (v_fe9ea41faa h1) i26_0 (v_37aa6f4f04 h7 h13) q0 q29 q7 q30 h10 (hcn (by decide) (hcn (Ne.symm (q0 57 (by decide))) (hcn (by decide) hk57))) rfl (hcn (q0 62 (by decide)) hch)) (hcn (by decide) (hcn (Ne.symm (q0 57 (by decide))) (hcn (by decide) hk57))) rfl rfl (Nat.le_of_ble_eq_true rfl) ⟨(Nat.le_of_ble_eq_true rfl), (Nat.le_of_ble_eq_true rfl)⟩ ⟨(Nat.le_of_ble_eq_true rfl), (Nat.le_of_ble_eq_true rfl)⟩ (fun r h9 hp => ?_)
              obtain ⟨z16, rfl, rfl, h17, h18, h19⟩ := hp
              refine J_nf (nh2 := nh) (ck2 := 0) (sk2 := 0) (st2 := [.int (zI z16), .int (zI 1), .int (zI z14), .int (zI h_2), .ref 82]) rfl rfl rfl rfl ?_
              obtain ⟨z20, ez20⟩ : ∃ z : Int, zshl 1 z16 = z := ⟨_, rfl⟩
              refine Y_ishl (z := z20) dX7_gatherNexts_50 ez20 ?_
              have h21 : zr z20 := by rw [← ez20]; exact zr_toInt _
              obtain ⟨z22, ez22⟩ : ∃ z : Int, zor z14 z20 = z := ⟨_, rfl⟩
              refine Y_ior (z := z22) dX7_gatherNexts_51 ez22 ?_
              have h23 : zr z22 := by rw [← ez22]; exact zr_toInt _
              refine Y_iast (v := z22) 14 dX7_gatherNexts_52 (hcn (by decide) (hcn (Ne.symm (q0 82 (by decide))) hch)) rfl (by decide) (v_2b02420001 i2_0) (v_202a50a2c8 q33 h1) (fun f24 ef24 => ?_)
              have h25 : Rg f24 14 (-2147483648) 2147483647 := Rg.ups i26_2 ef24 (v_9c631c66d9 h23) (v_602fda786b h23)
              refine Z_iinc (c := i_26 + 1) (ls2 := [some (.ref 81), some (.int (zI many)), some (.int (zI h_2)), some (.int (zI z4)), some (.int (zI (i_26 + 1)))]) dX7_gatherNexts_53 rfl (Nat.le_of_ble_eq_true rfl) rfl rfl rfl ?_
              refine J_goto (tgt := 26) dX7_gatherNexts_56 (by decide) ?_
              refine J_dupc (A := [(82, .inl (0, 14, .inl (zA f24))), (62, .inl (0, 1260, .inl (zA f5))), (ks, .inl (0, (ns).toNat, .inl (zA f6)))]) (B := []) (L2 := [(82, .inl (0, 14, .inl (zA f24))), (62, .inl (0, 1260, .inl (zA f5))), (ks, .inl (0, (ns).toNat, .inl (zA f6)))]) (k := 82) (c := .inl (0, 14, .inl (zA nz_26))) (e := .inl (0, 14, .inl (zA f24))) rfl rfl (List.mem_of_getElem? (i := 0) rfl) ?_
              refine J_touch (k := 82) (e := .inl (0, 14, .inl (zA f24))) rfl ?_
              refine J_touch (k := ks) (e := .inl (0, (ns).toNat, .inl (zA f6))) (hcn (q0 82 (by decide)) (hcn (q0 82 (by decide)) (hcn (q0 62 (by decide)) hch))) ?_
              refine J_touch (k := 62) (e := .inl (0, 1260, .inl (zA f5))) (hcn (Ne.symm (q0 62 (by decide))) (hcn (by decide) (hcn (by decide) hch))) ?_
              refine J_dupc (A := [(62, .inl (0, 1260, .inl (zA f5))), (ks, .inl (0, (ns).toNat, .inl (zA f6))), (82, .inl (0, 14, .inl (zA f24)))]) (B := [(62, .inl (0, 1260, .inl (zA f5))), (ks, .inl (0, (ns).toNat, .inl (zA f6)))]) (L2 := [(62, .inl (0, 1260, .inl (zA f5))), (ks, .inl (0, (ns).toNat, .inl (zA f6))), (82, .inl (0, 14, .inl (zA f24))), (62, .inl (0, 1260, .inl (zA f5))), (ks, .inl (0, (ns).toNat, .inl (zA f6)))]) (k := 82) (c := .inl (0, 14, .inl (zA f24))) (e := .inl (0, 14, .inl (zA f24))) rfl rfl (List.mem_of_getElem? (i := 2) rfl) ?_
              refine J_dupc (A := [(62, .inl (0, 1260, .inl (zA f5))), (ks, .inl (0, (ns).toNat, .inl (zA f6))), (82, .inl (0, 14, .inl (zA f24)))]) (B := [(ks, .inl (0, (ns).toNat, .inl (zA f6)))]) (L2 := [(62, .inl (0, 1260, .inl (zA f5))), (ks, .inl (0, (ns).toNat, .inl (zA f6))), (82, .inl (0, 14, .inl (zA f24))), (ks, .inl (0, (ns).toNat, .inl (zA f6)))]) (k := 62) (c := .inl (0, 1260, .inl (zA f5))) (e := .inl (0, 1260, .inl (zA f5))) rfl rfl (List.mem_of_getElem? (i := 0) rfl) ?_
              refine J_dupc (A := [(62, .inl (0, 1260, .inl (zA f5))), (ks, .inl (0, (ns).toNat, .inl (zA f6))), (82, .inl (0, 14, .inl (zA f24)))]) (B := []) (L2 := [(62, .inl (0, 1260, .inl (zA f5))), (ks, .inl (0, (ns).toNat, .inl (zA f6))), (82, .inl (0, 14, .inl (zA f24)))]) (k := ks) (c := .inl (0, (ns).toNat, .inl (zA f6))) (e := .inl (0, (ns).toNat, .inl (zA f6))) rfl rfl (List.mem_of_getElem? (i := 1) rfl) ?_
              exact ih26 (i_26 + 1) f24 (v_da458fa48a i26_0) (v_e390a36114 h13) h25 (meas_lt v_90eacd6fd4 (v_8b7dd7d486 h13) hm26)
        exact lp26 _ 0 f2 v_939070ca3f h8 h3 (Nat.lt_succ_self _)
  exact lp2 _ 0 df sf nx v_939070ca3f (v_632d2dbe78 q6) q31 q32 q34 (Nat.lt_succ_self _)
set_option maxHeartbeats 4000000 in
set_option maxRecDepth 100000 in
theorem r_goesOn {l : Launch} {G : jG} {nh : Nat} {fh : Nat → Option va_E} (t : Int) (h : Int) (many : Int) (ke : Nat) (fd : Int) (rv : Int) (ef : Int → Int) (ne : Int) (nx : Int → Int) (q0 : 0 ≤ t) (q1 : t < P2 many) (q2 : 0 ≤ h) (q3 : h < many) (q4 : 2 ≤ many) (q5 : many ≤ 14) (q6 : P2 many ≤ ne) (q7 : ne ≤ 40000) (q8 : Rg ef ne (-2147483648) 2147483647) (q9 : Rg nx 14 (-2147483648) 2147483647) (q10 : Fx ke) (hk81 : fh 81 = some (.inr (7, [.ref 51, .ref 57, .ref 82, .ref 83, .ref ke, .int (zI fd), .int (zI rv)]))) (hk82 : fh 82 = some (.inl (0, 14, .inl (zA nx)))) (hkke : fh ke = some (.inl (0, (ne).toNat, .inl (zA ef)))) : JM l G yX7_goesOn MX7_goesOn { frames := 0, cells := 0, slots := 0, locals := 0 } [.ref 81, .int (zI t), .int (zI h), .int (zI many)] (nh, fh) (fun rr h9 => ∃ r : Int, rr = some (.int (zI r)) ∧ h9 = (nh, fh) ∧ (-1 ≤ r) ∧ (r < many)) := by
  refine JM.of (by decide) rfl (fun h => by cases h) (Nat.le_of_ble_eq_true rfl) ⟨2, rfl⟩ ?_
  refine J_hc0 (J_ls (ls2 := [some (.ref 81), some (.int (zI t)), some (.int (zI h)), some (.int (zI many)), none, none]) rfl ?_)
  have g1 := P2_rng (n := many) (v_0c12b743d1 q4) (v_20ae70f27a q5)
  refine J_aload_n dX7_goesOn_0 rfl rfl ?_
  refine J_get (v := .ref 82) dX7_goesOn_1 fl_X7_11 hk81 rfl ?_
  refine J_iload_n dX7_goesOn_4 rfl rfl ?_
  obtain ⟨z2, ez2⟩ : ∃ z : Int, nx h = z := ⟨_, rfl⟩
  have h3 := Rg.at q9 (v_2b02420001 q2) (v_9cac810b1f q3 q5) ez2
  refine Y_iald (z := z2) 14 dX7_goesOn_5 hk82 rfl (by decide) (v_2b02420001 q2) (v_9cac810b1f q3 q5) ez2 ?_
  refine J_iload_n dX7_goesOn_6 rfl rfl ?_
  refine Z_iconst (n := -1) dX7_goesOn_7 ?_
  obtain ⟨z4, ez4⟩ : ∃ z : Int, zxor t (-1) = z := ⟨_, rfl⟩
  refine Y_ixor (z := z4) dX7_goesOn_8 ez4 ?_
  have h5 : zr z4 := by rw [← ez4]; exact zr_toInt _
  obtain ⟨z6, ez6⟩ : ∃ z : Int, zand z2 z4 = z := ⟨_, rfl⟩
  refine Y_iand (z := z6) dX7_goesOn_9 ez6 ?_
  have h7 : zr z6 := by rw [← ez6]; exact zr_toInt _
  refine J_istore dX7_goesOn_10 (Nat.le_of_ble_eq_true rfl) rfl ?_
  refine J_ls (ls2 := [some (.ref 81), some (.int (zI t)), some (.int (zI h)), some (.int (zI many)), some (.int (zI z6)), none]) rfl ?_
  refine Z_iconst (n := 0) dX7_goesOn_12 ?_
  refine J_istore dX7_goesOn_13 (Nat.le_of_ble_eq_true rfl) rfl ?_
  refine J_ls (ls2 := [some (.ref 81), some (.int (zI t)), some (.int (zI h)), some (.int (zI many)), some (.int (zI z6)), some (.int (zI 0))]) rfl ?_
  have lp15 : ∀ (N15 : Nat) (j_15 : Int), (0 ≤ j_15) → (j_15 ≤ many) → (many - j_15).toNat < N15 → J l G MX7_goesOn { frames := 0, cells := 0, slots := 0, locals := 0 } jE (jMQ G { frames := 0, cells := 0, slots := 0, locals := 0 } (fun rr h9 => ∃ r : Int, rr = some (.int (zI r)) ∧ h9 = (nh, fh) ∧ (-1 ≤ r) ∧ (r < many))) (nh, hc fh []) 0 0 15 [some (.ref 81), some (.int (zI t)), some (.int (zI h)), some (.int (zI many)), some (.int (zI z6)), some (.int (zI j_15))] [] := by
    intro N15
    induction N15 with
    | zero => intro j_15 i15_0 i15_1 hm; exact absurd hm (Nat.not_lt_zero _)
    | succ N15 ih15 =>
      intro j_15 i15_0 i15_1 hm15
      refine J_iload dX7_goesOn_15 rfl ?_
      refine J_iload_n dX7_goesOn_17 rfl rfl ?_
      refine Z_icmp_ge (tgt := 59) dX7_goesOn_18 (by decide) (v_555f17cff2 q5 i15_0 i15_1) (v_0e3ebc5ccb q4 q5) (fun h8 => ?_) (fun h8 => ?_)
      · refine Z_iconst (n := -1) dX7_goesOn_59 ?_
        exact J_iret dX7_goesOn_60 rfl rfl (Nat.le_of_ble_eq_true rfl) (Nat.le_of_ble_eq_true rfl) ⟨(-1), rfl, rfl, v_4d9e6ac08a, (v_949e163c88 q4)⟩
      · refine J_iload dX7_goesOn_21 rfl ?_
        refine J_iload dX7_goesOn_23 rfl ?_
        obtain ⟨z9, ez9⟩ : ∃ z : Int, zshr z6 j_15 = z := ⟨_, rfl⟩
        refine Y_ishr (z := z9) dX7_goesOn_25 ez9 ?_
        have h10 : zr z9 := by rw [← ez9]; exact zr_toInt _
        refine Z_iconst (n := 1) dX7_goesOn_26 ?_
        obtain ⟨z11, ez11⟩ : ∃ z : Int, zand z9 1 = z := ⟨_, rfl⟩
        refine Y_iand (z := z11) dX7_goesOn_27 ez11 ?_
        have h12 : zr z11 := by rw [← ez11]; exact zr_toInt _
        have h13 : 0 ≤ z11 ∧ z11 ≤ 1 := zand_mask 1 (by decide) (by decide +kernel) (by decide) ez11
        refine Z_if_eq (tgt := 53) dX7_goesOn_28 (by decide) (v_5f10a759cd h13.1 h13.2) (fun h14 => ?_) (fun h14 => ?_)
        · refine Z_iinc (c := j_15 + 1) (ls2 := [some (.ref 81), some (.int (zI t)), some (.int (zI h)), some (.int (zI many)), some (.int (zI z6)), some (.int (zI (j_15 + 1)))]) dX7_goesOn_53 rfl (Nat.le_of_ble_eq_true rfl) rfl rfl rfl ?_
          refine J_goto (tgt := 15) dX7_goesOn_56 (by decide) ?_
          exact ih15 (j_15 + 1) (v_da458fa48a i15_0) (v_e390a36114 h8) (meas_lt v_90eacd6fd4 (v_8b7dd7d486 h8) hm15)
        · refine J_aload_n dX7_goesOn_31 rfl rfl ?_
          refine J_get (v := .ref ke) dX7_goesOn_32 fl_X7_18 hk81 rfl ?_
          refine J_iload_n dX7_goesOn_35 rfl rfl ?_
          refine Z_iconst (n := 1) dX7_goesOn_36 ?_
          refine J_iload dX7_goesOn_37 rfl ?_
          obtain ⟨z15, ez15⟩ : ∃ z : Int, zshl 1 j_15 = z := ⟨_, rfl⟩
          refine Y_ishl (z := z15) dX7_goesOn_39 ez15 ?_
          have h16 : zr z15 := by rw [← ez15]; exact zr_toInt _
          obtain ⟨z17, ez17⟩ : ∃ z : Int, zor t z15 = z := ⟨_, rfl⟩
          refine Y_ior (z := z17) dX7_goesOn_40 ez17 ?_
          have h18 : zr z17 := by rw [← ez17]; exact zr_toInt _
          have g19 := P2_or (n := many) (v_1b36648a9f q4) (v_20ae70f27a q5) (v_2b02420001 q0) (v_b9aca61388 q1) (v_2b02420001 i15_0) (v_fe9ea41faa h8) ez15 ez17
          obtain ⟨z20, ez20⟩ : ∃ z : Int, ef z17 = z := ⟨_, rfl⟩
          have h21 := Rg.at q8 (v_2b02420001 g19.1) (v_2fb8916692 q6 g19.2.1) ez20
          refine Y_iald (z := z20) ne dX7_goesOn_41 hkke (Int.toNat_of_nonneg (v_ecd8e9aab1 q6 g1.1)) (v_54640227a3 q7) (v_2b02420001 g19.1) (v_2fb8916692 q6 g19.2.1) ez20 ?_
          refine J_iload dX7_goesOn_42 rfl ?_
          obtain ⟨z22, ez22⟩ : ∃ z : Int, zshr z20 j_15 = z := ⟨_, rfl⟩
          refine Y_ishr (z := z22) dX7_goesOn_44 ez22 ?_
          have h23 : zr z22 := by rw [← ez22]; exact zr_toInt _
          refine Z_iconst (n := 1) dX7_goesOn_45 ?_
          obtain ⟨z24, ez24⟩ : ∃ z : Int, zand z22 1 = z := ⟨_, rfl⟩
          refine Y_iand (z := z24) dX7_goesOn_46 ez24 ?_
          have h25 : zr z24 := by rw [← ez24]; exact zr_toInt _
          have h26 : 0 ≤ z24 ∧ z24 ≤ 1 := zand_mask 1 (by decide) (by decide +kernel) (by decide) ez24
          refine Z_if_eq (tgt := 53) dX7_goesOn_47 (by decide) (v_5f10a759cd h26.1 h26.2) (fun h27 => ?_) (fun h27 => ?_)
          · refine Z_iinc (c := j_15 + 1) (ls2 := [some (.ref 81), some (.int (zI t)), some (.int (zI h)), some (.int (zI many)), some (.int (zI z6)), some (.int (zI (j_15 + 1)))]) dX7_goesOn_53 rfl (Nat.le_of_ble_eq_true rfl) rfl rfl rfl ?_
            refine J_goto (tgt := 15) dX7_goesOn_56 (by decide) ?_
            exact ih15 (j_15 + 1) (v_da458fa48a i15_0) (v_e390a36114 h8) (meas_lt v_90eacd6fd4 (v_8b7dd7d486 h8) hm15)
          · refine J_iload dX7_goesOn_50 rfl ?_
            exact J_iret dX7_goesOn_52 rfl rfl (Nat.le_of_ble_eq_true rfl) (Nat.le_of_ble_eq_true rfl) ⟨j_15, rfl, rfl, (v_576129c2e8 i15_0), (v_fe9ea41faa h8)⟩
  exact lp15 _ 0 v_939070ca3f (v_1b36648a9f q4) (Nat.lt_succ_self _)
set_option maxHeartbeats 4000000 in
set_option maxRecDepth 100000 in
theorem r_goRound {l : Launch} {G : jG} {nh : Nat} {fh : Nat → Option va_E} (many : Int) (ke : Nat) (fd : Int) (rv : Int) (ef : Int → Int) (ne : Int) (nx : Int → Int) (rd : Int → Int) (q0 : 2 ≤ many) (q1 : many ≤ 14) (q2 : P2 many ≤ ne) (q3 : ne ≤ 40000) (q4 : Rg ef ne (-2147483648) 2147483647) (q5 : Rg nx 14 (-2147483648) 2147483647) (q6 : Fx ke) (hk81 : fh 81 = some (.inr (7, [.ref 51, .ref 57, .ref 82, .ref 83, .ref ke, .int (zI fd), .int (zI rv)]))) (hk82 : fh 82 = some (.inl (0, 14, .inl (zA nx)))) (hkke : fh ke = some (.inl (0, (ne).toNat, .inl (zA ef)))) (hk83 : fh 83 = some (.inl (0, 14, .inl (zA rd)))) : JM l G yX7_goRound MX7_goRound { frames := 1, cells := 0, slots := 0, locals := 25 } [.ref 81, .int (zI many)] (nh, fh) (fun rr h9 => ∃ rd2 : Int → Int, rr = none ∧ h9 = (nh, hc fh [(83, .inl (0, 14, .inl (zA rd2)))])) := by
  refine JM.of (by decide) rfl (fun h => by cases h) (Nat.le_of_ble_eq_true rfl) ⟨3, rfl⟩ ?_
  refine J_hc0 (J_ls (ls2 := [some (.ref 81), some (.int (zI many)), none, none, none]) rfl ?_)
  have g1 := P2_rng (n := many) (v_0c12b743d1 q0) (v_20ae70f27a q1)
  refine Z_iconst (n := 1) dX7_goRound_0 ?_
  refine J_istore_n dX7_goRound_1 rfl (Nat.le_of_ble_eq_true rfl) rfl ?_
  refine J_ls (ls2 := [some (.ref 81), some (.int (zI many)), some (.int (zI 1)), none, none]) rfl ?_
  refine Z_iconst (n := 0) dX7_goRound_2 ?_
  refine J_istore_n dX7_goRound_3 rfl (Nat.le_of_ble_eq_true rfl) rfl ?_
  refine J_ls (ls2 := [some (.ref 81), some (.int (zI many)), some (.int (zI 1)), some (.int (zI 0)), none]) rfl ?_
  refine J_aload_n dX7_goRound_4 rfl rfl ?_
  refine J_get (v := .ref 83) dX7_goRound_5 fl_X7_15 hk81 rfl ?_
  refine Z_iconst (n := 0) dX7_goRound_8 ?_
  refine Z_iconst (n := 0) dX7_goRound_9 ?_
  refine Y_iast (v := 0) 14 dX7_goRound_10 hk83 rfl (by decide) v_939070ca3f v_9c875d88fc (fun f2 ef2 => ?_)
  refine Z_iconst (n := 1) dX7_goRound_11 ?_
  refine J_istore dX7_goRound_12 (Nat.le_of_ble_eq_true rfl) rfl ?_
  refine J_ls (ls2 := [some (.ref 81), some (.int (zI many)), some (.int (zI 1)), some (.int (zI 0)), some (.int (zI 1))]) rfl ?_
  have lp14 : ∀ (N14 : Nat) (set_14 : Int) (at_14 : Int) (i_14 : Int) (rz_14 : Int → Int), (1 ≤ i_14) → (i_14 ≤ many) → (0 ≤ set_14) → (set_14 < P2 many) → (0 ≤ at_14) → (at_14 < many) → (many - i_14).toNat < N14 → J l G MX7_goRound { frames := 1, cells := 0, slots := 0, locals := 25 } jE (jMQ G { frames := 1, cells := 0, slots := 0, locals := 25 } (fun rr h9 => ∃ rd2 : Int → Int, rr = none ∧ h9 = (nh, hc fh [(83, .inl (0, 14, .inl (zA rd2)))]))) (nh, hc fh [(83, .inl (0, 14, .inl (zA rz_14)))]) 0 0 14 [some (.ref 81), some (.int (zI many)), some (.int (zI set_14)), some (.int (zI at_14)), some (.int (zI i_14))] [] := by
    intro N14
    induction N14 with
    | zero => intro set_14 at_14 i_14 rz_14 i14_0 i14_1 i14_2 i14_3 i14_4 i14_5 hm; exact absurd hm (Nat.not_lt_zero _)
    | succ N14 ih14 =>
      intro set_14 at_14 i_14 rz_14 i14_0 i14_1 i14_2 i14_3 i14_4 i14_5 hm14
      refine J_iload dX7_goRound_14 rfl ?_
      refine J_iload_n dX7_goRound_16 rfl rfl ?_
      refine Z_icmp_ge (tgt := 52) dX7_goRound_17 (by decide) (v_16538fa339 q1 i14_0 i14_1) (v_0e3ebc5ccb q0 q1) (fun h3 => ?_) (fun h3 => ?_)
      · exact J_vret dX7_goRound_52 rfl (Nat.le_of_ble_eq_true rfl) (Nat.le_of_ble_eq_true rfl) ⟨rz_14, rfl, rfl⟩
      · refine Z_iconst (n := 0) dX7_goRound_20 ?_
        refine J_aload_n dX7_goRound_21 rfl rfl ?_
        refine J_iload_n dX7_goRound_22 rfl rfl ?_
        refine J_iload_n dX7_goRound_23 rfl rfl ?_
        refine J_iload_n dX7_goRound_24 rfl rfl ?_
        refine J_callV (st := [.int (zI 0)]) dX7_goRound_25 cv_X7_69 (r_goesOn set_14 at_14 many ke fd rv ef ne nx i14_2 i14_3 i14_4 i14_5 q0 q1 q2 q3 q4 q5 q6 hk81 hk82 (hcn (q6 83 (by decide)) hkke)) hk81 rfl rfl (Nat.le_of_ble_eq_true rfl) ⟨(Nat.le_of_ble_eq_true rfl), (Nat.le_of_ble_eq_true rfl)⟩ ⟨(Nat.le_of_ble_eq_true rfl), (Nat.le_of_ble_eq_true rfl)⟩ (fun r h9 hp => ?_)
        obtain ⟨z4, rfl, rfl, h5, h6⟩ := hp
        refine J_nf (nh2 := nh) (ck2 := 0) (sk2 := 0) (st2 := [.int (zI z4), .int (zI 0)]) rfl rfl rfl rfl ?_
        obtain ⟨z7, ez7⟩ : ∃ z : Int, max 0 z4 = z := ⟨_, rfl⟩
        refine J_mmax (z := zI z7) dX7_goRound_28 (jt5 134 rfl rfl) (jt4 144 rfl rfl) (jt1 19 rfl rfl) (jt4 145 rfl rfl) (Nat.le_of_ble_eq_true rfl) (Nat.le_of_ble_eq_true rfl) (Nat.le_of_ble_eq_true rfl) (Nat.le_of_ble_eq_true rfl) (by rw [zI_max v_b17331891f (v_35ba6204af q1 h5 h6), ez7]) ?_
        have h8 : 0 ≤ z7 ∧ z4 ≤ z7 ∧ (z7 = 0 ∨ z7 = z4) := by omega
        have h9 : z7 ≤ 63 := by omega
        have g10 : z7 < many := by omega
        refine J_istore_n dX7_goRound_31 rfl (Nat.le_of_ble_eq_true rfl) rfl ?_
        refine J_ls (ls2 := [some (.ref 81), some (.int (zI many)), some (.int (zI set_14)), some (.int (zI z7)), some (.int (zI i_14))]) rfl ?_
        refine J_iload_n dX7_goRound_32 rfl rfl ?_
        refine Z_iconst (n := 1) dX7_goRound_33 ?_
        refine J_iload_n dX7_goRound_34 rfl rfl ?_
        obtain ⟨z11, ez11⟩ : ∃ z : Int, zshl 1 z7 = z := ⟨_, rfl⟩
        refine Y_ishl (z := z11) dX7_goRound_35 ez11 ?_
        have h12 : zr z11 := by rw [← ez11]; exact zr_toInt _
        obtain ⟨z13, ez13⟩ : ∃ z : Int, zor set_14 z11 = z := ⟨_, rfl⟩
        refine Y_ior (z := z13) dX7_goRound_36 ez13 ?_
        have h14 : zr z13 := by rw [← ez13]; exact zr_toInt _
        have g15 := P2_or (n := many) (v_1b36648a9f q0) (v_20ae70f27a q1) (v_2b02420001 i14_2) (v_b9aca61388 i14_3) (v_2b02420001 h8.1) (v_b9aca61388 g10) ez11 ez13
        refine J_istore_n dX7_goRound_37 rfl (Nat.le_of_ble_eq_true rfl) rfl ?_
        refine J_ls (ls2 := [some (.ref 81), some (.int (zI many)), some (.int (zI z13)), some (.int (zI z7)), some (.int (zI i_14))]) rfl ?_
        refine J_aload_n dX7_goRound_38 rfl rfl ?_
        refine J_get (v := .ref 83) dX7_goRound_39 fl_X7_15 hk81 rfl ?_
        refine J_iload dX7_goRound_42 rfl ?_
        refine J_iload_n dX7_goRound_44 rfl rfl ?_
        refine Y_iast (v := z7) 14 dX7_goRound_45 rfl rfl (by decide) (v_632d2dbe78 i14_0) (v_202a50a2c8 q1 h3) (fun f16 ef16 => ?_)
        refine Z_iinc (c := i_14 + 1) (ls2 := [some (.ref 81), some (.int (zI many)), some (.int (zI z13)), some (.int (zI z7)), some (.int (zI (i_14 + 1)))]) dX7_goRound_46 rfl (Nat.le_of_ble_eq_true rfl) rfl rfl rfl ?_
        refine J_goto (tgt := 14) dX7_goRound_49 (by decide) ?_
        refine J_mask (L2 := [(83, .inl (0, 14, .inl (zA f16)))]) (ks := [83, 83]) [true, false] rfl (by decide +kernel) rfl ?_
        exact ih14 z13 z7 (i_14 + 1) f16 (v_f86fa765f0 i14_0) (v_e390a36114 h3) g15.1 g15.2.1 h8.1 g10 (meas_lt v_90eacd6fd4 (v_8b7dd7d486 h3) hm14)
  exact lp14 _ 1 0 1 f2 v_bbcfac9b7d (v_37525a0dce q0) v_316afd7d0b (v_21b859380a g1.1) v_939070ca3f (v_5085e1298b q0) (Nat.lt_succ_self _)
set_option maxHeartbeats 4000000 in
set_option maxRecDepth 100000 in
theorem r_gatherEnds {l : Launch} {G : jG} {nh : Nat} {fh : Nat → Option va_E} (S : Int) (many : Int) (ke : Nat) (fd : Int) (rv : Int) (ef : Int → Int) (ne : Int) (nx : Int → Int) (q0 : 2 ≤ many) (q1 : many ≤ 14) (q2 : 0 ≤ ne) (q3 : ne ≤ 40000) (q4 : Rg ef ne (-2147483648) 2147483647) (q5 : Rg nx 14 (-2147483648) 2147483647) (q6 : Fx ke) (q7 : NLe 135 nh) (q8 : NLt ke nh) (q9 : 0 ≤ S) (q10 : ne < P2 many → P2 many ≤ S ∧ 2 * ne ≤ S) (hk81 : fh 81 = some (.inr (7, [.ref 51, .ref 57, .ref 82, .ref 83, .ref ke, .int (zI fd), .int (zI rv)]))) (hk82 : fh 82 = some (.inl (0, 14, .inl (zA nx)))) (hkke : fh ke = some (.inl (0, (ne).toNat, .inl (zA ef)))) : JM l G yX7_gatherEnds MX7_gatherEnds { frames := 2, cells := 1, slots := (S).toNat, locals := 42 } [.ref 81, .int (zI many)] (nh, fh) (fun rr h9 => ∃ ke2 : Nat, ∃ nh2 : Nat, ∃ ef2 : Int → Int, ∃ ne2 : Int, rr = none ∧ h9 = (nh2, hc fh [(81, .inr (7, [.ref 51, .ref 57, .ref 82, .ref 83, .ref ke2, .int (zI fd), .int (zI rv)])), (ke2, .inl (0, (ne2).toNat, .inl (zA ef2)))]) ∧ (Fx ke2) ∧ (NLt ke2 nh2) ∧ (NLe nh nh2) ∧ (NOld ke ke2 nh) ∧ (P2 many ≤ ne2) ∧ (ne2 ≤ 40000) ∧ (Rg ef2 ne2 (-2147483648) 2147483647) ∧ ((ne2 = ne ∧ ke2 = ke) ∨ (ne < P2 many ∧ 2 * ne ≤ ne2 ∧ ne2 ≤ S))) := by
  refine JM.of (by decide) rfl (fun h => by cases h) (Nat.le_of_ble_eq_true rfl) ⟨4, rfl⟩ ?_
  refine J_hc0 (J_ls (ls2 := [some (.ref 81), some (.int (zI many)), none, none, none, none]) rfl ?_)
  refine Z_iconst (n := 1) dX7_gatherEnds_0 ?_
  refine J_iload_n dX7_gatherEnds_1 rfl rfl ?_
  obtain ⟨z1, ez1⟩ : ∃ z : Int, zshl 1 many = z := ⟨_, rfl⟩
  refine Y_ishl (z := z1) dX7_gatherEnds_2 ez1 ?_
  have h2 : zr z1 := by rw [← ez1]; exact zr_toInt _
  have g3 : z1 = P2 many := P2_shl (v_1b36648a9f q0) (v_317307568c q1) ez1
  have g4 := P2_rng (n := many) (v_0c12b743d1 q0) (v_20ae70f27a q1)
  refine Z_iconst (n := 1) dX7_gatherEnds_3 ?_
  refine Z_isub (c := z1 - 1) dX7_gatherEnds_4 rfl ?_
  refine J_istore_n dX7_gatherEnds_5 rfl (Nat.le_of_ble_eq_true rfl) rfl ?_
  refine J_ls (ls2 := [some (.ref 81), some (.int (zI many)), some (.int (zI (z1 - 1))), none, none, none]) rfl ?_
  refine J_aload_n dX7_gatherEnds_6 rfl rfl ?_
  refine J_aload_n dX7_gatherEnds_7 rfl rfl ?_
  refine J_get (v := .ref ke) dX7_gatherEnds_8 fl_X7_18 hk81 rfl ?_
  refine J_iload_n dX7_gatherEnds_11 rfl rfl ?_
  refine Z_iconst (n := 1) dX7_gatherEnds_12 ?_
  refine Z_iadd (c := z1) dX7_gatherEnds_13 v_c23c4a6639 ?_
  refine J_callS (st := [.ref 81]) dX7_gatherEnds_14 cs_X7_65 (b_grown ke ne ef z1 S q2 (v_c331f4fd15 q3) (v_7c6177c54d g3 g4.1) (v_8cbfe21f51 g3 g4.2) q9 ((fun w => by have u := g3; have v := q10 (by omega); omega)) hkke) rfl rfl (Nat.le_of_ble_eq_true rfl) ⟨(Nat.le_of_ble_eq_true rfl), (Nat.le_of_ble_eq_true rfl)⟩ ⟨(Nat.le_of_ble_eq_true rfl), (by show (0 : Nat) + ((S).toNat) ≤ (S).toNat; omega)⟩ (fun r h9 hp => ?_)
  rcases hp with ⟨rfl, rfl, h5⟩ | ⟨z6, rfl, rfl, h7, h8, h9, h10, h11⟩
  · refine J_nf (nh2 := nh) (ck2 := 1) (sk2 := (S).toNat) (st2 := [.ref ke, .ref 81]) rfl rfl (Nat.zero_add _) rfl ?_
    refine K_put (fs2 := [.ref 51, .ref 57, .ref 82, .ref 83, .ref ke, .int (zI fd), .int (zI rv)]) dX7_gatherEnds_17 fw_X7_18 hk81 (Nat.le_of_ble_eq_true rfl) (fun _ => ⟨rfl, rfl⟩) rfl ?_
    refine J_iload_n dX7_gatherEnds_20 rfl rfl ?_
    refine J_istore_n dX7_gatherEnds_21 rfl (Nat.le_of_ble_eq_true rfl) rfl ?_
    refine J_ls (ls2 := [some (.ref 81), some (.int (zI many)), some (.int (zI (z1 - 1))), some (.int (zI (z1 - 1))), none, none]) rfl ?_
    refine J_touch (k := ke) (e := .inl (0, (ne).toNat, .inl (zA ef))) (hcn (q6 81 (by decide)) hkke) ?_
    have lp22 : ∀ (N22 : Nat) (set_22 : Int) (ez_22 : Int → Int), (0 ≤ set_22) → (set_22 < P2 many) → (Rg ez_22 ne (-2147483648) 2147483647) → (set_22).toNat < N22 → J l G MX7_gatherEnds { frames := 2, cells := 1, slots := (S).toNat, locals := 42 } jE (jMQ G { frames := 2, cells := 1, slots := (S).toNat, locals := 42 } (fun rr h9 => ∃ ke2 : Nat, ∃ nh2 : Nat, ∃ ef2 : Int → Int, ∃ ne2 : Int, rr = none ∧ h9 = (nh2, hc fh [(81, .inr (7, [.ref 51, .ref 57, .ref 82, .ref 83, .ref ke2, .int (zI fd), .int (zI rv)])), (ke2, .inl (0, (ne2).toNat, .inl (zA ef2)))]) ∧ (Fx ke2) ∧ (NLt ke2 nh2) ∧ (NLe nh nh2) ∧ (NOld ke ke2 nh) ∧ (P2 many ≤ ne2) ∧ (ne2 ≤ 40000) ∧ (Rg ef2 ne2 (-2147483648) 2147483647) ∧ ((ne2 = ne ∧ ke2 = ke) ∨ (ne < P2 many ∧ 2 * ne ≤ ne2 ∧ ne2 ≤ S)))) (nh, hc fh [(ke, .inl (0, (ne).toNat, .inl (zA ez_22))), (81, .inr (7, [.ref 51, .ref 57, .ref 82, .ref 83, .ref ke, .int (zI fd), .int (zI rv)]))]) 1 ((S).toNat) 22 [some (.ref 81), some (.int (zI many)), some (.int (zI (z1 - 1))), some (.int (zI set_22)), none, none] [] := by
      intro N22
      induction N22 with
      | zero => intro set_22 ez_22 i22_0 i22_1 i22_2 hm; exact absurd hm (Nat.not_lt_zero _)
      | succ N22 ih22 =>
        intro set_22 ez_22 i22_0 i22_1 i22_2 hm22
        refine J_iload_n dX7_gatherEnds_22 rfl rfl ?_
        refine Z_if_le (tgt := 120) dX7_gatherEnds_23 (by decide) (v_1a60bb62b5 g4.2 i22_0 i22_1) (fun h12 => ?_) (fun h12 => ?_)
        · refine J_touch (k := ke) (e := .inl (0, (ne).toNat, .inl (zA ez_22))) hch ?_
          refine J_touch (k := 81) (e := .inr (7, [.ref 51, .ref 57, .ref 82, .ref 83, .ref ke, .int (zI fd), .int (zI rv)])) (hcn (Ne.symm (q6 81 (by decide))) (hcn (Ne.symm (q6 81 (by decide))) hch)) ?_
          refine J_dupc (A := [(81, .inr (7, [.ref 51, .ref 57, .ref 82, .ref 83, .ref ke, .int (zI fd), .int (zI rv)])), (ke, .inl (0, (ne).toNat, .inl (zA ez_22)))]) (B := [(81, .inr (7, [.ref 51, .ref 57, .ref 82, .ref 83, .ref ke, .int (zI fd), .int (zI rv)]))]) (L2 := [(81, .inr (7, [.ref 51, .ref 57, .ref 82, .ref 83, .ref ke, .int (zI fd), .int (zI rv)])), (ke, .inl (0, (ne).toNat, .inl (zA ez_22))), (81, .inr (7, [.ref 51, .ref 57, .ref 82, .ref 83, .ref ke, .int (zI fd), .int (zI rv)]))]) (k := ke) (c := .inl (0, (ne).toNat, .inl (zA ez_22))) (e := .inl (0, (ne).toNat, .inl (zA ez_22))) rfl rfl (List.mem_of_getElem? (i := 1) rfl) ?_
          refine J_dupc (A := [(81, .inr (7, [.ref 51, .ref 57, .ref 82, .ref 83, .ref ke, .int (zI fd), .int (zI rv)])), (ke, .inl (0, (ne).toNat, .inl (zA ez_22)))]) (B := []) (L2 := [(81, .inr (7, [.ref 51, .ref 57, .ref 82, .ref 83, .ref ke, .int (zI fd), .int (zI rv)])), (ke, .inl (0, (ne).toNat, .inl (zA ez_22)))]) (k := 81) (c := .inr (7, [.ref 51, .ref 57, .ref 82, .ref 83, .ref ke, .int (zI fd), .int (zI rv)])) (e := .inr (7, [.ref 51, .ref 57, .ref 82, .ref 83, .ref ke, .int (zI fd), .int (zI rv)])) rfl rfl (List.mem_of_getElem? (i := 0) rfl) ?_
          exact J_vret dX7_gatherEnds_120 rfl (Nat.le_of_ble_eq_true rfl) (by show ((S).toNat : Nat) ≤ (S).toNat; omega) ⟨ke, nh, ez_22, ne, rfl, rfl, q6, q8, (NLe.refl _), (Or.inl rfl), (v_ecd408a977 g3 h5), q3, i22_2, (Or.inl ⟨rfl, rfl⟩)⟩
        · refine J_aload_n dX7_gatherEnds_26 rfl rfl ?_
          refine J_get (v := .ref ke) dX7_gatherEnds_27 fl_X7_18 (hcn (Ne.symm (q6 81 (by decide))) hch) rfl ?_
          refine J_iload_n dX7_gatherEnds_30 rfl rfl ?_
          refine Z_iconst (n := 0) dX7_gatherEnds_31 ?_
          refine Y_iast (v := 0) ne dX7_gatherEnds_32 hch (Int.toNat_of_nonneg (v_2b02420001 q2)) (v_54640227a3 q3) (v_b835b9514e h12) (v_0aad64ee8d g3 h5 i22_1) (fun f13 ef13 => ?_)
          have h14 : Rg f13 ne (-2147483648) 2147483647 := Rg.ups i22_2 ef13 v_9c5011c36f v_cd342b47c7
          refine Z_iconst (n := 0) dX7_gatherEnds_33 ?_
          refine J_istore dX7_gatherEnds_34 (Nat.le_of_ble_eq_true rfl) rfl ?_
          refine J_ls (ls2 := [some (.ref 81), some (.int (zI many)), some (.int (zI (z1 - 1))), some (.int (zI set_22)), some (.int (zI 0)), none]) rfl ?_
          refine J_dupc (A := [(ke, .inl (0, (ne).toNat, .inl (zA f13)))]) (B := [(81, .inr (7, [.ref 51, .ref 57, .ref 82, .ref 83, .ref ke, .int (zI fd), .int (zI rv)]))]) (L2 := [(ke, .inl (0, (ne).toNat, .inl (zA f13))), (81, .inr (7, [.ref 51, .ref 57, .ref 82, .ref 83, .ref ke, .int (zI fd), .int (zI rv)]))]) (k := ke) (c := .inl (0, (ne).toNat, .inl (zA ez_22))) (e := .inl (0, (ne).toNat, .inl (zA f13))) rfl rfl (List.mem_of_getElem? (i := 0) rfl) ?_
          have lp36 : ∀ (N36 : Nat) (h_36 : Int) (ez_36 : Int → Int), (0 ≤ h_36) → (h_36 ≤ many) → (Rg ez_36 ne (-2147483648) 2147483647) → (many - h_36).toNat < N36 → J l G MX7_gatherEnds { frames := 2, cells := 1, slots := (S).toNat, locals := 42 } jE (jMQ G { frames := 2, cells := 1, slots := (S).toNat, locals := 42 } (fun rr h9 => ∃ ke2 : Nat, ∃ nh2 : Nat, ∃ ef2 : Int → Int, ∃ ne2 : Int, rr = none ∧ h9 = (nh2, hc fh [(81, .inr (7, [.ref 51, .ref 57, .ref 82, .ref 83, .ref ke2, .int (zI fd), .int (zI rv)])), (ke2, .inl (0, (ne2).toNat, .inl (zA ef2)))]) ∧ (Fx ke2) ∧ (NLt ke2 nh2) ∧ (NLe nh nh2) ∧ (NOld ke ke2 nh) ∧ (P2 many ≤ ne2) ∧ (ne2 ≤ 40000) ∧ (Rg ef2 ne2 (-2147483648) 2147483647) ∧ ((ne2 = ne ∧ ke2 = ke) ∨ (ne < P2 many ∧ 2 * ne ≤ ne2 ∧ ne2 ≤ S)))) (nh, hc fh [(ke, .inl (0, (ne).toNat, .inl (zA ez_36))), (81, .inr (7, [.ref 51, .ref 57, .ref 82, .ref 83, .ref ke, .int (zI fd), .int (zI rv)]))]) 1 ((S).toNat) 36 [some (.ref 81), some (.int (zI many)), some (.int (zI (z1 - 1))), some (.int (zI set_22)), some (.int (zI h_36)), none] [] := by
            intro N36
            induction N36 with
            | zero => intro h_36 ez_36 i36_0 i36_1 i36_2 hm; exact absurd hm (Nat.not_lt_zero _)
            | succ N36 ih36 =>
              intro h_36 ez_36 i36_0 i36_1 i36_2 hm36
              refine J_iload dX7_gatherEnds_36 rfl ?_
              refine J_iload_n dX7_gatherEnds_38 rfl rfl ?_
              refine Z_icmp_ge (tgt := 114) dX7_gatherEnds_39 (by decide) (v_555f17cff2 q1 i36_0 i36_1) (v_0e3ebc5ccb q0 q1) (fun h15 => ?_) (fun h15 => ?_)
              · refine Z_iinc (c := set_22 - 1) (ls2 := [some (.ref 81), some (.int (zI many)), some (.int (zI (z1 - 1))), some (.int (zI (set_22 - 1))), some (.int (zI h_36)), none]) dX7_gatherEnds_114 rfl (Nat.le_of_ble_eq_true rfl) rfl v_c11a8386d1 rfl ?_
                refine J_goto (tgt := 22) dX7_gatherEnds_117 (by decide) ?_
                refine J_drop (ls2 := [some (.ref 81), some (.int (zI many)), some (.int (zI (z1 - 1))), some (.int (zI (set_22 - 1))), none, none]) [true, true, true, true, false, false] rfl ?_
                exact ih22 (set_22 - 1) ez_36 (v_37890547f7 h12) (v_194e055bf2 i22_1) i36_2 (meas_lt v_c458e5b2bb (v_8d20adab6a h12) hm22)
              · have jn56 : ∀ (t0_56j : Int), (0 ≤ t0_56j) → (t0_56j ≤ 1) → J l G MX7_gatherEnds { frames := 2, cells := 1, slots := (S).toNat, locals := 42 } jE (jMQ G { frames := 2, cells := 1, slots := (S).toNat, locals := 42 } (fun rr h9 => ∃ ke2 : Nat, ∃ nh2 : Nat, ∃ ef2 : Int → Int, ∃ ne2 : Int, rr = none ∧ h9 = (nh2, hc fh [(81, .inr (7, [.ref 51, .ref 57, .ref 82, .ref 83, .ref ke2, .int (zI fd), .int (zI rv)])), (ke2, .inl (0, (ne2).toNat, .inl (zA ef2)))]) ∧ (Fx ke2) ∧ (NLt ke2 nh2) ∧ (NLe nh nh2) ∧ (NOld ke ke2 nh) ∧ (P2 many ≤ ne2) ∧ (ne2 ≤ 40000) ∧ (Rg ef2 ne2 (-2147483648) 2147483647) ∧ ((ne2 = ne ∧ ke2 = ke) ∨ (ne < P2 many ∧ 2 * ne ≤ ne2 ∧ ne2 ≤ S)))) (nh, hc fh [(ke, .inl (0, (ne).toNat, .inl (zA ez_36))), (81, .inr (7, [.ref 51, .ref 57, .ref 82, .ref 83, .ref ke, .int (zI fd), .int (zI rv)]))]) 1 ((S).toNat) 56 [some (.ref 81), some (.int (zI many)), some (.int (zI (z1 - 1))), some (.int (zI set_22)), some (.int (zI h_36)), none] [.int (zI t0_56j)] := by
                  intro t0_56j j56_0 j56_1
                  refine J_istore dX7_gatherEnds_56 (Nat.le_of_ble_eq_true rfl) rfl ?_
                  refine J_ls (ls2 := [some (.ref 81), some (.int (zI many)), some (.int (zI (z1 - 1))), some (.int (zI set_22)), some (.int (zI h_36)), some (.int (zI t0_56j))]) rfl ?_
                  refine J_iload dX7_gatherEnds_58 rfl ?_
                  refine Z_if_eq (tgt := 108) dX7_gatherEnds_60 (by decide) (v_5f10a759cd j56_0 j56_1) (fun h16 => ?_) (fun h16 => ?_)
                  · refine Z_iinc (c := h_36 + 1) (ls2 := [some (.ref 81), some (.int (zI many)), some (.int (zI (z1 - 1))), some (.int (zI set_22)), some (.int (zI (h_36 + 1))), some (.int (zI t0_56j))]) dX7_gatherEnds_108 rfl (Nat.le_of_ble_eq_true rfl) rfl rfl rfl ?_
                    refine J_goto (tgt := 36) dX7_gatherEnds_111 (by decide) ?_
                    refine J_drop (ls2 := [some (.ref 81), some (.int (zI many)), some (.int (zI (z1 - 1))), some (.int (zI set_22)), some (.int (zI (h_36 + 1))), none]) [true, true, true, true, true, false] rfl ?_
                    exact ih36 (h_36 + 1) ez_36 (v_da458fa48a i36_0) (v_e390a36114 h15) i36_2 (meas_lt v_90eacd6fd4 (v_8b7dd7d486 h15) hm36)
                  · refine J_iload_n dX7_gatherEnds_63 rfl rfl ?_
                    refine J_iload_n dX7_gatherEnds_64 rfl rfl ?_
                    refine Z_icmp_ne (tgt := 83) dX7_gatherEnds_65 (by decide) (v_d6489016d8 g4.2 i22_1 h12) (v_8ba8623eb1 h2 g3 g4.1) (fun h17 => ?_) (fun h17 => ?_)
                    · refine J_aload_n dX7_gatherEnds_83 rfl rfl ?_
                      refine J_iload_n dX7_gatherEnds_84 rfl rfl ?_
                      refine J_iload dX7_gatherEnds_85 rfl ?_
                      refine J_iload_n dX7_gatherEnds_87 rfl rfl ?_
                      refine J_callV (st := []) dX7_gatherEnds_88 cv_X7_69 (r_goesOn set_22 h_36 many ke fd rv ez_36 ne nx i22_0 i22_1 i36_0 (v_fe9ea41faa h15) q0 q1 (v_ecd408a977 g3 h5) q3 i36_2 q5 q6 (hcn (Ne.symm (q6 81 (by decide))) hch) (hcn (Ne.symm (q6 82 (by decide))) (hcn (by decide) hk82)) hch) (hcn (Ne.symm (q6 81 (by decide))) hch) rfl rfl (Nat.le_of_ble_eq_true rfl) ⟨(Nat.le_of_ble_eq_true rfl), (Nat.le_of_ble_eq_true rfl)⟩ ⟨(Nat.le_of_ble_eq_true rfl), (by show ((S).toNat : Nat) + 0 ≤ (S).toNat; omega)⟩ (fun r h9 hp => ?_)
                      obtain ⟨z18, rfl, rfl, h19, h20⟩ := hp
                      refine J_nf (nh2 := nh) (ck2 := 1) (sk2 := (S).toNat) (st2 := [.int (zI z18)]) rfl rfl rfl rfl ?_
                      refine Z_iconst (n := -1) dX7_gatherEnds_91 ?_
                      refine Z_icmp_eq (tgt := 108) dX7_gatherEnds_92 (by decide) (v_35ba6204af q1 h19 h20) v_d64efa60f9 (fun h21 => ?_) (fun h21 => ?_)
                      · refine Z_iinc (c := h_36 + 1) (ls2 := [some (.ref 81), some (.int (zI many)), some (.int (zI (z1 - 1))), some (.int (zI set_22)), some (.int (zI (h_36 + 1))), some (.int (zI t0_56j))]) dX7_gatherEnds_108 rfl (Nat.le_of_ble_eq_true rfl) rfl rfl rfl ?_
                        refine J_goto (tgt := 36) dX7_gatherEnds_111 (by decide) ?_
                        refine J_drop (ls2 := [some (.ref 81), some (.int (zI many)), some (.int (zI (z1 - 1))), some (.int (zI set_22)), some (.int (zI (h_36 + 1))), none]) [true, true, true, true, true, false] rfl ?_
                        exact ih36 (h_36 + 1) ez_36 (v_da458fa48a i36_0) (v_e390a36114 h15) i36_2 (meas_lt v_90eacd6fd4 (v_8b7dd7d486 h15) hm36)
                      · refine J_aload_n dX7_gatherEnds_95 rfl rfl ?_
                        refine J_get (v := .ref ke) dX7_gatherEnds_96 fl_X7_18 (hcn (Ne.symm (q6 81 (by decide))) hch) rfl ?_
                        refine J_iload_n dX7_gatherEnds_99 rfl rfl ?_
                        refine J_dup2_11 dX7_gatherEnds_100 rfl rfl ?_
                        obtain ⟨z22, ez22⟩ : ∃ z : Int, ez_36 set_22 = z := ⟨_, rfl⟩
                        have h23 := Rg.at i36_2 (v_b835b9514e h12) (v_0aad64ee8d g3 h5 i22_1) ez22
                        refine Y_iald (z := z22) ne dX7_gatherEnds_101 hch (Int.toNat_of_nonneg (v_2b02420001 q2)) (v_54640227a3 q3) (v_b835b9514e h12) (v_0aad64ee8d g3 h5 i22_1) ez22 ?_
                        refine Z_iconst (n := 1) dX7_gatherEnds_102 ?_
                        refine J_iload dX7_gatherEnds_103 rfl ?_
                        obtain ⟨z24, ez24⟩ : ∃ z : Int, zshl 1 h_36 = z := ⟨_, rfl⟩
                        refine Y_ishl (z := z24) dX7_gatherEnds_105 ez24 ?_
                        have h25 : zr z24 := by rw [← ez24]; exact zr_toInt _
                        obtain ⟨z26, ez26⟩ : ∃ z : Int, zor z22 z24 = z := ⟨_, rfl⟩
                        refine Y_ior (z := z26) dX7_gatherEnds_106 ez26 ?_
                        have h27 : zr z26 := by rw [← ez26]; exact zr_toInt _
                        refine Y_iast (v := z26) ne dX7_gatherEnds_107 hch (Int.toNat_of_nonneg (v_2b02420001 q2)) (v_54640227a3 q3) (v_b835b9514e h12) (v_0aad64ee8d g3 h5 i22_1) (fun f28 ef28 => ?_)
                        have h29 : Rg f28 ne (-2147483648) 2147483647 := Rg.ups i36_2 ef28 (v_9c631c66d9 h27) (v_602fda786b h27)
                        refine Z_iinc (c := h_36 + 1) (ls2 := [some (.ref 81), some (.int (zI many)), some (.int (zI (z1 - 1))), some (.int (zI set_22)), some (.int (zI (h_36 + 1))), some (.int (zI t0_56j))]) dX7_gatherEnds_108 rfl (Nat.le_of_ble_eq_true rfl) rfl rfl rfl ?_
                        refine J_goto (tgt := 36) dX7_gatherEnds_111 (by decide) ?_
                        refine J_dupc (A := [(ke, .inl (0, (ne).toNat, .inl (zA f28)))]) (B := [(81, .inr (7, [.ref 51, .ref 57, .ref 82, .ref 83, .ref ke, .int (zI fd), .int (zI rv)]))]) (L2 := [(ke, .inl (0, (ne).toNat, .inl (zA f28))), (81, .inr (7, [.ref 51, .ref 57, .ref 82, .ref 83, .ref ke, .int (zI fd), .int (zI rv)]))]) (k := ke) (c := .inl (0, (ne).toNat, .inl (zA ez_36))) (e := .inl (0, (ne).toNat, .inl (zA f28))) rfl rfl (List.mem_of_getElem? (i := 0) rfl) ?_
                        refine J_drop (ls2 := [some (.ref 81), some (.int (zI many)), some (.int (zI (z1 - 1))), some (.int (zI set_22)), some (.int (zI (h_36 + 1))), none]) [true, true, true, true, true, false] rfl ?_
                        exact ih36 (h_36 + 1) f28 (v_da458fa48a i36_0) (v_e390a36114 h15) h29 (meas_lt v_90eacd6fd4 (v_8b7dd7d486 h15) hm36)
                    · refine J_aload_n dX7_gatherEnds_68 rfl rfl ?_
                      refine J_get (v := .ref 82) dX7_gatherEnds_69 fl_X7_11 (hcn (Ne.symm (q6 81 (by decide))) hch) rfl ?_
                      refine J_iload dX7_gatherEnds_72 rfl ?_
                      obtain ⟨z30, ez30⟩ : ∃ z : Int, nx h_36 = z := ⟨_, rfl⟩
                      have h31 := Rg.at q5 (v_2b02420001 i36_0) (v_202a50a2c8 q1 h15) ez30
                      refine Y_iald (z := z30) 14 dX7_gatherEnds_74 (hcn (Ne.symm (q6 82 (by decide))) (hcn (by decide) hk82)) rfl (by decide) (v_2b02420001 i36_0) (v_202a50a2c8 q1 h15) ez30 ?_
                      refine Z_iconst (n := 1) dX7_gatherEnds_75 ?_
                      obtain ⟨z32, ez32⟩ : ∃ z : Int, zand z30 1 = z := ⟨_, rfl⟩
                      refine Y_iand (z := z32) dX7_gatherEnds_76 ez32 ?_
                      have h33 : zr z32 := by rw [← ez32]; exact zr_toInt _
                      have h34 : 0 ≤ z32 ∧ z32 ≤ 1 := zand_mask 1 (by decide) (by decide +kernel) (by decide) ez32
                      refine Z_if_eq (tgt := 108) dX7_gatherEnds_77 (by decide) (v_5f10a759cd h34.1 h34.2) (fun h35 => ?_) (fun h35 => ?_)
                      · refine Z_iinc (c := h_36 + 1) (ls2 := [some (.ref 81), some (.int (zI many)), some (.int (zI (z1 - 1))), some (.int (zI set_22)), some (.int (zI (h_36 + 1))), some (.int (zI t0_56j))]) dX7_gatherEnds_108 rfl (Nat.le_of_ble_eq_true rfl) rfl rfl rfl ?_
                        refine J_goto (tgt := 36) dX7_gatherEnds_111 (by decide) ?_
                        refine J_drop (ls2 := [some (.ref 81), some (.int (zI many)), some (.int (zI (z1 - 1))), some (.int (zI set_22)), some (.int (zI (h_36 + 1))), none]) [true, true, true, true, true, false] rfl ?_
                        exact ih36 (h_36 + 1) ez_36 (v_da458fa48a i36_0) (v_e390a36114 h15) i36_2 (meas_lt v_90eacd6fd4 (v_8b7dd7d486 h15) hm36)
                      · refine J_goto (tgt := 95) dX7_gatherEnds_80 (by decide) ?_
                        refine J_aload_n dX7_gatherEnds_95 rfl rfl ?_
                        refine J_get (v := .ref ke) dX7_gatherEnds_96 fl_X7_18 (hcn (Ne.symm (q6 81 (by decide))) hch) rfl ?_
                        refine J_iload_n dX7_gatherEnds_99 rfl rfl ?_
                        refine J_dup2_11 dX7_gatherEnds_100 rfl rfl ?_
                        obtain ⟨z36, ez36⟩ : ∃ z : Int, ez_36 set_22 = z := ⟨_, rfl⟩
                        have h37 := Rg.at i36_2 (v_b835b9514e h12) (v_2ed20801bb h5 h17) ez36
                        refine Y_iald (z := z36) ne dX7_gatherEnds_101 hch (Int.toNat_of_nonneg (v_2b02420001 q2)) (v_54640227a3 q3) (v_b835b9514e h12) (v_2ed20801bb h5 h17) ez36 ?_
                        refine Z_iconst (n := 1) dX7_gatherEnds_102 ?_
                        refine J_iload dX7_gatherEnds_103 rfl ?_
                        obtain ⟨z38, ez38⟩ : ∃ z : Int, zshl 1 h_36 = z := ⟨_, rfl⟩
                        refine Y_ishl (z := z38) dX7_gatherEnds_105 ez38 ?_
                        have h39 : zr z38 := by rw [← ez38]; exact zr_toInt _
                        obtain ⟨z40, ez40⟩ : ∃ z : Int, zor z36 z38 = z := ⟨_, rfl⟩
                        refine Y_ior (z := z40) dX7_gatherEnds_106 ez40 ?_
                        have h41 : zr z40 := by rw [← ez40]; exact zr_toInt _
                        refine Y_iast (v := z40) ne dX7_gatherEnds_107 hch (Int.toNat_of_nonneg (v_2b02420001 q2)) (v_54640227a3 q3) (v_b835b9514e h12) (v_2ed20801bb h5 h17) (fun f42 ef42 => ?_)
                        have h43 : Rg f42 ne (-2147483648) 2147483647 := Rg.ups i36_2 ef42 (v_9c631c66d9 h41) (v_602fda786b h41)
                        refine Z_iinc (c := h_36 + 1) (ls2 := [some (.ref 81), some (.int (zI many)), some (.int (zI (z1 - 1))), some (.int (zI set_22)), some (.int (zI (h_36 + 1))), some (.int (zI t0_56j))]) dX7_gatherEnds_108 rfl (Nat.le_of_ble_eq_true rfl) rfl rfl rfl ?_
                        refine J_goto (tgt := 36) dX7_gatherEnds_111 (by decide) ?_
                        refine J_dupc (A := [(ke, .inl (0, (ne).toNat, .inl (zA f42)))]) (B := [(81, .inr (7, [.ref 51, .ref 57, .ref 82, .ref 83, .ref ke, .int (zI fd), .int (zI rv)]))]) (L2 := [(ke, .inl (0, (ne).toNat, .inl (zA f42))), (81, .inr (7, [.ref 51, .ref 57, .ref 82, .ref 83, .ref ke, .int (zI fd), .int (zI rv)]))]) (k := ke) (c := .inl (0, (ne).toNat, .inl (zA ez_36))) (e := .inl (0, (ne).toNat, .inl (zA f42))) rfl rfl (List.mem_of_getElem? (i := 0) rfl) ?_
                        refine J_drop (ls2 := [some (.ref 81), some (.int (zI many)), some (.int (zI (z1 - 1))), some (.int (zI set_22)), some (.int (zI (h_36 + 1))), none]) [true, true, true, true, true, false] rfl ?_
                        exact ih36 (h_36 + 1) f42 (v_da458fa48a i36_0) (v_e390a36114 h15) h43 (meas_lt v_90eacd6fd4 (v_8b7dd7d486 h15) hm36)
                refine J_iload_n dX7_gatherEnds_42 rfl rfl ?_
                refine J_iload dX7_gatherEnds_43 rfl ?_
                obtain ⟨z44, ez44⟩ : ∃ z : Int, zshr set_22 h_36 = z := ⟨_, rfl⟩
                refine Y_ishr (z := z44) dX7_gatherEnds_45 ez44 ?_
                have h45 : zr z44 := by rw [← ez44]; exact zr_toInt _
                refine Z_iconst (n := 1) dX7_gatherEnds_46 ?_
                obtain ⟨z46, ez46⟩ : ∃ z : Int, zand z44 1 = z := ⟨_, rfl⟩
                refine Y_iand (z := z46) dX7_gatherEnds_47 ez46 ?_
                have h47 : zr z46 := by rw [← ez46]; exact zr_toInt _
                have h48 : 0 ≤ z46 ∧ z46 ≤ 1 := zand_mask 1 (by decide) (by decide +kernel) (by decide) ez46
                refine Z_if_eq (tgt := 55) dX7_gatherEnds_48 (by decide) (v_5f10a759cd h48.1 h48.2) (fun h49 => ?_) (fun h49 => ?_)
                · refine Z_iconst (n := 0) dX7_gatherEnds_55 ?_
                  exact jn56 0 v_939070ca3f v_316afd7d0b
                · refine Z_iconst (n := 1) dX7_gatherEnds_51 ?_
                  refine J_goto (tgt := 56) dX7_gatherEnds_52 (by decide) ?_
                  exact jn56 1 v_316afd7d0b v_bbcfac9b7d
          exact lp36 _ 0 f13 v_939070ca3f (v_1b36648a9f q0) h14 (Nat.lt_succ_self _)
    exact lp22 _ (z1 - 1) ef (v_45fda7ce18 g3 g4.1) (v_9f76525bb5 g3) q4 (Nat.lt_succ_self _)
  · refine J_nf (nh2 := nh + 1) (ck2 := 1) (sk2 := (S).toNat) (st2 := [.ref nh, .ref 81]) rfl rfl (Nat.zero_add _) rfl ?_
    refine J_app (L3 := [(nh, .inl (0, (z6).toNat, .inl (zA (fun _ => 0))))]) rfl ?_
    refine K_put (fs2 := [.ref 51, .ref 57, .ref 82, .ref 83, .ref nh, .int (zI fd), .int (zI rv)]) dX7_gatherEnds_17 fw_X7_18 (hcn (Ne.symm ((Fx_of q7) 81 (by decide))) hk81) (Nat.le_of_ble_eq_true rfl) (fun _ => ⟨rfl, rfl⟩) rfl ?_
    refine J_iload_n dX7_gatherEnds_20 rfl rfl ?_
    refine J_istore_n dX7_gatherEnds_21 rfl (Nat.le_of_ble_eq_true rfl) rfl ?_
    refine J_ls (ls2 := [some (.ref 81), some (.int (zI many)), some (.int (zI (z1 - 1))), some (.int (zI (z1 - 1))), none, none]) rfl ?_
    have lp22 : ∀ (N22 : Nat) (set_22 : Int) (ez_22 : Int → Int), (0 ≤ set_22) → (set_22 < P2 many) → (Rg ez_22 z6 (-2147483648) 2147483647) → (set_22).toNat < N22 → J l G MX7_gatherEnds { frames := 2, cells := 1, slots := (S).toNat, locals := 42 } jE (jMQ G { frames := 2, cells := 1, slots := (S).toNat, locals := 42 } (fun rr h9 => ∃ ke2 : Nat, ∃ nh2 : Nat, ∃ ef2 : Int → Int, ∃ ne2 : Int, rr = none ∧ h9 = (nh2, hc fh [(81, .inr (7, [.ref 51, .ref 57, .ref 82, .ref 83, .ref ke2, .int (zI fd), .int (zI rv)])), (ke2, .inl (0, (ne2).toNat, .inl (zA ef2)))]) ∧ (Fx ke2) ∧ (NLt ke2 nh2) ∧ (NLe nh nh2) ∧ (NOld ke ke2 nh) ∧ (P2 many ≤ ne2) ∧ (ne2 ≤ 40000) ∧ (Rg ef2 ne2 (-2147483648) 2147483647) ∧ ((ne2 = ne ∧ ke2 = ke) ∨ (ne < P2 many ∧ 2 * ne ≤ ne2 ∧ ne2 ≤ S)))) (nh + 1, hc fh [(81, .inr (7, [.ref 51, .ref 57, .ref 82, .ref 83, .ref nh, .int (zI fd), .int (zI rv)])), (nh, .inl (0, (z6).toNat, .inl (zA ez_22)))]) 1 ((S).toNat) 22 [some (.ref 81), some (.int (zI many)), some (.int (zI (z1 - 1))), some (.int (zI set_22)), none, none] [] := by
      intro N22
      induction N22 with
      | zero => intro set_22 ez_22 i22_0 i22_1 i22_2 hm; exact absurd hm (Nat.not_lt_zero _)
      | succ N22 ih22 =>
        intro set_22 ez_22 i22_0 i22_1 i22_2 hm22
        refine J_iload_n dX7_gatherEnds_22 rfl rfl ?_
        refine Z_if_le (tgt := 120) dX7_gatherEnds_23 (by decide) (v_1a60bb62b5 g4.2 i22_0 i22_1) (fun h50 => ?_) (fun h50 => ?_)
        · exact J_vret dX7_gatherEnds_120 rfl (Nat.le_of_ble_eq_true rfl) (by show ((S).toNat : Nat) ≤ (S).toNat; omega) ⟨nh, (nh + 1), ez_22, z6, rfl, rfl, (Fx_of q7), (NLt.self _), (NLe.step (NLe.refl _)), (Or.inr (NLe.refl _)), (v_ecd408a977 g3 h8), (v_b62fecc296 g3 g4.2 h10), i22_2, (Or.inr ⟨(v_d7c2909a09 g3 h7), (v_d9fe08462c h9), (v_d464d4c634 h11)⟩)⟩
        · refine J_aload_n dX7_gatherEnds_26 rfl rfl ?_
          refine J_get (v := .ref nh) dX7_gatherEnds_27 fl_X7_18 rfl rfl ?_
          refine J_iload_n dX7_gatherEnds_30 rfl rfl ?_
          refine Z_iconst (n := 0) dX7_gatherEnds_31 ?_
          refine Y_iast (v := 0) z6 dX7_gatherEnds_32 (hcn ((Fx_of q7) 81 (by decide)) hch) (Int.toNat_of_nonneg (v_bc369d22cb h8 h10)) (v_5a069f1e34 g3 g4.2 h10) (v_b835b9514e h50) (v_0aad64ee8d g3 h8 i22_1) (fun f51 ef51 => ?_)
          have h52 : Rg f51 z6 (-2147483648) 2147483647 := Rg.ups i22_2 ef51 v_9c5011c36f v_cd342b47c7
          refine Z_iconst (n := 0) dX7_gatherEnds_33 ?_
          refine J_istore dX7_gatherEnds_34 (Nat.le_of_ble_eq_true rfl) rfl ?_
          refine J_ls (ls2 := [some (.ref 81), some (.int (zI many)), some (.int (zI (z1 - 1))), some (.int (zI set_22)), some (.int (zI 0)), none]) rfl ?_
          refine J_dupc (A := [(nh, .inl (0, (z6).toNat, .inl (zA f51))), (81, .inr (7, [.ref 51, .ref 57, .ref 82, .ref 83, .ref nh, .int (zI fd), .int (zI rv)]))]) (B := []) (L2 := [(nh, .inl (0, (z6).toNat, .inl (zA f51))), (81, .inr (7, [.ref 51, .ref 57, .ref 82, .ref 83, .ref nh, .int (zI fd), .int (zI rv)]))]) (k := nh) (c := .inl (0, (z6).toNat, .inl (zA ez_22))) (e := .inl (0, (z6).toNat, .inl (zA f51))) rfl rfl (List.mem_of_getElem? (i := 0) rfl) ?_
          have lp36 : ∀ (N36 : Nat) (h_36 : Int) (ez_36 : Int → Int), (0 ≤ h_36) → (h_36 ≤ many) → (Rg ez_36 z6 (-2147483648) 2147483647) → (many - h_36).toNat < N36 → J l G MX7_gatherEnds { frames := 2, cells := 1, slots := (S).toNat, locals := 42 } jE (jMQ G { frames := 2, cells := 1, slots := (S).toNat, locals := 42 } (fun rr h9 => ∃ ke2 : Nat, ∃ nh2 : Nat, ∃ ef2 : Int → Int, ∃ ne2 : Int, rr = none ∧ h9 = (nh2, hc fh [(81, .inr (7, [.ref 51, .ref 57, .ref 82, .ref 83, .ref ke2, .int (zI fd), .int (zI rv)])), (ke2, .inl (0, (ne2).toNat, .inl (zA ef2)))]) ∧ (Fx ke2) ∧ (NLt ke2 nh2) ∧ (NLe nh nh2) ∧ (NOld ke ke2 nh) ∧ (P2 many ≤ ne2) ∧ (ne2 ≤ 40000) ∧ (Rg ef2 ne2 (-2147483648) 2147483647) ∧ ((ne2 = ne ∧ ke2 = ke) ∨ (ne < P2 many ∧ 2 * ne ≤ ne2 ∧ ne2 ≤ S)))) (nh + 1, hc fh [(nh, .inl (0, (z6).toNat, .inl (zA ez_36))), (81, .inr (7, [.ref 51, .ref 57, .ref 82, .ref 83, .ref nh, .int (zI fd), .int (zI rv)]))]) 1 ((S).toNat) 36 [some (.ref 81), some (.int (zI many)), some (.int (zI (z1 - 1))), some (.int (zI set_22)), some (.int (zI h_36)), none] [] := by
            intro N36
            induction N36 with
            | zero => intro h_36 ez_36 i36_0 i36_1 i36_2 hm; exact absurd hm (Nat.not_lt_zero _)
            | succ N36 ih36 =>
              intro h_36 ez_36 i36_0 i36_1 i36_2 hm36
              refine J_iload dX7_gatherEnds_36 rfl ?_
              refine J_iload_n dX7_gatherEnds_38 rfl rfl ?_
              refine Z_icmp_ge (tgt := 114) dX7_gatherEnds_39 (by decide) (v_555f17cff2 q1 i36_0 i36_1) (v_0e3ebc5ccb q0 q1) (fun h53 => ?_) (fun h53 => ?_)
              · refine Z_iinc (c := set_22 - 1) (ls2 := [some (.ref 81), some (.int (zI many)), some (.int (zI (z1 - 1))), some (.int (zI (set_22 - 1))), some (.int (zI h_36)), none]) dX7_gatherEnds_114 rfl (Nat.le_of_ble_eq_true rfl) rfl v_c11a8386d1 rfl ?_
                refine J_goto (tgt := 22) dX7_gatherEnds_117 (by decide) ?_
                refine J_touch (k := nh) (e := .inl (0, (z6).toNat, .inl (zA ez_36))) hch ?_
                refine J_touch (k := 81) (e := .inr (7, [.ref 51, .ref 57, .ref 82, .ref 83, .ref nh, .int (zI fd), .int (zI rv)])) (hcn (Ne.symm ((Fx_of q7) 81 (by decide))) (hcn (Ne.symm ((Fx_of q7) 81 (by decide))) hch)) ?_
                refine J_dupc (A := [(81, .inr (7, [.ref 51, .ref 57, .ref 82, .ref 83, .ref nh, .int (zI fd), .int (zI rv)])), (nh, .inl (0, (z6).toNat, .inl (zA ez_36)))]) (B := [(81, .inr (7, [.ref 51, .ref 57, .ref 82, .ref 83, .ref nh, .int (zI fd), .int (zI rv)]))]) (L2 := [(81, .inr (7, [.ref 51, .ref 57, .ref 82, .ref 83, .ref nh, .int (zI fd), .int (zI rv)])), (nh, .inl (0, (z6).toNat, .inl (zA ez_36))), (81, .inr (7, [.ref 51, .ref 57, .ref 82, .ref 83, .ref nh, .int (zI fd), .int (zI rv)]))]) (k := nh) (c := .inl (0, (z6).toNat, .inl (zA ez_36))) (e := .inl (0, (z6).toNat, .inl (zA ez_36))) rfl rfl (List.mem_of_getElem? (i := 1) rfl) ?_
                refine J_dupc (A := [(81, .inr (7, [.ref 51, .ref 57, .ref 82, .ref 83, .ref nh, .int (zI fd), .int (zI rv)])), (nh, .inl (0, (z6).toNat, .inl (zA ez_36)))]) (B := []) (L2 := [(81, .inr (7, [.ref 51, .ref 57, .ref 82, .ref 83, .ref nh, .int (zI fd), .int (zI rv)])), (nh, .inl (0, (z6).toNat, .inl (zA ez_36)))]) (k := 81) (c := .inr (7, [.ref 51, .ref 57, .ref 82, .ref 83, .ref nh, .int (zI fd), .int (zI rv)])) (e := .inr (7, [.ref 51, .ref 57, .ref 82, .ref 83, .ref nh, .int (zI fd), .int (zI rv)])) rfl rfl (List.mem_of_getElem? (i := 0) rfl) ?_
                refine J_drop (ls2 := [some (.ref 81), some (.int (zI many)), some (.int (zI (z1 - 1))), some (.int (zI (set_22 - 1))), none, none]) [true, true, true, true, false, false] rfl ?_
                exact ih22 (set_22 - 1) ez_36 (v_37890547f7 h50) (v_194e055bf2 i22_1) i36_2 (meas_lt v_c458e5b2bb (v_8d20adab6a h50) hm22)
              · have jn56 : ∀ (t0_56j : Int), (0 ≤ t0_56j) → (t0_56j ≤ 1) → J l G MX7_gatherEnds { frames := 2, cells := 1, slots := (S).toNat, locals := 42 } jE (jMQ G { frames := 2, cells := 1, slots := (S).toNat, locals := 42 } (fun rr h9 => ∃ ke2 : Nat, ∃ nh2 : Nat, ∃ ef2 : Int → Int, ∃ ne2 : Int, rr = none ∧ h9 = (nh2, hc fh [(81, .inr (7, [.ref 51, .ref 57, .ref 82, .ref 83, .ref ke2, .int (zI fd), .int (zI rv)])), (ke2, .inl (0, (ne2).toNat, .inl (zA ef2)))]) ∧ (Fx ke2) ∧ (NLt ke2 nh2) ∧ (NLe nh nh2) ∧ (NOld ke ke2 nh) ∧ (P2 many ≤ ne2) ∧ (ne2 ≤ 40000) ∧ (Rg ef2 ne2 (-2147483648) 2147483647) ∧ ((ne2 = ne ∧ ke2 = ke) ∨ (ne < P2 many ∧ 2 * ne ≤ ne2 ∧ ne2 ≤ S)))) (nh + 1, hc fh [(nh, .inl (0, (z6).toNat, .inl (zA ez_36))), (81, .inr (7, [.ref 51, .ref 57, .ref 82, .ref 83, .ref nh, .int (zI fd), .int (zI rv)]))]) 1 ((S).toNat) 56 [some (.ref 81), some (.int (zI many)), some (.int (zI (z1 - 1))), some (.int (zI set_22)), some (.int (zI h_36)), none] [.int (zI t0_56j)] := by
                  intro t0_56j j56_0 j56_1
                  refine J_istore dX7_gatherEnds_56 (Nat.le_of_ble_eq_true rfl) rfl ?_
                  refine J_ls (ls2 := [some (.ref 81), some (.int (zI many)), some (.int (zI (z1 - 1))), some (.int (zI set_22)), some (.int (zI h_36)), some (.int (zI t0_56j))]) rfl ?_
                  refine J_iload dX7_gatherEnds_58 rfl ?_
                  refine Z_if_eq (tgt := 108) dX7_gatherEnds_60 (by decide) (v_5f10a759cd j56_0 j56_1) (fun h54 => ?_) (fun h54 => ?_)
                  · refine Z_iinc (c := h_36 + 1) (ls2 := [some (.ref 81), some (.int (zI many)), some (.int (zI (z1 - 1))), some (.int (zI set_22)), some (.int (zI (h_36 + 1))), some (.int (zI t0_56j))]) dX7_gatherEnds_108 rfl (Nat.le_of_ble_eq_true rfl) rfl rfl rfl ?_
                    refine J_goto (tgt := 36) dX7_gatherEnds_111 (by decide) ?_
                    refine J_drop (ls2 := [some (.ref 81), some (.int (zI many)), some (.int (zI (z1 - 1))), some (.int (zI set_22)), some (.int (zI (h_36 + 1))), none]) [true, true, true, true, true, false] rfl ?_
                    exact ih36 (h_36 + 1) ez_36 (v_da458fa48a i36_0) (v_e390a36114 h53) i36_2 (meas_lt v_90eacd6fd4 (v_8b7dd7d486 h53) hm36)
                  · refine J_iload_n dX7_gatherEnds_63 rfl rfl ?_
                    refine J_iload_n dX7_gatherEnds_64 rfl rfl ?_
                    refine Z_icmp_ne (tgt := 83) dX7_gatherEnds_65 (by decide) (v_d6489016d8 g4.2 i22_1 h50) (v_97c62ea6fe h2 h8 h10) (fun h55 => ?_) (fun h55 => ?_)
                    · refine J_aload_n dX7_gatherEnds_83 rfl rfl ?_
                      refine J_iload_n dX7_gatherEnds_84 rfl rfl ?_
                      refine J_iload dX7_gatherEnds_85 rfl ?_
                      refine J_iload_n dX7_gatherEnds_87 rfl rfl ?_
                      refine J_callV (st := []) dX7_gatherEnds_88 cv_X7_69 (r_goesOn set_22 h_36 many nh fd rv ez_36 z6 nx i22_0 i22_1 i36_0 (v_fe9ea41faa h53) q0 q1 (v_ecd408a977 g3 h8) (v_b62fecc296 g3 g4.2 h10) i36_2 q5 (Fx_of q7) (hcn (Ne.symm ((Fx_of q7) 81 (by decide))) hch) (hcn (Ne.symm ((Fx_of q7) 82 (by decide))) (hcn (by decide) hk82)) hch) (hcn (Ne.symm ((Fx_of q7) 81 (by decide))) hch) rfl rfl (Nat.le_of_ble_eq_true rfl) ⟨(Nat.le_of_ble_eq_true rfl), (Nat.le_of_ble_eq_true rfl)⟩ ⟨(Nat.le_of_ble_eq_true rfl), (by show ((S).toNat : Nat) + 0 ≤ (S).toNat; omega)⟩ (fun r h9 hp => ?_)
                      obtain ⟨z56, rfl, rfl, h57, h58⟩ := hp
                      refine J_nf (nh2 := nh + 1) (ck2 := 1) (sk2 := (S).toNat) (st2 := [.int (zI z56)]) rfl rfl rfl rfl ?_
                      refine Z_iconst (n := -1) dX7_gatherEnds_91 ?_
                      refine Z_icmp_eq (tgt := 108) dX7_gatherEnds_92 (by decide) (v_35ba6204af q1 h57 h58) v_d64efa60f9 (fun h59 => ?_) (fun h59 => ?_)
                      · refine Z_iinc (c := h_36 + 1) (ls2 := [some (.ref 81), some (.int (zI many)), some (.int (zI (z1 - 1))), some (.int (zI set_22)), some (.int (zI (h_36 + 1))), some (.int (zI t0_56j))]) dX7_gatherEnds_108 rfl (Nat.le_of_ble_eq_true rfl) rfl rfl rfl ?_
                        refine J_goto (tgt := 36) dX7_gatherEnds_111 (by decide) ?_
                        refine J_drop (ls2 := [some (.ref 81), some (.int (zI many)), some (.int (zI (z1 - 1))), some (.int (zI set_22)), some (.int (zI (h_36 + 1))), none]) [true, true, true, true, true, false] rfl ?_
                        exact ih36 (h_36 + 1) ez_36 (v_da458fa48a i36_0) (v_e390a36114 h53) i36_2 (meas_lt v_90eacd6fd4 (v_8b7dd7d486 h53) hm36)
                      · refine J_aload_n dX7_gatherEnds_95 rfl rfl ?_
                        refine J_get (v := .ref nh) dX7_gatherEnds_96 fl_X7_18 (hcn (Ne.symm ((Fx_of q7) 81 (by decide))) hch) rfl ?_
                        refine J_iload_n dX7_gatherEnds_99 rfl rfl ?_
                        refine J_dup2_11 dX7_gatherEnds_100 rfl rfl ?_
                        obtain ⟨z60, ez60⟩ : ∃ z : Int, ez_36 set_22 = z := ⟨_, rfl⟩
                        have h61 := Rg.at i36_2 (v_b835b9514e h50) (v_0aad64ee8d g3 h8 i22_1) ez60
                        refine Y_iald (z := z60) z6 dX7_gatherEnds_101 hch (Int.toNat_of_nonneg (v_bc369d22cb h8 h10)) (v_5a069f1e34 g3 g4.2 h10) (v_b835b9514e h50) (v_0aad64ee8d g3 h8 i22_1) ez60 ?_
                        refine Z_iconst (n := 1) dX7_gatherEnds_102 ?_
                        refine J_iload dX7_gatherEnds_103 rfl ?_
                        obtain ⟨z62, ez62⟩ : ∃ z : Int, zshl 1 h_36 = z := ⟨_, rfl⟩
                        refine Y_ishl (z := z62) dX7_gatherEnds_105 ez62 ?_
                        have h63 : zr z62 := by rw [← ez62]; exact zr_toInt _
                        obtain ⟨z64, ez64⟩ : ∃ z : Int, zor z60 z62 = z := ⟨_, rfl⟩
                        refine Y_ior (z := z64) dX7_gatherEnds_106 ez64 ?_
                        have h65 : zr z64 := by rw [← ez64]; exact zr_toInt _
                        refine Y_iast (v := z64) z6 dX7_gatherEnds_107 hch (Int.toNat_of_nonneg (v_bc369d22cb h8 h10)) (v_5a069f1e34 g3 g4.2 h10) (v_b835b9514e h50) (v_0aad64ee8d g3 h8 i22_1) (fun f66 ef66 => ?_)
                        have h67 : Rg f66 z6 (-2147483648) 2147483647 := Rg.ups i36_2 ef66 (v_9c631c66d9 h65) (v_602fda786b h65)
                        refine Z_iinc (c := h_36 + 1) (ls2 := [some (.ref 81), some (.int (zI many)), some (.int (zI (z1 - 1))), some (.int (zI set_22)), some (.int (zI (h_36 + 1))), some (.int (zI t0_56j))]) dX7_gatherEnds_108 rfl (Nat.le_of_ble_eq_true rfl) rfl rfl rfl ?_
                        refine J_goto (tgt := 36) dX7_gatherEnds_111 (by decide) ?_
                        refine J_dupc (A := [(nh, .inl (0, (z6).toNat, .inl (zA f66)))]) (B := [(81, .inr (7, [.ref 51, .ref 57, .ref 82, .ref 83, .ref nh, .int (zI fd), .int (zI rv)]))]) (L2 := [(nh, .inl (0, (z6).toNat, .inl (zA f66))), (81, .inr (7, [.ref 51, .ref 57, .ref 82, .ref 83, .ref nh, .int (zI fd), .int (zI rv)]))]) (k := nh) (c := .inl (0, (z6).toNat, .inl (zA ez_36))) (e := .inl (0, (z6).toNat, .inl (zA f66))) rfl rfl (List.mem_of_getElem? (i := 0) rfl) ?_
                        refine J_drop (ls2 := [some (.ref 81), some (.int (zI many)), some (.int (zI (z1 - 1))), some (.int (zI set_22)), some (.int (zI (h_36 + 1))), none]) [true, true, true, true, true, false] rfl ?_
                        exact ih36 (h_36 + 1) f66 (v_da458fa48a i36_0) (v_e390a36114 h53) h67 (meas_lt v_90eacd6fd4 (v_8b7dd7d486 h53) hm36)
                    · refine J_aload_n dX7_gatherEnds_68 rfl rfl ?_
                      refine J_get (v := .ref 82) dX7_gatherEnds_69 fl_X7_11 (hcn (Ne.symm ((Fx_of q7) 81 (by decide))) hch) rfl ?_
                      refine J_iload dX7_gatherEnds_72 rfl ?_
                      obtain ⟨z68, ez68⟩ : ∃ z : Int, nx h_36 = z := ⟨_, rfl⟩
                      have h69 := Rg.at q5 (v_2b02420001 i36_0) (v_202a50a2c8 q1 h53) ez68
                      refine Y_iald (z := z68) 14 dX7_gatherEnds_74 (hcn (Ne.symm ((Fx_of q7) 82 (by decide))) (hcn (by decide) hk82)) rfl (by decide) (v_2b02420001 i36_0) (v_202a50a2c8 q1 h53) ez68 ?_
                      refine Z_iconst (n := 1) dX7_gatherEnds_75 ?_
                      obtain ⟨z70, ez70⟩ : ∃ z : Int, zand z68 1 = z := ⟨_, rfl⟩
                      refine Y_iand (z := z70) dX7_gatherEnds_76 ez70 ?_
                      have h71 : zr z70 := by rw [← ez70]; exact zr_toInt _
                      have h72 : 0 ≤ z70 ∧ z70 ≤ 1 := zand_mask 1 (by decide) (by decide +kernel) (by decide) ez70
                      refine Z_if_eq (tgt := 108) dX7_gatherEnds_77 (by decide) (v_5f10a759cd h72.1 h72.2) (fun h73 => ?_) (fun h73 => ?_)
                      · refine Z_iinc (c := h_36 + 1) (ls2 := [some (.ref 81), some (.int (zI many)), some (.int (zI (z1 - 1))), some (.int (zI set_22)), some (.int (zI (h_36 + 1))), some (.int (zI t0_56j))]) dX7_gatherEnds_108 rfl (Nat.le_of_ble_eq_true rfl) rfl rfl rfl ?_
                        refine J_goto (tgt := 36) dX7_gatherEnds_111 (by decide) ?_
                        refine J_drop (ls2 := [some (.ref 81), some (.int (zI many)), some (.int (zI (z1 - 1))), some (.int (zI set_22)), some (.int (zI (h_36 + 1))), none]) [true, true, true, true, true, false] rfl ?_
                        exact ih36 (h_36 + 1) ez_36 (v_da458fa48a i36_0) (v_e390a36114 h53) i36_2 (meas_lt v_90eacd6fd4 (v_8b7dd7d486 h53) hm36)
                      · refine J_goto (tgt := 95) dX7_gatherEnds_80 (by decide) ?_
                        refine J_aload_n dX7_gatherEnds_95 rfl rfl ?_
                        refine J_get (v := .ref nh) dX7_gatherEnds_96 fl_X7_18 (hcn (Ne.symm ((Fx_of q7) 81 (by decide))) hch) rfl ?_
                        refine J_iload_n dX7_gatherEnds_99 rfl rfl ?_
                        refine J_dup2_11 dX7_gatherEnds_100 rfl rfl ?_
                        obtain ⟨z74, ez74⟩ : ∃ z : Int, ez_36 set_22 = z := ⟨_, rfl⟩
                        have h75 := Rg.at i36_2 (v_b835b9514e h50) (v_2ed20801bb h8 h55) ez74
                        refine Y_iald (z := z74) z6 dX7_gatherEnds_101 hch (Int.toNat_of_nonneg (v_bc369d22cb h8 h10)) (v_5a069f1e34 g3 g4.2 h10) (v_b835b9514e h50) (v_2ed20801bb h8 h55) ez74 ?_
                        refine Z_iconst (n := 1) dX7_gatherEnds_102 ?_
                        refine J_iload dX7_gatherEnds_103 rfl ?_
                        obtain ⟨z76, ez76⟩ : ∃ z : Int, zshl 1 h_36 = z := ⟨_, rfl⟩
                        refine Y_ishl (z := z76) dX7_gatherEnds_105 ez76 ?_
                        have h77 : zr z76 := by rw [← ez76]; exact zr_toInt _
                        obtain ⟨z78, ez78⟩ : ∃ z : Int, zor z74 z76 = z := ⟨_, rfl⟩
                        refine Y_ior (z := z78) dX7_gatherEnds_106 ez78 ?_
                        have h79 : zr z78 := by rw [← ez78]; exact zr_toInt _
                        refine Y_iast (v := z78) z6 dX7_gatherEnds_107 hch (Int.toNat_of_nonneg (v_bc369d22cb h8 h10)) (v_5a069f1e34 g3 g4.2 h10) (v_b835b9514e h50) (v_2ed20801bb h8 h55) (fun f80 ef80 => ?_)
                        have h81 : Rg f80 z6 (-2147483648) 2147483647 := Rg.ups i36_2 ef80 (v_9c631c66d9 h79) (v_602fda786b h79)
                        refine Z_iinc (c := h_36 + 1) (ls2 := [some (.ref 81), some (.int (zI many)), some (.int (zI (z1 - 1))), some (.int (zI set_22)), some (.int (zI (h_36 + 1))), some (.int (zI t0_56j))]) dX7_gatherEnds_108 rfl (Nat.le_of_ble_eq_true rfl) rfl rfl rfl ?_
                        refine J_goto (tgt := 36) dX7_gatherEnds_111 (by decide) ?_
                        refine J_dupc (A := [(nh, .inl (0, (z6).toNat, .inl (zA f80)))]) (B := [(81, .inr (7, [.ref 51, .ref 57, .ref 82, .ref 83, .ref nh, .int (zI fd), .int (zI rv)]))]) (L2 := [(nh, .inl (0, (z6).toNat, .inl (zA f80))), (81, .inr (7, [.ref 51, .ref 57, .ref 82, .ref 83, .ref nh, .int (zI fd), .int (zI rv)]))]) (k := nh) (c := .inl (0, (z6).toNat, .inl (zA ez_36))) (e := .inl (0, (z6).toNat, .inl (zA f80))) rfl rfl (List.mem_of_getElem? (i := 0) rfl) ?_
                        refine J_drop (ls2 := [some (.ref 81), some (.int (zI many)), some (.int (zI (z1 - 1))), some (.int (zI set_22)), some (.int (zI (h_36 + 1))), none]) [true, true, true, true, true, false] rfl ?_
                        exact ih36 (h_36 + 1) f80 (v_da458fa48a i36_0) (v_e390a36114 h53) h81 (meas_lt v_90eacd6fd4 (v_8b7dd7d486 h53) hm36)
                refine J_iload_n dX7_gatherEnds_42 rfl rfl ?_
                refine J_iload dX7_gatherEnds_43 rfl ?_
                obtain ⟨z82, ez82⟩ : ∃ z : Int, zshr set_22 h_36 = z := ⟨_, rfl⟩
                refine Y_ishr (z := z82) dX7_gatherEnds_45 ez82 ?_
                have h83 : zr z82 := by rw [← ez82]; exact zr_toInt _
                refine Z_iconst (n := 1) dX7_gatherEnds_46 ?_
                obtain ⟨z84, ez84⟩ : ∃ z : Int, zand z82 1 = z := ⟨_, rfl⟩
                refine Y_iand (z := z84) dX7_gatherEnds_47 ez84 ?_
                have h85 : zr z84 := by rw [← ez84]; exact zr_toInt _
                have h86 : 0 ≤ z84 ∧ z84 ≤ 1 := zand_mask 1 (by decide) (by decide +kernel) (by decide) ez84
                refine Z_if_eq (tgt := 55) dX7_gatherEnds_48 (by decide) (v_5f10a759cd h86.1 h86.2) (fun h87 => ?_) (fun h87 => ?_)
                · refine Z_iconst (n := 0) dX7_gatherEnds_55 ?_
                  exact jn56 0 v_939070ca3f v_316afd7d0b
                · refine Z_iconst (n := 1) dX7_gatherEnds_51 ?_
                  refine J_goto (tgt := 56) dX7_gatherEnds_52 (by decide) ?_
                  exact jn56 1 v_316afd7d0b v_bbcfac9b7d
          exact lp36 _ 0 f51 v_939070ca3f (v_1b36648a9f q0) h52 (Nat.lt_succ_self _)
    exact lp22 _ (z1 - 1) (fun _ => 0) (v_a76feea142 q2 h7) (v_9f76525bb5 g3) (Rg.const v_9c5011c36f v_cd342b47c7) (Nat.lt_succ_self _)
set_option maxHeartbeats 4000000 in
set_option maxRecDepth 100000 in
theorem r_at {l : Launch} {G : jG} {nh : Nat} {fh : Nat → Option va_E} (x : Int) (many : Int) (places : Int) (ke : Nat) (fd : Int) (rv : Int) (rd : Int → Int) (q0 : zr x) (q1 : 1 ≤ many) (q2 : many ≤ 1260) (hk81 : fh 81 = some (.inr (7, [.ref 51, .ref 57, .ref 82, .ref 83, .ref ke, .int (zI fd), .int (zI rv)]))) (hk51 : fh 51 = some (.inr (0, [.ref 52, .ref 53, .int (zI many), .int (zI places)]))) (hk83 : fh 83 = some (.inl (0, 14, .inl (zA rd)))) : JM l G yX7_at MX7_at { frames := 1, cells := 0, slots := 0, locals := 20 } [.ref 81, .int (zI x)] (nh, fh) (fun rr h9 => ∃ r : Int, rr = some (.int (zI r)) ∧ h9 = (nh, fh)) := by
  refine JM.of (by decide) rfl (fun h => by cases h) (Nat.le_of_ble_eq_true rfl) ⟨0, rfl⟩ ?_
  refine J_hc0 (J_ls (ls2 := [some (.ref 81), some (.int (zI x))]) rfl ?_)
  refine J_iload_n dX7_at_0 rfl rfl ?_
  refine Z_if_lt (tgt := 30) dX7_at_1 (by decide) (v_b25fa51a85 q0) (fun h1 => ?_) (fun h1 => ?_)
  · refine Z_iconst (n := -1) dX7_at_30 ?_
    exact J_iret dX7_at_31 rfl rfl (Nat.le_of_ble_eq_true rfl) (Nat.le_of_ble_eq_true rfl) ⟨(-1), rfl, rfl⟩
  · refine J_iload_n dX7_at_4 rfl rfl ?_
    refine J_aload_n dX7_at_5 rfl rfl ?_
    refine J_get (v := .ref 51) dX7_at_6 fl_X7_29 hk81 rfl ?_
    refine J_callV (st := [.int (zI x)]) dX7_at_9 cv_X7_37 (g_many many places hk51) hk51 rfl rfl (Nat.le_of_ble_eq_true rfl) ⟨(Nat.le_of_ble_eq_true rfl), (Nat.le_of_ble_eq_true rfl)⟩ ⟨(Nat.le_of_ble_eq_true rfl), (Nat.le_of_ble_eq_true rfl)⟩ (fun r h9 hp => ?_)
    obtain ⟨rfl, rfl⟩ := hp
    refine J_nf (nh2 := nh) (ck2 := 0) (sk2 := 0) (st2 := [.int (zI many), .int (zI x)]) rfl rfl rfl rfl ?_
    refine Z_icmp_ge (tgt := 30) dX7_at_12 (by decide) (v_edc92e96e6 q0 h1) (v_81c6732ede q1 q2) (fun h2 => ?_) (fun h2 => ?_)
    · refine Z_iconst (n := -1) dX7_at_30 ?_
      exact J_iret dX7_at_31 rfl rfl (Nat.le_of_ble_eq_true rfl) (Nat.le_of_ble_eq_true rfl) ⟨(-1), rfl, rfl⟩
    · refine J_iload_n dX7_at_15 rfl rfl ?_
      refine Z_bipush (n := 14) dX7_at_16 (by decide +kernel) ?_
      refine Z_icmp_ge (tgt := 30) dX7_at_18 (by decide) (v_edc92e96e6 q0 h1) v_2a4719925a (fun h3 => ?_) (fun h3 => ?_)
      · refine Z_iconst (n := -1) dX7_at_30 ?_
        exact J_iret dX7_at_31 rfl rfl (Nat.le_of_ble_eq_true rfl) (Nat.le_of_ble_eq_true rfl) ⟨(-1), rfl, rfl⟩
      · refine J_aload_n dX7_at_21 rfl rfl ?_
        refine J_get (v := .ref 83) dX7_at_22 fl_X7_15 hk81 rfl ?_
        refine J_iload_n dX7_at_25 rfl rfl ?_
        obtain ⟨z4, ez4⟩ : ∃ z : Int, rd x = z := ⟨_, rfl⟩
        refine Y_iald (z := z4) 14 dX7_at_26 hk83 rfl (by decide) (v_b2d8922659 h1) (v_1c67b5f51d h3) ez4 ?_
        refine J_goto (tgt := 31) dX7_at_27 (by decide) ?_
        exact J_iret dX7_at_31 rfl rfl (Nat.le_of_ble_eq_true rfl) (Nat.le_of_ble_eq_true rfl) ⟨z4, rfl, rfl⟩
set_option maxHeartbeats 4000000 in
set_option maxRecDepth 100000 in
theorem r_exists {l : Launch} {G : jG} {nh : Nat} {fh : Nat → Option va_E} (S : Int) (ks : Nat) (ve : Int) (ss : Int) (vs : Int) (many : Int) (places : Int) (ff : Int → Int) (rf : Int → Int) (lc : Int) (fo : Int) (wc : Int) (cc : Int) (sc : Int) (wa : Int → Int) (wb : Int → Int) (tf : Int → Int) (df : Int → Int) (sf : Int → Int) (ns : Int) (vf : Int → Int) (ke : Nat) (fd : Int) (rv : Int) (ef : Int → Int) (ne : Int) (nx : Int → Int) (rd : Int → Int) (q0 : Fx ks) (q1 : 0 ≤ ss) (q2 : ss ≤ 1) (q3 : 0 ≤ vs) (q4 : vs ≤ 1) (q5 : zr ve) (q6 : 1 ≤ many) (q7 : many ≤ 1260) (q8 : 0 ≤ places) (q9 : places ≤ 7) (q10 : okF ff) (q11 : many = Hi ff) (q12 : places = bsum ff) (q13 : RowsTo rf ff many) (q14 : Rg rf 1260 (-2147483648) 2147483647) (q15 : 0 ≤ lc) (q16 : lc ≤ 6) (q17 : -1 ≤ fo) (q18 : fo < lc) (q19 : 0 ≤ wc) (q20 : wc ≤ 8) (q21 : 0 ≤ cc) (q22 : cc ≤ 6) (q23 : 0 ≤ sc) (q24 : sc ≤ 12) (q25 : Rg wa 8 (-2147483648) 2147483647) (q26 : Rg wb 8 (-2147483648) 2147483647) (q27 : Rg tf 2 (-2147483648) 2147483647) (q28 : Rg vf 2625 0 99) (q29 : 22 * many ≤ ns) (q30 : ns ≤ 100000) (q31 : StOK df sf many) (q32 : Rg sf ns (-2147483648) 2147483647) (q33 : NNe ke ks) (q34 : Fx ke) (q35 : NLe 135 nh) (q36 : NLt ks nh) (q37 : NLt ke nh) (q38 : 0 ≤ ne) (q39 : ne ≤ 40000) (q40 : Rg ef ne (-2147483648) 2147483647) (q41 : Rg nx 14 (-2147483648) 2147483647) (q42 : 0 ≤ fd) (q43 : fd ≤ 1) (q44 : zr rv) (q45 : 0 ≤ S) (q46 : ne < P2 many → P2 many ≤ S ∧ 2 * ne ≤ S) (hk57 : fh 57 = some (.inr (9, [.ref 1, .ref 51, .ref 58, .ref 61, .ref 62, .ref ks, .ref 64, .int (zI ve), .int (zI ss), .int (zI vs)]))) (hk51 : fh 51 = some (.inr (0, [.ref 52, .ref 53, .int (zI many), .int (zI places)]))) (hk52 : fh 52 = some (.inl (0, 1260, .inl (zA rf)))) (hk1 : fh 1 = some (.inr (8, [.ref 2, .ref 3, .ref 4, .int (zI lc), .int (zI fo), .ref 11, .ref 12, .int (zI wc), .ref 13, .ref 14, .int (zI cc), .ref 15, .ref 16, .int (zI sc)]))) (hk3 : fh 3 = some (.inl (0, 2, .inl (zA tf)))) (hk11 : fh 11 = some (.inl (0, 8, .inl (zA wa)))) (hk12 : fh 12 = some (.inl (0, 8, .inl (zA wb)))) (hk62 : fh 62 = some (.inl (0, 1260, .inl (zA df)))) (hkks : fh ks = some (.inl (0, (ns).toNat, .inl (zA sf)))) (hk64 : fh 64 = some (.inl (0, 2625, .inl (zA vf)))) (hk81 : fh 81 = some (.inr (7, [.ref 51, .ref 57, .ref 82, .ref 83, .ref ke, .int (zI fd), .int (zI rv)]))) (hk82 : fh 82 = some (.inl (0, 14, .inl (zA nx)))) (hk83 : fh 83 = some (.inl (0, 14, .inl (zA rd)))) (hkke : fh ke = some (.inl (0, (ne).toNat, .inl (zA ef)))) : JM l G yX7_exists MX7_exists { frames := 5, cells := 1, slots := (S).toNat, locals := 124 } [.ref 81] (nh, fh) (fun rr h9 => ∃ r : Int, ∃ ke2 : Nat, ∃ nh2 : Nat, ∃ ef2 : Int → Int, ∃ ne2 : Int, ∃ nx2 : Int → Int, ∃ rd2 : Int → Int, ∃ fd2 : Int, ∃ rv2 : Int, ∃ dg : Int → Int, ∃ sg : Int → Int, rr = some (.int (zI r)) ∧ h9 = (nh2, hc fh [(81, .inr (7, [.ref 51, .ref 57, .ref 82, .ref 83, .ref ke2, .int (zI fd2), .int (zI rv2)])), (82, .inl (0, 14, .inl (zA nx2))), (83, .inl (0, 14, .inl (zA rd2))), (ke2, .inl (0, (ne2).toNat, .inl (zA ef2))), (62, .inl (0, 1260, .inl (zA dg))), (ks, .inl (0, (ns).toNat, .inl (zA sg)))]) ∧ (0 ≤ r) ∧ (r ≤ 1) ∧ (Fx ke2) ∧ (NNe ke2 ks) ∧ (NLt ke2 nh2) ∧ (NLe nh nh2) ∧ (NOld ke ke2 nh) ∧ (ne2 ≤ 40000) ∧ (0 ≤ ne2) ∧ (Rg ef2 ne2 (-2147483648) 2147483647) ∧ (Rg nx2 14 (-2147483648) 2147483647) ∧ (0 ≤ fd2) ∧ (fd2 ≤ 1) ∧ (zr rv2) ∧ ((ne2 = ne ∧ ke2 = ke) ∨ (ne < P2 many ∧ 2 * ne ≤ ne2 ∧ ne2 ≤ S)) ∧ (StOK dg sg many) ∧ (Rg sg ns (-2147483648) 2147483647)) := by
  refine JM.of (by decide) rfl (fun h => by cases h) (Nat.le_of_ble_eq_true rfl) ⟨1, rfl⟩ ?_
  refine J_hc0 (J_ls (ls2 := [some (.ref 81), none]) rfl ?_)
  refine J_aload_n dX7_exists_0 rfl rfl ?_
  refine J_get (v := .int (zI rv)) dX7_exists_1 fl_X7_25 hk81 rfl ?_
  refine J_aload_n dX7_exists_4 rfl rfl ?_
  refine J_get (v := .ref 57) dX7_exists_5 fl_X7_33 hk81 rfl ?_
  refine J_callV (st := [.int (zI rv)]) dX7_exists_8 cv_X7_43 (t_version ks ve ss vs hk57) hk57 rfl rfl (Nat.le_of_ble_eq_true rfl) ⟨(Nat.le_of_ble_eq_true rfl), (Nat.le_of_ble_eq_true rfl)⟩ ⟨(Nat.le_of_ble_eq_true rfl), (by show (0 : Nat) + 0 ≤ (S).toNat; omega)⟩ (fun r h9 hp => ?_)
  obtain ⟨rfl, rfl⟩ := hp
  refine J_nf (nh2 := nh) (ck2 := 0) (sk2 := 0) (st2 := [.int (zI ve), .int (zI rv)]) rfl rfl rfl rfl ?_
  refine Z_icmp_eq (tgt := 91) dX7_exists_11 (by decide) (v_b25fa51a85 q44) (v_b25fa51a85 q5) (fun h1 => ?_) (fun h1 => ?_)
  · refine J_aload_n dX7_exists_91 rfl rfl ?_
    refine J_get (v := .int (zI fd)) dX7_exists_92 fl_X7_21 hk81 rfl ?_
    refine J_touch (k := ks) (e := .inl (0, (ns).toNat, .inl (zA sf))) hkks ?_
    refine J_touch (k := 62) (e := .inl (0, 1260, .inl (zA df))) (hcn (Ne.symm (q0 62 (by decide))) hk62) ?_
    refine J_touch (k := ke) (e := .inl (0, (ne).toNat, .inl (zA ef))) (hcn (q34 62 (by decide)) (hcn q33 hkke)) ?_
    refine J_touch (k := 83) (e := .inl (0, 14, .inl (zA rd))) (hcn (Ne.symm (q34 83 (by decide))) (hcn (by decide) (hcn (Ne.symm (q0 83 (by decide))) hk83))) ?_
    refine J_touch (k := 82) (e := .inl (0, 14, .inl (zA nx))) (hcn (by decide) (hcn (Ne.symm (q34 82 (by decide))) (hcn (by decide) (hcn (Ne.symm (q0 82 (by decide))) hk82)))) ?_
    refine J_touch (k := 81) (e := .inr (7, [.ref 51, .ref 57, .ref 82, .ref 83, .ref ke, .int (zI fd), .int (zI rv)])) (hcn (by decide) (hcn (by decide) (hcn (Ne.symm (q34 81 (by decide))) (hcn (by decide) (hcn (Ne.symm (q0 81 (by decide))) hk81))))) ?_
    exact J_iret dX7_exists_95 rfl (jbn (v_2b02420001 q42) (v_6b0b292328 q43)) (Nat.le_of_ble_eq_true rfl) (by show (0 : Nat) ≤ (S).toNat; omega) ⟨fd, ke, nh, ef, ne, nx, rd, fd, rv, df, sf, rfl, rfl, q42, q43, q34, q33, q37, (NLe.refl _), (Or.inl rfl), q39, q38, q40, q41, q42, q43, q44, (Or.inl ⟨rfl, rfl⟩), q31, q32⟩
  · refine J_aload_n dX7_exists_14 rfl rfl ?_
    refine J_aload_n dX7_exists_15 rfl rfl ?_
    refine J_get (v := .ref 57) dX7_exists_16 fl_X7_33 hk81 rfl ?_
    refine J_callV (st := [.ref 81]) dX7_exists_19 cv_X7_43 (t_version ks ve ss vs hk57) hk57 rfl rfl (Nat.le_of_ble_eq_true rfl) ⟨(Nat.le_of_ble_eq_true rfl), (Nat.le_of_ble_eq_true rfl)⟩ ⟨(Nat.le_of_ble_eq_true rfl), (by show (0 : Nat) + 0 ≤ (S).toNat; omega)⟩ (fun r h9 hp => ?_)
    obtain ⟨rfl, rfl⟩ := hp
    refine J_nf (nh2 := nh) (ck2 := 0) (sk2 := 0) (st2 := [.int (zI ve), .ref 81]) rfl rfl rfl rfl ?_
    refine K_put (fs2 := [.ref 51, .ref 57, .ref 82, .ref 83, .ref ke, .int (zI fd), .int (zI ve)]) dX7_exists_22 fw_X7_25 hk81 (Nat.le_of_ble_eq_true rfl) (fun _ => ⟨rfl, rfl⟩) rfl ?_
    refine J_aload_n dX7_exists_25 rfl rfl ?_
    refine J_get (v := .ref 51) dX7_exists_26 fl_X7_29 rfl rfl ?_
    refine J_callV (st := []) dX7_exists_29 cv_X7_37 (g_many many places hk51) hk51 rfl rfl (Nat.le_of_ble_eq_true rfl) ⟨(Nat.le_of_ble_eq_true rfl), (Nat.le_of_ble_eq_true rfl)⟩ ⟨(Nat.le_of_ble_eq_true rfl), (by show (0 : Nat) + 0 ≤ (S).toNat; omega)⟩ (fun r h9 hp => ?_)
    obtain ⟨rfl, rfl⟩ := hp
    refine J_nf (nh2 := nh) (ck2 := 0) (sk2 := 0) (st2 := [.int (zI many)]) rfl rfl rfl rfl ?_
    refine J_istore_n dX7_exists_32 rfl (Nat.le_of_ble_eq_true rfl) rfl ?_
    refine J_ls (ls2 := [some (.ref 81), some (.int (zI many))]) rfl ?_
    refine J_aload_n dX7_exists_33 rfl rfl ?_
    refine Z_iconst (n := 0) dX7_exists_34 ?_
    refine K_put (fs2 := [.ref 51, .ref 57, .ref 82, .ref 83, .ref ke, .int (zI 0), .int (zI ve)]) dX7_exists_35 fw_X7_21 rfl (Nat.le_of_ble_eq_true rfl) (jbz v_939070ca3f v_316afd7d0b) rfl ?_
    refine J_iload_n dX7_exists_38 rfl rfl ?_
    refine Z_iconst (n := 1) dX7_exists_39 ?_
    refine Z_icmp_le (tgt := 79) dX7_exists_40 (by decide) (v_81c6732ede q6 q7) v_4dcc24baa7 (fun h2 => ?_) (fun h2 => ?_)
    · refine J_aload_n dX7_exists_79 rfl rfl ?_
      refine J_get (v := .int (zI 0)) dX7_exists_80 fl_X7_21 rfl rfl ?_
      refine Z_if_eq (tgt := 91) dX7_exists_83 (by decide) v_b17331891f (fun h3 => ?_) (fun h3 => absurd h3 (fun q => q v_2ca2bbca1f))
      refine J_aload_n dX7_exists_91 rfl rfl ?_
      refine J_get (v := .int (zI 0)) dX7_exists_92 fl_X7_21 rfl rfl ?_
      refine J_mask (L2 := [(81, .inr (7, [.ref 51, .ref 57, .ref 82, .ref 83, .ref ke, .int (zI 0), .int (zI ve)]))]) (ks := [81, 81]) [true, false] rfl (by decide +kernel) rfl ?_
      refine J_touch (k := ks) (e := .inl (0, (ns).toNat, .inl (zA sf))) (hcn (q0 81 (by decide)) hkks) ?_
      refine J_touch (k := 62) (e := .inl (0, 1260, .inl (zA df))) (hcn (Ne.symm (q0 62 (by decide))) (hcn (by decide) hk62)) ?_
      refine J_touch (k := ke) (e := .inl (0, (ne).toNat, .inl (zA ef))) (hcn (q34 62 (by decide)) (hcn q33 (hcn (q34 81 (by decide)) hkke))) ?_
      refine J_touch (k := 83) (e := .inl (0, 14, .inl (zA rd))) (hcn (Ne.symm (q34 83 (by decide))) (hcn (by decide) (hcn (Ne.symm (q0 83 (by decide))) (hcn (by decide) hk83)))) ?_
      refine J_touch (k := 82) (e := .inl (0, 14, .inl (zA nx))) (hcn (by decide) (hcn (Ne.symm (q34 82 (by decide))) (hcn (by decide) (hcn (Ne.symm (q0 82 (by decide))) (hcn (by decide) hk82))))) ?_
      refine J_touch (k := 81) (e := .inr (7, [.ref 51, .ref 57, .ref 82, .ref 83, .ref ke, .int (zI 0), .int (zI ve)])) (hcn (by decide) (hcn (by decide) (hcn (Ne.symm (q34 81 (by decide))) (hcn (by decide) (hcn (Ne.symm (q0 81 (by decide))) hch))))) ?_
      refine J_dupc (A := [(81, .inr (7, [.ref 51, .ref 57, .ref 82, .ref 83, .ref ke, .int (zI 0), .int (zI ve)])), (82, .inl (0, 14, .inl (zA nx))), (83, .inl (0, 14, .inl (zA rd))), (ke, .inl (0, (ne).toNat, .inl (zA ef))), (62, .inl (0, 1260, .inl (zA df))), (ks, .inl (0, (ns).toNat, .inl (zA sf)))]) (B := []) (L2 := [(81, .inr (7, [.ref 51, .ref 57, .ref 82, .ref 83, .ref ke, .int (zI 0), .int (zI ve)])), (82, .inl (0, 14, .inl (zA nx))), (83, .inl (0, 14, .inl (zA rd))), (ke, .inl (0, (ne).toNat, .inl (zA ef))), (62, .inl (0, 1260, .inl (zA df))), (ks, .inl (0, (ns).toNat, .inl (zA sf)))]) (k := 81) (c := .inr (7, [.ref 51, .ref 57, .ref 82, .ref 83, .ref ke, .int (zI 0), .int (zI ve)])) (e := .inr (7, [.ref 51, .ref 57, .ref 82, .ref 83, .ref ke, .int (zI 0), .int (zI ve)])) rfl rfl (List.mem_of_getElem? (i := 0) rfl) ?_
      exact J_iret dX7_exists_95 rfl (jbn v_939070ca3f v_316afd7d0b) (Nat.le_of_ble_eq_true rfl) (by show (0 : Nat) ≤ (S).toNat; omega) ⟨0, ke, nh, ef, ne, nx, rd, 0, ve, df, sf, rfl, rfl, v_939070ca3f, v_316afd7d0b, q34, q33, q37, (NLe.refl _), (Or.inl rfl), q39, q38, q40, q41, v_939070ca3f, v_316afd7d0b, q5, (Or.inl ⟨rfl, rfl⟩), q31, q32⟩
    · refine J_iload_n dX7_exists_43 rfl rfl ?_
      refine Z_bipush (n := 14) dX7_exists_44 (by decide +kernel) ?_
      refine Z_icmp_gt (tgt := 79) dX7_exists_46 (by decide) (v_af4055d7b7 q7 h2) v_2a4719925a (fun h4 => ?_) (fun h4 => ?_)
      · refine J_aload_n dX7_exists_79 rfl rfl ?_
        refine J_get (v := .int (zI 0)) dX7_exists_80 fl_X7_21 rfl rfl ?_
        refine Z_if_eq (tgt := 91) dX7_exists_83 (by decide) v_b17331891f (fun h5 => ?_) (fun h5 => absurd h5 (fun q => q v_2ca2bbca1f))
        refine J_aload_n dX7_exists_91 rfl rfl ?_
        refine J_get (v := .int (zI 0)) dX7_exists_92 fl_X7_21 rfl rfl ?_
        refine J_mask (L2 := [(81, .inr (7, [.ref 51, .ref 57, .ref 82, .ref 83, .ref ke, .int (zI 0), .int (zI ve)]))]) (ks := [81, 81]) [true, false] rfl (by decide +kernel) rfl ?_
        refine J_touch (k := ks) (e := .inl (0, (ns).toNat, .inl (zA sf))) (hcn (q0 81 (by decide)) hkks) ?_
        refine J_touch (k := 62) (e := .inl (0, 1260, .inl (zA df))) (hcn (Ne.symm (q0 62 (by decide))) (hcn (by decide) hk62)) ?_
        refine J_touch (k := ke) (e := .inl (0, (ne).toNat, .inl (zA ef))) (hcn (q34 62 (by decide)) (hcn q33 (hcn (q34 81 (by decide)) hkke))) ?_
        refine J_touch (k := 83) (e := .inl (0, 14, .inl (zA rd))) (hcn (Ne.symm (q34 83 (by decide))) (hcn (by decide) (hcn (Ne.symm (q0 83 (by decide))) (hcn (by decide) hk83)))) ?_
        refine J_touch (k := 82) (e := .inl (0, 14, .inl (zA nx))) (hcn (by decide) (hcn (Ne.symm (q34 82 (by decide))) (hcn (by decide) (hcn (Ne.symm (q0 82 (by decide))) (hcn (by decide) hk82))))) ?_
        refine J_touch (k := 81) (e := .inr (7, [.ref 51, .ref 57, .ref 82, .ref 83, .ref ke, .int (zI 0), .int (zI ve)])) (hcn (by decide) (hcn (by decide) (hcn (Ne.symm (q34 81 (by decide))) (hcn (by decide) (hcn (Ne.symm (q0 81 (by decide))) hch))))) ?_
        refine J_dupc (A := [(81, .inr (7, [.ref 51, .ref 57, .ref 82, .ref 83, .ref ke, .int (zI 0), .int (zI ve)])), (82, .inl (0, 14, .inl (zA nx))), (83, .inl (0, 14, .inl (zA rd))), (ke, .inl (0, (ne).toNat, .inl (zA ef))), (62, .inl (0, 1260, .inl (zA df))), (ks, .inl (0, (ns).toNat, .inl (zA sf)))]) (B := []) (L2 := [(81, .inr (7, [.ref 51, .ref 57, .ref 82, .ref 83, .ref ke, .int (zI 0), .int (zI ve)])), (82, .inl (0, 14, .inl (zA nx))), (83, .inl (0, 14, .inl (zA rd))), (ke, .inl (0, (ne).toNat, .inl (zA ef))), (62, .inl (0, 1260, .inl (zA df))), (ks, .inl (0, (ns).toNat, .inl (zA sf)))]) (k := 81) (c := .inr (7, [.ref 51, .ref 57, .ref 82, .ref 83, .ref ke, .int (zI 0), .int (zI ve)])) (e := .inr (7, [.ref 51, .ref 57, .ref 82, .ref 83, .ref ke, .int (zI 0), .int (zI ve)])) rfl rfl (List.mem_of_getElem? (i := 0) rfl) ?_
        exact J_iret dX7_exists_95 rfl (jbn v_939070ca3f v_316afd7d0b) (Nat.le_of_ble_eq_true rfl) (by show (0 : Nat) ≤ (S).toNat; omega) ⟨0, ke, nh, ef, ne, nx, rd, 0, ve, df, sf, rfl, rfl, v_939070ca3f, v_316afd7d0b, q34, q33, q37, (NLe.refl _), (Or.inl rfl), q39, q38, q40, q41, v_939070ca3f, v_316afd7d0b, q5, (Or.inl ⟨rfl, rfl⟩), q31, q32⟩
      · refine J_aload_n dX7_exists_49 rfl rfl ?_
        refine J_iload_n dX7_exists_50 rfl rfl ?_
        refine J_callV (st := []) dX7_exists_51 cv_X7_47 (r_gatherNexts ks ve ss vs many places ff rf lc fo wc cc sc wa wb tf df sf ns vf ke 0 ve nx q0 q1 q2 q3 q4 q5 q6 q7 q8 q9 q10 q11 q12 q13 q14 q15 q16 q17 q18 q19 q20 q21 q22 q23 q24 q25 q26 q27 q28 q29 q30 q31 q32 (v_fd1ff53b5c h4) q41 hk57 hk51 hk52 hk1 hk3 hk11 hk12 hk62 (hcn (q0 81 (by decide)) (hcn (q0 81 (by decide)) hkks)) hk64 rfl hk82) rfl rfl rfl (Nat.le_of_ble_eq_true rfl) ⟨(Nat.le_of_ble_eq_true rfl), (Nat.le_of_ble_eq_true rfl)⟩ ⟨(Nat.le_of_ble_eq_true rfl), (by show (0 : Nat) + 0 ≤ (S).toNat; omega)⟩ (fun r h9 hp => ?_)
        obtain ⟨f6, f7, f8, rfl, rfl, h9, h10, h11⟩ := hp
        refine J_nf (nh2 := nh) (ck2 := 0) (sk2 := 0) (st2 := []) rfl rfl rfl rfl ?_
        refine J_app (L3 := [(82, .inl (0, 14, .inl (zA f6))), (62, .inl (0, 1260, .inl (zA f7))), (ks, .inl (0, (ns).toNat, .inl (zA f8))), (81, .inr (7, [.ref 51, .ref 57, .ref 82, .ref 83, .ref ke, .int (zI 0), .int (zI ve)])), (81, .inr (7, [.ref 51, .ref 57, .ref 82, .ref 83, .ref ke, .int (zI fd), .int (zI ve)]))]) rfl ?_
        refine J_dupc (A := [(82, .inl (0, 14, .inl (zA f6))), (62, .inl (0, 1260, .inl (zA f7))), (ks, .inl (0, (ns).toNat, .inl (zA f8))), (81, .inr (7, [.ref 51, .ref 57, .ref 82, .ref 83, .ref ke, .int (zI 0), .int (zI ve)]))]) (B := []) (L2 := [(82, .inl (0, 14, .inl (zA f6))), (62, .inl (0, 1260, .inl (zA f7))), (ks, .inl (0, (ns).toNat, .inl (zA f8))), (81, .inr (7, [.ref 51, .ref 57, .ref 82, .ref 83, .ref ke, .int (zI 0), .int (zI ve)]))]) (k := 81) (c := .inr (7, [.ref 51, .ref 57, .ref 82, .ref 83, .ref ke, .int (zI fd), .int (zI ve)])) (e := .inr (7, [.ref 51, .ref 57, .ref 82, .ref 83, .ref ke, .int (zI 0), .int (zI ve)])) rfl rfl (List.mem_of_getElem? (i := 3) rfl) ?_
        have g12 := P2_rng (n := many) (v_b80becc89d h2) (v_fd1ff53b5c h4)
        refine J_aload_n dX7_exists_54 rfl rfl ?_
        refine J_iload_n dX7_exists_55 rfl rfl ?_
        refine J_callV (st := []) dX7_exists_56 cv_X7_51 (r_gatherEnds S many ke 0 ve ef ne f6 (v_b80becc89d h2) (v_fd1ff53b5c h4) q38 q39 q40 h9 q34 q35 q37 q45 q46 (hcn (by decide) (hcn (by decide) (hcn (Ne.symm (q0 81 (by decide))) hch))) rfl (hcn (q34 82 (by decide)) (hcn (q34 62 (by decide)) (hcn q33 (hcn (q34 81 (by decide)) hkke))))) (hcn (by decide) (hcn (by decide) (hcn (Ne.symm (q0 81 (by decide))) hch))) rfl rfl (Nat.le_of_ble_eq_true rfl) ⟨(Nat.le_of_ble_eq_true rfl), (Nat.le_of_ble_eq_true rfl)⟩ ⟨(Nat.le_of_ble_eq_true rfl), (by show (0 : Nat) + ((S).toNat) ≤ (S).toNat; omega)⟩ (fun r h9 hp => ?_)
        obtain ⟨k13, k14, f15, z16, rfl, rfl, h17, h18, h19, h20, h21, h22, h23, h24⟩ := hp
        refine J_nf (nh2 := k14) (ck2 := 1) (sk2 := (S).toNat) (st2 := []) rfl rfl (Nat.zero_add _) rfl ?_
        refine J_app (L3 := [(81, .inr (7, [.ref 51, .ref 57, .ref 82, .ref 83, .ref k13, .int (zI 0), .int (zI ve)])), (k13, .inl (0, (z16).toNat, .inl (zA f15))), (82, .inl (0, 14, .inl (zA f6))), (62, .inl (0, 1260, .inl (zA f7))), (ks, .inl (0, (ns).toNat, .inl (zA f8))), (81, .inr (7, [.ref 51, .ref 57, .ref 82, .ref 83, .ref ke, .int (zI 0), .int (zI ve)]))]) rfl ?_
        refine J_dupc (A := [(81, .inr (7, [.ref 51, .ref 57, .ref 82, .ref 83, .ref k13, .int (zI 0), .int (zI ve)])), (k13, .inl (0, (z16).toNat, .inl (zA f15))), (82, .inl (0, 14, .inl (zA f6))), (62, .inl (0, 1260, .inl (zA f7))), (ks, .inl (0, (ns).toNat, .inl (zA f8)))]) (B := []) (L2 := [(81, .inr (7, [.ref 51, .ref 57, .ref 82, .ref 83, .ref k13, .int (zI 0), .int (zI ve)])), (k13, .inl (0, (z16).toNat, .inl (zA f15))), (82, .inl (0, 14, .inl (zA f6))), (62, .inl (0, 1260, .inl (zA f7))), (ks, .inl (0, (ns).toNat, .inl (zA f8)))]) (k := 81) (c := .inr (7, [.ref 51, .ref 57, .ref 82, .ref 83, .ref ke, .int (zI 0), .int (zI ve)])) (e := .inr (7, [.ref 51, .ref 57, .ref 82, .ref 83, .ref k13, .int (zI 0), .int (zI ve)])) rfl rfl (List.mem_of_getElem? (i := 0) rfl) ?_
        refine J_aload_n dX7_exists_59 rfl rfl ?_
        refine J_aload_n dX7_exists_60 rfl rfl ?_
        refine J_get (v := .ref k13) dX7_exists_61 fl_X7_18 rfl rfl ?_
        refine Z_iconst (n := 1) dX7_exists_64 ?_
        obtain ⟨z25, ez25⟩ : ∃ z : Int, f15 1 = z := ⟨_, rfl⟩
        have h26 := Rg.at h23 v_316afd7d0b (v_b7af36be0d g12.1 h21) ez25
        refine Y_iald (z := z25) z16 dX7_exists_65 (hcn (h17 81 (by decide)) hch) (Int.toNat_of_nonneg (v_c0afb76323 g12.1 h21)) (v_54640227a3 h22) v_316afd7d0b (v_b7af36be0d g12.1 h21) ez25 ?_
        refine Z_iconst (n := 1) dX7_exists_66 ?_
        obtain ⟨z27, ez27⟩ : ∃ z : Int, zand z25 1 = z := ⟨_, rfl⟩
        refine Y_iand (z := z27) dX7_exists_67 ez27 ?_
        have h28 : zr z27 := by rw [← ez27]; exact zr_toInt _
        have h29 : 0 ≤ z27 ∧ z27 ≤ 1 := zand_mask 1 (by decide) (by decide +kernel) (by decide) ez27
        refine Z_if_eq (tgt := 75) dX7_exists_68 (by decide) (v_5f10a759cd h29.1 h29.2) (fun h30 => ?_) (fun h30 => ?_)
        · refine Z_iconst (n := 0) dX7_exists_75 ?_
          refine K_put (fs2 := [.ref 51, .ref 57, .ref 82, .ref 83, .ref k13, .int (zI 0), .int (zI ve)]) dX7_exists_76 fw_X7_21 rfl (Nat.le_of_ble_eq_true rfl) (jbz v_939070ca3f v_316afd7d0b) rfl ?_
          refine J_aload_n dX7_exists_79 rfl rfl ?_
          refine J_get (v := .int (zI 0)) dX7_exists_80 fl_X7_21 rfl rfl ?_
          refine Z_if_eq (tgt := 91) dX7_exists_83 (by decide) v_b17331891f (fun h31 => ?_) (fun h31 => absurd h31 (fun q => q v_2ca2bbca1f))
          refine J_aload_n dX7_exists_91 rfl rfl ?_
          refine J_get (v := .int (zI 0)) dX7_exists_92 fl_X7_21 rfl rfl ?_
          refine J_dupc (A := [(81, .inr (7, [.ref 51, .ref 57, .ref 82, .ref 83, .ref k13, .int (zI 0), .int (zI ve)]))]) (B := [(k13, .inl (0, (z16).toNat, .inl (zA f15))), (82, .inl (0, 14, .inl (zA f6))), (62, .inl (0, 1260, .inl (zA f7))), (ks, .inl (0, (ns).toNat, .inl (zA f8)))]) (L2 := [(81, .inr (7, [.ref 51, .ref 57, .ref 82, .ref 83, .ref k13, .int (zI 0), .int (zI ve)])), (k13, .inl (0, (z16).toNat, .inl (zA f15))), (82, .inl (0, 14, .inl (zA f6))), (62, .inl (0, 1260, .inl (zA f7))), (ks, .inl (0, (ns).toNat, .inl (zA f8)))]) (k := 81) (c := .inr (7, [.ref 51, .ref 57, .ref 82, .ref 83, .ref k13, .int (zI 0), .int (zI ve)])) (e := .inr (7, [.ref 51, .ref 57, .ref 82, .ref 83, .ref k13, .int (zI 0), .int (zI ve)])) rfl rfl (List.mem_of_getElem? (i := 0) rfl) ?_
          refine J_touch (k := ks) (e := .inl (0, (ns).toNat, .inl (zA f8))) (hcn (q0 81 (by decide)) (hcn (NNe.symm (NOld.ne h20 q33 q36)) (hcn (q0 82 (by decide)) (hcn (q0 62 (by decide)) hch)))) ?_
          refine J_touch (k := 62) (e := .inl (0, 1260, .inl (zA f7))) (hcn (Ne.symm (q0 62 (by decide))) (hcn (by decide) (hcn (Ne.symm (h17 62 (by decide))) (hcn (by decide) hch)))) ?_
          refine J_touch (k := k13) (e := .inl (0, (z16).toNat, .inl (zA f15))) (hcn (h17 62 (by decide)) (hcn (NOld.ne h20 q33 q36) (hcn (h17 81 (by decide)) hch))) ?_
          refine J_touch (k := 83) (e := .inl (0, 14, .inl (zA rd))) (hcn (Ne.symm (h17 83 (by decide))) (hcn (by decide) (hcn (Ne.symm (q0 83 (by decide))) (hcn (by decide) (hcn (Ne.symm (h17 83 (by decide))) (hcn (by decide) (hcn (by decide) (hcn (Ne.symm (q0 83 (by decide))) hk83)))))))) ?_
          refine J_touch (k := 82) (e := .inl (0, 14, .inl (zA f6))) (hcn (by decide) (hcn (Ne.symm (h17 82 (by decide))) (hcn (by decide) (hcn (Ne.symm (q0 82 (by decide))) (hcn (by decide) (hcn (Ne.symm (h17 82 (by decide))) hch)))))) ?_
          refine J_touch (k := 81) (e := .inr (7, [.ref 51, .ref 57, .ref 82, .ref 83, .ref k13, .int (zI 0), .int (zI ve)])) (hcn (by decide) (hcn (by decide) (hcn (Ne.symm (h17 81 (by decide))) (hcn (by decide) (hcn (Ne.symm (q0 81 (by decide))) hch))))) ?_
          refine J_dupc (A := [(81, .inr (7, [.ref 51, .ref 57, .ref 82, .ref 83, .ref k13, .int (zI 0), .int (zI ve)])), (82, .inl (0, 14, .inl (zA f6))), (83, .inl (0, 14, .inl (zA rd))), (k13, .inl (0, (z16).toNat, .inl (zA f15))), (62, .inl (0, 1260, .inl (zA f7))), (ks, .inl (0, (ns).toNat, .inl (zA f8)))]) (B := [(k13, .inl (0, (z16).toNat, .inl (zA f15))), (82, .inl (0, 14, .inl (zA f6))), (62, .inl (0, 1260, .inl (zA f7))), (ks, .inl (0, (ns).toNat, .inl (zA f8)))]) (L2 := [(81, .inr (7, [.ref 51, .ref 57, .ref 82, .ref 83, .ref k13, .int (zI 0), .int (zI ve)])), (82, .inl (0, 14, .inl (zA f6))), (83, .inl (0, 14, .inl (zA rd))), (k13, .inl (0, (z16).toNat, .inl (zA f15))), (62, .inl (0, 1260, .inl (zA f7))), (ks, .inl (0, (ns).toNat, .inl (zA f8))), (k13, .inl (0, (z16).toNat, .inl (zA f15))), (82, .inl (0, 14, .inl (zA f6))), (62, .inl (0, 1260, .inl (zA f7))), (ks, .inl (0, (ns).toNat, .inl (zA f8)))]) (k := 81) (c := .inr (7, [.ref 51, .ref 57, .ref 82, .ref 83, .ref k13, .int (zI 0), .int (zI ve)])) (e := .inr (7, [.ref 51, .ref 57, .ref 82, .ref 83, .ref k13, .int (zI 0), .int (zI ve)])) rfl rfl (List.mem_of_getElem? (i := 0) rfl) ?_
          refine J_dupc (A := [(81, .inr (7, [.ref 51, .ref 57, .ref 82, .ref 83, .ref k13, .int (zI 0), .int (zI ve)])), (82, .inl (0, 14, .inl (zA f6))), (83, .inl (0, 14, .inl (zA rd))), (k13, .inl (0, (z16).toNat, .inl (zA f15))), (62, .inl (0, 1260, .inl (zA f7))), (ks, .inl (0, (ns).toNat, .inl (zA f8)))]) (B := [(82, .inl (0, 14, .inl (zA f6))), (62, .inl (0, 1260, .inl (zA f7))), (ks, .inl (0, (ns).toNat, .inl (zA f8)))]) (L2 := [(81, .inr (7, [.ref 51, .ref 57, .ref 82, .ref 83, .ref k13, .int (zI 0), .int (zI ve)])), (82, .inl (0, 14, .inl (zA f6))), (83, .inl (0, 14, .inl (zA rd))), (k13, .inl (0, (z16).toNat, .inl (zA f15))), (62, .inl (0, 1260, .inl (zA f7))), (ks, .inl (0, (ns).toNat, .inl (zA f8))), (82, .inl (0, 14, .inl (zA f6))), (62, .inl (0, 1260, .inl (zA f7))), (ks, .inl (0, (ns).toNat, .inl (zA f8)))]) (k := k13) (c := .inl (0, (z16).toNat, .inl (zA f15))) (e := .inl (0, (z16).toNat, .inl (zA f15))) rfl rfl (List.mem_of_getElem? (i := 3) rfl) ?_
          refine J_dupc (A := [(81, .inr (7, [.ref 51, .ref 57, .ref 82, .ref 83, .ref k13, .int (zI 0), .int (zI ve)])), (82, .inl (0, 14, .inl (zA f6))), (83, .inl (0, 14, .inl (zA rd))), (k13, .inl (0, (z16).toNat, .inl (zA f15))), (62, .inl (0, 1260, .inl (zA f7))), (ks, .inl (0, (ns).toNat, .inl (zA f8)))]) (B := [(62, .inl (0, 1260, .inl (zA f7))), (ks, .inl (0, (ns).toNat, .inl (zA f8)))]) (L2 := [(81, .inr (7, [.ref 51, .ref 57, .ref 82, .ref 83, .ref k13, .int (zI 0), .int (zI ve)])), (82, .inl (0, 14, .inl (zA f6))), (83, .inl (0, 14, .inl (zA rd))), (k13, .inl (0, (z16).toNat, .inl (zA f15))), (62, .inl (0, 1260, .inl (zA f7))), (ks, .inl (0, (ns).toNat, .inl (zA f8))), (62, .inl (0, 1260, .inl (zA f7))), (ks, .inl (0, (ns).toNat, .inl (zA f8)))]) (k := 82) (c := .inl (0, 14, .inl (zA f6))) (e := .inl (0, 14, .inl (zA f6))) rfl rfl (List.mem_of_getElem? (i := 1) rfl) ?_
          refine J_dupc (A := [(81, .inr (7, [.ref 51, .ref 57, .ref 82, .ref 83, .ref k13, .int (zI 0), .int (zI ve)])), (82, .inl (0, 14, .inl (zA f6))), (83, .inl (0, 14, .inl (zA rd))), (k13, .inl (0, (z16).toNat, .inl (zA f15))), (62, .inl (0, 1260, .inl (zA f7))), (ks, .inl (0, (ns).toNat, .inl (zA f8)))]) (B := [(ks, .inl (0, (ns).toNat, .inl (zA f8)))]) (L2 := [(81, .inr (7, [.ref 51, .ref 57, .ref 82, .ref 83, .ref k13, .int (zI 0), .int (zI ve)])), (82, .inl (0, 14, .inl (zA f6))), (83, .inl (0, 14, .inl (zA rd))), (k13, .inl (0, (z16).toNat, .inl (zA f15))), (62, .inl (0, 1260, .inl (zA f7))), (ks, .inl (0, (ns).toNat, .inl (zA f8))), (ks, .inl (0, (ns).toNat, .inl (zA f8)))]) (k := 62) (c := .inl (0, 1260, .inl (zA f7))) (e := .inl (0, 1260, .inl (zA f7))) rfl rfl (List.mem_of_getElem? (i := 4) rfl) ?_
          refine J_dupc (A := [(81, .inr (7, [.ref 51, .ref 57, .ref 82, .ref 83, .ref k13, .int (zI 0), .int (zI ve)])), (82, .inl (0, 14, .inl (zA f6))), (83, .inl (0, 14, .inl (zA rd))), (k13, .inl (0, (z16).toNat, .inl (zA f15))), (62, .inl (0, 1260, .inl (zA f7))), (ks, .inl (0, (ns).toNat, .inl (zA f8)))]) (B := []) (L2 := [(81, .inr (7, [.ref 51, .ref 57, .ref 82, .ref 83, .ref k13, .int (zI 0), .int (zI ve)])), (82, .inl (0, 14, .inl (zA f6))), (83, .inl (0, 14, .inl (zA rd))), (k13, .inl (0, (z16).toNat, .inl (zA f15))), (62, .inl (0, 1260, .inl (zA f7))), (ks, .inl (0, (ns).toNat, .inl (zA f8)))]) (k := ks) (c := .inl (0, (ns).toNat, .inl (zA f8))) (e := .inl (0, (ns).toNat, .inl (zA f8))) rfl rfl (List.mem_of_getElem? (i := 5) rfl) ?_
          exact J_iret dX7_exists_95 rfl (jbn v_939070ca3f v_316afd7d0b) (Nat.le_of_ble_eq_true rfl) (by show ((S).toNat : Nat) ≤ (S).toNat; omega) ⟨0, k13, k14, f15, z16, f6, rd, 0, ve, f7, f8, rfl, rfl, v_939070ca3f, v_316afd7d0b, h17, (NOld.ne h20 q33 q36), h18, h19, h20, h22, (v_c0afb76323 g12.1 h21), h23, h9, v_939070ca3f, v_316afd7d0b, q5, (h24), h10, h11⟩
        · refine Z_iconst (n := 1) dX7_exists_71 ?_
          refine J_goto (tgt := 76) dX7_exists_72 (by decide) ?_
          refine K_put (fs2 := [.ref 51, .ref 57, .ref 82, .ref 83, .ref k13, .int (zI 1), .int (zI ve)]) dX7_exists_76 fw_X7_21 rfl (Nat.le_of_ble_eq_true rfl) (jbz v_316afd7d0b v_bbcfac9b7d) rfl ?_
          refine J_aload_n dX7_exists_79 rfl rfl ?_
          refine J_get (v := .int (zI 1)) dX7_exists_80 fl_X7_21 rfl rfl ?_
          refine Z_if_eq (tgt := 91) dX7_exists_83 (by decide) v_4dcc24baa7 (fun h32 => absurd h32 v_3a47bfd896) (fun h32 => ?_)
          refine J_aload_n dX7_exists_86 rfl rfl ?_
          refine J_iload_n dX7_exists_87 rfl rfl ?_
          refine J_callV (st := []) dX7_exists_88 cv_X7_54 (r_goRound many k13 1 ve f15 z16 f6 rd (v_b80becc89d h2) (v_fd1ff53b5c h4) h21 h22 h23 h9 h17 rfl (hcn (by decide) (hcn (by decide) (hcn (Ne.symm (h17 82 (by decide))) hch))) (hcn (h17 81 (by decide)) (hcn (h17 81 (by decide)) hch)) (hcn (by decide) (hcn (by decide) (hcn (Ne.symm (h17 83 (by decide))) (hcn (by decide) (hcn (by decide) (hcn (Ne.symm (q0 83 (by decide))) hk83))))))) rfl rfl rfl (Nat.le_of_ble_eq_true rfl) ⟨(Nat.le_of_ble_eq_true rfl), (Nat.le_of_ble_eq_true rfl)⟩ ⟨(Nat.le_of_ble_eq_true rfl), (by show ((S).toNat : Nat) + 0 ≤ (S).toNat; omega)⟩ (fun r h9 hp => ?_)
          obtain ⟨f33, rfl, rfl⟩ := hp
          refine J_nf (nh2 := k14) (ck2 := 1) (sk2 := (S).toNat) (st2 := []) rfl rfl rfl rfl ?_
          refine J_app (L3 := [(83, .inl (0, 14, .inl (zA f33))), (81, .inr (7, [.ref 51, .ref 57, .ref 82, .ref 83, .ref k13, .int (zI 1), .int (zI ve)])), (81, .inr (7, [.ref 51, .ref 57, .ref 82, .ref 83, .ref k13, .int (zI 0), .int (zI ve)])), (k13, .inl (0, (z16).toNat, .inl (zA f15))), (82, .inl (0, 14, .inl (zA f6))), (62, .inl (0, 1260, .inl (zA f7))), (ks, .inl (0, (ns).toNat, .inl (zA f8)))]) rfl ?_
          refine J_dupc (A := [(83, .inl (0, 14, .inl (zA f33))), (81, .inr (7, [.ref 51, .ref 57, .ref 82, .ref 83, .ref k13, .int (zI 1), .int (zI ve)]))]) (B := [(k13, .inl (0, (z16).toNat, .inl (zA f15))), (82, .inl (0, 14, .inl (zA f6))), (62, .inl (0, 1260, .inl (zA f7))), (ks, .inl (0, (ns).toNat, .inl (zA f8)))]) (L2 := [(83, .inl (0, 14, .inl (zA f33))), (81, .inr (7, [.ref 51, .ref 57, .ref 82, .ref 83, .ref k13, .int (zI 1), .int (zI ve)])), (k13, .inl (0, (z16).toNat, .inl (zA f15))), (82, .inl (0, 14, .inl (zA f6))), (62, .inl (0, 1260, .inl (zA f7))), (ks, .inl (0, (ns).toNat, .inl (zA f8)))]) (k := 81) (c := .inr (7, [.ref 51, .ref 57, .ref 82, .ref 83, .ref k13, .int (zI 0), .int (zI ve)])) (e := .inr (7, [.ref 51, .ref 57, .ref 82, .ref 83, .ref k13, .int (zI 1), .int (zI ve)])) rfl rfl (List.mem_of_getElem? (i := 1) rfl) ?_
          refine J_aload_n dX7_exists_91 rfl rfl ?_
          refine J_get (v := .int (zI 1)) dX7_exists_92 fl_X7_21 rfl rfl ?_
          refine J_touch (k := ks) (e := .inl (0, (ns).toNat, .inl (zA f8))) (hcn (q0 83 (by decide)) (hcn (q0 81 (by decide)) (hcn (NNe.symm (NOld.ne h20 q33 q36)) (hcn (q0 82 (by decide)) (hcn (q0 62 (by decide)) hch))))) ?_
          refine J_touch (k := 62) (e := .inl (0, 1260, .inl (zA f7))) (hcn (Ne.symm (q0 62 (by decide))) (hcn (by decide) (hcn (by decide) (hcn (Ne.symm (h17 62 (by decide))) (hcn (by decide) hch))))) ?_
          refine J_touch (k := k13) (e := .inl (0, (z16).toNat, .inl (zA f15))) (hcn (h17 62 (by decide)) (hcn (NOld.ne h20 q33 q36) (hcn (h17 83 (by decide)) (hcn (h17 81 (by decide)) hch)))) ?_
          refine J_touch (k := 83) (e := .inl (0, 14, .inl (zA f33))) (hcn (Ne.symm (h17 83 (by decide))) (hcn (by decide) (hcn (Ne.symm (q0 83 (by decide))) hch))) ?_
          refine J_touch (k := 82) (e := .inl (0, 14, .inl (zA f6))) (hcn (by decide) (hcn (Ne.symm (h17 82 (by decide))) (hcn (by decide) (hcn (Ne.symm (q0 82 (by decide))) (hcn (by decide) (hcn (by decide) (hcn (Ne.symm (h17 82 (by decide))) hch))))))) ?_
          refine J_touch (k := 81) (e := .inr (7, [.ref 51, .ref 57, .ref 82, .ref 83, .ref k13, .int (zI 1), .int (zI ve)])) (hcn (by decide) (hcn (by decide) (hcn (Ne.symm (h17 81 (by decide))) (hcn (by decide) (hcn (Ne.symm (q0 81 (by decide))) (hcn (by decide) hch)))))) ?_
          refine J_dupc (A := [(81, .inr (7, [.ref 51, .ref 57, .ref 82, .ref 83, .ref k13, .int (zI 1), .int (zI ve)])), (82, .inl (0, 14, .inl (zA f6))), (83, .inl (0, 14, .inl (zA f33))), (k13, .inl (0, (z16).toNat, .inl (zA f15))), (62, .inl (0, 1260, .inl (zA f7))), (ks, .inl (0, (ns).toNat, .inl (zA f8)))]) (B := [(81, .inr (7, [.ref 51, .ref 57, .ref 82, .ref 83, .ref k13, .int (zI 1), .int (zI ve)])), (k13, .inl (0, (z16).toNat, .inl (zA f15))), (82, .inl (0, 14, .inl (zA f6))), (62, .inl (0, 1260, .inl (zA f7))), (ks, .inl (0, (ns).toNat, .inl (zA f8)))]) (L2 := [(81, .inr (7, [.ref 51, .ref 57, .ref 82, .ref 83, .ref k13, .int (zI 1), .int (zI ve)])), (82, .inl (0, 14, .inl (zA f6))), (83, .inl (0, 14, .inl (zA f33))), (k13, .inl (0, (z16).toNat, .inl (zA f15))), (62, .inl (0, 1260, .inl (zA f7))), (ks, .inl (0, (ns).toNat, .inl (zA f8))), (81, .inr (7, [.ref 51, .ref 57, .ref 82, .ref 83, .ref k13, .int (zI 1), .int (zI ve)])), (k13, .inl (0, (z16).toNat, .inl (zA f15))), (82, .inl (0, 14, .inl (zA f6))), (62, .inl (0, 1260, .inl (zA f7))), (ks, .inl (0, (ns).toNat, .inl (zA f8)))]) (k := 83) (c := .inl (0, 14, .inl (zA f33))) (e := .inl (0, 14, .inl (zA f33))) rfl rfl (List.mem_of_getElem? (i := 2) rfl) ?_
          refine J_dupc (A := [(81, .inr (7, [.ref 51, .ref 57, .ref 82, .ref 83, .ref k13, .int (zI 1), .int (zI ve)])), (82, .inl (0, 14, .inl (zA f6))), (83, .inl (0, 14, .inl (zA f33))), (k13, .inl (0, (z16).toNat, .inl (zA f15))), (62, .inl (0, 1260, .inl (zA f7))), (ks, .inl (0, (ns).toNat, .inl (zA f8)))]) (B := [(k13, .inl (0, (z16).toNat, .inl (zA f15))), (82, .inl (0, 14, .inl (zA f6))), (62, .inl (0, 1260, .inl (zA f7))), (ks, .inl (0, (ns).toNat, .inl (zA f8)))]) (L2 := [(81, .inr (7, [.ref 51, .ref 57, .ref 82, .ref 83, .ref k13, .int (zI 1), .int (zI ve)])), (82, .inl (0, 14, .inl (zA f6))), (83, .inl (0, 14, .inl (zA f33))), (k13, .inl (0, (z16).toNat, .inl (zA f15))), (62, .inl (0, 1260, .inl (zA f7))), (ks, .inl (0, (ns).toNat, .inl (zA f8))), (k13, .inl (0, (z16).toNat, .inl (zA f15))), (82, .inl (0, 14, .inl (zA f6))), (62, .inl (0, 1260, .inl (zA f7))), (ks, .inl (0, (ns).toNat, .inl (zA f8)))]) (k := 81) (c := .inr (7, [.ref 51, .ref 57, .ref 82, .ref 83, .ref k13, .int (zI 1), .int (zI ve)])) (e := .inr (7, [.ref 51, .ref 57, .ref 82, .ref 83, .ref k13, .int (zI 1), .int (zI ve)])) rfl rfl (List.mem_of_getElem? (i := 0) rfl) ?_
          refine J_dupc (A := [(81, .inr (7, [.ref 51, .ref 57, .ref 82, .ref 83, .ref k13, .int (zI 1), .int (zI ve)])), (82, .inl (0, 14, .inl (zA f6))), (83, .inl (0, 14, .inl (zA f33))), (k13, .inl (0, (z16).toNat, .inl (zA f15))), (62, .inl (0, 1260, .inl (zA f7))), (ks, .inl (0, (ns).toNat, .inl (zA f8)))]) (B := [(82, .inl (0, 14, .inl (zA f6))), (62, .inl (0, 1260, .inl (zA f7))), (ks, .inl (0, (ns).toNat, .inl (zA f8)))]) (L2 := [(81, .inr (7, [.ref 51, .ref 57, .ref 82, .ref 83, .ref k13, .int (zI 1), .int (zI ve)])), (82, .inl (0, 14, .inl (zA f6))), (83, .inl (0, 14, .inl (zA f33))), (k13, .inl (0, (z16).toNat, .inl (zA f15))), (62, .inl (0, 1260, .inl (zA f7))), (ks, .inl (0, (ns).toNat, .inl (zA f8))), (82, .inl (0, 14, .inl (zA f6))), (62, .inl (0, 1260, .inl (zA f7))), (ks, .inl (0, (ns).toNat, .inl (zA f8)))]) (k := k13) (c := .inl (0, (z16).toNat, .inl (zA f15))) (e := .inl (0, (z16).toNat, .inl (zA f15))) rfl rfl (List.mem_of_getElem? (i := 3) rfl) ?_
          refine J_dupc (A := [(81, .inr (7, [.ref 51, .ref 57, .ref 82, .ref 83, .ref k13, .int (zI 1), .int (zI ve)])), (82, .inl (0, 14, .inl (zA f6))), (83, .inl (0, 14, .inl (zA f33))), (k13, .inl (0, (z16).toNat, .inl (zA f15))), (62, .inl (0, 1260, .inl (zA f7))), (ks, .inl (0, (ns).toNat, .inl (zA f8)))]) (B := [(62, .inl (0, 1260, .inl (zA f7))), (ks, .inl (0, (ns).toNat, .inl (zA f8)))]) (L2 := [(81, .inr (7, [.ref 51, .ref 57, .ref 82, .ref 83, .ref k13, .int (zI 1), .int (zI ve)])), (82, .inl (0, 14, .inl (zA f6))), (83, .inl (0, 14, .inl (zA f33))), (k13, .inl (0, (z16).toNat, .inl (zA f15))), (62, .inl (0, 1260, .inl (zA f7))), (ks, .inl (0, (ns).toNat, .inl (zA f8))), (62, .inl (0, 1260, .inl (zA f7))), (ks, .inl (0, (ns).toNat, .inl (zA f8)))]) (k := 82) (c := .inl (0, 14, .inl (zA f6))) (e := .inl (0, 14, .inl (zA f6))) rfl rfl (List.mem_of_getElem? (i := 1) rfl) ?_
          refine J_dupc (A := [(81, .inr (7, [.ref 51, .ref 57, .ref 82, .ref 83, .ref k13, .int (zI 1), .int (zI ve)])), (82, .inl (0, 14, .inl (zA f6))), (83, .inl (0, 14, .inl (zA f33))), (k13, .inl (0, (z16).toNat, .inl (zA f15))), (62, .inl (0, 1260, .inl (zA f7))), (ks, .inl (0, (ns).toNat, .inl (zA f8)))]) (B := [(ks, .inl (0, (ns).toNat, .inl (zA f8)))]) (L2 := [(81, .inr (7, [.ref 51, .ref 57, .ref 82, .ref 83, .ref k13, .int (zI 1), .int (zI ve)])), (82, .inl (0, 14, .inl (zA f6))), (83, .inl (0, 14, .inl (zA f33))), (k13, .inl (0, (z16).toNat, .inl (zA f15))), (62, .inl (0, 1260, .inl (zA f7))), (ks, .inl (0, (ns).toNat, .inl (zA f8))), (ks, .inl (0, (ns).toNat, .inl (zA f8)))]) (k := 62) (c := .inl (0, 1260, .inl (zA f7))) (e := .inl (0, 1260, .inl (zA f7))) rfl rfl (List.mem_of_getElem? (i := 4) rfl) ?_
          refine J_dupc (A := [(81, .inr (7, [.ref 51, .ref 57, .ref 82, .ref 83, .ref k13, .int (zI 1), .int (zI ve)])), (82, .inl (0, 14, .inl (zA f6))), (83, .inl (0, 14, .inl (zA f33))), (k13, .inl (0, (z16).toNat, .inl (zA f15))), (62, .inl (0, 1260, .inl (zA f7))), (ks, .inl (0, (ns).toNat, .inl (zA f8)))]) (B := []) (L2 := [(81, .inr (7, [.ref 51, .ref 57, .ref 82, .ref 83, .ref k13, .int (zI 1), .int (zI ve)])), (82, .inl (0, 14, .inl (zA f6))), (83, .inl (0, 14, .inl (zA f33))), (k13, .inl (0, (z16).toNat, .inl (zA f15))), (62, .inl (0, 1260, .inl (zA f7))), (ks, .inl (0, (ns).toNat, .inl (zA f8)))]) (k := ks) (c := .inl (0, (ns).toNat, .inl (zA f8))) (e := .inl (0, (ns).toNat, .inl (zA f8))) rfl rfl (List.mem_of_getElem? (i := 5) rfl) ?_
          exact J_iret dX7_exists_95 rfl (jbn v_316afd7d0b v_bbcfac9b7d) (Nat.le_of_ble_eq_true rfl) (by show ((S).toNat : Nat) ≤ (S).toNat; omega) ⟨1, k13, k14, f15, z16, f6, f33, 1, ve, f7, f8, rfl, rfl, v_316afd7d0b, v_bbcfac9b7d, h17, (NOld.ne h20 q33 q36), h18, h19, h20, h22, (v_c0afb76323 g12.1 h21), h23, h9, v_316afd7d0b, v_bbcfac9b7d, q5, (h24), h10, h11⟩
set_option maxHeartbeats 4000000 in
set_option maxRecDepth 100000 in
theorem m_prepare {l : Launch} {G : jG} {nh : Nat} {fh : Nat → Option va_E} (many : Int) (places : Int) (lc : Int) (fo : Int) (wc : Int) (cc : Int) (sc : Int) (la : Int → Int) (ra : Int → Int) (sa : Int → Int) (sb : Int → Int) (q0 : 1 ≤ many) (q1 : many ≤ 1260) (q2 : 0 ≤ places) (q3 : places ≤ 7) (q4 : 0 ≤ lc) (q5 : lc ≤ 6) (q6 : -1 ≤ fo) (q7 : fo < lc) (q8 : 0 ≤ wc) (q9 : wc ≤ 8) (q10 : 0 ≤ cc) (q11 : cc ≤ 6) (q12 : 0 ≤ sc) (q13 : sc ≤ 12) (q14 : Rg la 12 (-2147483648) 2147483647) (q15 : Rg ra 12 (-2147483648) 2147483647) (q16 : Rg sa 12 0 6) (q17 : Rg sb 12 0 6) (hk85 : fh 85 = some (.inr (2, [.ref 1, .ref 51, .ref 86, .ref 87]))) (hk51 : fh 51 = some (.inr (0, [.ref 52, .ref 53, .int (zI many), .int (zI places)]))) (hk1 : fh 1 = some (.inr (8, [.ref 2, .ref 3, .ref 4, .int (zI lc), .int (zI fo), .ref 11, .ref 12, .int (zI wc), .ref 13, .ref 14, .int (zI cc), .ref 15, .ref 16, .int (zI sc)]))) (hk86 : fh 86 = some (.inl (0, 12, .inl (zA la)))) (hk87 : fh 87 = some (.inl (0, 12, .inl (zA ra)))) (hk15 : fh 15 = some (.inl (0, 12, .inl (zA sa)))) (hk16 : fh 16 = some (.inl (0, 12, .inl (zA sb)))) : JM l G yX2_prepare MX2_prepare { frames := 1, cells := 0, slots := 0, locals := 21 } [.ref 85] (nh, fh) (fun rr h9 => ∃ la2 : Int → Int, ∃ ra2 : Int → Int, rr = none ∧ h9 = (nh, hc fh [(86, .inl (0, 12, .inl (zA la2))), (87, .inl (0, 12, .inl (zA ra2)))]) ∧ (Rg la2 12 (-2147483648) 2147483647) ∧ (Rg ra2 12 (-2147483648) 2147483647) ∧ (ShT la2 sa sc places) ∧ (ShT ra2 sb sc places)) := by
  refine JM.of (by decide) rfl (fun h => by cases h) (Nat.le_of_ble_eq_true rfl) ⟨1, rfl⟩ ?_
  refine J_hc0 (J_ls (ls2 := [some (.ref 85), none]) rfl ?_)
  refine Z_iconst (n := 0) dX2_prepare_0 ?_
  refine J_istore_n dX2_prepare_1 rfl (Nat.le_of_ble_eq_true rfl) rfl ?_
  refine J_ls (ls2 := [some (.ref 85), some (.int (zI 0))]) rfl ?_
  refine J_touch (k := 86) (e := .inl (0, 12, .inl (zA la))) hk86 ?_
  refine J_touch (k := 87) (e := .inl (0, 12, .inl (zA ra))) hk87 ?_
  have lp2 : ∀ (N2 : Nat) (i_2 : Int) (lx_2 : Int → Int) (rx_2 : Int → Int), (0 ≤ i_2) → (i_2 ≤ sc) → (Rg lx_2 12 (-2147483648) 2147483647) → (Rg rx_2 12 (-2147483648) 2147483647) → (ShT lx_2 sa i_2 places) → (ShT rx_2 sb i_2 places) → (sc - i_2).toNat < N2 → J l G MX2_prepare { frames := 1, cells := 0, slots := 0, locals := 21 } jE (jMQ G { frames := 1, cells := 0, slots := 0, locals := 21 } (fun rr h9 => ∃ la2 : Int → Int, ∃ ra2 : Int → Int, rr = none ∧ h9 = (nh, hc fh [(86, .inl (0, 12, .inl (zA la2))), (87, .inl (0, 12, .inl (zA ra2)))]) ∧ (Rg la2 12 (-2147483648) 2147483647) ∧ (Rg ra2 12 (-2147483648) 2147483647) ∧ (ShT la2 sa sc places) ∧ (ShT ra2 sb sc places))) (nh, hc fh [(87, .inl (0, 12, .inl (zA rx_2))), (86, .inl (0, 12, .inl (zA lx_2)))]) 0 0 2 [some (.ref 85), some (.int (zI i_2))] [] := by
    intro N2
    induction N2 with
    | zero => intro i_2 lx_2 rx_2 i2_0 i2_1 i2_2 i2_3 i2_4 i2_5 hm; exact absurd hm (Nat.not_lt_zero _)
    | succ N2 ih2 =>
      intro i_2 lx_2 rx_2 i2_0 i2_1 i2_2 i2_3 i2_4 i2_5 hm2
      refine J_iload_n dX2_prepare_2 rfl rfl ?_
      refine J_aload_n dX2_prepare_3 rfl rfl ?_
      refine J_get (v := .ref 1) dX2_prepare_4 fl_X2_18 hk85 rfl ?_
      refine J_get (v := .int (zI sc)) dX2_prepare_7 fl_X2_26 hk1 rfl ?_
      refine Z_icmp_ge (tgt := 63) dX2_prepare_10 (by decide) (v_d7c76a7f82 q13 i2_0 i2_1) (v_00eb067ff8 q12 q13) (fun h1 => ?_) (fun h1 => ?_)
      · refine J_touch (k := 87) (e := .inl (0, 12, .inl (zA rx_2))) rfl ?_
        refine J_touch (k := 86) (e := .inl (0, 12, .inl (zA lx_2))) rfl ?_
        refine J_mask (L2 := [(86, .inl (0, 12, .inl (zA lx_2))), (87, .inl (0, 12, .inl (zA rx_2)))]) (ks := [86, 87, 87, 86]) [true, true, false, false] rfl (by decide +kernel) rfl ?_
        exact J_vret dX2_prepare_63 rfl (Nat.le_of_ble_eq_true rfl) (Nat.le_of_ble_eq_true rfl) ⟨lx_2, rx_2, rfl, rfl, i2_2, i2_3, (by have e : i_2 = sc := (v_9b8f42b01e i2_1 h1); have h := i2_4; rw [e] at h; exact h), (by have e : i_2 = sc := (v_9b8f42b01e i2_1 h1); have h := i2_5; rw [e] at h; exact h)⟩
      · refine J_aload_n dX2_prepare_13 rfl rfl ?_
        refine J_get (v := .ref 86) dX2_prepare_14 fl_X2_9 hk85 rfl ?_
        refine J_iload_n dX2_prepare_17 rfl rfl ?_
        refine J_aload_n dX2_prepare_18 rfl rfl ?_
        refine J_get (v := .ref 51) dX2_prepare_19 fl_X2_22 hk85 rfl ?_
        refine J_aload_n dX2_prepare_22 rfl rfl ?_
        refine J_get (v := .ref 1) dX2_prepare_23 fl_X2_18 hk85 rfl ?_
        refine J_get (v := .ref 15) dX2_prepare_26 fl_X2_32 hk1 rfl ?_
        refine J_iload_n dX2_prepare_29 rfl rfl ?_
        obtain ⟨z2, ez2⟩ : ∃ z : Int, sa i_2 = z := ⟨_, rfl⟩
        have h3 := Rg.at q16 (v_2b02420001 i2_0) (v_9f7d34bcbb q13 h1) ez2
        refine Y_iald (z := z2) 12 dX2_prepare_30 hk15 rfl (by decide) (v_2b02420001 i2_0) (v_9f7d34bcbb q13 h1) ez2 ?_
        refine J_callV (st := [.int (zI i_2), .ref 86]) dX2_prepare_31 cv_X2_35 (g_shiftOf z2 many places h3.1 (v_1c3b5eb737 h3.2) q2 q3 hk51) hk51 rfl rfl (Nat.le_of_ble_eq_true rfl) ⟨(Nat.le_of_ble_eq_true rfl), (Nat.le_of_ble_eq_true rfl)⟩ ⟨(Nat.le_of_ble_eq_true rfl), (Nat.le_of_ble_eq_true rfl)⟩ (fun r h9 hp => ?_)
        obtain ⟨z4, rfl, rfl, h5⟩ := hp
        refine J_nf (nh2 := nh) (ck2 := 0) (sk2 := 0) (st2 := [.int (zI z4), .int (zI i_2), .ref 86]) rfl rfl rfl rfl ?_
        refine Y_iast (v := z4) 12 dX2_prepare_34 rfl rfl (by decide) (v_2b02420001 i2_0) (v_9f7d34bcbb q13 h1) (fun f6 ef6 => ?_)
        have h7 : Rg f6 12 (-2147483648) 2147483647 := Rg.ups i2_2 ef6 (v_3428687bcd q2 h3.2 h5) (v_55ab8d5737 q3 h3.1 h5)
        refine J_aload_n dX2_prepare_35 rfl rfl ?_
        refine J_get (v := .ref 87) dX2_prepare_36 fl_X2_15 hk85 rfl ?_
        refine J_iload_n dX2_prepare_39 rfl rfl ?_
        refine J_aload_n dX2_prepare_40 rfl rfl ?_
        refine J_get (v := .ref 51) dX2_prepare_41 fl_X2_22 hk85 rfl ?_
        refine J_aload_n dX2_prepare_44 rfl rfl ?_
        refine J_get (v := .ref 1) dX2_prepare_45 fl_X2_18 hk85 rfl ?_
        refine J_get (v := .ref 16) dX2_prepare_48 fl_X2_41 hk1 rfl ?_
        refine J_iload_n dX2_prepare_51 rfl rfl ?_
        obtain ⟨z8, ez8⟩ : ∃ z : Int, sb i_2 = z := ⟨_, rfl⟩
        have h9 := Rg.at q17 (v_2b02420001 i2_0) (v_9f7d34bcbb q13 h1) ez8
        refine Y_iald (z := z8) 12 dX2_prepare_52 hk16 rfl (by decide) (v_2b02420001 i2_0) (v_9f7d34bcbb q13 h1) ez8 ?_
        refine J_callV (st := [.int (zI i_2), .ref 87]) dX2_prepare_53 cv_X2_35 (g_shiftOf z8 many places h9.1 (v_1c3b5eb737 h9.2) q2 q3 hk51) hk51 rfl rfl (Nat.le_of_ble_eq_true rfl) ⟨(Nat.le_of_ble_eq_true rfl), (Nat.le_of_ble_eq_true rfl)⟩ ⟨(Nat.le_of_ble_eq_true rfl), (Nat.le_of_ble_eq_true rfl)⟩ (fun r h9 hp => ?_)
        obtain ⟨z10, rfl, rfl, h11⟩ := hp
        refine J_nf (nh2 := nh) (ck2 := 0) (sk2 := 0) (st2 := [.int (zI z10), .int (zI i_2), .ref 87]) rfl rfl rfl rfl ?_
        refine Y_iast (v := z10) 12 dX2_prepare_56 rfl rfl (by decide) (v_2b02420001 i2_0) (v_9f7d34bcbb q13 h1) (fun f12 ef12 => ?_)
        have h13 : Rg f12 12 (-2147483648) 2147483647 := Rg.ups i2_3 ef12 (v_3428687bcd q2 h9.2 h11) (v_55ab8d5737 q3 h9.1 h11)
        refine Z_iinc (c := i_2 + 1) (ls2 := [some (.ref 85), some (.int (zI (i_2 + 1)))]) dX2_prepare_57 rfl (Nat.le_of_ble_eq_true rfl) rfl rfl rfl ?_
        refine J_goto (tgt := 2) dX2_prepare_60 (by decide) ?_
        refine J_mask (L2 := [(87, .inl (0, 12, .inl (zA f12))), (86, .inl (0, 12, .inl (zA f6)))]) (ks := [87, 86, 87, 86]) [true, true, false, false] rfl (by decide +kernel) rfl ?_
        exact ih2 (i_2 + 1) f6 f12 (v_da458fa48a i2_0) (v_e390a36114 h1) h7 h13 (ShT.push i2_4 ef6 v_a0572702c4 ez2 (v_dc6c8b5b14 h5)) (ShT.push i2_5 ef12 v_a0572702c4 ez8 (v_dc6c8b5b14 h11)) (meas_lt v_90eacd6fd4 (v_8b7dd7d486 h1) hm2)
  exact lp2 _ 0 la ra v_939070ca3f q12 q14 q15 (ShT_0) (ShT_0) (Nat.lt_succ_self _)
set_option maxHeartbeats 4000000 in
set_option maxRecDepth 100000 in
theorem m_run {l : Launch} {G : jG} {nh : Nat} {fh : Nat → Option va_E} (x : Int) (a : Int) (b : Int) (lc : Int) (fo : Int) (wc : Int) (cc : Int) (sc : Int) (la : Int → Int) (ra : Int → Int) (sa : Int → Int) (sb : Int → Int) (B : Int → Int) (places : Int) (q0 : zr x) (q1 : 0 ≤ a) (q2 : a ≤ sc) (q3 : zr b) (q4 : 0 ≤ lc) (q5 : lc ≤ 6) (q6 : -1 ≤ fo) (q7 : fo < lc) (q8 : 0 ≤ wc) (q9 : wc ≤ 8) (q10 : 0 ≤ cc) (q11 : cc ≤ 6) (q12 : 0 ≤ sc) (q13 : sc ≤ 12) (q14 : Rg la 12 (-2147483648) 2147483647) (q15 : Rg ra 12 (-2147483648) 2147483647) (q16 : SwV sa sb sc places) (q17 : ShT la sa sc places) (q18 : ShT ra sb sc places) (q19 : 0 ≤ places) (q20 : places ≤ 7) (q21 : okB places B) (q22 : pk3 B (places).toNat = x) (hk85 : fh 85 = some (.inr (2, [.ref 1, .ref 51, .ref 86, .ref 87]))) (hk1 : fh 1 = some (.inr (8, [.ref 2, .ref 3, .ref 4, .int (zI lc), .int (zI fo), .ref 11, .ref 12, .int (zI wc), .ref 13, .ref 14, .int (zI cc), .ref 15, .ref 16, .int (zI sc)]))) (hk86 : fh 86 = some (.inl (0, 12, .inl (zA la)))) (hk87 : fh 87 = some (.inl (0, 12, .inl (zA ra)))) : JM l G yX2_run MX2_run { frames := 2, cells := 0, slots := 0, locals := 44 } [.ref 85, .int (zI x), .int (zI a), .int (zI b)] (nh, fh) (fun rr h9 => ∃ r : Int, rr = some (.int (zI r)) ∧ h9 = (nh, fh) ∧ (zr r) ∧ (pk3 (thC sa sb b B (a).toNat) (places).toNat = r)) := by
  refine JM.of (by decide) rfl (fun h => by cases h) (Nat.le_of_ble_eq_true rfl) ⟨4, rfl⟩ ?_
  refine J_hc0 (J_ls (ls2 := [some (.ref 85), some (.int (zI x)), some (.int (zI a)), some (.int (zI b)), none, none, none, none]) rfl ?_)
  refine J_iload_n dX2_run_0 rfl rfl ?_
  refine J_istore dX2_run_1 (Nat.le_of_ble_eq_true rfl) rfl ?_
  refine J_ls (ls2 := [some (.ref 85), some (.int (zI x)), some (.int (zI a)), some (.int (zI b)), some (.int (zI x)), none, none, none]) rfl ?_
  refine Z_iconst (n := 0) dX2_run_3 ?_
  refine J_istore dX2_run_4 (Nat.le_of_ble_eq_true rfl) rfl ?_
  refine J_ls (ls2 := [some (.ref 85), some (.int (zI x)), some (.int (zI a)), some (.int (zI b)), some (.int (zI x)), some (.int (zI 0)), none, none]) rfl ?_
  have lp6 : ∀ (N6 : Nat) (at_6 : Int) (i_6 : Int), (0 ≤ i_6) → (i_6 ≤ a) → (zr at_6) → (pk3 (thC sa sb b B (i_6).toNat) (places).toNat = at_6) → (12 - i_6).toNat < N6 → J l G MX2_run { frames := 2, cells := 0, slots := 0, locals := 44 } jE (jMQ G { frames := 2, cells := 0, slots := 0, locals := 44 } (fun rr h9 => ∃ r : Int, rr = some (.int (zI r)) ∧ h9 = (nh, fh) ∧ (zr r) ∧ (pk3 (thC sa sb b B (a).toNat) (places).toNat = r))) (nh, hc fh []) 0 0 6 [some (.ref 85), some (.int (zI x)), some (.int (zI a)), some (.int (zI b)), some (.int (zI at_6)), some (.int (zI i_6)), none, none] [] := by
    intro N6
    induction N6 with
    | zero => intro at_6 i_6 i6_0 i6_1 i6_2 i6_3 hm; exact absurd hm (Nat.not_lt_zero _)
    | succ N6 ih6 =>
      intro at_6 i_6 i6_0 i6_1 i6_2 i6_3 hm6
      refine J_iload dX2_run_6 rfl ?_
      refine J_iload_n dX2_run_8 rfl rfl ?_
      refine Z_icmp_ge (tgt := 82) dX2_run_9 (by decide) (v_e51e95ceb4 q2 q13 i6_0 i6_1) (v_6fc6724a30 q1 q2 q13) (fun h1 => ?_) (fun h1 => ?_)
      · refine J_iload dX2_run_82 rfl ?_
        exact J_iret dX2_run_84 rfl rfl (Nat.le_of_ble_eq_true rfl) (Nat.le_of_ble_eq_true rfl) ⟨at_6, rfl, rfl, i6_2, (by have e : i_6 = a := (v_9b8f42b01e i6_1 h1); have h := i6_3; rw [e] at h; exact h)⟩
      · refine J_iload dX2_run_12 rfl ?_
        refine J_aload_n dX2_run_14 rfl rfl ?_
        refine J_get (v := .ref 1) dX2_run_15 fl_X2_18 hk85 rfl ?_
        refine J_get (v := .int (zI sc)) dX2_run_18 fl_X2_26 hk1 rfl ?_
        refine Z_icmp_ge (tgt := 82) dX2_run_21 (by decide) (v_70ddb75846 q2 q13 i6_0 h1) (v_00eb067ff8 q12 q13) (fun h2 => absurd h2 (v_3bf5677fcc q2 h1)) (fun h2 => ?_)
        refine J_aload_n dX2_run_24 rfl rfl ?_
        refine J_get (v := .ref 86) dX2_run_25 fl_X2_9 hk85 rfl ?_
        refine J_iload dX2_run_28 rfl ?_
        obtain ⟨z3, ez3⟩ : ∃ z : Int, la i_6 = z := ⟨_, rfl⟩
        have h4 := Rg.at q14 (v_2b02420001 i6_0) (v_9f7d34bcbb q13 h2) ez3
        refine Y_iald (z := z3) 12 dX2_run_30 hk86 rfl (by decide) (v_2b02420001 i6_0) (v_9f7d34bcbb q13 h2) ez3 ?_
        refine J_istore dX2_run_31 (Nat.le_of_ble_eq_true rfl) rfl ?_
        refine J_ls (ls2 := [some (.ref 85), some (.int (zI x)), some (.int (zI a)), some (.int (zI b)), some (.int (zI at_6)), some (.int (zI i_6)), some (.int (zI z3)), none]) rfl ?_
        refine J_aload_n dX2_run_33 rfl rfl ?_
        refine J_get (v := .ref 87) dX2_run_34 fl_X2_15 hk85 rfl ?_
        refine J_iload dX2_run_37 rfl ?_
        obtain ⟨z5, ez5⟩ : ∃ z : Int, ra i_6 = z := ⟨_, rfl⟩
        have h6 := Rg.at q15 (v_2b02420001 i6_0) (v_9f7d34bcbb q13 h2) ez5
        refine Y_iald (z := z5) 12 dX2_run_39 hk87 rfl (by decide) (v_2b02420001 i6_0) (v_9f7d34bcbb q13 h2) ez5 ?_
        refine J_istore dX2_run_40 (Nat.le_of_ble_eq_true rfl) rfl ?_
        refine J_ls (ls2 := [some (.ref 85), some (.int (zI x)), some (.int (zI a)), some (.int (zI b)), some (.int (zI at_6)), some (.int (zI i_6)), some (.int (zI z3)), some (.int (zI z5))]) rfl ?_
        refine J_iload dX2_run_42 rfl ?_
        refine J_iload_n dX2_run_44 rfl rfl ?_
        refine Z_icmp_eq (tgt := 76) dX2_run_45 (by decide) (v_3c018e310c q13 i6_0 h2) (v_b25fa51a85 q3) (fun h7 => ?_) (fun h7 => ?_)
        · refine Z_iinc (c := i_6 + 1) (ls2 := [some (.ref 85), some (.int (zI x)), some (.int (zI a)), some (.int (zI b)), some (.int (zI at_6)), some (.int (zI (i_6 + 1))), some (.int (zI z3)), some (.int (zI z5))]) dX2_run_76 rfl (Nat.le_of_ble_eq_true rfl) rfl rfl rfl ?_
          refine J_goto (tgt := 6) dX2_run_79 (by decide) ?_
          refine J_drop (ls2 := [some (.ref 85), some (.int (zI x)), some (.int (zI a)), some (.int (zI b)), some (.int (zI at_6)), some (.int (zI (i_6 + 1))), none, none]) [true, true, true, true, true, true, false, false] rfl ?_
          exact ih6 at_6 (i_6 + 1) (v_da458fa48a i6_0) (v_e390a36114 h1) i6_2 (run_but i6_3 i6_0 (v_cd91a95e4e h7)) (meas_lt v_63da0c30f3 (v_f30c213be9 q13 h2) hm6)
        · refine J_iload dX2_run_48 rfl ?_
          refine J_iload dX2_run_50 rfl ?_
          refine J_callS (st := []) dX2_run_52 cs_X2_65 (g_colourAt at_6 z3 i6_2 (v_f306e1cdb8 h4.1 h4.2)) rfl rfl (Nat.le_of_ble_eq_true rfl) ⟨(Nat.le_of_ble_eq_true rfl), (Nat.le_of_ble_eq_true rfl)⟩ ⟨(Nat.le_of_ble_eq_true rfl), (Nat.le_of_ble_eq_true rfl)⟩ (fun r h9 hp => ?_)
          obtain ⟨z8, rfl, rfl, h9, h10, h11⟩ := hp
          refine J_nf (nh2 := nh) (ck2 := 0) (sk2 := 0) (st2 := [.int (zI z8)]) rfl rfl rfl rfl ?_
          refine J_iload dX2_run_55 rfl ?_
          refine J_iload dX2_run_57 rfl ?_
          refine J_callS (st := [.int (zI z8)]) dX2_run_59 cs_X2_65 (g_colourAt at_6 z5 i6_2 (v_f306e1cdb8 h6.1 h6.2)) rfl rfl (Nat.le_of_ble_eq_true rfl) ⟨(Nat.le_of_ble_eq_true rfl), (Nat.le_of_ble_eq_true rfl)⟩ ⟨(Nat.le_of_ble_eq_true rfl), (Nat.le_of_ble_eq_true rfl)⟩ (fun r h9 hp => ?_)
          obtain ⟨z12, rfl, rfl, h13, h14, h15⟩ := hp
          refine J_nf (nh2 := nh) (ck2 := 0) (sk2 := 0) (st2 := [.int (zI z12), .int (zI z8)]) rfl rfl rfl rfl ?_
          refine Z_icmp_le (tgt := 76) dX2_run_62 (by decide) (v_2ee1de483d h9 h10) (v_2ee1de483d h13 h14) (fun h16 => ?_) (fun h16 => ?_)
          · refine Z_iinc (c := i_6 + 1) (ls2 := [some (.ref 85), some (.int (zI x)), some (.int (zI a)), some (.int (zI b)), some (.int (zI at_6)), some (.int (zI (i_6 + 1))), some (.int (zI z3)), some (.int (zI z5))]) dX2_run_76 rfl (Nat.le_of_ble_eq_true rfl) rfl rfl rfl ?_
            refine J_goto (tgt := 6) dX2_run_79 (by decide) ?_
            refine J_drop (ls2 := [some (.ref 85), some (.int (zI x)), some (.int (zI a)), some (.int (zI b)), some (.int (zI at_6)), some (.int (zI (i_6 + 1))), none, none]) [true, true, true, true, true, true, false, false] rfl ?_
            exact ih6 at_6 (i_6 + 1) (v_da458fa48a i6_0) (v_e390a36114 h1) i6_2 (run_no q16 q21 (v_dc59a041dc q20) i6_3 i6_0 (v_fe9ea41faa h2) q17 q18 ez3 ez5 h11 h15 (v_b598cf8bfa h16)) (meas_lt v_63da0c30f3 (v_f30c213be9 q13 h2) hm6)
          · refine J_iload dX2_run_65 rfl ?_
            refine J_iload dX2_run_67 rfl ?_
            refine J_iload dX2_run_69 rfl ?_
            refine J_callS (st := []) dX2_run_71 cs_X2_68 (g_exchanged at_6 z3 z5 i6_2 (v_f306e1cdb8 h4.1 h4.2) (v_f306e1cdb8 h6.1 h6.2)) rfl rfl (Nat.le_of_ble_eq_true rfl) ⟨(Nat.le_of_ble_eq_true rfl), (Nat.le_of_ble_eq_true rfl)⟩ ⟨(Nat.le_of_ble_eq_true rfl), (Nat.le_of_ble_eq_true rfl)⟩ (fun r h9 hp => ?_)
            obtain ⟨z17, rfl, rfl, h18, h19⟩ := hp
            refine J_nf (nh2 := nh) (ck2 := 0) (sk2 := 0) (st2 := [.int (zI z17)]) rfl rfl rfl rfl ?_
            refine J_istore dX2_run_74 (Nat.le_of_ble_eq_true rfl) rfl ?_
            refine J_ls (ls2 := [some (.ref 85), some (.int (zI x)), some (.int (zI a)), some (.int (zI b)), some (.int (zI z17)), some (.int (zI i_6)), some (.int (zI z3)), some (.int (zI z5))]) rfl ?_
            refine Z_iinc (c := i_6 + 1) (ls2 := [some (.ref 85), some (.int (zI x)), some (.int (zI a)), some (.int (zI b)), some (.int (zI z17)), some (.int (zI (i_6 + 1))), some (.int (zI z3)), some (.int (zI z5))]) dX2_run_76 rfl (Nat.le_of_ble_eq_true rfl) rfl rfl rfl ?_
            refine J_goto (tgt := 6) dX2_run_79 (by decide) ?_
            refine J_drop (ls2 := [some (.ref 85), some (.int (zI x)), some (.int (zI a)), some (.int (zI b)), some (.int (zI z17)), some (.int (zI (i_6 + 1))), none, none]) [true, true, true, true, true, true, false, false] rfl ?_
            exact ih6 z17 (i_6 + 1) (v_da458fa48a i6_0) (v_e390a36114 h1) h18 (run_yes q16 q21 (v_dc59a041dc q20) i6_3 i6_0 (v_fe9ea41faa h2) q17 q18 ez3 ez5 h11 h15 (v_da5cc3277e h7) (v_fe9ea41faa h16) h19) (meas_lt v_63da0c30f3 (v_f30c213be9 q13 h2) hm6)
  exact lp6 _ x 0 v_939070ca3f q1 q0 (q22) (Nat.lt_succ_self _)
set_option maxHeartbeats 4000000 in
set_option maxRecDepth 100000 in
theorem m_tally {l : Launch} {G : jG} {nh : Nat} {fh : Nat → Option va_E} (a : Int) (b : Int) (many : Int) (places : Int) (rf : Int → Int) (lc : Int) (fo : Int) (wc : Int) (cc : Int) (sc : Int) (la : Int → Int) (ra : Int → Int) (ff : Int → Int) (sa : Int → Int) (sb : Int → Int) (q0 : 0 ≤ a) (q1 : a ≤ sc) (q2 : zr b) (q3 : 1 ≤ many) (q4 : many ≤ 1260) (q5 : 0 ≤ places) (q6 : places ≤ 7) (q7 : Rg rf 1260 (-2147483648) 2147483647) (q8 : 0 ≤ lc) (q9 : lc ≤ 6) (q10 : -1 ≤ fo) (q11 : fo < lc) (q12 : 0 ≤ wc) (q13 : wc ≤ 8) (q14 : 0 ≤ cc) (q15 : cc ≤ 6) (q16 : 0 ≤ sc) (q17 : sc ≤ 12) (q18 : Rg la 12 (-2147483648) 2147483647) (q19 : Rg ra 12 (-2147483648) 2147483647) (q20 : okF ff) (q21 : many = Hi ff) (q22 : places = bsum ff) (q23 : RowsTo rf ff many) (q24 : SwV sa sb sc places) (q25 : ShT la sa sc places) (q26 : ShT ra sb sc places) (hk85 : fh 85 = some (.inr (2, [.ref 1, .ref 51, .ref 86, .ref 87]))) (hk51 : fh 51 = some (.inr (0, [.ref 52, .ref 53, .int (zI many), .int (zI places)]))) (hk52 : fh 52 = some (.inl (0, 1260, .inl (zA rf)))) (hk1 : fh 1 = some (.inr (8, [.ref 2, .ref 3, .ref 4, .int (zI lc), .int (zI fo), .ref 11, .ref 12, .int (zI wc), .ref 13, .ref 14, .int (zI cc), .ref 15, .ref 16, .int (zI sc)]))) (hk86 : fh 86 = some (.inl (0, 12, .inl (zA la)))) (hk87 : fh 87 = some (.inl (0, 12, .inl (zA ra)))) : JM l G yX2_tally MX2_tally { frames := 3, cells := 0, slots := 0, locals := 71 } [.ref 85, .int (zI a), .int (zI b)] (nh, fh) (fun rr h9 => ∃ r : Int, rr = some (.int (zI r)) ∧ h9 = (nh, fh) ∧ (0 ≤ r) ∧ (r ≤ 1260) ∧ (r = soN (SoH ff sa sb b a) (many).toNat)) := by
  refine JM.of (by decide) rfl (fun h => by cases h) (Nat.le_of_ble_eq_true rfl) ⟨3, rfl⟩ ?_
  refine J_hc0 (J_ls (ls2 := [some (.ref 85), some (.int (zI a)), some (.int (zI b)), none, none, none]) rfl ?_)
  refine J_aload_n dX2_tally_0 rfl rfl ?_
  refine J_get (v := .ref 51) dX2_tally_1 fl_X2_22 hk85 rfl ?_
  refine Z_iconst (n := 0) dX2_tally_4 ?_
  refine J_callV (st := []) dX2_tally_5 cv_X2_44 (g_rowOf 0 many places rf v_939070ca3f (v_8cacc2f855 q3) q3 q4 hk51 hk52) hk51 rfl rfl (Nat.le_of_ble_eq_true rfl) ⟨(Nat.le_of_ble_eq_true rfl), (Nat.le_of_ble_eq_true rfl)⟩ ⟨(Nat.le_of_ble_eq_true rfl), (Nat.le_of_ble_eq_true rfl)⟩ (fun r h9 hp => ?_)
  obtain ⟨z1, rfl, rfl, h2⟩ := hp
  have h3 := Rg.at q7 v_939070ca3f v_c5edf0a345 h2
  refine J_nf (nh2 := nh) (ck2 := 0) (sk2 := 0) (st2 := [.int (zI z1)]) rfl rfl rfl rfl ?_
  refine J_istore_n dX2_tally_8 rfl (Nat.le_of_ble_eq_true rfl) rfl ?_
  refine J_ls (ls2 := [some (.ref 85), some (.int (zI a)), some (.int (zI b)), some (.int (zI z1)), none, none]) rfl ?_
  refine Z_iconst (n := 0) dX2_tally_9 ?_
  refine J_istore dX2_tally_10 (Nat.le_of_ble_eq_true rfl) rfl ?_
  refine J_ls (ls2 := [some (.ref 85), some (.int (zI a)), some (.int (zI b)), some (.int (zI z1)), some (.int (zI 0)), none]) rfl ?_
  refine Z_iconst (n := 0) dX2_tally_12 ?_
  refine J_istore dX2_tally_13 (Nat.le_of_ble_eq_true rfl) rfl ?_
  refine J_ls (ls2 := [some (.ref 85), some (.int (zI a)), some (.int (zI b)), some (.int (zI z1)), some (.int (zI 0)), some (.int (zI 0))]) rfl ?_
  have lp15 : ∀ (N15 : Nat) (n_15 : Int) (h_15 : Int), (0 ≤ h_15) → (h_15 ≤ many) → (0 ≤ n_15) → (n_15 ≤ h_15) → (n_15 = soN (SoH ff sa sb b a) (h_15).toNat) → (many - h_15).toNat < N15 → J l G MX2_tally { frames := 3, cells := 0, slots := 0, locals := 71 } jE (jMQ G { frames := 3, cells := 0, slots := 0, locals := 71 } (fun rr h9 => ∃ r : Int, rr = some (.int (zI r)) ∧ h9 = (nh, fh) ∧ (0 ≤ r) ∧ (r ≤ 1260) ∧ (r = soN (SoH ff sa sb b a) (many).toNat))) (nh, hc fh []) 0 0 15 [some (.ref 85), some (.int (zI a)), some (.int (zI b)), some (.int (zI z1)), some (.int (zI n_15)), some (.int (zI h_15))] [] := by
    intro N15
    induction N15 with
    | zero => intro n_15 h_15 i15_0 i15_1 i15_2 i15_3 i15_4 hm; exact absurd hm (Nat.not_lt_zero _)
    | succ N15 ih15 =>
      intro n_15 h_15 i15_0 i15_1 i15_2 i15_3 i15_4 hm15
      refine J_iload dX2_tally_15 rfl ?_
      refine J_aload_n dX2_tally_17 rfl rfl ?_
      refine J_get (v := .ref 51) dX2_tally_18 fl_X2_22 hk85 rfl ?_
      refine J_callV (st := [.int (zI h_15)]) dX2_tally_21 cv_X2_58 (g_many many places hk51) hk51 rfl rfl (Nat.le_of_ble_eq_true rfl) ⟨(Nat.le_of_ble_eq_true rfl), (Nat.le_of_ble_eq_true rfl)⟩ ⟨(Nat.le_of_ble_eq_true rfl), (Nat.le_of_ble_eq_true rfl)⟩ (fun r h9 hp => ?_)
      obtain ⟨rfl, rfl⟩ := hp
      refine J_nf (nh2 := nh) (ck2 := 0) (sk2 := 0) (st2 := [.int (zI many), .int (zI h_15)]) rfl rfl rfl rfl ?_
      refine Z_icmp_ge (tgt := 55) dX2_tally_24 (by decide) (v_c9ca704c4d q4 i15_0 i15_1) (v_81c6732ede q3 q4) (fun h4 => ?_) (fun h4 => ?_)
      · refine J_iload dX2_tally_55 rfl ?_
        exact J_iret dX2_tally_57 rfl rfl (Nat.le_of_ble_eq_true rfl) (Nat.le_of_ble_eq_true rfl) ⟨n_15, rfl, rfl, i15_2, (v_76c5703d3a q4 i15_1 i15_3), (by have e : h_15 = many := (v_9b8f42b01e i15_1 h4); have h := i15_4; rw [e] at h; exact h)⟩
      · refine J_aload_n dX2_tally_27 rfl rfl ?_
        refine J_aload_n dX2_tally_28 rfl rfl ?_
        refine J_get (v := .ref 51) dX2_tally_29 fl_X2_22 hk85 rfl ?_
        refine J_iload dX2_tally_32 rfl ?_
        refine J_callV (st := [.ref 85]) dX2_tally_34 cv_X2_44 (g_rowOf h_15 many places rf i15_0 (v_fe9ea41faa h4) q3 q4 hk51 hk52) hk51 rfl rfl (Nat.le_of_ble_eq_true rfl) ⟨(Nat.le_of_ble_eq_true rfl), (Nat.le_of_ble_eq_true rfl)⟩ ⟨(Nat.le_of_ble_eq_true rfl), (Nat.le_of_ble_eq_true rfl)⟩ (fun r h9 hp => ?_)
        obtain ⟨z5, rfl, rfl, h6⟩ := hp
        have h7 := Rg.at q7 (v_2b02420001 i15_0) (v_610e7c4416 q4 h4) h6
        refine J_nf (nh2 := nh) (ck2 := 0) (sk2 := 0) (st2 := [.int (zI z5), .ref 85]) rfl rfl rfl rfl ?_
        refine J_iload_n dX2_tally_37 rfl rfl ?_
        refine J_iload_n dX2_tally_38 rfl rfl ?_
        refine J_callV (st := []) dX2_tally_39 cv_X2_47 (m_run z5 a b lc fo wc cc sc la ra sa sb ((itB ff (h_15).toNat)) places (v_f306e1cdb8 h7.1 h7.2) q0 q1 q2 q8 q9 q10 q11 q12 q13 q14 q15 q16 q17 q18 q19 q24 q25 q26 q5 q6 (by rw [q22]; exact (it_inv q20 (h_15).toNat (by have u := q21; have w := (v_fe9ea41faa h4); unfold Hi at u; omega)).2.2) (by rw [← h6, q23 h_15 (v_2b02420001 i15_0) (v_fe9ea41faa h4), q22]) hk85 hk1 hk86 hk87) hk85 rfl rfl (Nat.le_of_ble_eq_true rfl) ⟨(Nat.le_of_ble_eq_true rfl), (Nat.le_of_ble_eq_true rfl)⟩ ⟨(Nat.le_of_ble_eq_true rfl), (Nat.le_of_ble_eq_true rfl)⟩ (fun r h9 hp => ?_)
        obtain ⟨z8, rfl, rfl, h9, h10⟩ := hp
        refine J_nf (nh2 := nh) (ck2 := 0) (sk2 := 0) (st2 := [.int (zI z8)]) rfl rfl rfl rfl ?_
        refine J_iload_n dX2_tally_42 rfl rfl ?_
        refine Z_icmp_ne (tgt := 49) dX2_tally_43 (by decide) (v_b25fa51a85 h9) (v_f306e1cdb8 h3.1 h3.2) (fun h11 => ?_) (fun h11 => ?_)
        · refine Z_iinc (c := h_15 + 1) (ls2 := [some (.ref 85), some (.int (zI a)), some (.int (zI b)), some (.int (zI z1)), some (.int (zI n_15)), some (.int (zI (h_15 + 1)))]) dX2_tally_49 rfl (Nat.le_of_ble_eq_true rfl) rfl rfl rfl ?_
          refine J_goto (tgt := 15) dX2_tally_52 (by decide) ?_
          exact ih15 n_15 (h_15 + 1) (v_da458fa48a i15_0) (v_e390a36114 h4) i15_2 (v_d50281bace i15_3) (soN_step i15_4 i15_0 (Or.inr ⟨fun w => absurd ((SoH_row q24 q23 q20 q21 q22 (v_2b02420001 q0) (v_d464d4c634 q1) (v_2b02420001 i15_0) (v_fe9ea41faa h4) h10 h2).mpr w) (v_da5cc3277e h11), rfl⟩)) (meas_lt v_90eacd6fd4 (v_8b7dd7d486 h4) hm15)
        · refine Z_iinc (c := n_15 + 1) (ls2 := [some (.ref 85), some (.int (zI a)), some (.int (zI b)), some (.int (zI z1)), some (.int (zI (n_15 + 1))), some (.int (zI h_15))]) dX2_tally_46 rfl (Nat.le_of_ble_eq_true rfl) rfl rfl rfl ?_
          refine Z_iinc (c := h_15 + 1) (ls2 := [some (.ref 85), some (.int (zI a)), some (.int (zI b)), some (.int (zI z1)), some (.int (zI (n_15 + 1))), some (.int (zI (h_15 + 1)))]) dX2_tally_49 rfl (Nat.le_of_ble_eq_true rfl) rfl rfl rfl ?_
          refine J_goto (tgt := 15) dX2_tally_52 (by decide) ?_
          exact ih15 (n_15 + 1) (h_15 + 1) (v_da458fa48a i15_0) (v_e390a36114 h4) (v_da458fa48a i15_2) (v_14fc63d1f2 i15_3) (soN_step i15_4 i15_0 (Or.inl ⟨(SoH_row q24 q23 q20 q21 q22 (v_2b02420001 q0) (v_d464d4c634 q1) (v_2b02420001 i15_0) (v_fe9ea41faa h4) h10 h2).mp (v_cd91a95e4e h11), rfl⟩)) (meas_lt v_90eacd6fd4 (v_8b7dd7d486 h4) hm15)
  exact lp15 _ 0 0 v_939070ca3f (v_632d2dbe78 q3) v_939070ca3f v_939070ca3f (rfl) (Nat.lt_succ_self _)
set_option maxHeartbeats 4000000 in
set_option maxRecDepth 100000 in
theorem m_sortedAll {l : Launch} {G : jG} {nh : Nat} {fh : Nat → Option va_E} (many : Int) (places : Int) (rf : Int → Int) (lc : Int) (fo : Int) (wc : Int) (cc : Int) (sc : Int) (la : Int → Int) (ra : Int → Int) (ff : Int → Int) (sa : Int → Int) (sb : Int → Int) (q0 : 1 ≤ many) (q1 : many ≤ 1260) (q2 : 0 ≤ places) (q3 : places ≤ 7) (q4 : Rg rf 1260 (-2147483648) 2147483647) (q5 : 0 ≤ lc) (q6 : lc ≤ 6) (q7 : -1 ≤ fo) (q8 : fo < lc) (q9 : 0 ≤ wc) (q10 : wc ≤ 8) (q11 : 0 ≤ cc) (q12 : cc ≤ 6) (q13 : 0 ≤ sc) (q14 : sc ≤ 12) (q15 : Rg la 12 (-2147483648) 2147483647) (q16 : Rg ra 12 (-2147483648) 2147483647) (q17 : okF ff) (q18 : many = Hi ff) (q19 : places = bsum ff) (q20 : RowsTo rf ff many) (q21 : SwV sa sb sc places) (q22 : ShT la sa sc places) (q23 : ShT ra sb sc places) (hk85 : fh 85 = some (.inr (2, [.ref 1, .ref 51, .ref 86, .ref 87]))) (hk51 : fh 51 = some (.inr (0, [.ref 52, .ref 53, .int (zI many), .int (zI places)]))) (hk52 : fh 52 = some (.inl (0, 1260, .inl (zA rf)))) (hk1 : fh 1 = some (.inr (8, [.ref 2, .ref 3, .ref 4, .int (zI lc), .int (zI fo), .ref 11, .ref 12, .int (zI wc), .ref 13, .ref 14, .int (zI cc), .ref 15, .ref 16, .int (zI sc)]))) (hk86 : fh 86 = some (.inl (0, 12, .inl (zA la)))) (hk87 : fh 87 = some (.inl (0, 12, .inl (zA ra)))) : JM l G yX2_sortedAll MX2_sortedAll { frames := 4, cells := 0, slots := 0, locals := 96 } [.ref 85] (nh, fh) (fun rr h9 => ∃ r : Int, rr = some (.int (zI r)) ∧ h9 = (nh, fh) ∧ (0 ≤ r) ∧ (r ≤ 1260) ∧ (r = soN (SoH ff sa sb (-1) sc) (many).toNat)) := by
  refine JM.of (by decide) rfl (fun h => by cases h) (Nat.le_of_ble_eq_true rfl) ⟨0, rfl⟩ ?_
  refine J_hc0 (J_ls (ls2 := [some (.ref 85)]) rfl ?_)
  refine J_aload_n dX2_sortedAll_0 rfl rfl ?_
  refine J_aload_n dX2_sortedAll_1 rfl rfl ?_
  refine J_get (v := .ref 1) dX2_sortedAll_2 fl_X2_18 hk85 rfl ?_
  refine J_get (v := .int (zI sc)) dX2_sortedAll_5 fl_X2_26 hk1 rfl ?_
  refine Z_iconst (n := -1) dX2_sortedAll_8 ?_
  refine J_callV (st := []) dX2_sortedAll_9 cv_X2_54 (m_tally sc (-1) many places rf lc fo wc cc sc la ra ff sa sb q13 v_0065452639 v_d64efa60f9 q0 q1 q2 q3 q4 q5 q6 q7 q8 q9 q10 q11 q12 q13 q14 q15 q16 q17 q18 q19 q20 q21 q22 q23 hk85 hk51 hk52 hk1 hk86 hk87) hk85 rfl rfl (Nat.le_of_ble_eq_true rfl) ⟨(Nat.le_of_ble_eq_true rfl), (Nat.le_of_ble_eq_true rfl)⟩ ⟨(Nat.le_of_ble_eq_true rfl), (Nat.le_of_ble_eq_true rfl)⟩ (fun r h9 hp => ?_)
  obtain ⟨z1, rfl, rfl, h2, h3, h4⟩ := hp
  refine J_nf (nh2 := nh) (ck2 := 0) (sk2 := 0) (st2 := [.int (zI z1)]) rfl rfl rfl rfl ?_
  exact J_iret dX2_sortedAll_12 rfl rfl (Nat.le_of_ble_eq_true rfl) (Nat.le_of_ble_eq_true rfl) ⟨z1, rfl, rfl, h2, h3, h4⟩
set_option maxHeartbeats 4000000 in
set_option maxRecDepth 100000 in
theorem m_result {l : Launch} {G : jG} {nh : Nat} {fh : Nat → Option va_E} (x : Int) (many : Int) (places : Int) (rf : Int → Int) (lc : Int) (fo : Int) (wc : Int) (cc : Int) (sc : Int) (la : Int → Int) (ra : Int → Int) (ff : Int → Int) (sa : Int → Int) (sb : Int → Int) (q0 : 0 ≤ x) (q1 : x < many) (q2 : 1 ≤ many) (q3 : many ≤ 1260) (q4 : 0 ≤ places) (q5 : places ≤ 7) (q6 : Rg rf 1260 (-2147483648) 2147483647) (q7 : 0 ≤ lc) (q8 : lc ≤ 6) (q9 : -1 ≤ fo) (q10 : fo < lc) (q11 : 0 ≤ wc) (q12 : wc ≤ 8) (q13 : 0 ≤ cc) (q14 : cc ≤ 6) (q15 : 0 ≤ sc) (q16 : sc ≤ 12) (q17 : Rg la 12 (-2147483648) 2147483647) (q18 : Rg ra 12 (-2147483648) 2147483647) (q19 : okF ff) (q20 : many = Hi ff) (q21 : places = bsum ff) (q22 : RowsTo rf ff many) (q23 : SwV sa sb sc places) (q24 : ShT la sa sc places) (q25 : ShT ra sb sc places) (hk85 : fh 85 = some (.inr (2, [.ref 1, .ref 51, .ref 86, .ref 87]))) (hk51 : fh 51 = some (.inr (0, [.ref 52, .ref 53, .int (zI many), .int (zI places)]))) (hk52 : fh 52 = some (.inl (0, 1260, .inl (zA rf)))) (hk1 : fh 1 = some (.inr (8, [.ref 2, .ref 3, .ref 4, .int (zI lc), .int (zI fo), .ref 11, .ref 12, .int (zI wc), .ref 13, .ref 14, .int (zI cc), .ref 15, .ref 16, .int (zI sc)]))) (hk86 : fh 86 = some (.inl (0, 12, .inl (zA la)))) (hk87 : fh 87 = some (.inl (0, 12, .inl (zA ra)))) : JM l G yX2_result MX2_result { frames := 3, cells := 0, slots := 0, locals := 71 } [.ref 85, .int (zI x)] (nh, fh) (fun rr h9 => ∃ r : Int, rr = some (.int (zI r)) ∧ h9 = (nh, fh) ∧ (-1 ≤ r) ∧ (r < many) ∧ (OrR ff (thC sa sb (-1) (itB ff (x).toNat) (sc).toNat) r)) := by
  refine JM.of (by decide) rfl (fun h => by cases h) (Nat.le_of_ble_eq_true rfl) ⟨0, rfl⟩ ?_
  refine J_hc0 (J_ls (ls2 := [some (.ref 85), some (.int (zI x))]) rfl ?_)
  refine J_aload_n dX2_result_0 rfl rfl ?_
  refine J_get (v := .ref 51) dX2_result_1 fl_X2_22 hk85 rfl ?_
  refine J_aload_n dX2_result_4 rfl rfl ?_
  refine J_aload_n dX2_result_5 rfl rfl ?_
  refine J_get (v := .ref 51) dX2_result_6 fl_X2_22 hk85 rfl ?_
  refine J_iload_n dX2_result_9 rfl rfl ?_
  refine J_callV (st := [.ref 85, .ref 51]) dX2_result_10 cv_X2_44 (g_rowOf x many places rf q0 q1 q2 q3 hk51 hk52) hk51 rfl rfl (Nat.le_of_ble_eq_true rfl) ⟨(Nat.le_of_ble_eq_true rfl), (Nat.le_of_ble_eq_true rfl)⟩ ⟨(Nat.le_of_ble_eq_true rfl), (Nat.le_of_ble_eq_true rfl)⟩ (fun r h9 hp => ?_)
  obtain ⟨z1, rfl, rfl, h2⟩ := hp
  have h3 := Rg.at q6 (v_2b02420001 q0) (v_6251b724b8 q1 q3) h2
  refine J_nf (nh2 := nh) (ck2 := 0) (sk2 := 0) (st2 := [.int (zI z1), .ref 85, .ref 51]) rfl rfl rfl rfl ?_
  refine J_aload_n dX2_result_13 rfl rfl ?_
  refine J_get (v := .ref 1) dX2_result_14 fl_X2_18 hk85 rfl ?_
  refine J_get (v := .int (zI sc)) dX2_result_17 fl_X2_26 hk1 rfl ?_
  refine Z_iconst (n := -1) dX2_result_20 ?_
  refine J_callV (st := [.ref 51]) dX2_result_21 cv_X2_47 (m_run z1 sc (-1) lc fo wc cc sc la ra sa sb ((itB ff (x).toNat)) places (v_f306e1cdb8 h3.1 h3.2) q15 v_0065452639 v_d64efa60f9 q7 q8 q9 q10 q11 q12 q13 q14 q15 q16 q17 q18 q23 q24 q25 q4 q5 (by rw [q21]; exact (it_inv q19 (x).toNat (by have u := q20; have w := (v_b9aca61388 q1); unfold Hi at u; omega)).2.2) (by rw [← h2, q22 x (v_2b02420001 q0) (v_b9aca61388 q1), q21]) hk85 hk1 hk86 hk87) hk85 rfl rfl (Nat.le_of_ble_eq_true rfl) ⟨(Nat.le_of_ble_eq_true rfl), (Nat.le_of_ble_eq_true rfl)⟩ ⟨(Nat.le_of_ble_eq_true rfl), (Nat.le_of_ble_eq_true rfl)⟩ (fun r h9 hp => ?_)
  obtain ⟨z4, rfl, rfl, h5, h6⟩ := hp
  refine J_nf (nh2 := nh) (ck2 := 0) (sk2 := 0) (st2 := [.int (zI z4), .ref 51]) rfl rfl rfl rfl ?_
  refine J_callV (st := []) dX2_result_24 cv_X2_51 (g_find z4 many places rf h5 q2 q3 q6 (Rows_mono q22 q19 q20) hk51 hk52) hk51 rfl rfl (Nat.le_of_ble_eq_true rfl) ⟨(Nat.le_of_ble_eq_true rfl), (Nat.le_of_ble_eq_true rfl)⟩ ⟨(Nat.le_of_ble_eq_true rfl), (Nat.le_of_ble_eq_true rfl)⟩ (fun r h9 hp => ?_)
  obtain ⟨z7, rfl, rfl, h8, h9, h10⟩ := hp
  refine J_nf (nh2 := nh) (ck2 := 0) (sk2 := 0) (st2 := [.int (zI z7)]) rfl rfl rfl rfl ?_
  exact J_iret dX2_result_27 rfl rfl (Nat.le_of_ble_eq_true rfl) (Nat.le_of_ble_eq_true rfl) ⟨z7, rfl, rfl, h8, h9, (OrR.find q22 q19 q20 (by rw [← q21]; exact thC_ok q23 (by rw [q21]; exact (it_inv q19 (x).toNat (by have u := q20; have w := (v_b9aca61388 q1); unfold Hi at u; omega)).2.2) (sc).toNat (by omega)) (by rw [← q21]; exact h6) (v_4f729da59d h8) (v_b9aca61388 h9) h10)⟩
set_option maxHeartbeats 4000000 in
set_option maxRecDepth 100000 in
theorem m_firstUnsorted {l : Launch} {G : jG} {nh : Nat} {fh : Nat → Option va_E} (many : Int) (places : Int) (rf : Int → Int) (lc : Int) (fo : Int) (wc : Int) (cc : Int) (sc : Int) (la : Int → Int) (ra : Int → Int) (ff : Int → Int) (sa : Int → Int) (sb : Int → Int) (q0 : 1 ≤ many) (q1 : many ≤ 1260) (q2 : 0 ≤ places) (q3 : places ≤ 7) (q4 : Rg rf 1260 (-2147483648) 2147483647) (q5 : 0 ≤ lc) (q6 : lc ≤ 6) (q7 : -1 ≤ fo) (q8 : fo < lc) (q9 : 0 ≤ wc) (q10 : wc ≤ 8) (q11 : 0 ≤ cc) (q12 : cc ≤ 6) (q13 : 0 ≤ sc) (q14 : sc ≤ 12) (q15 : Rg la 12 (-2147483648) 2147483647) (q16 : Rg ra 12 (-2147483648) 2147483647) (q17 : okF ff) (q18 : many = Hi ff) (q19 : places = bsum ff) (q20 : RowsTo rf ff many) (q21 : SwV sa sb sc places) (q22 : ShT la sa sc places) (q23 : ShT ra sb sc places) (hk85 : fh 85 = some (.inr (2, [.ref 1, .ref 51, .ref 86, .ref 87]))) (hk51 : fh 51 = some (.inr (0, [.ref 52, .ref 53, .int (zI many), .int (zI places)]))) (hk52 : fh 52 = some (.inl (0, 1260, .inl (zA rf)))) (hk1 : fh 1 = some (.inr (8, [.ref 2, .ref 3, .ref 4, .int (zI lc), .int (zI fo), .ref 11, .ref 12, .int (zI wc), .ref 13, .ref 14, .int (zI cc), .ref 15, .ref 16, .int (zI sc)]))) (hk86 : fh 86 = some (.inl (0, 12, .inl (zA la)))) (hk87 : fh 87 = some (.inl (0, 12, .inl (zA ra)))) : JM l G yX2_firstUnsorted MX2_firstUnsorted { frames := 3, cells := 0, slots := 0, locals := 71 } [.ref 85] (nh, fh) (fun rr h9 => ∃ r : Int, rr = some (.int (zI r)) ∧ h9 = (nh, fh) ∧ (-1 ≤ r) ∧ (r < many) ∧ (FuR (SoH ff sa sb (-1) sc) many r)) := by
  refine JM.of (by decide) rfl (fun h => by cases h) (Nat.le_of_ble_eq_true rfl) ⟨2, rfl⟩ ?_
  refine J_hc0 (J_ls (ls2 := [some (.ref 85), none, none]) rfl ?_)
  refine J_aload_n dX2_firstUnsorted_0 rfl rfl ?_
  refine J_get (v := .ref 51) dX2_firstUnsorted_1 fl_X2_22 hk85 rfl ?_
  refine Z_iconst (n := 0) dX2_firstUnsorted_4 ?_
  refine J_callV (st := []) dX2_firstUnsorted_5 cv_X2_44 (g_rowOf 0 many places rf v_939070ca3f (v_8cacc2f855 q0) q0 q1 hk51 hk52) hk51 rfl rfl (Nat.le_of_ble_eq_true rfl) ⟨(Nat.le_of_ble_eq_true rfl), (Nat.le_of_ble_eq_true rfl)⟩ ⟨(Nat.le_of_ble_eq_true rfl), (Nat.le_of_ble_eq_true rfl)⟩ (fun r h9 hp => ?_)
  obtain ⟨z1, rfl, rfl, h2⟩ := hp
  have h3 := Rg.at q4 v_939070ca3f v_c5edf0a345 h2
  refine J_nf (nh2 := nh) (ck2 := 0) (sk2 := 0) (st2 := [.int (zI z1)]) rfl rfl rfl rfl ?_
  refine J_istore_n dX2_firstUnsorted_8 rfl (Nat.le_of_ble_eq_true rfl) rfl ?_
  refine J_ls (ls2 := [some (.ref 85), some (.int (zI z1)), none]) rfl ?_
  refine Z_iconst (n := 0) dX2_firstUnsorted_9 ?_
  refine J_istore_n dX2_firstUnsorted_10 rfl (Nat.le_of_ble_eq_true rfl) rfl ?_
  refine J_ls (ls2 := [some (.ref 85), some (.int (zI z1)), some (.int (zI 0))]) rfl ?_
  have lp11 : ∀ (N11 : Nat) (h_11 : Int), (0 ≤ h_11) → (h_11 ≤ many) → (AlT (SoH ff sa sb (-1) sc) h_11) → (many - h_11).toNat < N11 → J l G MX2_firstUnsorted { frames := 3, cells := 0, slots := 0, locals := 71 } jE (jMQ G { frames := 3, cells := 0, slots := 0, locals := 71 } (fun rr h9 => ∃ r : Int, rr = some (.int (zI r)) ∧ h9 = (nh, fh) ∧ (-1 ≤ r) ∧ (r < many) ∧ (FuR (SoH ff sa sb (-1) sc) many r))) (nh, hc fh []) 0 0 11 [some (.ref 85), some (.int (zI z1)), some (.int (zI h_11))] [] := by
    intro N11
    induction N11 with
    | zero => intro h_11 i11_0 i11_1 i11_2 hm; exact absurd hm (Nat.not_lt_zero _)
    | succ N11 ih11 =>
      intro h_11 i11_0 i11_1 i11_2 hm11
      refine J_iload_n dX2_firstUnsorted_11 rfl rfl ?_
      refine J_aload_n dX2_firstUnsorted_12 rfl rfl ?_
      refine J_get (v := .ref 51) dX2_firstUnsorted_13 fl_X2_22 hk85 rfl ?_
      refine J_callV (st := [.int (zI h_11)]) dX2_firstUnsorted_16 cv_X2_58 (g_many many places hk51) hk51 rfl rfl (Nat.le_of_ble_eq_true rfl) ⟨(Nat.le_of_ble_eq_true rfl), (Nat.le_of_ble_eq_true rfl)⟩ ⟨(Nat.le_of_ble_eq_true rfl), (Nat.le_of_ble_eq_true rfl)⟩ (fun r h9 hp => ?_)
      obtain ⟨rfl, rfl⟩ := hp
      refine J_nf (nh2 := nh) (ck2 := 0) (sk2 := 0) (st2 := [.int (zI many), .int (zI h_11)]) rfl rfl rfl rfl ?_
      refine Z_icmp_ge (tgt := 54) dX2_firstUnsorted_19 (by decide) (v_c9ca704c4d q1 i11_0 i11_1) (v_81c6732ede q0 q1) (fun h4 => ?_) (fun h4 => ?_)
      · refine Z_iconst (n := -1) dX2_firstUnsorted_54 ?_
        exact J_iret dX2_firstUnsorted_55 rfl rfl (Nat.le_of_ble_eq_true rfl) (Nat.le_of_ble_eq_true rfl) ⟨(-1), rfl, rfl, v_4d9e6ac08a, (v_7e0ab68801 q0), (Or.inl ⟨rfl, fun t a b => i11_2 t a (by have u := (v_d464d4c634 h4); omega)⟩)⟩
      · refine J_aload_n dX2_firstUnsorted_22 rfl rfl ?_
        refine J_aload_n dX2_firstUnsorted_23 rfl rfl ?_
        refine J_get (v := .ref 51) dX2_firstUnsorted_24 fl_X2_22 hk85 rfl ?_
        refine J_iload_n dX2_firstUnsorted_27 rfl rfl ?_
        refine J_callV (st := [.ref 85]) dX2_firstUnsorted_28 cv_X2_44 (g_rowOf h_11 many places rf i11_0 (v_fe9ea41faa h4) q0 q1 hk51 hk52) hk51 rfl rfl (Nat.le_of_ble_eq_true rfl) ⟨(Nat.le_of_ble_eq_true rfl), (Nat.le_of_ble_eq_true rfl)⟩ ⟨(Nat.le_of_ble_eq_true rfl), (Nat.le_of_ble_eq_true rfl)⟩ (fun r h9 hp => ?_)
        obtain ⟨z5, rfl, rfl, h6⟩ := hp
        have h7 := Rg.at q4 (v_2b02420001 i11_0) (v_610e7c4416 q1 h4) h6
        refine J_nf (nh2 := nh) (ck2 := 0) (sk2 := 0) (st2 := [.int (zI z5), .ref 85]) rfl rfl rfl rfl ?_
        refine J_aload_n dX2_firstUnsorted_31 rfl rfl ?_
        refine J_get (v := .ref 1) dX2_firstUnsorted_32 fl_X2_18 hk85 rfl ?_
        refine J_get (v := .int (zI sc)) dX2_firstUnsorted_35 fl_X2_26 hk1 rfl ?_
        refine Z_iconst (n := -1) dX2_firstUnsorted_38 ?_
        refine J_callV (st := []) dX2_firstUnsorted_39 cv_X2_47 (m_run z5 sc (-1) lc fo wc cc sc la ra sa sb ((itB ff (h_11).toNat)) places (v_f306e1cdb8 h7.1 h7.2) q13 v_0065452639 v_d64efa60f9 q5 q6 q7 q8 q9 q10 q11 q12 q13 q14 q15 q16 q21 q22 q23 q2 q3 (by rw [q19]; exact (it_inv q17 (h_11).toNat (by have u := q18; have w := (v_fe9ea41faa h4); unfold Hi at u; omega)).2.2) (by rw [← h6, q20 h_11 (v_2b02420001 i11_0) (v_fe9ea41faa h4), q19]) hk85 hk1 hk86 hk87) hk85 rfl rfl (Nat.le_of_ble_eq_true rfl) ⟨(Nat.le_of_ble_eq_true rfl), (Nat.le_of_ble_eq_true rfl)⟩ ⟨(Nat.le_of_ble_eq_true rfl), (Nat.le_of_ble_eq_true rfl)⟩ (fun r h9 hp => ?_)
        obtain ⟨z8, rfl, rfl, h9, h10⟩ := hp
        refine J_nf (nh2 := nh) (ck2 := 0) (sk2 := 0) (st2 := [.int (zI z8)]) rfl rfl rfl rfl ?_
        refine J_iload_n dX2_firstUnsorted_42 rfl rfl ?_
        refine Z_icmp_eq (tgt := 48) dX2_firstUnsorted_43 (by decide) (v_b25fa51a85 h9) (v_f306e1cdb8 h3.1 h3.2) (fun h11 => ?_) (fun h11 => ?_)
        · refine Z_iinc (c := h_11 + 1) (ls2 := [some (.ref 85), some (.int (zI z1)), some (.int (zI (h_11 + 1)))]) dX2_firstUnsorted_48 rfl (Nat.le_of_ble_eq_true rfl) rfl rfl rfl ?_
          refine J_goto (tgt := 11) dX2_firstUnsorted_51 (by decide) ?_
          exact ih11 (h_11 + 1) (v_da458fa48a i11_0) (v_e390a36114 h4) (AlT.step i11_2 ((SoH_row q21 q20 q17 q18 q19 (v_2b02420001 q13) v_0065452639 (v_2b02420001 i11_0) (v_fe9ea41faa h4) h10 h2).mp (v_cd91a95e4e h11))) (meas_lt v_90eacd6fd4 (v_8b7dd7d486 h4) hm11)
        · refine J_iload_n dX2_firstUnsorted_46 rfl rfl ?_
          exact J_iret dX2_firstUnsorted_47 rfl rfl (Nat.le_of_ble_eq_true rfl) (Nat.le_of_ble_eq_true rfl) ⟨h_11, rfl, rfl, (v_576129c2e8 i11_0), (v_fe9ea41faa h4), (Or.inr ⟨i11_0, (v_fe9ea41faa h4), fun w => absurd ((SoH_row q21 q20 q17 q18 q19 (v_2b02420001 q13) v_0065452639 (v_2b02420001 i11_0) (v_fe9ea41faa h4) h10 h2).mpr w) (v_da5cc3277e h11), i11_2⟩)⟩
  exact lp11 _ 0 v_939070ca3f (v_632d2dbe78 q0) (AlT_0) (Nat.lt_succ_self _)
set_option maxHeartbeats 4000000 in
set_option maxRecDepth 100000 in
theorem m_needless {l : Launch} {G : jG} {nh : Nat} {fh : Nat → Option va_E} (many : Int) (places : Int) (rf : Int → Int) (lc : Int) (fo : Int) (wc : Int) (cc : Int) (sc : Int) (la : Int → Int) (ra : Int → Int) (ff : Int → Int) (sa : Int → Int) (sb : Int → Int) (q0 : 1 ≤ many) (q1 : many ≤ 1260) (q2 : 0 ≤ places) (q3 : places ≤ 7) (q4 : Rg rf 1260 (-2147483648) 2147483647) (q5 : 0 ≤ lc) (q6 : lc ≤ 6) (q7 : -1 ≤ fo) (q8 : fo < lc) (q9 : 0 ≤ wc) (q10 : wc ≤ 8) (q11 : 0 ≤ cc) (q12 : cc ≤ 6) (q13 : 0 ≤ sc) (q14 : sc ≤ 12) (q15 : Rg la 12 (-2147483648) 2147483647) (q16 : Rg ra 12 (-2147483648) 2147483647) (q17 : okF ff) (q18 : many = Hi ff) (q19 : places = bsum ff) (q20 : RowsTo rf ff many) (q21 : SwV sa sb sc places) (q22 : ShT la sa sc places) (q23 : ShT ra sb sc places) (hk85 : fh 85 = some (.inr (2, [.ref 1, .ref 51, .ref 86, .ref 87]))) (hk51 : fh 51 = some (.inr (0, [.ref 52, .ref 53, .int (zI many), .int (zI places)]))) (hk52 : fh 52 = some (.inl (0, 1260, .inl (zA rf)))) (hk1 : fh 1 = some (.inr (8, [.ref 2, .ref 3, .ref 4, .int (zI lc), .int (zI fo), .ref 11, .ref 12, .int (zI wc), .ref 13, .ref 14, .int (zI cc), .ref 15, .ref 16, .int (zI sc)]))) (hk86 : fh 86 = some (.inl (0, 12, .inl (zA la)))) (hk87 : fh 87 = some (.inl (0, 12, .inl (zA ra)))) : JM l G yX2_needless MX2_needless { frames := 5, cells := 0, slots := 0, locals := 116 } [.ref 85] (nh, fh) (fun rr h9 => ∃ r : Int, rr = some (.int (zI r)) ∧ h9 = (nh, fh) ∧ (r = ndB (fun k => soN (SoH ff sa sb (-1) sc) (many).toNat ≤ soN (SoH ff sa sb k sc) (many).toNat) (sc).toNat)) := by
  refine JM.of (by decide) rfl (fun h => by cases h) (Nat.le_of_ble_eq_true rfl) ⟨3, rfl⟩ ?_
  refine J_hc0 (J_ls (ls2 := [some (.ref 85), none, none, none]) rfl ?_)
  refine J_aload_n dX2_needless_0 rfl rfl ?_
  refine J_callV (st := []) dX2_needless_1 cv_X2_62 (m_sortedAll many places rf lc fo wc cc sc la ra ff sa sb q0 q1 q2 q3 q4 q5 q6 q7 q8 q9 q10 q11 q12 q13 q14 q15 q16 q17 q18 q19 q20 q21 q22 q23 hk85 hk51 hk52 hk1 hk86 hk87) hk85 rfl rfl (Nat.le_of_ble_eq_true rfl) ⟨(Nat.le_of_ble_eq_true rfl), (Nat.le_of_ble_eq_true rfl)⟩ ⟨(Nat.le_of_ble_eq_true rfl), (Nat.le_of_ble_eq_true rfl)⟩ (fun r h9 hp => ?_)
  obtain ⟨z1, rfl, rfl, h2, h3, h4⟩ := hp
  refine J_nf (nh2 := nh) (ck2 := 0) (sk2 := 0) (st2 := [.int (zI z1)]) rfl rfl rfl rfl ?_
  refine J_istore_n dX2_needless_4 rfl (Nat.le_of_ble_eq_true rfl) rfl ?_
  refine J_ls (ls2 := [some (.ref 85), some (.int (zI z1)), none, none]) rfl ?_
  refine Z_iconst (n := 0) dX2_needless_5 ?_
  refine J_istore_n dX2_needless_6 rfl (Nat.le_of_ble_eq_true rfl) rfl ?_
  refine J_ls (ls2 := [some (.ref 85), some (.int (zI z1)), some (.int (zI 0)), none]) rfl ?_
  refine Z_iconst (n := 0) dX2_needless_7 ?_
  refine J_istore_n dX2_needless_8 rfl (Nat.le_of_ble_eq_true rfl) rfl ?_
  refine J_ls (ls2 := [some (.ref 85), some (.int (zI z1)), some (.int (zI 0)), some (.int (zI 0))]) rfl ?_
  have lp9 : ∀ (N9 : Nat) (bt_9 : Int) (i_9 : Int), (0 ≤ i_9) → (i_9 ≤ sc) → (bt_9 = ndB (fun k => soN (SoH ff sa sb (-1) sc) (many).toNat ≤ soN (SoH ff sa sb k sc) (many).toNat) (i_9).toNat) → (sc - i_9).toNat < N9 → J l G MX2_needless { frames := 5, cells := 0, slots := 0, locals := 116 } jE (jMQ G { frames := 5, cells := 0, slots := 0, locals := 116 } (fun rr h9 => ∃ r : Int, rr = some (.int (zI r)) ∧ h9 = (nh, fh) ∧ (r = ndB (fun k => soN (SoH ff sa sb (-1) sc) (many).toNat ≤ soN (SoH ff sa sb k sc) (many).toNat) (sc).toNat))) (nh, hc fh []) 0 0 9 [some (.ref 85), some (.int (zI z1)), some (.int (zI bt_9)), some (.int (zI i_9))] [] := by
    intro N9
    induction N9 with
    | zero => intro bt_9 i_9 i9_0 i9_1 i9_2 hm; exact absurd hm (Nat.not_lt_zero _)
    | succ N9 ih9 =>
      intro bt_9 i_9 i9_0 i9_1 i9_2 hm9
      refine J_iload_n dX2_needless_9 rfl rfl ?_
      refine J_aload_n dX2_needless_10 rfl rfl ?_
      refine J_get (v := .ref 1) dX2_needless_11 fl_X2_18 hk85 rfl ?_
      refine J_get (v := .int (zI sc)) dX2_needless_14 fl_X2_26 hk1 rfl ?_
      refine Z_icmp_ge (tgt := 48) dX2_needless_17 (by decide) (v_d7c76a7f82 q14 i9_0 i9_1) (v_00eb067ff8 q13 q14) (fun h5 => ?_) (fun h5 => ?_)
      · refine J_iload_n dX2_needless_48 rfl rfl ?_
        exact J_iret dX2_needless_49 rfl rfl (Nat.le_of_ble_eq_true rfl) (Nat.le_of_ble_eq_true rfl) ⟨bt_9, rfl, rfl, (by have e : i_9 = sc := (v_9b8f42b01e i9_1 h5); have h := i9_2; rw [e] at h; exact h)⟩
      · refine J_aload_n dX2_needless_20 rfl rfl ?_
        refine J_aload_n dX2_needless_21 rfl rfl ?_
        refine J_get (v := .ref 1) dX2_needless_22 fl_X2_18 hk85 rfl ?_
        refine J_get (v := .int (zI sc)) dX2_needless_25 fl_X2_26 hk1 rfl ?_
        refine J_iload_n dX2_needless_28 rfl rfl ?_
        refine J_callV (st := []) dX2_needless_29 cv_X2_54 (m_tally sc i_9 many places rf lc fo wc cc sc la ra ff sa sb q13 v_0065452639 (v_3c018e310c q14 i9_0 h5) q0 q1 q2 q3 q4 q5 q6 q7 q8 q9 q10 q11 q12 q13 q14 q15 q16 q17 q18 q19 q20 q21 q22 q23 hk85 hk51 hk52 hk1 hk86 hk87) hk85 rfl rfl (Nat.le_of_ble_eq_true rfl) ⟨(Nat.le_of_ble_eq_true rfl), (Nat.le_of_ble_eq_true rfl)⟩ ⟨(Nat.le_of_ble_eq_true rfl), (Nat.le_of_ble_eq_true rfl)⟩ (fun r h9 hp => ?_)
        obtain ⟨z6, rfl, rfl, h7, h8, h9⟩ := hp
        refine J_nf (nh2 := nh) (ck2 := 0) (sk2 := 0) (st2 := [.int (zI z6)]) rfl rfl rfl rfl ?_
        refine J_iload_n dX2_needless_32 rfl rfl ?_
        refine Z_icmp_lt (tgt := 42) dX2_needless_33 (by decide) (v_d5bb4ec110 h7 h8) (v_d5bb4ec110 h2 h3) (fun h10 => ?_) (fun h10 => ?_)
        · refine Z_iinc (c := i_9 + 1) (ls2 := [some (.ref 85), some (.int (zI z1)), some (.int (zI bt_9)), some (.int (zI (i_9 + 1)))]) dX2_needless_42 rfl (Nat.le_of_ble_eq_true rfl) rfl rfl rfl ?_
          refine J_goto (tgt := 9) dX2_needless_45 (by decide) ?_
          exact ih9 bt_9 (i_9 + 1) (v_da458fa48a i9_0) (v_e390a36114 h5) (ndB_step i9_2 i9_0 (Or.inr ⟨fun w => by have u : z1 ≤ z6 := (by rw [h4, h9]; exact w); omega, rfl⟩)) (meas_lt v_90eacd6fd4 (v_8b7dd7d486 h5) hm9)
        · refine J_iload_n dX2_needless_36 rfl rfl ?_
          refine Z_iconst (n := 1) dX2_needless_37 ?_
          refine J_iload_n dX2_needless_38 rfl rfl ?_
          obtain ⟨z11, ez11⟩ : ∃ z : Int, zshl 1 i_9 = z := ⟨_, rfl⟩
          refine Y_ishl (z := z11) dX2_needless_39 ez11 ?_
          have h12 : zr z11 := by rw [← ez11]; exact zr_toInt _
          obtain ⟨z13, ez13⟩ : ∃ z : Int, zor bt_9 z11 = z := ⟨_, rfl⟩
          refine Y_ior (z := z13) dX2_needless_40 ez13 ?_
          have h14 : zr z13 := by rw [← ez13]; exact zr_toInt _
          refine J_istore_n dX2_needless_41 rfl (Nat.le_of_ble_eq_true rfl) rfl ?_
          refine J_ls (ls2 := [some (.ref 85), some (.int (zI z1)), some (.int (zI z13)), some (.int (zI i_9))]) rfl ?_
          refine Z_iinc (c := i_9 + 1) (ls2 := [some (.ref 85), some (.int (zI z1)), some (.int (zI z13)), some (.int (zI (i_9 + 1)))]) dX2_needless_42 rfl (Nat.le_of_ble_eq_true rfl) rfl rfl rfl ?_
          refine J_goto (tgt := 9) dX2_needless_45 (by decide) ?_
          exact ih9 z13 (i_9 + 1) (v_da458fa48a i9_0) (v_e390a36114 h5) (ndB_step i9_2 i9_0 (Or.inl ⟨(by show _ ≤ _; rw [← h4, ← h9]; exact (v_a8d8b48da6 h10)), (by rw [ez11]; exact ez13.symm)⟩)) (meas_lt v_90eacd6fd4 (v_8b7dd7d486 h5) hm9)
  exact lp9 _ 0 0 v_939070ca3f q13 (rfl) (Nat.lt_succ_self _)
set_option maxHeartbeats 4000000 in
set_option maxRecDepth 100000 in
theorem m_fewestFirst {l : Launch} {G : jG} {nh : Nat} {fh : Nat → Option va_E} (many : Int) (places : Int) (rf : Int → Int) (lc : Int) (fo : Int) (wc : Int) (cc : Int) (sc : Int) (la : Int → Int) (ra : Int → Int) (ff : Int → Int) (sa : Int → Int) (sb : Int → Int) (q0 : 1 ≤ many) (q1 : many ≤ 1260) (q2 : 0 ≤ places) (q3 : places ≤ 7) (q4 : Rg rf 1260 (-2147483648) 2147483647) (q5 : 0 ≤ lc) (q6 : lc ≤ 6) (q7 : -1 ≤ fo) (q8 : fo < lc) (q9 : 0 ≤ wc) (q10 : wc ≤ 8) (q11 : 0 ≤ cc) (q12 : cc ≤ 6) (q13 : 0 ≤ sc) (q14 : sc ≤ 12) (q15 : Rg la 12 (-2147483648) 2147483647) (q16 : Rg ra 12 (-2147483648) 2147483647) (q17 : okF ff) (q18 : many = Hi ff) (q19 : places = bsum ff) (q20 : RowsTo rf ff many) (q21 : SwV sa sb sc places) (q22 : ShT la sa sc places) (q23 : ShT ra sb sc places) (hk85 : fh 85 = some (.inr (2, [.ref 1, .ref 51, .ref 86, .ref 87]))) (hk51 : fh 51 = some (.inr (0, [.ref 52, .ref 53, .int (zI many), .int (zI places)]))) (hk52 : fh 52 = some (.inl (0, 1260, .inl (zA rf)))) (hk1 : fh 1 = some (.inr (8, [.ref 2, .ref 3, .ref 4, .int (zI lc), .int (zI fo), .ref 11, .ref 12, .int (zI wc), .ref 13, .ref 14, .int (zI cc), .ref 15, .ref 16, .int (zI sc)]))) (hk86 : fh 86 = some (.inl (0, 12, .inl (zA la)))) (hk87 : fh 87 = some (.inl (0, 12, .inl (zA ra)))) : JM l G yX2_fewestFirst MX2_fewestFirst { frames := 5, cells := 0, slots := 0, locals := 116 } [.ref 85] (nh, fh) (fun rr h9 => ∃ r : Int, rr = some (.int (zI r)) ∧ h9 = (nh, fh) ∧ (0 ≤ r) ∧ (r ≤ sc) ∧ (LeR (fun k => soN (SoH ff sa sb (-1) k) (many).toNat) (soN (SoH ff sa sb (-1) sc) (many).toNat) r)) := by
  refine JM.of (by decide) rfl (fun h => by cases h) (Nat.le_of_ble_eq_true rfl) ⟨2, rfl⟩ ?_
  refine J_hc0 (J_ls (ls2 := [some (.ref 85), none, none]) rfl ?_)
  refine J_aload_n dX2_fewestFirst_0 rfl rfl ?_
  refine J_callV (st := []) dX2_fewestFirst_1 cv_X2_62 (m_sortedAll many places rf lc fo wc cc sc la ra ff sa sb q0 q1 q2 q3 q4 q5 q6 q7 q8 q9 q10 q11 q12 q13 q14 q15 q16 q17 q18 q19 q20 q21 q22 q23 hk85 hk51 hk52 hk1 hk86 hk87) hk85 rfl rfl (Nat.le_of_ble_eq_true rfl) ⟨(Nat.le_of_ble_eq_true rfl), (Nat.le_of_ble_eq_true rfl)⟩ ⟨(Nat.le_of_ble_eq_true rfl), (Nat.le_of_ble_eq_true rfl)⟩ (fun r h9 hp => ?_)
  obtain ⟨z1, rfl, rfl, h2, h3, h4⟩ := hp
  refine J_nf (nh2 := nh) (ck2 := 0) (sk2 := 0) (st2 := [.int (zI z1)]) rfl rfl rfl rfl ?_
  refine J_istore_n dX2_fewestFirst_4 rfl (Nat.le_of_ble_eq_true rfl) rfl ?_
  refine J_ls (ls2 := [some (.ref 85), some (.int (zI z1)), none]) rfl ?_
  refine Z_iconst (n := 0) dX2_fewestFirst_5 ?_
  refine J_istore_n dX2_fewestFirst_6 rfl (Nat.le_of_ble_eq_true rfl) rfl ?_
  refine J_ls (ls2 := [some (.ref 85), some (.int (zI z1)), some (.int (zI 0))]) rfl ?_
  have lp7 : ∀ (N7 : Nat) (i_7 : Int), (0 ≤ i_7) → (i_7 ≤ sc) → (∀ t, 0 ≤ t → t < i_7 → soN (SoH ff sa sb (-1) t) (many).toNat < soN (SoH ff sa sb (-1) sc) (many).toNat) → (sc - i_7).toNat < N7 → J l G MX2_fewestFirst { frames := 5, cells := 0, slots := 0, locals := 116 } jE (jMQ G { frames := 5, cells := 0, slots := 0, locals := 116 } (fun rr h9 => ∃ r : Int, rr = some (.int (zI r)) ∧ h9 = (nh, fh) ∧ (0 ≤ r) ∧ (r ≤ sc) ∧ (LeR (fun k => soN (SoH ff sa sb (-1) k) (many).toNat) (soN (SoH ff sa sb (-1) sc) (many).toNat) r))) (nh, hc fh []) 0 0 7 [some (.ref 85), some (.int (zI z1)), some (.int (zI i_7))] [] := by
    intro N7
    induction N7 with
    | zero => intro i_7 i7_0 i7_1 i7_2 hm; exact absurd hm (Nat.not_lt_zero _)
    | succ N7 ih7 =>
      intro i_7 i7_0 i7_1 i7_2 hm7
      refine J_iload_n dX2_fewestFirst_7 rfl rfl ?_
      refine J_aload_n dX2_fewestFirst_8 rfl rfl ?_
      refine J_get (v := .ref 1) dX2_fewestFirst_9 fl_X2_18 hk85 rfl ?_
      refine J_get (v := .int (zI sc)) dX2_fewestFirst_12 fl_X2_26 hk1 rfl ?_
      refine Z_icmp_ge (tgt := 34) dX2_fewestFirst_15 (by decide) (v_d7c76a7f82 q14 i7_0 i7_1) (v_00eb067ff8 q13 q14) (fun h5 => ?_) (fun h5 => ?_)
      · refine J_iload_n dX2_fewestFirst_34 rfl rfl ?_
        exact J_iret dX2_fewestFirst_35 rfl rfl (Nat.le_of_ble_eq_true rfl) (Nat.le_of_ble_eq_true rfl) ⟨i_7, rfl, rfl, i7_0, i7_1, (⟨i7_0, (by have e : i_7 = sc := (v_9b8f42b01e i7_1 h5); rw [e]; exact Int.le_refl _), i7_2⟩)⟩
      · refine J_aload_n dX2_fewestFirst_18 rfl rfl ?_
        refine J_iload_n dX2_fewestFirst_19 rfl rfl ?_
        refine Z_iconst (n := -1) dX2_fewestFirst_20 ?_
        refine J_callV (st := []) dX2_fewestFirst_21 cv_X2_54 (m_tally i_7 (-1) many places rf lc fo wc cc sc la ra ff sa sb i7_0 i7_1 v_d64efa60f9 q0 q1 q2 q3 q4 q5 q6 q7 q8 q9 q10 q11 q12 q13 q14 q15 q16 q17 q18 q19 q20 q21 q22 q23 hk85 hk51 hk52 hk1 hk86 hk87) hk85 rfl rfl (Nat.le_of_ble_eq_true rfl) ⟨(Nat.le_of_ble_eq_true rfl), (Nat.le_of_ble_eq_true rfl)⟩ ⟨(Nat.le_of_ble_eq_true rfl), (Nat.le_of_ble_eq_true rfl)⟩ (fun r h9 hp => ?_)
        obtain ⟨z6, rfl, rfl, h7, h8, h9⟩ := hp
        refine J_nf (nh2 := nh) (ck2 := 0) (sk2 := 0) (st2 := [.int (zI z6)]) rfl rfl rfl rfl ?_
        refine J_iload_n dX2_fewestFirst_24 rfl rfl ?_
        refine Z_icmp_ge (tgt := 34) dX2_fewestFirst_25 (by decide) (v_d5bb4ec110 h7 h8) (v_d5bb4ec110 h2 h3) (fun h10 => ?_) (fun h10 => ?_)
        · refine J_iload_n dX2_fewestFirst_34 rfl rfl ?_
          exact J_iret dX2_fewestFirst_35 rfl rfl (Nat.le_of_ble_eq_true rfl) (Nat.le_of_ble_eq_true rfl) ⟨i_7, rfl, rfl, i7_0, i7_1, (⟨i7_0, (by show _ ≤ soN (SoH ff sa sb (-1) i_7) (many).toNat; rw [← h4, ← h9]; exact (v_d464d4c634 h10)), i7_2⟩)⟩
        · refine Z_iinc (c := i_7 + 1) (ls2 := [some (.ref 85), some (.int (zI z1)), some (.int (zI (i_7 + 1)))]) dX2_fewestFirst_28 rfl (Nat.le_of_ble_eq_true rfl) rfl rfl rfl ?_
          refine J_goto (tgt := 7) dX2_fewestFirst_31 (by decide) ?_
          exact ih7 (i_7 + 1) (v_da458fa48a i7_0) (v_e390a36114 h5) (fun t a b => by
        by_cases e : t = i_7
        · rw [e, ← h4, ← h9]; exact (v_fe9ea41faa h10)
        · exact i7_2 t a (by omega)) (meas_lt v_90eacd6fd4 (v_8b7dd7d486 h5) hm7)
  exact lp7 _ 0 v_939070ca3f q13 (fun t a b => by omega) (Nat.lt_succ_self _)
