abbrev MX5_length : jM := (RX5, cX5_length, 1, some .int, false)
set_option maxRecDepth 20000 in
theorem iX5_at : ∀ k : Nat, k < 10 → u_lay RX5 TX5 k ∈ jtb
  | 0, _ => jt1 136 rfl rfl
  | 1, _ => jt1 138 rfl rfl
  | 2, _ => jt1 140 rfl rfl
  | 3, _ => jt1 142 rfl rfl
  | 4, _ => jt1 144 rfl rfl
  | 5, _ => jt1 146 rfl rfl
  | 6, _ => jt1 148 rfl rfl
  | 7, _ => jt1 150 rfl rfl
  | 8, _ => jt1 152 rfl rfl
  | 9, _ => jt1 154 rfl rfl
  | (n + 10), h => absurd h (by omega)
theorem iX5 : ∀ w ∈ u_ws RX5 TX5 10, w ∈ jtb := fun w hw => by
  obtain ⟨k, hk, rfl⟩ := List.mem_map.mp hw
  exact iX5_at k (List.mem_range.mp hk)
theorem fl_X5_15 : jFL RX5 15 5 1 := ⟨_, _, _, rfl, iX5, by decide, Or.inl (jt1 127 rfl rfl)⟩
abbrev MX5_at : jM := (RX5, cX5_at, 2, some .int, false)
theorem fl_X5_11 : jFL RX5 11 5 0 := ⟨_, _, _, rfl, iX5, by decide, Or.inl (jt1 126 rfl rfl)⟩
abbrev MX5_hasRoom : jM := (RX5, cX5_hasRoom, 2, some .boolean, false)
abbrev MX5_take : jM := (RX5, cX5_take, 3, none, false)
theorem fw_X5_15 : jFW RX5 15 5 1 (.int) false := ⟨_, _, _, tyX5, rfl, iX5, tyX5_ok, nmX5, by decide, rfl, rfl, (fun h => by cases h), Or.inl (jt1 127 rfl rfl)⟩
abbrev MX5_cut : jM := (RX5, cX5_cut, 2, some .boolean, false)
abbrev MX5_holdsColours : jM := (RX5, cX5_holdsColours, 2, some .boolean, false)
abbrev MX5_isLetter : jM := (RX5, cX5_isLetter, 1, some .boolean, false)
abbrev MX5_isDigit : jM := (RX5, cX5_isDigit, 1, some .boolean, false)
abbrev MX5_isSign : jM := (RX5, cX5_isSign, 2, some .boolean, false)
theorem fl_X5_19 : jFL RX5 19 5 2 := ⟨_, _, _, rfl, iX5, by decide, Or.inl (jt1 128 rfl rfl)⟩
abbrev MX5_wrong : jM := (RX5, cX5_wrong, 1, some .boolean, false)
theorem fl_X5_22 : jFL RX5 22 5 3 := ⟨_, _, _, rfl, iX5, by decide, Or.inl (jt1 129 rfl rfl)⟩
theorem fw_X5_34 : jFW RX5 34 5 7 (.int) false := ⟨_, _, _, tyX5, rfl, iX5, tyX5_ok, nmX5, by decide, rfl, rfl, (fun h => by cases h), Or.inl (jt1 133 rfl rfl)⟩
abbrev MX5_emit : jM := (RX5, cX5_emit, 4, some .int, false)
theorem fl_X5_40 : jFL RX5 40 5 9 := ⟨_, _, _, rfl, iX5, by decide, Or.inl (jt1 135 rfl rfl)⟩
theorem fl_X5_37 : jFL RX5 37 5 8 := ⟨_, _, _, rfl, iX5, by decide, Or.inl (jt1 134 rfl rfl)⟩
theorem fw_X5_40 : jFW RX5 40 5 9 (.int) false := ⟨_, _, _, tyX5, rfl, iX5, tyX5_ok, nmX5, by decide, rfl, rfl, (fun h => by cases h), Or.inl (jt1 135 rfl rfl)⟩
abbrev MX5_aim : jM := (RX5, cX5_aim, 2, none, false)
abbrev MX5_wordNumber : jM := (RX5, cX5_wordNumber, 6, some .int, false)
theorem fl_X5_25 : jFL RX5 25 5 4 := ⟨_, _, _, rfl, iX5, by decide, Or.inl (jt1 130 rfl rfl)⟩
abbrev MX5_advance : jM := (RX5, cX5_advance, 1, none, false)
theorem fw_X5_22 : jFW RX5 22 5 3 (.int) false := ⟨_, _, _, tyX5, rfl, iX5, tyX5_ok, nmX5, by decide, rfl, rfl, (fun h => by cases h), Or.inl (jt1 129 rfl rfl)⟩
theorem fw_X5_25 : jFW RX5 25 5 4 (.int) false := ⟨_, _, _, tyX5, rfl, iX5, tyX5_ok, nmX5, by decide, rfl, rfl, (fun h => by cases h), Or.inl (jt1 130 rfl rfl)⟩
theorem fw_X5_19 : jFW RX5 19 5 2 (.int) false := ⟨_, _, _, tyX5, rfl, iX5, tyX5_ok, nmX5, by decide, rfl, rfl, (fun h => by cases h), Or.inl (jt1 128 rfl rfl)⟩
theorem cs_X5_98 : jCS RX5 98 yX5_isLetter MX5_isLetter 1 := ⟨(jt3 164 rfl rfl), (jt3 163 rfl rfl), (jt1 4 rfl rfl), ⟨by decide, by decide, by decide +kernel⟩, Or.inl (jt3 162 rfl rfl)⟩
theorem cv_X5_101 : jCV RX5 101 5 yX5_wordNumber MX5_wordNumber 0 := ⟨_, _, rfl, (jt3 168 rfl rfl), (jt3 167 rfl rfl), (jtp (q := (⟨"BeanStreet$Reader", "wordNumber", "()I"⟩, 10)) (List.mem_of_getElem? (i := 7) rfl)), (jt1 4 rfl rfl), ⟨by decide, by decide, by decide +kernel⟩, Or.inl (jt3 165 rfl rfl)⟩
theorem cs_X5_105 : jCS RX5 105 yX5_isDigit MX5_isDigit 1 := ⟨(jt3 220 rfl rfl), (jt3 219 rfl rfl), (jt1 4 rfl rfl), ⟨by decide, by decide, by decide +kernel⟩, Or.inl (jt3 218 rfl rfl)⟩
theorem fw_X5_28 : jFW RX5 28 5 5 (.int) false := ⟨_, _, _, tyX5, rfl, iX5, tyX5_ok, nmX5, by decide, rfl, rfl, (fun h => by cases h), Or.inl (jt1 131 rfl rfl)⟩
theorem fl_X5_28 : jFL RX5 28 5 5 := ⟨_, _, _, rfl, iX5, by decide, Or.inl (jt1 131 rfl rfl)⟩
abbrev MX5_bracketedSum : jM := (RX5, cX5_bracketedSum, 2, some .boolean, false)
theorem cv_X5_54 : jCV RX5 54 5 yX5_wrong MX5_wrong 0 := ⟨_, _, rfl, (jt3 231 rfl rfl), (jt3 230 rfl rfl), (jtp (q := (⟨"BeanStreet$Reader", "wrong", "()Z"⟩, 10)) (List.mem_of_getElem? (i := 9) rfl)), (jt1 4 rfl rfl), ⟨by decide, by decide, by decide +kernel⟩, Or.inl (jt3 228 rfl rfl)⟩
abbrev MX5_part : jM := (RX5, cX5_part, 4, some .boolean, false)
theorem cv_X5_50 : jCV RX5 50 5 yX5_isSign MX5_isSign 1 := ⟨_, _, rfl, (jt4 7 rfl rfl), (jt4 6 rfl rfl), (jtp (q := (⟨"BeanStreet$Reader", "isSign", "(C)Z"⟩, 10)) (List.mem_of_getElem? (i := 13) rfl)), (jt1 4 rfl rfl), ⟨by decide, by decide, by decide +kernel⟩, Or.inl (jt4 4 rfl rfl)⟩
theorem cv_X5_95 : jCV RX5 95 5 yX5_bracketedSum MX5_bracketedSum 1 := ⟨_, _, rfl, (jt4 11 rfl rfl), (jt4 10 rfl rfl), (jtp (q := (⟨"BeanStreet$Reader", "bracketedSum", "(I)Z"⟩, 10)) (List.mem_of_getElem? (i := 14) rfl)), (jt1 4 rfl rfl), ⟨by decide, by decide, by decide +kernel⟩, Or.inl (jt4 8 rfl rfl)⟩
theorem fl_X5_31 : jFL RX5 31 5 6 := ⟨_, _, _, rfl, iX5, by decide, Or.inl (jt1 132 rfl rfl)⟩
theorem fw_X5_31 : jFW RX5 31 5 6 (.int) false := ⟨_, _, _, tyX5, rfl, iX5, tyX5_ok, nmX5, by decide, rfl, rfl, (fun h => by cases h), Or.inl (jt1 132 rfl rfl)⟩
theorem cv_X5_72 : jCV RX5 72 5 yX5_emit MX5_emit 2 := ⟨_, _, rfl, (jt4 15 rfl rfl), (jt4 14 rfl rfl), (jtp (q := (⟨"BeanStreet$Reader", "emit", "(II)I"⟩, 10)) (List.mem_of_getElem? (i := 15) rfl)), (jt1 4 rfl rfl), ⟨by decide, by decide, by decide +kernel⟩, Or.inl (jt4 12 rfl rfl)⟩
theorem cv_X5_43 : jCV RX5 43 5 yX5_advance MX5_advance 0 := ⟨_, _, rfl, (jt3 161 rfl rfl), (jt3 160 rfl rfl), (jtp (q := (⟨"BeanStreet$Reader", "advance", "()V"⟩, 10)) (List.mem_of_getElem? (i := 6) rfl)), (jt1 4 rfl rfl), ⟨by decide, by decide, by decide +kernel⟩, Or.inl (jt3 158 rfl rfl)⟩
abbrev MX5_term : jM := (RX5, cX5_term, 4, some .boolean, false)
theorem cv_X5_92 : jCV RX5 92 5 yX5_part MX5_part 1 := ⟨_, _, rfl, (jt4 3 rfl rfl), (jt4 2 rfl rfl), (jtp (q := (⟨"BeanStreet$Reader", "part", "(I)Z"⟩, 10)) (List.mem_of_getElem? (i := 12) rfl)), (jt1 4 rfl rfl), ⟨by decide, by decide, by decide +kernel⟩, Or.inl (jt4 0 rfl rfl)⟩
abbrev MX5_sum : jM := (RX5, cX5_sum, 4, some .boolean, false)
theorem cv_X5_89 : jCV RX5 89 5 yX5_term MX5_term 1 := ⟨_, _, rfl, (jt3 239 rfl rfl), (jt3 238 rfl rfl), (jtp (q := (⟨"BeanStreet$Reader", "term", "(I)Z"⟩, 10)) (List.mem_of_getElem? (i := 11) rfl)), (jt1 4 rfl rfl), ⟨by decide, by decide, by decide +kernel⟩, Or.inl (jt3 236 rfl rfl)⟩
abbrev MX5_bracketedTest : jM := (RX5, cX5_bracketedTest, 2, some .boolean, false)
abbrev MX5_plain : jM := (RX5, cX5_plain, 4, some .boolean, false)
theorem cv_X5_86 : jCV RX5 86 5 yX5_bracketedTest MX5_bracketedTest 1 := ⟨_, _, rfl, (jt4 31 rfl rfl), (jt4 30 rfl rfl), (jtp (q := (⟨"BeanStreet$Reader", "bracketedTest", "(I)Z"⟩, 10)) (List.mem_of_getElem? (i := 19) rfl)), (jt1 4 rfl rfl), ⟨by decide, by decide, by decide +kernel⟩, Or.inl (jt4 28 rfl rfl)⟩
theorem cv_X5_63 : jCV RX5 63 5 yX5_sum MX5_sum 1 := ⟨_, _, rfl, (jt3 235 rfl rfl), (jt3 234 rfl rfl), (jtp (q := (⟨"BeanStreet$Reader", "sum", "(I)Z"⟩, 10)) (List.mem_of_getElem? (i := 10) rfl)), (jt1 4 rfl rfl), ⟨by decide, by decide, by decide +kernel⟩, Or.inl (jt3 232 rfl rfl)⟩
abbrev MX5_both : jM := (RX5, cX5_both, 4, some .boolean, false)
theorem cv_X5_83 : jCV RX5 83 5 yX5_plain MX5_plain 1 := ⟨_, _, rfl, (jt4 27 rfl rfl), (jt4 26 rfl rfl), (jtp (q := (⟨"BeanStreet$Reader", "plain", "(I)Z"⟩, 10)) (List.mem_of_getElem? (i := 18) rfl)), (jt1 4 rfl rfl), ⟨by decide, by decide, by decide +kernel⟩, Or.inl (jt4 24 rfl rfl)⟩
theorem cv_X5_79 : jCV RX5 79 5 yX5_aim MX5_aim 1 := ⟨_, _, rfl, (jt4 35 rfl rfl), (jt4 34 rfl rfl), (jtp (q := (⟨"BeanStreet$Reader", "aim", "(I)V"⟩, 10)) (List.mem_of_getElem? (i := 20) rfl)), (jt1 4 rfl rfl), ⟨by decide, by decide, by decide +kernel⟩, Or.inl (jt4 32 rfl rfl)⟩
abbrev MX5_test : jM := (RX5, cX5_test, 4, some .boolean, false)
theorem cv_X5_76 : jCV RX5 76 5 yX5_both MX5_both 1 := ⟨_, _, rfl, (jt4 23 rfl rfl), (jt4 22 rfl rfl), (jtp (q := (⟨"BeanStreet$Reader", "both", "(I)Z"⟩, 10)) (List.mem_of_getElem? (i := 17) rfl)), (jt1 4 rfl rfl), ⟨by decide, by decide, by decide +kernel⟩, Or.inl (jt4 20 rfl rfl)⟩
theorem cv_X5_67 : jCV RX5 67 5 yX5_test MX5_test 1 := ⟨_, _, rfl, (jt4 19 rfl rfl), (jt4 18 rfl rfl), (jtp (q := (⟨"BeanStreet$Reader", "test", "(I)Z"⟩, 10)) (List.mem_of_getElem? (i := 16) rfl)), (jt1 4 rfl rfl), ⟨by decide, by decide, by decide +kernel⟩, Or.inl (jt4 16 rfl rfl)⟩
abbrev MX5_clause : jM := (RX5, cX5_clause, 2, some .boolean, false)
abbrev MX5_compile : jM := (RX5, cX5_compile, 3, some .int, false)
theorem cv_X5_46 : jCV RX5 46 5 yX5_clause MX5_clause 0 := ⟨_, _, rfl, (jt3 227 rfl rfl), (jt3 226 rfl rfl), (jtp (q := (⟨"BeanStreet$Reader", "clause", "()Z"⟩, 10)) (List.mem_of_getElem? (i := 8) rfl)), (jt1 4 rfl rfl), ⟨by decide, by decide, by decide +kernel⟩, Or.inl (jt3 224 rfl rfl)⟩
theorem fl_X5_34 : jFL RX5 34 5 7 := ⟨_, _, _, rfl, iX5, by decide, Or.inl (jt1 133 rfl rfl)⟩
theorem dX5_length_0 : decode cX5_length 0 = .ok (.aload_n 0, 1) := by decide +kernel
theorem dX5_length_1 : decode cX5_length 1 = .ok (.getfield 15, 3) := by decide +kernel
theorem dX5_length_4 : decode cX5_length 4 = .ok (.ireturn, 1) := by decide +kernel
theorem dX5_at_0 : decode cX5_at 0 = .ok (.iload_n 1, 1) := by decide +kernel
theorem dX5_at_1 : decode cX5_at 1 = .ok (.ifCond .lt 20, 3) := by decide +kernel
theorem dX5_at_21 : decode cX5_at 21 = .ok (.iconst (-1), 1) := by decide +kernel
theorem dX5_at_22 : decode cX5_at 22 = .ok (.ireturn, 1) := by decide +kernel
theorem dX5_at_4 : decode cX5_at 4 = .ok (.iload_n 1, 1) := by decide +kernel
theorem dX5_at_5 : decode cX5_at 5 = .ok (.aload_n 0, 1) := by decide +kernel
theorem dX5_at_6 : decode cX5_at 6 = .ok (.getfield 15, 3) := by decide +kernel
theorem dX5_at_9 : decode cX5_at 9 = .ok (.if_icmp .ge 12, 3) := by decide +kernel
theorem dX5_at_12 : decode cX5_at 12 = .ok (.aload_n 0, 1) := by decide +kernel
theorem dX5_at_13 : decode cX5_at 13 = .ok (.getfield 11, 3) := by decide +kernel
theorem dX5_at_16 : decode cX5_at 16 = .ok (.iload_n 1, 1) := by decide +kernel
theorem dX5_at_17 : decode cX5_at 17 = .ok (.iaload, 1) := by decide +kernel
theorem dX5_at_18 : decode cX5_at 18 = .ok (.goto 4, 3) := by decide +kernel
theorem dX5_hasRoom_0 : decode cX5_hasRoom 0 = .ok (.aload_n 0, 1) := by decide +kernel
theorem dX5_hasRoom_1 : decode cX5_hasRoom 1 = .ok (.getfield 15, 3) := by decide +kernel
theorem dX5_hasRoom_4 : decode cX5_hasRoom 4 = .ok (.iload_n 1, 1) := by decide +kernel
theorem dX5_hasRoom_5 : decode cX5_hasRoom 5 = .ok (.iadd, 1) := by decide +kernel
theorem dX5_hasRoom_6 : decode cX5_hasRoom 6 = .ok (.sipush 400, 3) := by decide +kernel
theorem dX5_hasRoom_9 : decode cX5_hasRoom 9 = .ok (.if_icmp .gt 7, 3) := by decide +kernel
theorem dX5_hasRoom_16 : decode cX5_hasRoom 16 = .ok (.iconst 0, 1) := by decide +kernel
theorem dX5_hasRoom_17 : decode cX5_hasRoom 17 = .ok (.ireturn, 1) := by decide +kernel
theorem dX5_hasRoom_12 : decode cX5_hasRoom 12 = .ok (.iconst 1, 1) := by decide +kernel
theorem dX5_hasRoom_13 : decode cX5_hasRoom 13 = .ok (.goto 4, 3) := by decide +kernel
theorem dX5_take_0 : decode cX5_take 0 = .ok (.bipush 24, 2) := by decide +kernel
theorem dX5_take_2 : decode cX5_take 2 = .ok (.istore_n 2, 1) := by decide +kernel
theorem dX5_take_3 : decode cX5_take 3 = .ok (.iload_n 2, 1) := by decide +kernel
theorem dX5_take_4 : decode cX5_take 4 = .ok (.ifCond .lt 45, 3) := by decide +kernel
theorem dX5_take_49 : decode cX5_take 49 = .ok (.return_, 1) := by decide +kernel
theorem dX5_take_7 : decode cX5_take 7 = .ok (.aload_n 0, 1) := by decide +kernel
theorem dX5_take_8 : decode cX5_take 8 = .ok (.getfield 15, 3) := by decide +kernel
theorem dX5_take_11 : decode cX5_take 11 = .ok (.sipush 400, 3) := by decide +kernel
theorem dX5_take_14 : decode cX5_take 14 = .ok (.if_icmp .ge 35, 3) := by decide +kernel
theorem dX5_take_17 : decode cX5_take 17 = .ok (.aload_n 0, 1) := by decide +kernel
theorem dX5_take_18 : decode cX5_take 18 = .ok (.getfield 11, 3) := by decide +kernel
theorem dX5_take_21 : decode cX5_take 21 = .ok (.aload_n 0, 1) := by decide +kernel
theorem dX5_take_22 : decode cX5_take 22 = .ok (.getfield 15, 3) := by decide +kernel
theorem dX5_take_25 : decode cX5_take 25 = .ok (.iload_n 1, 1) := by decide +kernel
theorem dX5_take_26 : decode cX5_take 26 = .ok (.iload_n 2, 1) := by decide +kernel
theorem dX5_take_27 : decode cX5_take 27 = .ok (.ishr, 1) := by decide +kernel
theorem dX5_take_28 : decode cX5_take 28 = .ok (.sipush 255, 3) := by decide +kernel
theorem dX5_take_31 : decode cX5_take 31 = .ok (.iand, 1) := by decide +kernel
theorem dX5_take_32 : decode cX5_take 32 = .ok (.iastore, 1) := by decide +kernel
theorem dX5_take_33 : decode cX5_take 33 = .ok (.aload_n 0, 1) := by decide +kernel
theorem dX5_take_34 : decode cX5_take 34 = .ok (.dup, 1) := by decide +kernel
theorem dX5_take_35 : decode cX5_take 35 = .ok (.getfield 15, 3) := by decide +kernel
theorem dX5_take_38 : decode cX5_take 38 = .ok (.iconst 1, 1) := by decide +kernel
theorem dX5_take_39 : decode cX5_take 39 = .ok (.iadd, 1) := by decide +kernel
theorem dX5_take_40 : decode cX5_take 40 = .ok (.putfield 15, 3) := by decide +kernel
theorem dX5_take_43 : decode cX5_take 43 = .ok (.iinc 2 (-8), 3) := by decide +kernel
theorem dX5_take_46 : decode cX5_take 46 = .ok (.goto (-43), 3) := by decide +kernel
theorem dX5_cut_0 : decode cX5_cut 0 = .ok (.iload_n 1, 1) := by decide +kernel
theorem dX5_cut_1 : decode cX5_cut 1 = .ok (.ifCond .lt 11, 3) := by decide +kernel
theorem dX5_cut_12 : decode cX5_cut 12 = .ok (.iconst 0, 1) := by decide +kernel
theorem dX5_cut_13 : decode cX5_cut 13 = .ok (.ireturn, 1) := by decide +kernel
theorem dX5_cut_4 : decode cX5_cut 4 = .ok (.iload_n 1, 1) := by decide +kernel
theorem dX5_cut_5 : decode cX5_cut 5 = .ok (.aload_n 0, 1) := by decide +kernel
theorem dX5_cut_6 : decode cX5_cut 6 = .ok (.getfield 15, 3) := by decide +kernel
theorem dX5_cut_9 : decode cX5_cut 9 = .ok (.if_icmp .le 5, 3) := by decide +kernel
theorem dX5_cut_14 : decode cX5_cut 14 = .ok (.aload_n 0, 1) := by decide +kernel
theorem dX5_cut_15 : decode cX5_cut 15 = .ok (.iload_n 1, 1) := by decide +kernel
theorem dX5_cut_16 : decode cX5_cut 16 = .ok (.putfield 15, 3) := by decide +kernel
theorem dX5_cut_19 : decode cX5_cut 19 = .ok (.iconst 1, 1) := by decide +kernel
theorem dX5_cut_20 : decode cX5_cut 20 = .ok (.ireturn, 1) := by decide +kernel
theorem dX5_holdsColours_0 : decode cX5_holdsColours 0 = .ok (.aload_n 0, 1) := by decide +kernel
theorem dX5_holdsColours_1 : decode cX5_holdsColours 1 = .ok (.getfield 15, 3) := by decide +kernel
theorem dX5_holdsColours_4 : decode cX5_holdsColours 4 = .ok (.iconst 1, 1) := by decide +kernel
theorem dX5_holdsColours_5 : decode cX5_holdsColours 5 = .ok (.if_icmp .lt 12, 3) := by decide +kernel
theorem dX5_holdsColours_17 : decode cX5_holdsColours 17 = .ok (.iconst 0, 1) := by decide +kernel
theorem dX5_holdsColours_18 : decode cX5_holdsColours 18 = .ok (.ireturn, 1) := by decide +kernel
theorem dX5_holdsColours_8 : decode cX5_holdsColours 8 = .ok (.aload_n 0, 1) := by decide +kernel
theorem dX5_holdsColours_9 : decode cX5_holdsColours 9 = .ok (.getfield 15, 3) := by decide +kernel
theorem dX5_holdsColours_12 : decode cX5_holdsColours 12 = .ok (.bipush 7, 2) := by decide +kernel
theorem dX5_holdsColours_14 : decode cX5_holdsColours 14 = .ok (.if_icmp .le 5, 3) := by decide +kernel
theorem dX5_holdsColours_19 : decode cX5_holdsColours 19 = .ok (.iconst 0, 1) := by decide +kernel
theorem dX5_holdsColours_20 : decode cX5_holdsColours 20 = .ok (.istore_n 1, 1) := by decide +kernel
theorem dX5_holdsColours_21 : decode cX5_holdsColours 21 = .ok (.iload_n 1, 1) := by decide +kernel
theorem dX5_holdsColours_22 : decode cX5_holdsColours 22 = .ok (.aload_n 0, 1) := by decide +kernel
theorem dX5_holdsColours_23 : decode cX5_holdsColours 23 = .ok (.getfield 15, 3) := by decide +kernel
theorem dX5_holdsColours_26 : decode cX5_holdsColours 26 = .ok (.if_icmp .ge 21, 3) := by decide +kernel
theorem dX5_holdsColours_47 : decode cX5_holdsColours 47 = .ok (.iconst 1, 1) := by decide +kernel
theorem dX5_holdsColours_48 : decode cX5_holdsColours 48 = .ok (.ireturn, 1) := by decide +kernel
theorem dX5_holdsColours_29 : decode cX5_holdsColours 29 = .ok (.aload_n 0, 1) := by decide +kernel
theorem dX5_holdsColours_30 : decode cX5_holdsColours 30 = .ok (.getfield 11, 3) := by decide +kernel
theorem dX5_holdsColours_33 : decode cX5_holdsColours 33 = .ok (.iload_n 1, 1) := by decide +kernel
theorem dX5_holdsColours_34 : decode cX5_holdsColours 34 = .ok (.iaload, 1) := by decide +kernel
theorem dX5_holdsColours_35 : decode cX5_holdsColours 35 = .ok (.iconst 5, 1) := by decide +kernel
theorem dX5_holdsColours_36 : decode cX5_holdsColours 36 = .ok (.if_icmp .lt 5, 3) := by decide +kernel
theorem dX5_holdsColours_41 : decode cX5_holdsColours 41 = .ok (.iinc 1 1, 3) := by decide +kernel
theorem dX5_holdsColours_44 : decode cX5_holdsColours 44 = .ok (.goto (-23), 3) := by decide +kernel
theorem dX5_holdsColours_39 : decode cX5_holdsColours 39 = .ok (.iconst 0, 1) := by decide +kernel
theorem dX5_holdsColours_40 : decode cX5_holdsColours 40 = .ok (.ireturn, 1) := by decide +kernel
theorem dX5_isLetter_0 : decode cX5_isLetter 0 = .ok (.iload_n 0, 1) := by decide +kernel
theorem dX5_isLetter_1 : decode cX5_isLetter 1 = .ok (.bipush 97, 2) := by decide +kernel
theorem dX5_isLetter_3 : decode cX5_isLetter 3 = .ok (.if_icmp .lt 13, 3) := by decide +kernel
theorem dX5_isLetter_16 : decode cX5_isLetter 16 = .ok (.iconst 0, 1) := by decide +kernel
theorem dX5_isLetter_17 : decode cX5_isLetter 17 = .ok (.ireturn, 1) := by decide +kernel
theorem dX5_isLetter_6 : decode cX5_isLetter 6 = .ok (.iload_n 0, 1) := by decide +kernel
theorem dX5_isLetter_7 : decode cX5_isLetter 7 = .ok (.bipush 122, 2) := by decide +kernel
theorem dX5_isLetter_9 : decode cX5_isLetter 9 = .ok (.if_icmp .gt 7, 3) := by decide +kernel
theorem dX5_isLetter_12 : decode cX5_isLetter 12 = .ok (.iconst 1, 1) := by decide +kernel
theorem dX5_isLetter_13 : decode cX5_isLetter 13 = .ok (.goto 4, 3) := by decide +kernel
theorem dX5_isDigit_0 : decode cX5_isDigit 0 = .ok (.iload_n 0, 1) := by decide +kernel
theorem dX5_isDigit_1 : decode cX5_isDigit 1 = .ok (.bipush 48, 2) := by decide +kernel
theorem dX5_isDigit_3 : decode cX5_isDigit 3 = .ok (.if_icmp .lt 13, 3) := by decide +kernel
theorem dX5_isDigit_16 : decode cX5_isDigit 16 = .ok (.iconst 0, 1) := by decide +kernel
theorem dX5_isDigit_17 : decode cX5_isDigit 17 = .ok (.ireturn, 1) := by decide +kernel
theorem dX5_isDigit_6 : decode cX5_isDigit 6 = .ok (.iload_n 0, 1) := by decide +kernel
theorem dX5_isDigit_7 : decode cX5_isDigit 7 = .ok (.bipush 57, 2) := by decide +kernel
theorem dX5_isDigit_9 : decode cX5_isDigit 9 = .ok (.if_icmp .gt 7, 3) := by decide +kernel
theorem dX5_isDigit_12 : decode cX5_isDigit 12 = .ok (.iconst 1, 1) := by decide +kernel
theorem dX5_isDigit_13 : decode cX5_isDigit 13 = .ok (.goto 4, 3) := by decide +kernel
theorem dX5_isSign_0 : decode cX5_isSign 0 = .ok (.aload_n 0, 1) := by decide +kernel
theorem dX5_isSign_1 : decode cX5_isSign 1 = .ok (.getfield 19, 3) := by decide +kernel
theorem dX5_isSign_4 : decode cX5_isSign 4 = .ok (.bipush 100, 2) := by decide +kernel
theorem dX5_isSign_6 : decode cX5_isSign 6 = .ok (.iload_n 1, 1) := by decide +kernel
theorem dX5_isSign_7 : decode cX5_isSign 7 = .ok (.iadd, 1) := by decide +kernel
theorem dX5_isSign_8 : decode cX5_isSign 8 = .ok (.if_icmp .ne 7, 3) := by decide +kernel
theorem dX5_isSign_15 : decode cX5_isSign 15 = .ok (.iconst 0, 1) := by decide +kernel
theorem dX5_isSign_16 : decode cX5_isSign 16 = .ok (.ireturn, 1) := by decide +kernel
theorem dX5_isSign_11 : decode cX5_isSign 11 = .ok (.iconst 1, 1) := by decide +kernel
theorem dX5_isSign_12 : decode cX5_isSign 12 = .ok (.goto 4, 3) := by decide +kernel
theorem dX5_wrong_0 : decode cX5_wrong 0 = .ok (.aload_n 0, 1) := by decide +kernel
theorem dX5_wrong_1 : decode cX5_wrong 1 = .ok (.aload_n 0, 1) := by decide +kernel
theorem dX5_wrong_2 : decode cX5_wrong 2 = .ok (.getfield 22, 3) := by decide +kernel
theorem dX5_wrong_5 : decode cX5_wrong 5 = .ok (.putfield 34, 3) := by decide +kernel
theorem dX5_wrong_8 : decode cX5_wrong 8 = .ok (.iconst 0, 1) := by decide +kernel
theorem dX5_wrong_9 : decode cX5_wrong 9 = .ok (.ireturn, 1) := by decide +kernel
theorem dX5_emit_0 : decode cX5_emit 0 = .ok (.aload_n 0, 1) := by decide +kernel
theorem dX5_emit_1 : decode cX5_emit 1 = .ok (.getfield 40, 3) := by decide +kernel
theorem dX5_emit_4 : decode cX5_emit 4 = .ok (.istore_n 3, 1) := by decide +kernel
theorem dX5_emit_5 : decode cX5_emit 5 = .ok (.aload_n 0, 1) := by decide +kernel
theorem dX5_emit_6 : decode cX5_emit 6 = .ok (.getfield 40, 3) := by decide +kernel
theorem dX5_emit_9 : decode cX5_emit 9 = .ok (.aload_n 0, 1) := by decide +kernel
theorem dX5_emit_10 : decode cX5_emit 10 = .ok (.getfield 37, 3) := by decide +kernel
theorem dX5_emit_13 : decode cX5_emit 13 = .ok (.arraylength, 1) := by decide +kernel
theorem dX5_emit_14 : decode cX5_emit 14 = .ok (.if_icmp .ge 27, 3) := by decide +kernel
theorem dX5_emit_41 : decode cX5_emit 41 = .ok (.iload_n 3, 1) := by decide +kernel
theorem dX5_emit_42 : decode cX5_emit 42 = .ok (.ireturn, 1) := by decide +kernel
theorem dX5_emit_17 : decode cX5_emit 17 = .ok (.aload_n 0, 1) := by decide +kernel
theorem dX5_emit_18 : decode cX5_emit 18 = .ok (.getfield 37, 3) := by decide +kernel
theorem dX5_emit_21 : decode cX5_emit 21 = .ok (.aload_n 0, 1) := by decide +kernel
theorem dX5_emit_22 : decode cX5_emit 22 = .ok (.getfield 40, 3) := by decide +kernel
theorem dX5_emit_25 : decode cX5_emit 25 = .ok (.iload_n 1, 1) := by decide +kernel
theorem dX5_emit_26 : decode cX5_emit 26 = .ok (.iload_n 2, 1) := by decide +kernel
theorem dX5_emit_27 : decode cX5_emit 27 = .ok (.iconst 5, 1) := by decide +kernel
theorem dX5_emit_28 : decode cX5_emit 28 = .ok (.ishl, 1) := by decide +kernel
theorem dX5_emit_29 : decode cX5_emit 29 = .ok (.ior, 1) := by decide +kernel
theorem dX5_emit_30 : decode cX5_emit 30 = .ok (.iastore, 1) := by decide +kernel
theorem dX5_emit_31 : decode cX5_emit 31 = .ok (.aload_n 0, 1) := by decide +kernel
theorem dX5_emit_32 : decode cX5_emit 32 = .ok (.dup, 1) := by decide +kernel
theorem dX5_emit_33 : decode cX5_emit 33 = .ok (.getfield 40, 3) := by decide +kernel
theorem dX5_emit_36 : decode cX5_emit 36 = .ok (.iconst 1, 1) := by decide +kernel
theorem dX5_emit_37 : decode cX5_emit 37 = .ok (.iadd, 1) := by decide +kernel
theorem dX5_emit_38 : decode cX5_emit 38 = .ok (.putfield 40, 3) := by decide +kernel
theorem dX5_aim_0 : decode cX5_aim 0 = .ok (.iload_n 1, 1) := by decide +kernel
theorem dX5_aim_1 : decode cX5_aim 1 = .ok (.ifCond .lt 26, 3) := by decide +kernel
theorem dX5_aim_27 : decode cX5_aim 27 = .ok (.return_, 1) := by decide +kernel
theorem dX5_aim_4 : decode cX5_aim 4 = .ok (.iload_n 1, 1) := by decide +kernel
theorem dX5_aim_5 : decode cX5_aim 5 = .ok (.aload_n 0, 1) := by decide +kernel
theorem dX5_aim_6 : decode cX5_aim 6 = .ok (.getfield 40, 3) := by decide +kernel
theorem dX5_aim_9 : decode cX5_aim 9 = .ok (.if_icmp .ge 18, 3) := by decide +kernel
theorem dX5_aim_12 : decode cX5_aim 12 = .ok (.aload_n 0, 1) := by decide +kernel
theorem dX5_aim_13 : decode cX5_aim 13 = .ok (.getfield 37, 3) := by decide +kernel
theorem dX5_aim_16 : decode cX5_aim 16 = .ok (.iload_n 1, 1) := by decide +kernel
theorem dX5_aim_17 : decode cX5_aim 17 = .ok (.dup2, 1) := by decide +kernel
theorem dX5_aim_18 : decode cX5_aim 18 = .ok (.iaload, 1) := by decide +kernel
theorem dX5_aim_19 : decode cX5_aim 19 = .ok (.aload_n 0, 1) := by decide +kernel
theorem dX5_aim_20 : decode cX5_aim 20 = .ok (.getfield 40, 3) := by decide +kernel
theorem dX5_aim_23 : decode cX5_aim 23 = .ok (.iconst 5, 1) := by decide +kernel
theorem dX5_aim_24 : decode cX5_aim 24 = .ok (.ishl, 1) := by decide +kernel
theorem dX5_aim_25 : decode cX5_aim 25 = .ok (.ior, 1) := by decide +kernel
theorem dX5_aim_26 : decode cX5_aim 26 = .ok (.iastore, 1) := by decide +kernel
theorem dX5_wordNumber_0 : decode cX5_wordNumber 0 = .ok (.iconst 0, 1) := by decide +kernel
theorem dX5_wordNumber_1 : decode cX5_wordNumber 1 = .ok (.istore_n 1, 1) := by decide +kernel
theorem dX5_wordNumber_2 : decode cX5_wordNumber 2 = .ok (.aload_n 0, 1) := by decide +kernel
theorem dX5_wordNumber_3 : decode cX5_wordNumber 3 = .ok (.getfield 22, 3) := by decide +kernel
theorem dX5_wordNumber_6 : decode cX5_wordNumber 6 = .ok (.istore_n 2, 1) := by decide +kernel
theorem dX5_wordNumber_7 : decode cX5_wordNumber 7 = .ok (.iconst 1, 1) := by decide +kernel
theorem dX5_wordNumber_8 : decode cX5_wordNumber 8 = .ok (.istore_n 3, 1) := by decide +kernel
theorem dX5_wordNumber_9 : decode cX5_wordNumber 9 = .ok (.iconst 0, 1) := by decide +kernel
theorem dX5_wordNumber_10 : decode cX5_wordNumber 10 = .ok (.istore 4, 2) := by decide +kernel
theorem dX5_wordNumber_12 : decode cX5_wordNumber 12 = .ok (.iload 4, 2) := by decide +kernel
theorem dX5_wordNumber_14 : decode cX5_wordNumber 14 = .ok (.ldc 113, 2) := by decide +kernel
theorem dX5_wordNumber_16 : decode cX5_wordNumber 16 = .ok (.invokevirtual 115, 3) := by decide +kernel
theorem dX5_wordNumber_19 : decode cX5_wordNumber 19 = .ok (.if_icmp .ge 84, 3) := by decide +kernel
theorem dX5_wordNumber_103 : decode cX5_wordNumber 103 = .ok (.bipush 15, 2) := by decide +kernel
theorem dX5_wordNumber_105 : decode cX5_wordNumber 105 = .ok (.ireturn, 1) := by decide +kernel
theorem dX5_wordNumber_22 : decode cX5_wordNumber 22 = .ok (.ldc 113, 2) := by decide +kernel
theorem dX5_wordNumber_24 : decode cX5_wordNumber 24 = .ok (.iload 4, 2) := by decide +kernel
theorem dX5_wordNumber_26 : decode cX5_wordNumber 26 = .ok (.invokevirtual 119, 3) := by decide +kernel
theorem dX5_wordNumber_29 : decode cX5_wordNumber 29 = .ok (.istore 5, 2) := by decide +kernel
theorem dX5_wordNumber_31 : decode cX5_wordNumber 31 = .ok (.iload 5, 2) := by decide +kernel
theorem dX5_wordNumber_33 : decode cX5_wordNumber 33 = .ok (.bipush 32, 2) := by decide +kernel
theorem dX5_wordNumber_35 : decode cX5_wordNumber 35 = .ok (.if_icmp .ne 30, 3) := by decide +kernel
theorem dX5_wordNumber_65 : decode cX5_wordNumber 65 = .ok (.iload_n 3, 1) := by decide +kernel
theorem dX5_wordNumber_66 : decode cX5_wordNumber 66 = .ok (.ifCond .eq 26, 3) := by decide +kernel
theorem dX5_wordNumber_92 : decode cX5_wordNumber 92 = .ok (.iconst 0, 1) := by decide +kernel
theorem dX5_wordNumber_93 : decode cX5_wordNumber 93 = .ok (.istore_n 3, 1) := by decide +kernel
theorem dX5_wordNumber_94 : decode cX5_wordNumber 94 = .ok (.iinc 2 1, 3) := by decide +kernel
theorem dX5_wordNumber_97 : decode cX5_wordNumber 97 = .ok (.iinc 4 1, 3) := by decide +kernel
theorem dX5_wordNumber_100 : decode cX5_wordNumber 100 = .ok (.goto (-88), 3) := by decide +kernel
theorem dX5_wordNumber_69 : decode cX5_wordNumber 69 = .ok (.iload_n 2, 1) := by decide +kernel
theorem dX5_wordNumber_70 : decode cX5_wordNumber 70 = .ok (.aload_n 0, 1) := by decide +kernel
theorem dX5_wordNumber_71 : decode cX5_wordNumber 71 = .ok (.getfield 25, 3) := by decide +kernel
theorem dX5_wordNumber_74 : decode cX5_wordNumber 74 = .ok (.if_icmp .ge 18, 3) := by decide +kernel
theorem dX5_wordNumber_77 : decode cX5_wordNumber 77 = .ok (.aload_n 0, 1) := by decide +kernel
theorem dX5_wordNumber_78 : decode cX5_wordNumber 78 = .ok (.getfield 11, 3) := by decide +kernel
theorem dX5_wordNumber_81 : decode cX5_wordNumber 81 = .ok (.iload_n 2, 1) := by decide +kernel
theorem dX5_wordNumber_82 : decode cX5_wordNumber 82 = .ok (.iaload, 1) := by decide +kernel
theorem dX5_wordNumber_83 : decode cX5_wordNumber 83 = .ok (.iload 5, 2) := by decide +kernel
theorem dX5_wordNumber_85 : decode cX5_wordNumber 85 = .ok (.if_icmp .ne 7, 3) := by decide +kernel
theorem dX5_wordNumber_88 : decode cX5_wordNumber 88 = .ok (.iconst 1, 1) := by decide +kernel
theorem dX5_wordNumber_89 : decode cX5_wordNumber 89 = .ok (.goto 4, 3) := by decide +kernel
theorem dX5_wordNumber_38 : decode cX5_wordNumber 38 = .ok (.iload_n 3, 1) := by decide +kernel
theorem dX5_wordNumber_39 : decode cX5_wordNumber 39 = .ok (.ifCond .eq 13, 3) := by decide +kernel
theorem dX5_wordNumber_52 : decode cX5_wordNumber 52 = .ok (.iinc 1 1, 3) := by decide +kernel
theorem dX5_wordNumber_55 : decode cX5_wordNumber 55 = .ok (.aload_n 0, 1) := by decide +kernel
theorem dX5_wordNumber_56 : decode cX5_wordNumber 56 = .ok (.getfield 22, 3) := by decide +kernel
theorem dX5_wordNumber_59 : decode cX5_wordNumber 59 = .ok (.istore_n 2, 1) := by decide +kernel
theorem dX5_wordNumber_60 : decode cX5_wordNumber 60 = .ok (.iconst 1, 1) := by decide +kernel
theorem dX5_wordNumber_61 : decode cX5_wordNumber 61 = .ok (.istore_n 3, 1) := by decide +kernel
theorem dX5_wordNumber_62 : decode cX5_wordNumber 62 = .ok (.goto 35, 3) := by decide +kernel
theorem dX5_wordNumber_42 : decode cX5_wordNumber 42 = .ok (.iload_n 2, 1) := by decide +kernel
theorem dX5_wordNumber_43 : decode cX5_wordNumber 43 = .ok (.aload_n 0, 1) := by decide +kernel
theorem dX5_wordNumber_44 : decode cX5_wordNumber 44 = .ok (.getfield 25, 3) := by decide +kernel
theorem dX5_wordNumber_47 : decode cX5_wordNumber 47 = .ok (.if_icmp .ne 5, 3) := by decide +kernel
theorem dX5_wordNumber_50 : decode cX5_wordNumber 50 = .ok (.iload_n 1, 1) := by decide +kernel
theorem dX5_wordNumber_51 : decode cX5_wordNumber 51 = .ok (.ireturn, 1) := by decide +kernel
theorem dX5_advance_0 : decode cX5_advance 0 = .ok (.aload_n 0, 1) := by decide +kernel
theorem dX5_advance_1 : decode cX5_advance 1 = .ok (.aload_n 0, 1) := by decide +kernel
theorem dX5_advance_2 : decode cX5_advance 2 = .ok (.getfield 25, 3) := by decide +kernel
theorem dX5_advance_5 : decode cX5_advance 5 = .ok (.putfield 22, 3) := by decide +kernel
theorem dX5_advance_8 : decode cX5_advance 8 = .ok (.aload_n 0, 1) := by decide +kernel
theorem dX5_advance_9 : decode cX5_advance 9 = .ok (.getfield 22, 3) := by decide +kernel
theorem dX5_advance_12 : decode cX5_advance 12 = .ok (.aload_n 0, 1) := by decide +kernel
theorem dX5_advance_13 : decode cX5_advance 13 = .ok (.getfield 15, 3) := by decide +kernel
theorem dX5_advance_16 : decode cX5_advance 16 = .ok (.if_icmp .ge 30, 3) := by decide +kernel
theorem dX5_advance_46 : decode cX5_advance 46 = .ok (.aload_n 0, 1) := by decide +kernel
theorem dX5_advance_47 : decode cX5_advance 47 = .ok (.aload_n 0, 1) := by decide +kernel
theorem dX5_advance_48 : decode cX5_advance 48 = .ok (.getfield 22, 3) := by decide +kernel
theorem dX5_advance_51 : decode cX5_advance 51 = .ok (.putfield 25, 3) := by decide +kernel
theorem dX5_advance_54 : decode cX5_advance 54 = .ok (.aload_n 0, 1) := by decide +kernel
theorem dX5_advance_55 : decode cX5_advance 55 = .ok (.getfield 22, 3) := by decide +kernel
theorem dX5_advance_58 : decode cX5_advance 58 = .ok (.aload_n 0, 1) := by decide +kernel
theorem dX5_advance_59 : decode cX5_advance 59 = .ok (.getfield 15, 3) := by decide +kernel
theorem dX5_advance_62 : decode cX5_advance 62 = .ok (.if_icmp .lt 12, 3) := by decide +kernel
theorem dX5_advance_65 : decode cX5_advance 65 = .ok (.aload_n 0, 1) := by decide +kernel
theorem dX5_advance_66 : decode cX5_advance 66 = .ok (.bipush 17, 2) := by decide +kernel
theorem dX5_advance_68 : decode cX5_advance 68 = .ok (.putfield 19, 3) := by decide +kernel
theorem dX5_advance_71 : decode cX5_advance 71 = .ok (.goto 192, 3) := by decide +kernel
theorem dX5_advance_263 : decode cX5_advance 263 = .ok (.return_, 1) := by decide +kernel
theorem dX5_advance_19 : decode cX5_advance 19 = .ok (.aload_n 0, 1) := by decide +kernel
theorem dX5_advance_20 : decode cX5_advance 20 = .ok (.getfield 11, 3) := by decide +kernel
theorem dX5_advance_23 : decode cX5_advance 23 = .ok (.aload_n 0, 1) := by decide +kernel
theorem dX5_advance_24 : decode cX5_advance 24 = .ok (.getfield 22, 3) := by decide +kernel
theorem dX5_advance_27 : decode cX5_advance 27 = .ok (.iaload, 1) := by decide +kernel
theorem dX5_advance_28 : decode cX5_advance 28 = .ok (.bipush 32, 2) := by decide +kernel
theorem dX5_advance_30 : decode cX5_advance 30 = .ok (.if_icmp .ne 16, 3) := by decide +kernel
theorem dX5_advance_74 : decode cX5_advance 74 = .ok (.aload_n 0, 1) := by decide +kernel
theorem dX5_advance_75 : decode cX5_advance 75 = .ok (.getfield 11, 3) := by decide +kernel
theorem dX5_advance_78 : decode cX5_advance 78 = .ok (.aload_n 0, 1) := by decide +kernel
theorem dX5_advance_79 : decode cX5_advance 79 = .ok (.getfield 22, 3) := by decide +kernel
theorem dX5_advance_82 : decode cX5_advance 82 = .ok (.iaload, 1) := by decide +kernel
theorem dX5_advance_83 : decode cX5_advance 83 = .ok (.invokestatic 98, 3) := by decide +kernel
theorem dX5_advance_86 : decode cX5_advance 86 = .ok (.ifCond .eq 53, 3) := by decide +kernel
theorem dX5_advance_89 : decode cX5_advance 89 = .ok (.aload_n 0, 1) := by decide +kernel
theorem dX5_advance_90 : decode cX5_advance 90 = .ok (.getfield 25, 3) := by decide +kernel
theorem dX5_advance_93 : decode cX5_advance 93 = .ok (.aload_n 0, 1) := by decide +kernel
theorem dX5_advance_94 : decode cX5_advance 94 = .ok (.getfield 15, 3) := by decide +kernel
theorem dX5_advance_97 : decode cX5_advance 97 = .ok (.if_icmp .ge 31, 3) := by decide +kernel
theorem dX5_advance_128 : decode cX5_advance 128 = .ok (.aload_n 0, 1) := by decide +kernel
theorem dX5_advance_129 : decode cX5_advance 129 = .ok (.aload_n 0, 1) := by decide +kernel
theorem dX5_advance_130 : decode cX5_advance 130 = .ok (.invokevirtual 101, 3) := by decide +kernel
theorem dX5_advance_133 : decode cX5_advance 133 = .ok (.putfield 19, 3) := by decide +kernel
theorem dX5_advance_136 : decode cX5_advance 136 = .ok (.goto 127, 3) := by decide +kernel
theorem dX5_advance_100 : decode cX5_advance 100 = .ok (.aload_n 0, 1) := by decide +kernel
theorem dX5_advance_101 : decode cX5_advance 101 = .ok (.getfield 11, 3) := by decide +kernel
theorem dX5_advance_104 : decode cX5_advance 104 = .ok (.aload_n 0, 1) := by decide +kernel
theorem dX5_advance_105 : decode cX5_advance 105 = .ok (.getfield 25, 3) := by decide +kernel
theorem dX5_advance_108 : decode cX5_advance 108 = .ok (.iaload, 1) := by decide +kernel
theorem dX5_advance_109 : decode cX5_advance 109 = .ok (.invokestatic 98, 3) := by decide +kernel
theorem dX5_advance_112 : decode cX5_advance 112 = .ok (.ifCond .eq 16, 3) := by decide +kernel
theorem dX5_advance_115 : decode cX5_advance 115 = .ok (.aload_n 0, 1) := by decide +kernel
theorem dX5_advance_116 : decode cX5_advance 116 = .ok (.dup, 1) := by decide +kernel
theorem dX5_advance_117 : decode cX5_advance 117 = .ok (.getfield 25, 3) := by decide +kernel
theorem dX5_advance_120 : decode cX5_advance 120 = .ok (.iconst 1, 1) := by decide +kernel
theorem dX5_advance_121 : decode cX5_advance 121 = .ok (.iadd, 1) := by decide +kernel
theorem dX5_advance_122 : decode cX5_advance 122 = .ok (.putfield 25, 3) := by decide +kernel
theorem dX5_advance_125 : decode cX5_advance 125 = .ok (.goto (-36), 3) := by decide +kernel
theorem dX5_advance_139 : decode cX5_advance 139 = .ok (.aload_n 0, 1) := by decide +kernel
theorem dX5_advance_140 : decode cX5_advance 140 = .ok (.getfield 11, 3) := by decide +kernel
theorem dX5_advance_143 : decode cX5_advance 143 = .ok (.aload_n 0, 1) := by decide +kernel
theorem dX5_advance_144 : decode cX5_advance 144 = .ok (.getfield 22, 3) := by decide +kernel
theorem dX5_advance_147 : decode cX5_advance 147 = .ok (.iaload, 1) := by decide +kernel
theorem dX5_advance_148 : decode cX5_advance 148 = .ok (.invokestatic 105, 3) := by decide +kernel
theorem dX5_advance_151 : decode cX5_advance 151 = .ok (.ifCond .eq 86, 3) := by decide +kernel
theorem dX5_advance_154 : decode cX5_advance 154 = .ok (.aload_n 0, 1) := by decide +kernel
theorem dX5_advance_155 : decode cX5_advance 155 = .ok (.iconst 0, 1) := by decide +kernel
theorem dX5_advance_156 : decode cX5_advance 156 = .ok (.putfield 28, 3) := by decide +kernel
theorem dX5_advance_159 : decode cX5_advance 159 = .ok (.aload_n 0, 1) := by decide +kernel
theorem dX5_advance_160 : decode cX5_advance 160 = .ok (.getfield 25, 3) := by decide +kernel
theorem dX5_advance_163 : decode cX5_advance 163 = .ok (.aload_n 0, 1) := by decide +kernel
theorem dX5_advance_164 : decode cX5_advance 164 = .ok (.getfield 15, 3) := by decide +kernel
theorem dX5_advance_167 : decode cX5_advance 167 = .ok (.if_icmp .ge 61, 3) := by decide +kernel
theorem dX5_advance_228 : decode cX5_advance 228 = .ok (.aload_n 0, 1) := by decide +kernel
theorem dX5_advance_229 : decode cX5_advance 229 = .ok (.bipush 16, 2) := by decide +kernel
theorem dX5_advance_231 : decode cX5_advance 231 = .ok (.putfield 19, 3) := by decide +kernel
theorem dX5_advance_234 : decode cX5_advance 234 = .ok (.goto 29, 3) := by decide +kernel
theorem dX5_advance_170 : decode cX5_advance 170 = .ok (.aload_n 0, 1) := by decide +kernel
theorem dX5_advance_171 : decode cX5_advance 171 = .ok (.getfield 11, 3) := by decide +kernel
theorem dX5_advance_174 : decode cX5_advance 174 = .ok (.aload_n 0, 1) := by decide +kernel
theorem dX5_advance_175 : decode cX5_advance 175 = .ok (.getfield 25, 3) := by decide +kernel
theorem dX5_advance_178 : decode cX5_advance 178 = .ok (.iaload, 1) := by decide +kernel
theorem dX5_advance_179 : decode cX5_advance 179 = .ok (.invokestatic 105, 3) := by decide +kernel
theorem dX5_advance_182 : decode cX5_advance 182 = .ok (.ifCond .eq 46, 3) := by decide +kernel
theorem dX5_advance_185 : decode cX5_advance 185 = .ok (.aload_n 0, 1) := by decide +kernel
theorem dX5_advance_186 : decode cX5_advance 186 = .ok (.sipush 1001, 3) := by decide +kernel
theorem dX5_advance_189 : decode cX5_advance 189 = .ok (.aload_n 0, 1) := by decide +kernel
theorem dX5_advance_190 : decode cX5_advance 190 = .ok (.getfield 28, 3) := by decide +kernel
theorem dX5_advance_193 : decode cX5_advance 193 = .ok (.bipush 10, 2) := by decide +kernel
theorem dX5_advance_195 : decode cX5_advance 195 = .ok (.imul, 1) := by decide +kernel
theorem dX5_advance_196 : decode cX5_advance 196 = .ok (.aload_n 0, 1) := by decide +kernel
theorem dX5_advance_197 : decode cX5_advance 197 = .ok (.getfield 11, 3) := by decide +kernel
theorem dX5_advance_200 : decode cX5_advance 200 = .ok (.aload_n 0, 1) := by decide +kernel
theorem dX5_advance_201 : decode cX5_advance 201 = .ok (.getfield 25, 3) := by decide +kernel
theorem dX5_advance_204 : decode cX5_advance 204 = .ok (.iaload, 1) := by decide +kernel
theorem dX5_advance_205 : decode cX5_advance 205 = .ok (.iadd, 1) := by decide +kernel
theorem dX5_advance_206 : decode cX5_advance 206 = .ok (.bipush 48, 2) := by decide +kernel
theorem dX5_advance_208 : decode cX5_advance 208 = .ok (.isub, 1) := by decide +kernel
theorem dX5_advance_209 : decode cX5_advance 209 = .ok (.invokestatic 108, 3) := by decide +kernel
theorem dX5_advance_212 : decode cX5_advance 212 = .ok (.putfield 28, 3) := by decide +kernel
theorem dX5_advance_215 : decode cX5_advance 215 = .ok (.aload_n 0, 1) := by decide +kernel
theorem dX5_advance_216 : decode cX5_advance 216 = .ok (.dup, 1) := by decide +kernel
theorem dX5_advance_217 : decode cX5_advance 217 = .ok (.getfield 25, 3) := by decide +kernel
theorem dX5_advance_220 : decode cX5_advance 220 = .ok (.iconst 1, 1) := by decide +kernel
theorem dX5_advance_221 : decode cX5_advance 221 = .ok (.iadd, 1) := by decide +kernel
theorem dX5_advance_222 : decode cX5_advance 222 = .ok (.putfield 25, 3) := by decide +kernel
theorem dX5_advance_225 : decode cX5_advance 225 = .ok (.goto (-66), 3) := by decide +kernel
theorem dX5_advance_237 : decode cX5_advance 237 = .ok (.aload_n 0, 1) := by decide +kernel
theorem dX5_advance_238 : decode cX5_advance 238 = .ok (.bipush 100, 2) := by decide +kernel
theorem dX5_advance_240 : decode cX5_advance 240 = .ok (.aload_n 0, 1) := by decide +kernel
theorem dX5_advance_241 : decode cX5_advance 241 = .ok (.getfield 11, 3) := by decide +kernel
theorem dX5_advance_244 : decode cX5_advance 244 = .ok (.aload_n 0, 1) := by decide +kernel
theorem dX5_advance_245 : decode cX5_advance 245 = .ok (.getfield 22, 3) := by decide +kernel
theorem dX5_advance_248 : decode cX5_advance 248 = .ok (.iaload, 1) := by decide +kernel
theorem dX5_advance_249 : decode cX5_advance 249 = .ok (.iadd, 1) := by decide +kernel
theorem dX5_advance_250 : decode cX5_advance 250 = .ok (.putfield 19, 3) := by decide +kernel
theorem dX5_advance_253 : decode cX5_advance 253 = .ok (.aload_n 0, 1) := by decide +kernel
theorem dX5_advance_254 : decode cX5_advance 254 = .ok (.dup, 1) := by decide +kernel
theorem dX5_advance_255 : decode cX5_advance 255 = .ok (.getfield 25, 3) := by decide +kernel
theorem dX5_advance_258 : decode cX5_advance 258 = .ok (.iconst 1, 1) := by decide +kernel
theorem dX5_advance_259 : decode cX5_advance 259 = .ok (.iadd, 1) := by decide +kernel
theorem dX5_advance_260 : decode cX5_advance 260 = .ok (.putfield 25, 3) := by decide +kernel
theorem dX5_advance_33 : decode cX5_advance 33 = .ok (.aload_n 0, 1) := by decide +kernel
theorem dX5_advance_34 : decode cX5_advance 34 = .ok (.dup, 1) := by decide +kernel
theorem dX5_advance_35 : decode cX5_advance 35 = .ok (.getfield 22, 3) := by decide +kernel
theorem dX5_advance_38 : decode cX5_advance 38 = .ok (.iconst 1, 1) := by decide +kernel
theorem dX5_advance_39 : decode cX5_advance 39 = .ok (.iadd, 1) := by decide +kernel
theorem dX5_advance_40 : decode cX5_advance 40 = .ok (.putfield 22, 3) := by decide +kernel
theorem dX5_advance_43 : decode cX5_advance 43 = .ok (.goto (-35), 3) := by decide +kernel
theorem dX5_bracketedSum_0 : decode cX5_bracketedSum 0 = .ok (.iload_n 1, 1) := by decide +kernel
theorem dX5_bracketedSum_1 : decode cX5_bracketedSum 1 = .ok (.bipush 8, 2) := by decide +kernel
theorem dX5_bracketedSum_3 : decode cX5_bracketedSum 3 = .ok (.if_icmp .lt 8, 3) := by decide +kernel
theorem dX5_bracketedSum_6 : decode cX5_bracketedSum 6 = .ok (.aload_n 0, 1) := by decide +kernel
theorem dX5_bracketedSum_7 : decode cX5_bracketedSum 7 = .ok (.invokevirtual 54, 3) := by decide +kernel
theorem dX5_bracketedSum_10 : decode cX5_bracketedSum 10 = .ok (.ireturn, 1) := by decide +kernel
theorem dX5_part_0 : decode cX5_part 0 = .ok (.aload_n 0, 1) := by decide +kernel
theorem dX5_part_1 : decode cX5_part 1 = .ok (.bipush 91, 2) := by decide +kernel
theorem dX5_part_3 : decode cX5_part 3 = .ok (.invokevirtual 50, 3) := by decide +kernel
theorem dX5_part_6 : decode cX5_part 6 = .ok (.ifCond .eq 9, 3) := by decide +kernel
theorem dX5_part_9 : decode cX5_part 9 = .ok (.aload_n 0, 1) := by decide +kernel
theorem dX5_part_10 : decode cX5_part 10 = .ok (.iload_n 1, 1) := by decide +kernel
theorem dX5_part_11 : decode cX5_part 11 = .ok (.invokevirtual 95, 3) := by decide +kernel
theorem dX5_part_14 : decode cX5_part 14 = .ok (.ireturn, 1) := by decide +kernel
theorem dX5_part_15 : decode cX5_part 15 = .ok (.aload_n 0, 1) := by decide +kernel
theorem dX5_part_16 : decode cX5_part 16 = .ok (.getfield 19, 3) := by decide +kernel
theorem dX5_part_19 : decode cX5_part 19 = .ok (.bipush 16, 2) := by decide +kernel
theorem dX5_part_21 : decode cX5_part 21 = .ok (.if_icmp .ne 17, 3) := by decide +kernel
theorem dX5_part_38 : decode cX5_part 38 = .ok (.iconst 0, 1) := by decide +kernel
theorem dX5_part_39 : decode cX5_part 39 = .ok (.istore_n 2, 1) := by decide +kernel
theorem dX5_part_40 : decode cX5_part 40 = .ok (.aload_n 0, 1) := by decide +kernel
theorem dX5_part_41 : decode cX5_part 41 = .ok (.getfield 19, 3) := by decide +kernel
theorem dX5_part_44 : decode cX5_part 44 = .ok (.bipush 7, 2) := by decide +kernel
theorem dX5_part_46 : decode cX5_part 46 = .ok (.if_icmp .lt 16, 3) := by decide +kernel
theorem dX5_part_62 : decode cX5_part 62 = .ok (.iconst 0, 1) := by decide +kernel
theorem dX5_part_63 : decode cX5_part 63 = .ok (.istore_n 3, 1) := by decide +kernel
theorem dX5_part_64 : decode cX5_part 64 = .ok (.iload_n 2, 1) := by decide +kernel
theorem dX5_part_65 : decode cX5_part 65 = .ok (.ifCond .ne 7, 3) := by decide +kernel
theorem dX5_part_68 : decode cX5_part 68 = .ok (.iload_n 3, 1) := by decide +kernel
theorem dX5_part_69 : decode cX5_part 69 = .ok (.ifCond .eq 12, 3) := by decide +kernel
theorem dX5_part_81 : decode cX5_part 81 = .ok (.aload_n 0, 1) := by decide +kernel
theorem dX5_part_82 : decode cX5_part 82 = .ok (.invokevirtual 54, 3) := by decide +kernel
theorem dX5_part_85 : decode cX5_part 85 = .ok (.ireturn, 1) := by decide +kernel
theorem dX5_part_49 : decode cX5_part 49 = .ok (.aload_n 0, 1) := by decide +kernel
theorem dX5_part_50 : decode cX5_part 50 = .ok (.getfield 19, 3) := by decide +kernel
theorem dX5_part_53 : decode cX5_part 53 = .ok (.bipush 14, 2) := by decide +kernel
theorem dX5_part_55 : decode cX5_part 55 = .ok (.if_icmp .gt 7, 3) := by decide +kernel
theorem dX5_part_58 : decode cX5_part 58 = .ok (.iconst 1, 1) := by decide +kernel
theorem dX5_part_59 : decode cX5_part 59 = .ok (.goto 4, 3) := by decide +kernel
theorem dX5_part_72 : decode cX5_part 72 = .ok (.aload_n 0, 1) := by decide +kernel
theorem dX5_part_73 : decode cX5_part 73 = .ok (.getfield 31, 3) := by decide +kernel
theorem dX5_part_76 : decode cX5_part 76 = .ok (.bipush 50, 2) := by decide +kernel
theorem dX5_part_78 : decode cX5_part 78 = .ok (.if_icmp .lt 8, 3) := by decide +kernel
theorem dX5_part_86 : decode cX5_part 86 = .ok (.aload_n 0, 1) := by decide +kernel
theorem dX5_part_87 : decode cX5_part 87 = .ok (.dup, 1) := by decide +kernel
theorem dX5_part_88 : decode cX5_part 88 = .ok (.getfield 31, 3) := by decide +kernel
theorem dX5_part_91 : decode cX5_part 91 = .ok (.iconst 1, 1) := by decide +kernel
theorem dX5_part_92 : decode cX5_part 92 = .ok (.iadd, 1) := by decide +kernel
theorem dX5_part_93 : decode cX5_part 93 = .ok (.putfield 31, 3) := by decide +kernel
theorem dX5_part_96 : decode cX5_part 96 = .ok (.iload_n 2, 1) := by decide +kernel
theorem dX5_part_97 : decode cX5_part 97 = .ok (.ifCond .eq 16, 3) := by decide +kernel
theorem dX5_part_113 : decode cX5_part 113 = .ok (.aload_n 0, 1) := by decide +kernel
theorem dX5_part_114 : decode cX5_part 114 = .ok (.iconst 1, 1) := by decide +kernel
theorem dX5_part_115 : decode cX5_part 115 = .ok (.aload_n 0, 1) := by decide +kernel
theorem dX5_part_116 : decode cX5_part 116 = .ok (.getfield 19, 3) := by decide +kernel
theorem dX5_part_119 : decode cX5_part 119 = .ok (.bipush 7, 2) := by decide +kernel
theorem dX5_part_121 : decode cX5_part 121 = .ok (.isub, 1) := by decide +kernel
theorem dX5_part_122 : decode cX5_part 122 = .ok (.invokevirtual 72, 3) := by decide +kernel
theorem dX5_part_125 : decode cX5_part 125 = .ok (.pop, 1) := by decide +kernel
theorem dX5_part_126 : decode cX5_part 126 = .ok (.aload_n 0, 1) := by decide +kernel
theorem dX5_part_127 : decode cX5_part 127 = .ok (.invokevirtual 43, 3) := by decide +kernel
theorem dX5_part_130 : decode cX5_part 130 = .ok (.iconst 1, 1) := by decide +kernel
theorem dX5_part_131 : decode cX5_part 131 = .ok (.ireturn, 1) := by decide +kernel
theorem dX5_part_24 : decode cX5_part 24 = .ok (.aload_n 0, 1) := by decide +kernel
theorem dX5_part_25 : decode cX5_part 25 = .ok (.getfield 28, 3) := by decide +kernel
theorem dX5_part_28 : decode cX5_part 28 = .ok (.sipush 1000, 3) := by decide +kernel
theorem dX5_part_31 : decode cX5_part 31 = .ok (.if_icmp .gt 7, 3) := by decide +kernel
theorem dX5_part_34 : decode cX5_part 34 = .ok (.iconst 1, 1) := by decide +kernel
theorem dX5_part_35 : decode cX5_part 35 = .ok (.goto 4, 3) := by decide +kernel
theorem dX5_part_100 : decode cX5_part 100 = .ok (.aload_n 0, 1) := by decide +kernel
theorem dX5_part_101 : decode cX5_part 101 = .ok (.iconst 0, 1) := by decide +kernel
theorem dX5_part_102 : decode cX5_part 102 = .ok (.aload_n 0, 1) := by decide +kernel
theorem dX5_part_103 : decode cX5_part 103 = .ok (.getfield 28, 3) := by decide +kernel
theorem dX5_part_106 : decode cX5_part 106 = .ok (.invokevirtual 72, 3) := by decide +kernel
theorem dX5_part_109 : decode cX5_part 109 = .ok (.pop, 1) := by decide +kernel
theorem dX5_part_110 : decode cX5_part 110 = .ok (.goto 16, 3) := by decide +kernel
theorem dX5_term_0 : decode cX5_term 0 = .ok (.aload_n 0, 1) := by decide +kernel
theorem dX5_term_1 : decode cX5_term 1 = .ok (.iload_n 1, 1) := by decide +kernel
theorem dX5_term_2 : decode cX5_term 2 = .ok (.invokevirtual 92, 3) := by decide +kernel
theorem dX5_term_5 : decode cX5_term 5 = .ok (.ifCond .ne 5, 3) := by decide +kernel
theorem dX5_term_10 : decode cX5_term 10 = .ok (.iconst 0, 1) := by decide +kernel
theorem dX5_term_11 : decode cX5_term 11 = .ok (.istore_n 2, 1) := by decide +kernel
theorem dX5_term_12 : decode cX5_term 12 = .ok (.iload_n 2, 1) := by decide +kernel
theorem dX5_term_13 : decode cX5_term 13 = .ok (.sipush 400, 3) := by decide +kernel
theorem dX5_term_16 : decode cX5_term 16 = .ok (.if_icmp .ge 63, 3) := by decide +kernel
theorem dX5_term_79 : decode cX5_term 79 = .ok (.iconst 1, 1) := by decide +kernel
theorem dX5_term_80 : decode cX5_term 80 = .ok (.ireturn, 1) := by decide +kernel
theorem dX5_term_19 : decode cX5_term 19 = .ok (.aload_n 0, 1) := by decide +kernel
theorem dX5_term_20 : decode cX5_term 20 = .ok (.bipush 42, 2) := by decide +kernel
theorem dX5_term_22 : decode cX5_term 22 = .ok (.invokevirtual 50, 3) := by decide +kernel
theorem dX5_term_25 : decode cX5_term 25 = .ok (.ifCond .ne 12, 3) := by decide +kernel
theorem dX5_term_37 : decode cX5_term 37 = .ok (.aload_n 0, 1) := by decide +kernel
theorem dX5_term_38 : decode cX5_term 38 = .ok (.bipush 42, 2) := by decide +kernel
theorem dX5_term_40 : decode cX5_term 40 = .ok (.invokevirtual 50, 3) := by decide +kernel
theorem dX5_term_43 : decode cX5_term 43 = .ok (.ifCond .eq 7, 3) := by decide +kernel
theorem dX5_term_46 : decode cX5_term 46 = .ok (.iconst 4, 1) := by decide +kernel
theorem dX5_term_47 : decode cX5_term 47 = .ok (.goto 4, 3) := by decide +kernel
theorem dX5_term_51 : decode cX5_term 51 = .ok (.istore_n 3, 1) := by decide +kernel
theorem dX5_term_52 : decode cX5_term 52 = .ok (.aload_n 0, 1) := by decide +kernel
theorem dX5_term_53 : decode cX5_term 53 = .ok (.invokevirtual 43, 3) := by decide +kernel
theorem dX5_term_56 : decode cX5_term 56 = .ok (.aload_n 0, 1) := by decide +kernel
theorem dX5_term_57 : decode cX5_term 57 = .ok (.iload_n 1, 1) := by decide +kernel
theorem dX5_term_58 : decode cX5_term 58 = .ok (.invokevirtual 92, 3) := by decide +kernel
theorem dX5_term_61 : decode cX5_term 61 = .ok (.ifCond .ne 5, 3) := by decide +kernel
theorem dX5_term_66 : decode cX5_term 66 = .ok (.aload_n 0, 1) := by decide +kernel
theorem dX5_term_67 : decode cX5_term 67 = .ok (.iload_n 3, 1) := by decide +kernel
theorem dX5_term_68 : decode cX5_term 68 = .ok (.iconst 0, 1) := by decide +kernel
theorem dX5_term_69 : decode cX5_term 69 = .ok (.invokevirtual 72, 3) := by decide +kernel
theorem dX5_term_72 : decode cX5_term 72 = .ok (.pop, 1) := by decide +kernel
theorem dX5_term_73 : decode cX5_term 73 = .ok (.iinc 2 1, 3) := by decide +kernel
theorem dX5_term_76 : decode cX5_term 76 = .ok (.goto (-64), 3) := by decide +kernel
theorem dX5_term_64 : decode cX5_term 64 = .ok (.iconst 0, 1) := by decide +kernel
theorem dX5_term_65 : decode cX5_term 65 = .ok (.ireturn, 1) := by decide +kernel
theorem dX5_term_28 : decode cX5_term 28 = .ok (.aload_n 0, 1) := by decide +kernel
theorem dX5_term_29 : decode cX5_term 29 = .ok (.bipush 47, 2) := by decide +kernel
theorem dX5_term_31 : decode cX5_term 31 = .ok (.invokevirtual 50, 3) := by decide +kernel
theorem dX5_term_34 : decode cX5_term 34 = .ok (.ifCond .eq 45, 3) := by decide +kernel
theorem dX5_term_50 : decode cX5_term 50 = .ok (.iconst 5, 1) := by decide +kernel
theorem dX5_term_8 : decode cX5_term 8 = .ok (.iconst 0, 1) := by decide +kernel
theorem dX5_term_9 : decode cX5_term 9 = .ok (.ireturn, 1) := by decide +kernel
theorem dX5_sum_0 : decode cX5_sum 0 = .ok (.aload_n 0, 1) := by decide +kernel
theorem dX5_sum_1 : decode cX5_sum 1 = .ok (.iload_n 1, 1) := by decide +kernel
theorem dX5_sum_2 : decode cX5_sum 2 = .ok (.invokevirtual 89, 3) := by decide +kernel
theorem dX5_sum_5 : decode cX5_sum 5 = .ok (.ifCond .ne 5, 3) := by decide +kernel
theorem dX5_sum_10 : decode cX5_sum 10 = .ok (.iconst 0, 1) := by decide +kernel
theorem dX5_sum_11 : decode cX5_sum 11 = .ok (.istore_n 2, 1) := by decide +kernel
theorem dX5_sum_12 : decode cX5_sum 12 = .ok (.iload_n 2, 1) := by decide +kernel
theorem dX5_sum_13 : decode cX5_sum 13 = .ok (.sipush 400, 3) := by decide +kernel
theorem dX5_sum_16 : decode cX5_sum 16 = .ok (.if_icmp .ge 63, 3) := by decide +kernel
theorem dX5_sum_79 : decode cX5_sum 79 = .ok (.iconst 1, 1) := by decide +kernel
theorem dX5_sum_80 : decode cX5_sum 80 = .ok (.ireturn, 1) := by decide +kernel
theorem dX5_sum_19 : decode cX5_sum 19 = .ok (.aload_n 0, 1) := by decide +kernel
theorem dX5_sum_20 : decode cX5_sum 20 = .ok (.bipush 43, 2) := by decide +kernel
theorem dX5_sum_22 : decode cX5_sum 22 = .ok (.invokevirtual 50, 3) := by decide +kernel
theorem dX5_sum_25 : decode cX5_sum 25 = .ok (.ifCond .ne 12, 3) := by decide +kernel
theorem dX5_sum_37 : decode cX5_sum 37 = .ok (.aload_n 0, 1) := by decide +kernel
theorem dX5_sum_38 : decode cX5_sum 38 = .ok (.bipush 43, 2) := by decide +kernel
theorem dX5_sum_40 : decode cX5_sum 40 = .ok (.invokevirtual 50, 3) := by decide +kernel
theorem dX5_sum_43 : decode cX5_sum 43 = .ok (.ifCond .eq 7, 3) := by decide +kernel
theorem dX5_sum_46 : decode cX5_sum 46 = .ok (.iconst 2, 1) := by decide +kernel
theorem dX5_sum_47 : decode cX5_sum 47 = .ok (.goto 4, 3) := by decide +kernel
theorem dX5_sum_51 : decode cX5_sum 51 = .ok (.istore_n 3, 1) := by decide +kernel
theorem dX5_sum_52 : decode cX5_sum 52 = .ok (.aload_n 0, 1) := by decide +kernel
theorem dX5_sum_53 : decode cX5_sum 53 = .ok (.invokevirtual 43, 3) := by decide +kernel
theorem dX5_sum_56 : decode cX5_sum 56 = .ok (.aload_n 0, 1) := by decide +kernel
theorem dX5_sum_57 : decode cX5_sum 57 = .ok (.iload_n 1, 1) := by decide +kernel
theorem dX5_sum_58 : decode cX5_sum 58 = .ok (.invokevirtual 89, 3) := by decide +kernel
theorem dX5_sum_61 : decode cX5_sum 61 = .ok (.ifCond .ne 5, 3) := by decide +kernel
theorem dX5_sum_66 : decode cX5_sum 66 = .ok (.aload_n 0, 1) := by decide +kernel
theorem dX5_sum_67 : decode cX5_sum 67 = .ok (.iload_n 3, 1) := by decide +kernel
theorem dX5_sum_68 : decode cX5_sum 68 = .ok (.iconst 0, 1) := by decide +kernel
theorem dX5_sum_69 : decode cX5_sum 69 = .ok (.invokevirtual 72, 3) := by decide +kernel
theorem dX5_sum_72 : decode cX5_sum 72 = .ok (.pop, 1) := by decide +kernel
theorem dX5_sum_73 : decode cX5_sum 73 = .ok (.iinc 2 1, 3) := by decide +kernel
theorem dX5_sum_76 : decode cX5_sum 76 = .ok (.goto (-64), 3) := by decide +kernel
theorem dX5_sum_64 : decode cX5_sum 64 = .ok (.iconst 0, 1) := by decide +kernel
theorem dX5_sum_65 : decode cX5_sum 65 = .ok (.ireturn, 1) := by decide +kernel
theorem dX5_sum_28 : decode cX5_sum 28 = .ok (.aload_n 0, 1) := by decide +kernel
theorem dX5_sum_29 : decode cX5_sum 29 = .ok (.bipush 45, 2) := by decide +kernel
theorem dX5_sum_31 : decode cX5_sum 31 = .ok (.invokevirtual 50, 3) := by decide +kernel
theorem dX5_sum_34 : decode cX5_sum 34 = .ok (.ifCond .eq 45, 3) := by decide +kernel
theorem dX5_sum_50 : decode cX5_sum 50 = .ok (.iconst 3, 1) := by decide +kernel
theorem dX5_sum_8 : decode cX5_sum 8 = .ok (.iconst 0, 1) := by decide +kernel
theorem dX5_sum_9 : decode cX5_sum 9 = .ok (.ireturn, 1) := by decide +kernel
theorem dX5_bracketedTest_0 : decode cX5_bracketedTest 0 = .ok (.iload_n 1, 1) := by decide +kernel
theorem dX5_bracketedTest_1 : decode cX5_bracketedTest 1 = .ok (.bipush 8, 2) := by decide +kernel
theorem dX5_bracketedTest_3 : decode cX5_bracketedTest 3 = .ok (.if_icmp .lt 8, 3) := by decide +kernel
theorem dX5_bracketedTest_6 : decode cX5_bracketedTest 6 = .ok (.aload_n 0, 1) := by decide +kernel
theorem dX5_bracketedTest_7 : decode cX5_bracketedTest 7 = .ok (.invokevirtual 54, 3) := by decide +kernel
theorem dX5_bracketedTest_10 : decode cX5_bracketedTest 10 = .ok (.ireturn, 1) := by decide +kernel
theorem dX5_plain_0 : decode cX5_plain 0 = .ok (.iconst 0, 1) := by decide +kernel
theorem dX5_plain_1 : decode cX5_plain 1 = .ok (.istore_n 2, 1) := by decide +kernel
theorem dX5_plain_2 : decode cX5_plain 2 = .ok (.iconst 0, 1) := by decide +kernel
theorem dX5_plain_3 : decode cX5_plain 3 = .ok (.istore_n 3, 1) := by decide +kernel
theorem dX5_plain_4 : decode cX5_plain 4 = .ok (.iload_n 3, 1) := by decide +kernel
theorem dX5_plain_5 : decode cX5_plain 5 = .ok (.sipush 400, 3) := by decide +kernel
theorem dX5_plain_8 : decode cX5_plain 8 = .ok (.if_icmp .ge 32, 3) := by decide +kernel
theorem dX5_plain_40 : decode cX5_plain 40 = .ok (.aload_n 0, 1) := by decide +kernel
theorem dX5_plain_41 : decode cX5_plain 41 = .ok (.bipush 40, 2) := by decide +kernel
theorem dX5_plain_43 : decode cX5_plain 43 = .ok (.invokevirtual 50, 3) := by decide +kernel
theorem dX5_plain_46 : decode cX5_plain 46 = .ok (.ifCond .eq 13, 3) := by decide +kernel
theorem dX5_plain_49 : decode cX5_plain 49 = .ok (.aload_n 0, 1) := by decide +kernel
theorem dX5_plain_50 : decode cX5_plain 50 = .ok (.iload_n 1, 1) := by decide +kernel
theorem dX5_plain_51 : decode cX5_plain 51 = .ok (.invokevirtual 86, 3) := by decide +kernel
theorem dX5_plain_54 : decode cX5_plain 54 = .ok (.ifCond .ne 87, 3) := by decide +kernel
theorem dX5_plain_141 : decode cX5_plain 141 = .ok (.iload_n 2, 1) := by decide +kernel
theorem dX5_plain_142 : decode cX5_plain 142 = .ok (.ifCond .eq 11, 3) := by decide +kernel
theorem dX5_plain_153 : decode cX5_plain 153 = .ok (.iconst 1, 1) := by decide +kernel
theorem dX5_plain_154 : decode cX5_plain 154 = .ok (.ireturn, 1) := by decide +kernel
theorem dX5_plain_145 : decode cX5_plain 145 = .ok (.aload_n 0, 1) := by decide +kernel
theorem dX5_plain_146 : decode cX5_plain 146 = .ok (.bipush 9, 2) := by decide +kernel
theorem dX5_plain_148 : decode cX5_plain 148 = .ok (.iconst 0, 1) := by decide +kernel
theorem dX5_plain_149 : decode cX5_plain 149 = .ok (.invokevirtual 72, 3) := by decide +kernel
theorem dX5_plain_152 : decode cX5_plain 152 = .ok (.pop, 1) := by decide +kernel
theorem dX5_plain_57 : decode cX5_plain 57 = .ok (.iconst 0, 1) := by decide +kernel
theorem dX5_plain_58 : decode cX5_plain 58 = .ok (.ireturn, 1) := by decide +kernel
theorem dX5_plain_59 : decode cX5_plain 59 = .ok (.aload_n 0, 1) := by decide +kernel
theorem dX5_plain_60 : decode cX5_plain 60 = .ok (.iload_n 1, 1) := by decide +kernel
theorem dX5_plain_61 : decode cX5_plain 61 = .ok (.invokevirtual 63, 3) := by decide +kernel
theorem dX5_plain_64 : decode cX5_plain 64 = .ok (.ifCond .ne 5, 3) := by decide +kernel
theorem dX5_plain_69 : decode cX5_plain 69 = .ok (.aload_n 0, 1) := by decide +kernel
theorem dX5_plain_70 : decode cX5_plain 70 = .ok (.bipush 60, 2) := by decide +kernel
theorem dX5_plain_72 : decode cX5_plain 72 = .ok (.invokevirtual 50, 3) := by decide +kernel
theorem dX5_plain_75 : decode cX5_plain 75 = .ok (.ifCond .eq 8, 3) := by decide +kernel
theorem dX5_plain_78 : decode cX5_plain 78 = .ok (.bipush 6, 2) := by decide +kernel
theorem dX5_plain_80 : decode cX5_plain 80 = .ok (.goto 19, 3) := by decide +kernel
theorem dX5_plain_99 : decode cX5_plain 99 = .ok (.istore_n 3, 1) := by decide +kernel
theorem dX5_plain_100 : decode cX5_plain 100 = .ok (.iload_n 3, 1) := by decide +kernel
theorem dX5_plain_101 : decode cX5_plain 101 = .ok (.bipush 8, 2) := by decide +kernel
theorem dX5_plain_103 : decode cX5_plain 103 = .ok (.if_icmp .ne 17, 3) := by decide +kernel
theorem dX5_plain_120 : decode cX5_plain 120 = .ok (.aload_n 0, 1) := by decide +kernel
theorem dX5_plain_121 : decode cX5_plain 121 = .ok (.invokevirtual 43, 3) := by decide +kernel
theorem dX5_plain_124 : decode cX5_plain 124 = .ok (.aload_n 0, 1) := by decide +kernel
theorem dX5_plain_125 : decode cX5_plain 125 = .ok (.iload_n 1, 1) := by decide +kernel
theorem dX5_plain_126 : decode cX5_plain 126 = .ok (.invokevirtual 63, 3) := by decide +kernel
theorem dX5_plain_129 : decode cX5_plain 129 = .ok (.ifCond .ne 5, 3) := by decide +kernel
theorem dX5_plain_134 : decode cX5_plain 134 = .ok (.aload_n 0, 1) := by decide +kernel
theorem dX5_plain_135 : decode cX5_plain 135 = .ok (.iload_n 3, 1) := by decide +kernel
theorem dX5_plain_136 : decode cX5_plain 136 = .ok (.iconst 0, 1) := by decide +kernel
theorem dX5_plain_137 : decode cX5_plain 137 = .ok (.invokevirtual 72, 3) := by decide +kernel
theorem dX5_plain_140 : decode cX5_plain 140 = .ok (.pop, 1) := by decide +kernel
theorem dX5_plain_132 : decode cX5_plain 132 = .ok (.iconst 0, 1) := by decide +kernel
theorem dX5_plain_133 : decode cX5_plain 133 = .ok (.ireturn, 1) := by decide +kernel
theorem dX5_plain_83 : decode cX5_plain 83 = .ok (.aload_n 0, 1) := by decide +kernel
theorem dX5_plain_84 : decode cX5_plain 84 = .ok (.bipush 62, 2) := by decide +kernel
theorem dX5_plain_86 : decode cX5_plain 86 = .ok (.invokevirtual 50, 3) := by decide +kernel
theorem dX5_plain_89 : decode cX5_plain 89 = .ok (.ifCond .eq 8, 3) := by decide +kernel
theorem dX5_plain_92 : decode cX5_plain 92 = .ok (.bipush 7, 2) := by decide +kernel
theorem dX5_plain_94 : decode cX5_plain 94 = .ok (.goto 5, 3) := by decide +kernel
theorem dX5_plain_97 : decode cX5_plain 97 = .ok (.bipush 8, 2) := by decide +kernel
theorem dX5_plain_106 : decode cX5_plain 106 = .ok (.aload_n 0, 1) := by decide +kernel
theorem dX5_plain_107 : decode cX5_plain 107 = .ok (.bipush 61, 2) := by decide +kernel
theorem dX5_plain_109 : decode cX5_plain 109 = .ok (.invokevirtual 50, 3) := by decide +kernel
theorem dX5_plain_112 : decode cX5_plain 112 = .ok (.ifCond .ne 8, 3) := by decide +kernel
theorem dX5_plain_115 : decode cX5_plain 115 = .ok (.aload_n 0, 1) := by decide +kernel
theorem dX5_plain_116 : decode cX5_plain 116 = .ok (.invokevirtual 54, 3) := by decide +kernel
theorem dX5_plain_119 : decode cX5_plain 119 = .ok (.ireturn, 1) := by decide +kernel
theorem dX5_plain_67 : decode cX5_plain 67 = .ok (.iconst 0, 1) := by decide +kernel
theorem dX5_plain_68 : decode cX5_plain 68 = .ok (.ireturn, 1) := by decide +kernel
theorem dX5_plain_11 : decode cX5_plain 11 = .ok (.aload_n 0, 1) := by decide +kernel
theorem dX5_plain_12 : decode cX5_plain 12 = .ok (.getfield 19, 3) := by decide +kernel
theorem dX5_plain_15 : decode cX5_plain 15 = .ok (.bipush 6, 2) := by decide +kernel
theorem dX5_plain_17 : decode cX5_plain 17 = .ok (.if_icmp .ne 23, 3) := by decide +kernel
theorem dX5_plain_20 : decode cX5_plain 20 = .ok (.iload_n 2, 1) := by decide +kernel
theorem dX5_plain_21 : decode cX5_plain 21 = .ok (.ifCond .ne 7, 3) := by decide +kernel
theorem dX5_plain_28 : decode cX5_plain 28 = .ok (.iconst 0, 1) := by decide +kernel
theorem dX5_plain_29 : decode cX5_plain 29 = .ok (.istore_n 2, 1) := by decide +kernel
theorem dX5_plain_30 : decode cX5_plain 30 = .ok (.aload_n 0, 1) := by decide +kernel
theorem dX5_plain_31 : decode cX5_plain 31 = .ok (.invokevirtual 43, 3) := by decide +kernel
theorem dX5_plain_34 : decode cX5_plain 34 = .ok (.iinc 3 1, 3) := by decide +kernel
theorem dX5_plain_37 : decode cX5_plain 37 = .ok (.goto (-33), 3) := by decide +kernel
theorem dX5_plain_24 : decode cX5_plain 24 = .ok (.iconst 1, 1) := by decide +kernel
theorem dX5_plain_25 : decode cX5_plain 25 = .ok (.goto 4, 3) := by decide +kernel
theorem dX5_both_0 : decode cX5_both 0 = .ok (.aload_n 0, 1) := by decide +kernel
theorem dX5_both_1 : decode cX5_both 1 = .ok (.iload_n 1, 1) := by decide +kernel
theorem dX5_both_2 : decode cX5_both 2 = .ok (.invokevirtual 83, 3) := by decide +kernel
theorem dX5_both_5 : decode cX5_both 5 = .ok (.ifCond .ne 5, 3) := by decide +kernel
theorem dX5_both_10 : decode cX5_both 10 = .ok (.iconst 0, 1) := by decide +kernel
theorem dX5_both_11 : decode cX5_both 11 = .ok (.istore_n 2, 1) := by decide +kernel
theorem dX5_both_12 : decode cX5_both 12 = .ok (.iload_n 2, 1) := by decide +kernel
theorem dX5_both_13 : decode cX5_both 13 = .ok (.sipush 400, 3) := by decide +kernel
theorem dX5_both_16 : decode cX5_both 16 = .ok (.if_icmp .ge 44, 3) := by decide +kernel
theorem dX5_both_60 : decode cX5_both 60 = .ok (.iconst 1, 1) := by decide +kernel
theorem dX5_both_61 : decode cX5_both 61 = .ok (.ireturn, 1) := by decide +kernel
theorem dX5_both_19 : decode cX5_both 19 = .ok (.aload_n 0, 1) := by decide +kernel
theorem dX5_both_20 : decode cX5_both 20 = .ok (.getfield 19, 3) := by decide +kernel
theorem dX5_both_23 : decode cX5_both 23 = .ok (.iconst 5, 1) := by decide +kernel
theorem dX5_both_24 : decode cX5_both 24 = .ok (.if_icmp .ne 36, 3) := by decide +kernel
theorem dX5_both_27 : decode cX5_both 27 = .ok (.aload_n 0, 1) := by decide +kernel
theorem dX5_both_28 : decode cX5_both 28 = .ok (.invokevirtual 43, 3) := by decide +kernel
theorem dX5_both_31 : decode cX5_both 31 = .ok (.aload_n 0, 1) := by decide +kernel
theorem dX5_both_32 : decode cX5_both 32 = .ok (.bipush 11, 2) := by decide +kernel
theorem dX5_both_34 : decode cX5_both 34 = .ok (.iconst 0, 1) := by decide +kernel
theorem dX5_both_35 : decode cX5_both 35 = .ok (.invokevirtual 72, 3) := by decide +kernel
theorem dX5_both_38 : decode cX5_both 38 = .ok (.istore_n 3, 1) := by decide +kernel
theorem dX5_both_39 : decode cX5_both 39 = .ok (.aload_n 0, 1) := by decide +kernel
theorem dX5_both_40 : decode cX5_both 40 = .ok (.iload_n 1, 1) := by decide +kernel
theorem dX5_both_41 : decode cX5_both 41 = .ok (.invokevirtual 83, 3) := by decide +kernel
theorem dX5_both_44 : decode cX5_both 44 = .ok (.ifCond .ne 5, 3) := by decide +kernel
theorem dX5_both_49 : decode cX5_both 49 = .ok (.aload_n 0, 1) := by decide +kernel
theorem dX5_both_50 : decode cX5_both 50 = .ok (.iload_n 3, 1) := by decide +kernel
theorem dX5_both_51 : decode cX5_both 51 = .ok (.invokevirtual 79, 3) := by decide +kernel
theorem dX5_both_54 : decode cX5_both 54 = .ok (.iinc 2 1, 3) := by decide +kernel
theorem dX5_both_57 : decode cX5_both 57 = .ok (.goto (-45), 3) := by decide +kernel
theorem dX5_both_47 : decode cX5_both 47 = .ok (.iconst 0, 1) := by decide +kernel
theorem dX5_both_48 : decode cX5_both 48 = .ok (.ireturn, 1) := by decide +kernel
theorem dX5_both_8 : decode cX5_both 8 = .ok (.iconst 0, 1) := by decide +kernel
theorem dX5_both_9 : decode cX5_both 9 = .ok (.ireturn, 1) := by decide +kernel
theorem dX5_test_0 : decode cX5_test 0 = .ok (.aload_n 0, 1) := by decide +kernel
theorem dX5_test_1 : decode cX5_test 1 = .ok (.iload_n 1, 1) := by decide +kernel
theorem dX5_test_2 : decode cX5_test 2 = .ok (.invokevirtual 76, 3) := by decide +kernel
theorem dX5_test_5 : decode cX5_test 5 = .ok (.ifCond .ne 5, 3) := by decide +kernel
theorem dX5_test_10 : decode cX5_test 10 = .ok (.iconst 0, 1) := by decide +kernel
theorem dX5_test_11 : decode cX5_test 11 = .ok (.istore_n 2, 1) := by decide +kernel
theorem dX5_test_12 : decode cX5_test 12 = .ok (.iload_n 2, 1) := by decide +kernel
theorem dX5_test_13 : decode cX5_test 13 = .ok (.sipush 400, 3) := by decide +kernel
theorem dX5_test_16 : decode cX5_test 16 = .ok (.if_icmp .ge 44, 3) := by decide +kernel
theorem dX5_test_60 : decode cX5_test 60 = .ok (.iconst 1, 1) := by decide +kernel
theorem dX5_test_61 : decode cX5_test 61 = .ok (.ireturn, 1) := by decide +kernel
theorem dX5_test_19 : decode cX5_test 19 = .ok (.aload_n 0, 1) := by decide +kernel
theorem dX5_test_20 : decode cX5_test 20 = .ok (.getfield 19, 3) := by decide +kernel
theorem dX5_test_23 : decode cX5_test 23 = .ok (.iconst 4, 1) := by decide +kernel
theorem dX5_test_24 : decode cX5_test 24 = .ok (.if_icmp .ne 36, 3) := by decide +kernel
theorem dX5_test_27 : decode cX5_test 27 = .ok (.aload_n 0, 1) := by decide +kernel
theorem dX5_test_28 : decode cX5_test 28 = .ok (.invokevirtual 43, 3) := by decide +kernel
theorem dX5_test_31 : decode cX5_test 31 = .ok (.aload_n 0, 1) := by decide +kernel
theorem dX5_test_32 : decode cX5_test 32 = .ok (.bipush 10, 2) := by decide +kernel
theorem dX5_test_34 : decode cX5_test 34 = .ok (.iconst 0, 1) := by decide +kernel
theorem dX5_test_35 : decode cX5_test 35 = .ok (.invokevirtual 72, 3) := by decide +kernel
theorem dX5_test_38 : decode cX5_test 38 = .ok (.istore_n 3, 1) := by decide +kernel
theorem dX5_test_39 : decode cX5_test 39 = .ok (.aload_n 0, 1) := by decide +kernel
theorem dX5_test_40 : decode cX5_test 40 = .ok (.iload_n 1, 1) := by decide +kernel
theorem dX5_test_41 : decode cX5_test 41 = .ok (.invokevirtual 76, 3) := by decide +kernel
theorem dX5_test_44 : decode cX5_test 44 = .ok (.ifCond .ne 5, 3) := by decide +kernel
theorem dX5_test_49 : decode cX5_test 49 = .ok (.aload_n 0, 1) := by decide +kernel
theorem dX5_test_50 : decode cX5_test 50 = .ok (.iload_n 3, 1) := by decide +kernel
theorem dX5_test_51 : decode cX5_test 51 = .ok (.invokevirtual 79, 3) := by decide +kernel
theorem dX5_test_54 : decode cX5_test 54 = .ok (.iinc 2 1, 3) := by decide +kernel
theorem dX5_test_57 : decode cX5_test 57 = .ok (.goto (-45), 3) := by decide +kernel
theorem dX5_test_47 : decode cX5_test 47 = .ok (.iconst 0, 1) := by decide +kernel
theorem dX5_test_48 : decode cX5_test 48 = .ok (.ireturn, 1) := by decide +kernel
theorem dX5_test_8 : decode cX5_test 8 = .ok (.iconst 0, 1) := by decide +kernel
theorem dX5_test_9 : decode cX5_test 9 = .ok (.ireturn, 1) := by decide +kernel
theorem dX5_bracketedSum_11 : decode cX5_bracketedSum 11 = .ok (.aload_n 0, 1) := by decide +kernel
theorem dX5_bracketedSum_12 : decode cX5_bracketedSum 12 = .ok (.invokevirtual 43, 3) := by decide +kernel
theorem dX5_bracketedSum_15 : decode cX5_bracketedSum 15 = .ok (.aload_n 0, 1) := by decide +kernel
theorem dX5_bracketedSum_16 : decode cX5_bracketedSum 16 = .ok (.iload_n 1, 1) := by decide +kernel
theorem dX5_bracketedSum_17 : decode cX5_bracketedSum 17 = .ok (.iconst 1, 1) := by decide +kernel
theorem dX5_bracketedSum_18 : decode cX5_bracketedSum 18 = .ok (.iadd, 1) := by decide +kernel
theorem dX5_bracketedSum_19 : decode cX5_bracketedSum 19 = .ok (.invokevirtual 63, 3) := by decide +kernel
theorem dX5_bracketedSum_22 : decode cX5_bracketedSum 22 = .ok (.ifCond .ne 5, 3) := by decide +kernel
theorem dX5_bracketedSum_27 : decode cX5_bracketedSum 27 = .ok (.aload_n 0, 1) := by decide +kernel
theorem dX5_bracketedSum_28 : decode cX5_bracketedSum 28 = .ok (.bipush 93, 2) := by decide +kernel
theorem dX5_bracketedSum_30 : decode cX5_bracketedSum 30 = .ok (.invokevirtual 50, 3) := by decide +kernel
theorem dX5_bracketedSum_33 : decode cX5_bracketedSum 33 = .ok (.ifCond .ne 8, 3) := by decide +kernel
theorem dX5_bracketedSum_41 : decode cX5_bracketedSum 41 = .ok (.aload_n 0, 1) := by decide +kernel
theorem dX5_bracketedSum_42 : decode cX5_bracketedSum 42 = .ok (.invokevirtual 43, 3) := by decide +kernel
theorem dX5_bracketedSum_45 : decode cX5_bracketedSum 45 = .ok (.iconst 1, 1) := by decide +kernel
theorem dX5_bracketedSum_46 : decode cX5_bracketedSum 46 = .ok (.ireturn, 1) := by decide +kernel
theorem dX5_bracketedSum_36 : decode cX5_bracketedSum 36 = .ok (.aload_n 0, 1) := by decide +kernel
theorem dX5_bracketedSum_37 : decode cX5_bracketedSum 37 = .ok (.invokevirtual 54, 3) := by decide +kernel
theorem dX5_bracketedSum_40 : decode cX5_bracketedSum 40 = .ok (.ireturn, 1) := by decide +kernel
theorem dX5_bracketedSum_25 : decode cX5_bracketedSum 25 = .ok (.iconst 0, 1) := by decide +kernel
theorem dX5_bracketedSum_26 : decode cX5_bracketedSum 26 = .ok (.ireturn, 1) := by decide +kernel
theorem dX5_bracketedTest_11 : decode cX5_bracketedTest 11 = .ok (.aload_n 0, 1) := by decide +kernel
theorem dX5_bracketedTest_12 : decode cX5_bracketedTest 12 = .ok (.invokevirtual 43, 3) := by decide +kernel
theorem dX5_bracketedTest_15 : decode cX5_bracketedTest 15 = .ok (.aload_n 0, 1) := by decide +kernel
theorem dX5_bracketedTest_16 : decode cX5_bracketedTest 16 = .ok (.iload_n 1, 1) := by decide +kernel
theorem dX5_bracketedTest_17 : decode cX5_bracketedTest 17 = .ok (.iconst 1, 1) := by decide +kernel
theorem dX5_bracketedTest_18 : decode cX5_bracketedTest 18 = .ok (.iadd, 1) := by decide +kernel
theorem dX5_bracketedTest_19 : decode cX5_bracketedTest 19 = .ok (.invokevirtual 67, 3) := by decide +kernel
theorem dX5_bracketedTest_22 : decode cX5_bracketedTest 22 = .ok (.ifCond .ne 5, 3) := by decide +kernel
theorem dX5_bracketedTest_27 : decode cX5_bracketedTest 27 = .ok (.aload_n 0, 1) := by decide +kernel
theorem dX5_bracketedTest_28 : decode cX5_bracketedTest 28 = .ok (.bipush 41, 2) := by decide +kernel
theorem dX5_bracketedTest_30 : decode cX5_bracketedTest 30 = .ok (.invokevirtual 50, 3) := by decide +kernel
theorem dX5_bracketedTest_33 : decode cX5_bracketedTest 33 = .ok (.ifCond .ne 8, 3) := by decide +kernel
theorem dX5_bracketedTest_41 : decode cX5_bracketedTest 41 = .ok (.aload_n 0, 1) := by decide +kernel
theorem dX5_bracketedTest_42 : decode cX5_bracketedTest 42 = .ok (.invokevirtual 43, 3) := by decide +kernel
theorem dX5_bracketedTest_45 : decode cX5_bracketedTest 45 = .ok (.iconst 1, 1) := by decide +kernel
theorem dX5_bracketedTest_46 : decode cX5_bracketedTest 46 = .ok (.ireturn, 1) := by decide +kernel
theorem dX5_bracketedTest_36 : decode cX5_bracketedTest 36 = .ok (.aload_n 0, 1) := by decide +kernel
theorem dX5_bracketedTest_37 : decode cX5_bracketedTest 37 = .ok (.invokevirtual 54, 3) := by decide +kernel
theorem dX5_bracketedTest_40 : decode cX5_bracketedTest 40 = .ok (.ireturn, 1) := by decide +kernel
theorem dX5_bracketedTest_25 : decode cX5_bracketedTest 25 = .ok (.iconst 0, 1) := by decide +kernel
theorem dX5_bracketedTest_26 : decode cX5_bracketedTest 26 = .ok (.ireturn, 1) := by decide +kernel
theorem dX5_clause_0 : decode cX5_clause 0 = .ok (.aload_n 0, 1) := by decide +kernel
theorem dX5_clause_1 : decode cX5_clause 1 = .ok (.getfield 19, 3) := by decide +kernel
theorem dX5_clause_4 : decode cX5_clause 4 = .ok (.istore_n 1, 1) := by decide +kernel
theorem dX5_clause_5 : decode cX5_clause 5 = .ok (.iload_n 1, 1) := by decide +kernel
theorem dX5_clause_6 : decode cX5_clause 6 = .ok (.ifCond .eq 18, 3) := by decide +kernel
theorem dX5_clause_24 : decode cX5_clause 24 = .ok (.aload_n 0, 1) := by decide +kernel
theorem dX5_clause_25 : decode cX5_clause 25 = .ok (.invokevirtual 43, 3) := by decide +kernel
theorem dX5_clause_28 : decode cX5_clause 28 = .ok (.iload_n 1, 1) := by decide +kernel
theorem dX5_clause_29 : decode cX5_clause 29 = .ok (.ifCond .ne 13, 3) := by decide +kernel
theorem dX5_clause_32 : decode cX5_clause 32 = .ok (.aload_n 0, 1) := by decide +kernel
theorem dX5_clause_33 : decode cX5_clause 33 = .ok (.iconst 0, 1) := by decide +kernel
theorem dX5_clause_34 : decode cX5_clause 34 = .ok (.invokevirtual 63, 3) := by decide +kernel
theorem dX5_clause_37 : decode cX5_clause 37 = .ok (.ifCond .ne 5, 3) := by decide +kernel
theorem dX5_clause_42 : decode cX5_clause 42 = .ok (.aload_n 0, 1) := by decide +kernel
theorem dX5_clause_43 : decode cX5_clause 43 = .ok (.getfield 19, 3) := by decide +kernel
theorem dX5_clause_46 : decode cX5_clause 46 = .ok (.iconst 3, 1) := by decide +kernel
theorem dX5_clause_47 : decode cX5_clause 47 = .ok (.if_icmp .ne 17, 3) := by decide +kernel
theorem dX5_clause_64 : decode cX5_clause 64 = .ok (.aload_n 0, 1) := by decide +kernel
theorem dX5_clause_65 : decode cX5_clause 65 = .ok (.iconst 0, 1) := by decide +kernel
theorem dX5_clause_66 : decode cX5_clause 66 = .ok (.iconst 1, 1) := by decide +kernel
theorem dX5_clause_67 : decode cX5_clause 67 = .ok (.invokevirtual 72, 3) := by decide +kernel
theorem dX5_clause_70 : decode cX5_clause 70 = .ok (.pop, 1) := by decide +kernel
theorem dX5_clause_71 : decode cX5_clause 71 = .ok (.aload_n 0, 1) := by decide +kernel
theorem dX5_clause_72 : decode cX5_clause 72 = .ok (.iload_n 1, 1) := by decide +kernel
theorem dX5_clause_73 : decode cX5_clause 73 = .ok (.ifCond .ne 8, 3) := by decide +kernel
theorem dX5_clause_76 : decode cX5_clause 76 = .ok (.bipush 12, 2) := by decide +kernel
theorem dX5_clause_78 : decode cX5_clause 78 = .ok (.goto 15, 3) := by decide +kernel
theorem dX5_clause_93 : decode cX5_clause 93 = .ok (.iconst 0, 1) := by decide +kernel
theorem dX5_clause_94 : decode cX5_clause 94 = .ok (.invokevirtual 72, 3) := by decide +kernel
theorem dX5_clause_97 : decode cX5_clause 97 = .ok (.pop, 1) := by decide +kernel
theorem dX5_clause_98 : decode cX5_clause 98 = .ok (.iconst 1, 1) := by decide +kernel
theorem dX5_clause_99 : decode cX5_clause 99 = .ok (.ireturn, 1) := by decide +kernel
theorem dX5_clause_50 : decode cX5_clause 50 = .ok (.aload_n 0, 1) := by decide +kernel
theorem dX5_clause_51 : decode cX5_clause 51 = .ok (.invokevirtual 43, 3) := by decide +kernel
theorem dX5_clause_54 : decode cX5_clause 54 = .ok (.aload_n 0, 1) := by decide +kernel
theorem dX5_clause_55 : decode cX5_clause 55 = .ok (.iconst 0, 1) := by decide +kernel
theorem dX5_clause_56 : decode cX5_clause 56 = .ok (.invokevirtual 67, 3) := by decide +kernel
theorem dX5_clause_59 : decode cX5_clause 59 = .ok (.ifCond .ne 12, 3) := by decide +kernel
theorem dX5_clause_62 : decode cX5_clause 62 = .ok (.iconst 0, 1) := by decide +kernel
theorem dX5_clause_63 : decode cX5_clause 63 = .ok (.ireturn, 1) := by decide +kernel
theorem dX5_clause_40 : decode cX5_clause 40 = .ok (.iconst 0, 1) := by decide +kernel
theorem dX5_clause_41 : decode cX5_clause 41 = .ok (.ireturn, 1) := by decide +kernel
theorem dX5_clause_9 : decode cX5_clause 9 = .ok (.iload_n 1, 1) := by decide +kernel
theorem dX5_clause_10 : decode cX5_clause 10 = .ok (.iconst 1, 1) := by decide +kernel
theorem dX5_clause_11 : decode cX5_clause 11 = .ok (.if_icmp .eq 13, 3) := by decide +kernel
theorem dX5_clause_81 : decode cX5_clause 81 = .ok (.iload_n 1, 1) := by decide +kernel
theorem dX5_clause_82 : decode cX5_clause 82 = .ok (.iconst 1, 1) := by decide +kernel
theorem dX5_clause_83 : decode cX5_clause 83 = .ok (.if_icmp .ne 8, 3) := by decide +kernel
theorem dX5_clause_86 : decode cX5_clause 86 = .ok (.bipush 13, 2) := by decide +kernel
theorem dX5_clause_88 : decode cX5_clause 88 = .ok (.goto 5, 3) := by decide +kernel
theorem dX5_clause_14 : decode cX5_clause 14 = .ok (.iload_n 1, 1) := by decide +kernel
theorem dX5_clause_15 : decode cX5_clause 15 = .ok (.iconst 2, 1) := by decide +kernel
theorem dX5_clause_16 : decode cX5_clause 16 = .ok (.if_icmp .eq 8, 3) := by decide +kernel
theorem dX5_clause_91 : decode cX5_clause 91 = .ok (.bipush 14, 2) := by decide +kernel
theorem dX5_clause_19 : decode cX5_clause 19 = .ok (.aload_n 0, 1) := by decide +kernel
theorem dX5_clause_20 : decode cX5_clause 20 = .ok (.invokevirtual 54, 3) := by decide +kernel
theorem dX5_clause_23 : decode cX5_clause 23 = .ok (.ireturn, 1) := by decide +kernel
theorem dX5_compile_0 : decode cX5_compile 0 = .ok (.aload_n 0, 1) := by decide +kernel
theorem dX5_compile_1 : decode cX5_compile 1 = .ok (.iconst 0, 1) := by decide +kernel
theorem dX5_compile_2 : decode cX5_compile 2 = .ok (.putfield 25, 3) := by decide +kernel
theorem dX5_compile_5 : decode cX5_compile 5 = .ok (.aload_n 0, 1) := by decide +kernel
theorem dX5_compile_6 : decode cX5_compile 6 = .ok (.iconst 0, 1) := by decide +kernel
theorem dX5_compile_7 : decode cX5_compile 7 = .ok (.putfield 31, 3) := by decide +kernel
theorem dX5_compile_10 : decode cX5_compile 10 = .ok (.aload_n 0, 1) := by decide +kernel
theorem dX5_compile_11 : decode cX5_compile 11 = .ok (.iconst 0, 1) := by decide +kernel
theorem dX5_compile_12 : decode cX5_compile 12 = .ok (.putfield 40, 3) := by decide +kernel
theorem dX5_compile_15 : decode cX5_compile 15 = .ok (.aload_n 0, 1) := by decide +kernel
theorem dX5_compile_16 : decode cX5_compile 16 = .ok (.iconst (-1), 1) := by decide +kernel
theorem dX5_compile_17 : decode cX5_compile 17 = .ok (.putfield 34, 3) := by decide +kernel
theorem dX5_compile_20 : decode cX5_compile 20 = .ok (.aload_n 0, 1) := by decide +kernel
theorem dX5_compile_21 : decode cX5_compile 21 = .ok (.invokevirtual 43, 3) := by decide +kernel
theorem dX5_compile_24 : decode cX5_compile 24 = .ok (.aload_n 0, 1) := by decide +kernel
theorem dX5_compile_25 : decode cX5_compile 25 = .ok (.invokevirtual 46, 3) := by decide +kernel
theorem dX5_compile_28 : decode cX5_compile 28 = .ok (.istore_n 1, 1) := by decide +kernel
theorem dX5_compile_29 : decode cX5_compile 29 = .ok (.iconst 1, 1) := by decide +kernel
theorem dX5_compile_30 : decode cX5_compile 30 = .ok (.istore_n 2, 1) := by decide +kernel
theorem dX5_compile_31 : decode cX5_compile 31 = .ok (.iload_n 2, 1) := by decide +kernel
theorem dX5_compile_32 : decode cX5_compile 32 = .ok (.bipush 12, 2) := by decide +kernel
theorem dX5_compile_34 : decode cX5_compile 34 = .ok (.if_icmp .gt 44, 3) := by decide +kernel
theorem dX5_compile_78 : decode cX5_compile 78 = .ok (.iload_n 1, 1) := by decide +kernel
theorem dX5_compile_79 : decode cX5_compile 79 = .ok (.ifCond .eq 17, 3) := by decide +kernel
theorem dX5_compile_96 : decode cX5_compile 96 = .ok (.aload_n 0, 1) := by decide +kernel
theorem dX5_compile_97 : decode cX5_compile 97 = .ok (.getfield 34, 3) := by decide +kernel
theorem dX5_compile_100 : decode cX5_compile 100 = .ok (.ireturn, 1) := by decide +kernel
theorem dX5_compile_82 : decode cX5_compile 82 = .ok (.aload_n 0, 1) := by decide +kernel
theorem dX5_compile_83 : decode cX5_compile 83 = .ok (.getfield 19, 3) := by decide +kernel
theorem dX5_compile_86 : decode cX5_compile 86 = .ok (.bipush 17, 2) := by decide +kernel
theorem dX5_compile_88 : decode cX5_compile 88 = .ok (.if_icmp .eq 8, 3) := by decide +kernel
theorem dX5_compile_91 : decode cX5_compile 91 = .ok (.aload_n 0, 1) := by decide +kernel
theorem dX5_compile_92 : decode cX5_compile 92 = .ok (.invokevirtual 54, 3) := by decide +kernel
theorem dX5_compile_95 : decode cX5_compile 95 = .ok (.pop, 1) := by decide +kernel
theorem dX5_compile_37 : decode cX5_compile 37 = .ok (.iload_n 1, 1) := by decide +kernel
theorem dX5_compile_38 : decode cX5_compile 38 = .ok (.ifCond .eq 40, 3) := by decide +kernel
theorem dX5_compile_41 : decode cX5_compile 41 = .ok (.aload_n 0, 1) := by decide +kernel
theorem dX5_compile_42 : decode cX5_compile 42 = .ok (.bipush 59, 2) := by decide +kernel
theorem dX5_compile_44 : decode cX5_compile 44 = .ok (.invokevirtual 50, 3) := by decide +kernel
theorem dX5_compile_47 : decode cX5_compile 47 = .ok (.ifCond .eq 31, 3) := by decide +kernel
theorem dX5_compile_50 : decode cX5_compile 50 = .ok (.aload_n 0, 1) := by decide +kernel
theorem dX5_compile_51 : decode cX5_compile 51 = .ok (.invokevirtual 43, 3) := by decide +kernel
theorem dX5_compile_54 : decode cX5_compile 54 = .ok (.iload_n 2, 1) := by decide +kernel
theorem dX5_compile_55 : decode cX5_compile 55 = .ok (.bipush 12, 2) := by decide +kernel
theorem dX5_compile_57 : decode cX5_compile 57 = .ok (.if_icmp .ge 10, 3) := by decide +kernel
theorem dX5_compile_67 : decode cX5_compile 67 = .ok (.aload_n 0, 1) := by decide +kernel
theorem dX5_compile_68 : decode cX5_compile 68 = .ok (.invokevirtual 54, 3) := by decide +kernel
theorem dX5_compile_71 : decode cX5_compile 71 = .ok (.istore_n 1, 1) := by decide +kernel
theorem dX5_compile_72 : decode cX5_compile 72 = .ok (.iinc 2 1, 3) := by decide +kernel
theorem dX5_compile_75 : decode cX5_compile 75 = .ok (.goto (-44), 3) := by decide +kernel
theorem dX5_compile_60 : decode cX5_compile 60 = .ok (.aload_n 0, 1) := by decide +kernel
theorem dX5_compile_61 : decode cX5_compile 61 = .ok (.invokevirtual 46, 3) := by decide +kernel
theorem dX5_compile_64 : decode cX5_compile 64 = .ok (.goto 7, 3) := by decide +kernel
theorem v_d169d0bfa8 : (-(1 : Int)) ≤ 255 := by omega
theorem v_d7389cde0f {a0 : Int} (h0 : 0 ≤ a0) (h1 : a0 ≤ 400) : zr a0 := by omega
theorem v_5d8e28db30 {a0 a1 : Int} (h0 : a0 ≤ 400) (h1 : ¬ a0 ≤ a1) : a1 < 400 := by omega
theorem v_ae320c9b25 {a0 a1 : Int} (h0 : 0 ≤ a0) (h1 : a0 ≤ 100) (h2 : 0 ≤ a1) (h3 : a1 ≤ 400) : zr ((a1 + a0)) := by omega
theorem v_d8dcd4dd52 : zr 400 := by omega
theorem v_6a464b420f {a0 a1 : Int} (h0 : ¬ 400 < a0 + a1) : a0 + a1 ≤ 400 := by omega
theorem v_d416bcbf49 : -(8 : Int) ≤ 24 := by omega
theorem v_dfa2d5efb9 : (24 : Int) ≤ 24 := by omega
theorem v_b1368e81cc {a0 : Int} (h0 : a0 ≤ 396) : a0 ≤ 400 := by omega
theorem v_48d8540466 {a0 : Int} : 8 * a0 + 24 = 8 * a0 + 24 := by omega
theorem v_f3427b8b53 {a0 : Int} (h0 : -8 ≤ a0) (h1 : a0 ≤ 24) : zr a0 := by omega
theorem v_ac889d0a66 {a0 a1 a2 : Int} (h0 : a0 ≤ 396) (h1 : 8 * a1 + a2 = 8 * a0 + 24) (h2 : ¬ a2 < 0) : ¬ 400 ≤ a1 := by omega
theorem v_2eb09acee2 {a0 : Int} (h0 : ¬ 400 ≤ a0) : a0 < 400 := by omega
theorem v_d5210584ec {a0 : Int} (h0 : a0 ≤ 255) : a0 ≤ 255 := by omega
theorem v_b88acebfbc {a0 : Int} : a0 + (-8) = a0 - 8 := by omega
theorem v_2cdc0924e2 {a0 : Int} (h0 : ¬ a0 < 0) : -8 ≤ (a0 - 8) := by omega
theorem v_e27e42dedb {a0 : Int} (h0 : a0 ≤ 24) : (a0 - 8) ≤ 24 := by omega
theorem v_6924477667 {a0 : Int} (h0 : ¬ 400 ≤ a0) : (a0 + 1) ≤ 400 := by omega
theorem v_3b424409fc {a0 a1 a2 : Int} (h0 : 8 * a0 + a1 = 8 * a2 + 24) : 8 * (a0 + 1) + (a1 - 8) = 8 * a2 + 24 := by omega
theorem v_5ed851111b {a0 a1 a2 : Int} (h0 : a0 ≤ 24) (h1 : 8 * a1 + a0 = 8 * a2 + 24) : 0 ≤ a1 - a2 := by omega
theorem v_0cb60ec4e6 {a0 a1 : Int} : a0 = a1 + (a0 - a1) := by omega
theorem v_10209a891a {a0 a1 a2 : Int} (h0 : 8 * a0 + a1 = 8 * a2 + 24) : a1 = 24 - 8 * (a0 - a2) := by omega
theorem v_96e57bfaa2 {a0 a1 : Int} : a0 + 1 - a1 = a0 - a1 + 1 := by omega
theorem v_035cfcbd1f {a0 : Int} : (a0 - 8) + 8 < (a0 + 8) := by omega
theorem v_3d697e6f4a {a0 : Int} (h0 : ¬ a0 < 0) : 0 < a0 + 8 := by omega
theorem v_663a05fb09 {a0 : Int} (h0 : a0 < 1) : a0 < 1 := by omega
theorem v_66a0c9ccf8 {a0 : Int} (h0 : a0 ≤ 400) (h1 : ¬ a0 < 1) : zr a0 := by omega
theorem v_901f0126f2 {a0 : Int} (h0 : ¬ a0 < 1) (h1 : a0 ≤ 7) : zr a0 := by omega
theorem v_ce6a6f00b7 {a0 : Int} (h0 : ¬ a0 < 1) : 1 ≤ a0 := by omega
theorem v_13cb52b44b : (4 : Int) ≤ 4 := by omega
theorem v_6aef9b5ec0 {a0 a1 : Int} (h0 : a0 ≤ 7) (h1 : ¬ a0 ≤ a1) : a1 < 400 := by omega
theorem v_7675438551 {a0 : Int} (h0 : 0 ≤ a0) (h1 : a0 ≤ 255) : zr a0 := by omega
theorem v_087600a23e {a0 : Int} (h0 : a0 < 5) : a0 ≤ 4 := by omega
theorem v_cac29cb1c5 {a0 : Int} (h0 : ¬ a0 < 5) : 5 ≤ a0 := by omega
theorem v_1f1f6a172b {a0 : Int} (h0 : ¬ a0 ≤ 7) : 7 < a0 := by omega
theorem v_120e9ced03 : zr 97 := by omega
theorem v_29fc54b483 {a0 : Int} (h0 : zr a0) (h1 : ¬ a0 < 97) : zr a0 := by omega
theorem v_86c2371aa4 : zr 122 := by omega
theorem v_c88ab225c0 {a0 : Int} (h0 : ¬ a0 < 97) : 97 ≤ a0 := by omega
theorem v_90f692b398 {a0 : Int} (h0 : ¬ 122 < a0) : a0 ≤ 122 := by omega
theorem v_5d2538b988 : zr 48 := by omega
theorem v_1f678a7e63 {a0 : Int} (h0 : zr a0) (h1 : ¬ a0 < 48) : zr a0 := by omega
theorem v_9633cf9c93 : zr 57 := by omega
theorem v_68553276b5 {a0 : Int} (h0 : ¬ a0 < 48) : 48 ≤ a0 := by omega
theorem v_e5b730cf9c {a0 : Int} (h0 : ¬ 57 < a0) : a0 ≤ 57 := by omega
theorem v_2706a00d49 {a0 : Int} : 100 + a0 = a0 + 100 := by omega
theorem v_96bf6f782e {a0 : Int} (h0 : 0 ≤ a0) (h1 : a0 ≤ 355) : zr a0 := by omega
theorem v_7e0549880a {a0 : Int} (h0 : 0 ≤ a0) (h1 : a0 ≤ 255) : zr ((a0 + 100)) := by omega
theorem v_9099852440 {a0 : Int} (h0 : 0 ≤ a0) (h1 : a0 ≤ 412) : zr a0 := by omega
theorem v_27e7d13956 : zr 412 := by omega
theorem v_3daf2cb668 {a0 : Int} : a0 ≤ a0 + 1 := by omega
theorem v_dbf5af2b53 {a0 : Int} (h0 : ¬ 412 ≤ a0) : a0 < 412 := by omega
theorem v_54d4eb8da6 {a0 : Int} (h0 : ¬ 412 ≤ a0) : (a0 + 1) ≤ 412 := by omega
theorem v_3410673be3 {a0 : Int} : (a0 + 1) ≤ a0 + 1 := by omega
theorem v_44cc8cd4bb {a0 a1 : Int} (h0 : a0 ≤ 412) (h1 : ¬ a0 ≤ a1) : a1 < 412 := by omega
theorem v_63fe78b188 : (0 : Int) ≤ 73 := by omega
theorem v_d0bfa3a8cd {a0 : Int} : a0 ≤ a0 + 0 := by omega
theorem v_94d443f0e8 {a0 : Int} (h0 : 0 ≤ a0) (h1 : a0 ≤ 73) : zr a0 := by omega
theorem v_30b0c4d114 : zr 73 := by omega
theorem v_316d906358 : (0 : Int) ≤ 15 := by omega
theorem v_acae2ba8c8 : (15 : Int) ≤ 15 := by omega
theorem v_5067095eb0 {a0 : Int} (h0 : ¬ 73 ≤ a0) : a0 < 73 := by omega
theorem v_720a29103c {a0 : Int} (h0 : 32 ≤ a0) (h1 : a0 ≤ 122) : zr a0 := by omega
theorem v_27308ff615 : zr 32 := by omega
theorem v_893826a06d {a0 : Int} (h0 : ¬ 73 ≤ a0) : (a0 + 1) ≤ 73 := by omega
theorem v_b1a81de18e {a0 a1 a2 : Int} (h0 : a0 ≤ a1 + a2) : (a0 + 1) ≤ a1 + (a2 + 1) := by omega
theorem v_d9af624d78 {a0 : Int} : 73 - (a0 + 1) < (73 - a0) := by omega
theorem v_55b44453db {a0 : Int} (h0 : ¬ 73 ≤ a0) : 0 < 73 - a0 := by omega
theorem v_b3aa5f4b1f {a0 a1 a2 a3 a4 : Int} (h0 : a0 ≤ 400) (h1 : 0 ≤ a1) (h2 : a1 ≤ a2) (h3 : a2 ≤ a0) (h4 : a1 ≤ a3) (h5 : a3 ≤ a1 + a4) (h6 : ¬ 73 ≤ a4) : zr a3 := by omega
theorem v_0bec36d083 {a0 a1 a2 : Int} (h0 : a0 ≤ 400) (h1 : 0 ≤ a1) (h2 : a1 ≤ a2) (h3 : a2 ≤ a0) : zr a2 := by omega
theorem v_cba26b68a5 {a0 a1 a2 : Int} (h0 : a0 ≤ 400) (h1 : a1 ≤ a0) (h2 : ¬ a1 ≤ a2) : a2 < 400 := by omega
theorem v_2a86628443 {a0 : Int} (h0 : 32 ≤ a0) (h1 : a0 = 32) : a0 = 32 := by omega
theorem v_670c5cf6c2 {a0 a1 : Int} (h0 : 0 ≤ a0) : a1 ≤ a1 + (a0 + 1) := by omega
theorem v_d5f9afb2ea : (0 : Int) ≤ 17 := by omega
theorem v_4e528d6cd5 : (17 : Int) ≤ 355 := by omega
theorem v_a6a45631f7 : (17 : Int) = 17 := by omega
theorem v_a9a43f8862 {a0 a1 a2 : Int} (h0 : a0 ≤ 400) (h1 : 0 ≤ a1) (h2 : a1 ≤ a2) (h3 : ¬ a0 ≤ a2) : zr a2 := by omega
theorem v_e297e1497d {a0 a1 a2 a3 : Int} (h0 : a0 ≤ 400) (h1 : 0 ≤ a1) (h2 : a1 ≤ a2) (h3 : a2 ≤ a3) (h4 : a3 ≤ a0) : zr a3 := by omega
theorem v_243b24de7d {a0 : Int} (h0 : a0 ≤ 15) : a0 ≤ 355 := by omega
theorem v_7fb2d88da4 {a0 a1 a2 : Int} (h0 : ¬ a0 ≤ a1) (h1 : a0 ≤ a2) : a1 + 1 ≤ a2 := by omega
theorem v_7eaccd6eb1 {a0 a1 a2 : Int} (h0 : 0 ≤ a0) (h1 : a0 ≤ a1) (h2 : a1 ≤ a2) : 0 ≤ a2 := by omega
theorem v_c159493e72 {a0 a1 : Int} (h0 : 97 ≤ a0) (h1 : a1 < 97) : ¬ a0 = a1 := by omega
theorem v_8a071c42cc {a0 a1 : Int} (h0 : a0 ≤ 122) (h1 : 122 < a1) : ¬ a0 = a1 := by omega
theorem v_a9b52e2056 {a0 : Int} (h0 : 0 ≤ a0) (h1 : a0 < 97) : zr a0 := by omega
theorem v_7f788d9343 : (0 : Int) ≤ 1001 := by omega
theorem v_479b56dbea : (0 : Int) ≤ 16 := by omega
theorem v_e969a4d572 : (16 : Int) ≤ 355 := by omega
theorem v_0701810ab8 {a0 : Int} : a0 * 10 = 10 * a0 := by omega
theorem v_0eb3c069c9 : zr 1001 := by omega
theorem v_fbf291c56e {a0 a1 : Int} (h0 : 0 ≤ a0) (h1 : a0 ≤ 1001) (h2 : 48 ≤ a1) (h3 : a1 ≤ 57) : zr ((10 * a0 + a1 - 48)) := by omega
theorem v_bff012c994 {a0 a1 : Int} (h0 : 48 ≤ a0) (h1 : a1 < 48) : ¬ a0 = a1 := by omega
theorem v_98c147a587 {a0 a1 : Int} (h0 : a0 ≤ 57) (h1 : 57 < a1) : ¬ a0 = a1 := by omega
theorem v_168f970488 {a0 : Int} (h0 : 0 ≤ a0) : 0 ≤ (a0 + 100) := by omega
theorem v_964874f55d {a0 : Int} (h0 : a0 < 48) : (a0 + 100) ≤ 355 := by omega
theorem v_3e3d35cd3f {a0 : Int} (h0 : 57 < a0) : 0 ≤ (a0 + 100) := by omega
theorem v_d205086e28 {a0 : Int} (h0 : a0 < 97) : (a0 + 100) ≤ 355 := by omega
theorem v_eab840f878 {a0 : Int} (h0 : a0 ≤ 255) (h1 : 122 < a0) : zr a0 := by omega
theorem v_d55b1f7223 {a0 : Int} (h0 : 122 < a0) (h1 : a0 ≤ 57) : False := by omega
theorem v_09cbf12418 {a0 : Int} (h0 : 122 < a0) (h1 : a0 < 48) : False := by omega
theorem v_d48ed1b1ad {a0 : Int} (h0 : 122 < a0) : 0 ≤ (a0 + 100) := by omega
theorem v_dc622ca575 {a0 : Int} (h0 : a0 ≤ 255) : (a0 + 100) ≤ 355 := by omega
theorem v_0041fc7102 : ¬ (8 : Int) < 8 := by omega
theorem v_1adcfdfee5 {a0 a1 a2 : Int} (h0 : a0 ≤ 400) (h1 : a1 ≤ a2) (h2 : a2 ≤ a0) : a1 ≤ 400 := by omega
theorem v_df2cb83190 : (0 : Int) ≤ 91 := by omega
theorem v_d563f19a9d : (91 : Int) ≤ 255 := by omega
theorem v_1b6115d470 : zr 16 := by omega
theorem v_e33259c014 {a0 : Int} (h0 : a0 ≤ 355) (h1 : ¬ a0 < 7) : zr a0 := by omega
theorem v_196348439e {a0 : Int} (h0 : 0 ≤ a0) (h1 : a0 ≤ 50) : zr a0 := by omega
theorem v_e1e0ea2c24 : zr 50 := by omega
theorem v_2b807321aa {a0 : Int} (h0 : ¬ a0 < 7) (h1 : ¬ 14 < a0) : zr ((a0 - 7)) := by omega
theorem v_b0bfd58e62 {a0 : Int} (h0 : ¬ 14 < a0) : ¬ a0 = 17 := by omega
theorem v_9b2e2070a2 {a0 a1 a2 : Int} (h0 : 0 ≤ a0) (h1 : a0 + 1 ≤ a1) (h2 : a1 ≤ a2) : 0 ≤ a2 := by omega
theorem v_dc0d6dc503 {a0 : Int} (h0 : a0 < 50) : (a0 + 1) ≤ 50 := by omega
theorem v_37ad0bc16a {a0 a1 a2 a3 a4 : Int} (h0 : a0 ≤ a1 + 1) (h1 : a2 + 1 ≤ a3) (h2 : a3 ≤ a4) : a0 + a2 ≤ a1 + a4 := by omega
theorem v_016485883e {a0 a1 a2 : Int} (h0 : a0 + 1 ≤ a1) (h1 : a1 ≤ a2) : a0 ≤ a2 := by omega
theorem v_c986789e97 {a0 : Int} (h0 : 0 ≤ a0) (h1 : a0 ≤ 1001) : zr a0 := by omega
theorem v_822edaa202 : zr 1000 := by omega
theorem v_87f911991b {a0 : Int} (h0 : a0 = 16) : zr a0 := by omega
theorem v_a610ec54f4 {a0 : Int} (h0 : a0 = 16) : ¬ a0 < 7 := by omega
theorem v_8a408c96ed {a0 : Int} (h0 : a0 = 16) : 14 < a0 := by omega
theorem v_3f1e82a223 {a0 : Int} (h0 : 0 ≤ a0) (h1 : ¬ 1000 < a0) : zr a0 := by omega
theorem v_842fc1ac99 {a0 : Int} (h0 : a0 = 16) : ¬ a0 = 17 := by omega
theorem v_5ab96f7b5e : (0 : Int) ≤ 400 := by omega
theorem v_19b0ad2cd1 : (0 : Int) ≤ 42 := by omega
theorem v_1f79c0c2c4 : (42 : Int) ≤ 255 := by omega
theorem v_4a9f236eb2 {a0 : Int} (h0 : a0 = 42 + 100) : ¬ a0 = 17 := by omega
theorem v_ffb526fa28 : zr 4 := by omega
theorem v_5af1455273 {a0 a1 a2 a3 a4 a5 a6 a7 a8 : Int} (h0 : a0 + a1 ≤ a2 + a3) (h1 : a3 + 1 ≤ a4) (h2 : a4 ≤ a5) (h3 : a6 + a5 ≤ a0 + a7) (h4 : a8 ≤ a6 + 1) : a8 + a1 ≤ a2 + a7 := by omega
theorem v_269579bf42 {a0 a1 a2 a3 a4 : Int} (h0 : a0 ≤ a1) (h1 : a1 + 1 ≤ a2) (h2 : a2 ≤ a3) (h3 : a3 ≤ a4) : a0 ≤ a4 := by omega
theorem v_ceb2ed6d2b {a0 : Int} : 400 - (a0 + 1) < (400 - a0) := by omega
theorem v_44ddc35e90 {a0 : Int} (h0 : ¬ 400 ≤ a0) : 0 < 400 - a0 := by omega
theorem v_dc1247e06b {a0 : Int} (h0 : a0 = 42 + 100) (h1 : ¬ a0 = 42 + 100) : False := by omega
theorem v_a2835897db : (0 : Int) ≤ 47 := by omega
theorem v_8710bb8462 : (47 : Int) ≤ 255 := by omega
theorem v_4c7f0d169f {a0 : Int} (h0 : a0 = 47 + 100) (h1 : a0 = 42 + 100) : False := by omega
theorem v_6abada17c7 {a0 : Int} (h0 : a0 = 47 + 100) : ¬ a0 = 17 := by omega
theorem v_8b70ad274a : (0 : Int) ≤ 43 := by omega
theorem v_ff10987188 : (43 : Int) ≤ 255 := by omega
theorem v_7a588369ee {a0 : Int} (h0 : a0 = 43 + 100) : ¬ a0 = 17 := by omega
theorem v_a48d9a0d20 {a0 : Int} (h0 : a0 = 43 + 100) (h1 : ¬ a0 = 43 + 100) : False := by omega
theorem v_8bc5410605 : (0 : Int) ≤ 45 := by omega
theorem v_46bbb1acae : (45 : Int) ≤ 255 := by omega
theorem v_1d6e974349 {a0 : Int} (h0 : a0 = 45 + 100) (h1 : a0 = 43 + 100) : False := by omega
theorem v_1c70dbbeab {a0 : Int} (h0 : a0 = 45 + 100) : ¬ a0 = 17 := by omega
theorem v_1cc5223c3a : zr 3 := by omega
theorem v_2776526004 {a0 : Int} : a0 + 0 ≤ a0 := by omega
theorem v_3958fe4c87 : (0 : Int) ≤ 40 := by omega
theorem v_fdd2493dbb : (40 : Int) ≤ 255 := by omega
theorem v_f7907ed2b5 {a0 a1 a2 a3 a4 a5 : Int} (h0 : 0 ≤ a0) (h1 : a1 + a0 ≤ a2) (h2 : a3 + a2 ≤ a4 + a5) : a3 + a1 ≤ a4 + a5 := by omega
theorem v_4790cfd5f0 {a0 a1 a2 a3 : Int} (h0 : 0 ≤ a0) (h1 : a1 + a0 ≤ a2) (h2 : a2 ≤ a3) : a1 ≤ a3 := by omega
theorem v_6cbc4edc5d {a0 a1 a2 a3 a4 a5 a6 : Int} (h0 : 0 ≤ a0) (h1 : a1 + a0 ≤ a2) (h2 : a3 + a2 ≤ a4 + a5) (h3 : ¬ a0 = 0) (h4 : a6 ≤ a3 + 1) : a6 + a1 ≤ a4 + a5 := by omega
theorem v_eb2f5e1e3a : (0 : Int) ≤ 60 := by omega
theorem v_382af52349 : (60 : Int) ≤ 255 := by omega
theorem v_ada6685030 : ¬ (6 : Int) = 8 := by omega
theorem v_f5333b39e4 {a0 : Int} (h0 : a0 = 60 + 100) : ¬ a0 = 17 := by omega
theorem v_5848421b37 {a0 a1 a2 a3 a4 a5 a6 a7 a8 a9 a10 : Int} (h0 : 0 ≤ a0) (h1 : a1 + a0 ≤ a2) (h2 : a3 + a2 ≤ a4 + a5) (h3 : a5 + 1 ≤ a6) (h4 : a6 ≤ a7) (h5 : a8 + a7 ≤ a3 + a9) (h6 : a10 ≤ a8 + 1) : a10 + a1 ≤ a4 + a9 := by omega
theorem v_60a9ec55dc {a0 a1 a2 a3 a4 a5 a6 : Int} (h0 : 0 ≤ a0) (h1 : a1 + a0 ≤ a2) (h2 : a2 ≤ a3) (h3 : a3 + 1 ≤ a4) (h4 : a4 ≤ a5) (h5 : a5 ≤ a6) : a1 ≤ a6 := by omega
theorem v_1533bd4120 {a0 a1 a2 a3 a4 a5 a6 a7 a8 a9 a10 a11 : Int} (h0 : 0 ≤ a0) (h1 : a1 + a0 ≤ a2) (h2 : a3 + a2 ≤ a4 + a5) (h3 : a5 + 1 ≤ a6) (h4 : a6 ≤ a7) (h5 : a8 + a7 ≤ a3 + a9) (h6 : a10 ≤ a8 + 1) (h7 : ¬ a0 = 0) (h8 : a11 ≤ a10 + 1) : a11 + a1 ≤ a4 + a9 := by omega
theorem v_722c6b3941 : (0 : Int) ≤ 62 := by omega
theorem v_3996c1d9a8 : (62 : Int) ≤ 255 := by omega
theorem v_d62b89f05c : ¬ (7 : Int) = 8 := by omega
theorem v_3ec9e003c7 {a0 : Int} (h0 : a0 = 62 + 100) : ¬ a0 = 17 := by omega
theorem v_c1b8243509 : (8 : Int) = 8 := by omega
theorem v_b92a3c53b8 : (0 : Int) ≤ 61 := by omega
theorem v_7b9730a51b : (61 : Int) ≤ 255 := by omega
theorem v_23eeeea057 {a0 : Int} (h0 : a0 = 61 + 100) : ¬ a0 = 17 := by omega
theorem v_3a5b2158d2 {a0 : Int} (h0 : a0 = 6) : ¬ a0 = 17 := by omega
theorem v_17f5bda46b {a0 a1 a2 a3 a4 : Int} (h0 : 0 ≤ a0) (h1 : a1 + a0 ≤ a2) (h2 : a2 + 1 ≤ a3) (h3 : a3 ≤ a4) : a1 + 0 ≤ a4 := by omega
theorem v_9fcadba328 {a0 a1 a2 a3 a4 : Int} (h0 : 0 ≤ a0) (h1 : a1 + a0 ≤ a2) (h2 : a2 + 1 ≤ a3) (h3 : a3 ≤ a4) : a1 + 1 ≤ a4 := by omega
theorem v_9ad38f4709 {a0 : Int} (h0 : a0 = 5) : ¬ a0 = 17 := by omega
theorem v_f82b1dc229 {a0 a1 a2 a3 a4 a5 a6 a7 a8 : Int} (h0 : a0 + a1 ≤ a2 + a3) (h1 : a3 + 1 ≤ a4) (h2 : a4 ≤ a5) (h3 : a6 ≤ a0 + 1) (h4 : a7 + a5 ≤ a6 + a8) : a7 + a1 ≤ a2 + a8 := by omega
theorem v_5ca91df03c {a0 : Int} (h0 : a0 = 4) : ¬ a0 = 17 := by omega
theorem v_0f26919f92 : (7 : Int) + 1 = 8 := by omega
theorem v_57eea63119 : (0 : Int) ≤ 93 := by omega
theorem v_eeebb5ff41 : (93 : Int) ≤ 255 := by omega
theorem v_0603afac7b {a0 : Int} (h0 : a0 = 93 + 100) : ¬ a0 = 17 := by omega
theorem v_a156850946 {a0 a1 a2 a3 a4 a5 a6 a7 : Int} (h0 : a0 ≤ a1) (h1 : a1 ≤ a2) (h2 : a3 + a2 ≤ a4 + a5) (h3 : a5 + 1 ≤ a6) (h4 : a6 ≤ a7) : a3 + a0 ≤ a4 + a7 := by omega
theorem v_b3d66fcd45 {a0 a1 a2 a3 a4 a5 : Int} (h0 : a0 ≤ a1) (h1 : a1 ≤ a2) (h2 : a2 ≤ a3) (h3 : a3 + 1 ≤ a4) (h4 : a4 ≤ a5) : a0 ≤ a5 := by omega
theorem v_eff0eb06dc : (0 : Int) ≤ 41 := by omega
theorem v_d0aa1234d6 : (41 : Int) ≤ 255 := by omega
theorem v_5f6578b310 {a0 : Int} (h0 : a0 = 41 + 100) : ¬ a0 = 17 := by omega
theorem v_fbe2095f63 : (6 : Int) + 1 = 7 := by omega
theorem v_93e4dd8c33 : (5 : Int) + 1 = 6 := by omega
theorem v_33b28fcfc0 : (4 : Int) + 1 = 5 := by omega
theorem v_c793779b3d : (3 : Int) + 1 = 4 := by omega
theorem v_accc64abdf : (2 : Int) + 1 = 3 := by omega
theorem v_3afe9cbc68 : (1 : Int) + 1 = 2 := by omega
theorem v_a8511d4785 : (0 : Int) + 1 = 1 := by omega
theorem v_9e3e808914 {a0 : Int} (h0 : a0 = 0) : ¬ a0 = 17 := by omega
theorem v_1bb2bfd6ba {a0 : Int} (h0 : 0 ≤ a0) (h1 : a0 = 0) : zr a0 := by omega
theorem v_f1c4f9e4a5 {a0 a1 a2 a3 a4 a5 a6 a7 : Int} (h0 : a0 + 1 ≤ a1) (h1 : a1 ≤ a2) (h2 : a3 + a2 ≤ a4 + a5) (h3 : a6 ≤ a3 + 1) (h4 : a7 ≤ a6 + 1) : a7 + a0 ≤ a4 + a5 + 1 := by omega
theorem v_f86ed2c715 {a0 a1 a2 a3 : Int} (h0 : a0 + 1 ≤ a1) (h1 : a1 ≤ a2) (h2 : a2 ≤ a3) : a0 ≤ a3 := by omega
theorem v_e24a142995 {a0 : Int} (h0 : a0 = 3) : ¬ a0 = 17 := by omega
theorem v_1018864788 {a0 a1 a2 a3 a4 a5 a6 a7 a8 a9 a10 : Int} (h0 : a0 + 1 ≤ a1) (h1 : a1 ≤ a2) (h2 : a3 + a2 ≤ a4 + a5) (h3 : a5 + 1 ≤ a6) (h4 : a6 ≤ a7) (h5 : a8 + a7 ≤ a3 + a9) (h6 : a10 ≤ a8 + 1) : a10 + a0 ≤ a4 + a9 + 1 := by omega
theorem v_04b81f21f8 {a0 a1 a2 a3 a4 a5 a6 : Int} (h0 : a0 + 1 ≤ a1) (h1 : a1 ≤ a2) (h2 : a2 ≤ a3) (h3 : a3 + 1 ≤ a4) (h4 : a4 ≤ a5) (h5 : a5 ≤ a6) : a0 ≤ a6 := by omega
theorem v_0735d96bf3 {a0 : Int} (h0 : a0 = 1) : ¬ a0 = 17 := by omega
theorem v_1a3a51a3ac {a0 : Int} (h0 : a0 = 1) : zr a0 := by omega
theorem v_e0bf6d6e6a {a0 : Int} (h0 : a0 = 1) : ¬ a0 = 0 := by omega
theorem v_5eea6dddff {a0 a1 a2 a3 a4 a5 : Int} (h0 : a0 + 1 ≤ a1) (h1 : a1 ≤ a2) (h2 : a3 ≤ a4 + 1) (h3 : a5 ≤ a3 + 1) : a5 + a0 ≤ a4 + a2 + 1 := by omega
theorem v_845a44a026 {a0 a1 a2 a3 : Int} (h0 : 0 ≤ a0) (h1 : a0 + 1 ≤ a1) (h2 : a1 ≤ a2) (h3 : a2 + 1 ≤ a3) : 0 ≤ a3 := by omega
theorem v_69db46a620 {a0 a1 a2 a3 a4 : Int} (h0 : 0 ≤ a0) (h1 : a0 + 1 ≤ a1) (h2 : a1 ≤ a2) (h3 : a2 + 1 ≤ a3) (h4 : a3 ≤ a4) : 0 ≤ a4 := by omega
theorem v_20edcbe329 {a0 a1 a2 a3 a4 a5 a6 a7 a8 : Int} (h0 : a0 + 1 ≤ a1) (h1 : a1 ≤ a2) (h2 : a2 + 1 ≤ a3) (h3 : a3 ≤ a4) (h4 : a5 + a4 ≤ a6 + a7) (h5 : a8 ≤ a5 + 1) : a8 + a0 ≤ a6 + a7 + 1 := by omega
theorem v_5a3a613fae {a0 a1 a2 a3 a4 a5 : Int} (h0 : a0 + 1 ≤ a1) (h1 : a1 ≤ a2) (h2 : a2 + 1 ≤ a3) (h3 : a3 ≤ a4) (h4 : a4 ≤ a5) : a0 ≤ a5 := by omega
theorem v_e357b15c27 {a0 : Int} (h0 : a0 = 2) : ¬ a0 = 17 := by omega
theorem v_968939783c {a0 : Int} (h0 : a0 = 2) : zr a0 := by omega
theorem v_aa452c7951 {a0 : Int} (h0 : a0 = 2) : ¬ a0 = 0 := by omega
theorem v_bce346d883 {a0 : Int} (h0 : a0 = 2) : ¬ a0 = 1 := by omega
theorem v_724316b824 : (0 : Int) ≤ 50 := by omega
theorem v_178ac4adec : (0 : Int) ≤ 412 := by omega
theorem v_128fe8cba7 : (1 : Int) ≤ 13 := by omega
theorem v_ac332776b7 : (-(1 : Int)) + 1 ≤ 401 * (1 - 1) := by omega
theorem v_66b657ba6d {a0 a1 a2 : Int} (h0 : 0 ≤ a0) (h1 : a1 + a0 ≤ 0 + a2 + 1) : a1 ≤ a2 + 1 + 412 * (1 - 1) := by omega
theorem v_a34c27d11e {a0 : Int} (h0 : 1 ≤ a0) (h1 : a0 ≤ 13) : zr a0 := by omega
theorem v_0305cee7fe {a0 a1 : Int} (h0 : -a0 ≤ a1) (h1 : a0 = 0) : 0 ≤ a1 := by omega
theorem v_5d2348a0fa {a0 a1 : Int} (h0 : 0 ≤ a0) (h1 : a1 + 1 ≤ 401 * (1 - a0)) : a1 ≤ 400 := by omega
theorem v_55f4e57ae7 : zr 17 := by omega
theorem v_2204f4773d {a0 a1 : Int} (h0 : 0 ≤ a0) (h1 : a1 + 1 ≤ 401 * (1 - a0)) (h2 : -a0 ≤ a1) (h3 : ¬ a0 = 0) : a1 = -1 := by omega
theorem v_f0d9d901dd {a0 a1 a2 a3 a4 : Int} (h0 : a0 ≤ 400) (h1 : 0 ≤ a1) (h2 : a2 ≤ a3 + 1 + 412 * (1 - a1)) (h3 : a3 ≤ a4) (h4 : a4 ≤ a0) (h5 : ¬ a1 = 0) : a2 ≤ 402 := by omega
theorem v_891b05d1c3 : (0 : Int) ≤ 59 := by omega
theorem v_a8513e8773 : (59 : Int) ≤ 255 := by omega
theorem v_ab9b015ba3 {a0 : Int} (h0 : a0 = 59 + 100) : ¬ a0 = 17 := by omega
theorem v_136dea8776 {a0 : Int} (h0 : 1 ≤ a0) (h1 : ¬ 12 < a0) : zr a0 := by omega
theorem v_d5c0b6f86d {a0 : Int} (h0 : 12 ≤ a0) : 1 ≤ (a0 + 1) := by omega
theorem v_88b14b6dbe {a0 : Int} (h0 : ¬ 12 < a0) : (a0 + 1) ≤ 13 := by omega
theorem v_9e5bb7733d {a0 a1 a2 : Int} (h0 : a0 ≤ 400) (h1 : a1 ≤ a2) (h2 : a2 ≤ a0) : a1 + 1 ≤ 401 * (1 - 0) := by omega
theorem v_01585510fa {a0 a1 a2 : Int} (h0 : 0 ≤ a0) (h1 : a0 + 1 ≤ a1) (h2 : a1 ≤ a2) : -0 ≤ a2 := by omega
theorem v_e28c14db79 {a0 a1 a2 a3 a4 : Int} (h0 : 0 ≤ a0) (h1 : a1 ≤ a2 + 1 + 412 * (1 - a0)) (h2 : a2 + 1 ≤ a3) (h3 : a3 ≤ a4) : a1 ≤ a4 + 1 + 412 * (1 - 0) := by omega
theorem v_bcd0abe930 {a0 : Int} : 13 - (a0 + 1) < (13 - a0) := by omega
theorem v_c2e07689da {a0 : Int} (h0 : ¬ 12 < a0) : 0 < 13 - a0 := by omega
theorem v_5d41d20438 {a0 a1 : Int} (h0 : 0 ≤ a0) (h1 : a1 + 1 ≤ 401 * (1 - a0)) (h2 : -a0 ≤ a1) : zr a1 := by omega
theorem v_57473e1536 {a0 : Int} (h0 : ¬ 12 ≤ a0) : (a0 + 1) ≤ 13 := by omega
theorem v_838545eb26 {a0 a1 : Int} (h0 : 0 ≤ a0) (h1 : a1 + 1 ≤ 401 * (1 - a0)) (h2 : ¬ a0 = 0) : a1 + 1 ≤ 401 * (1 - 1) := by omega
theorem v_1e02a2c5cb {a0 a1 : Int} (h0 : a0 + 1 ≤ 401 * (1 - a1)) (h1 : -a1 ≤ a0) : -1 ≤ a0 := by omega
theorem v_b38bc9c89f {a0 a1 a2 a3 a4 a5 a6 : Int} (h0 : 0 ≤ a0) (h1 : a1 ≤ a2 + 1 + 412 * (1 - a0)) (h2 : ¬ a0 = 0) (h3 : a2 + 1 ≤ a3) (h4 : a3 ≤ a4) (h5 : a5 + a4 ≤ a1 + a6 + 1) : a5 ≤ a6 + 1 + 412 * (1 - 1) := by omega
theorem v_03a236858c {a0 : Int} (h0 : ¬ 12 ≤ a0) : 0 < 13 - a0 := by omega
theorem v_1ab801cc12 {a0 : Int} (h0 : a0 ≤ 400) : a0 + 1 ≤ 401 * (1 - 0) := by omega
theorem v_c6d35956d5 {a0 : Int} (h0 : 0 ≤ a0) : -0 ≤ a0 := by omega
theorem v_d2556409d8 {a0 a1 : Int} (h0 : 0 ≤ a0) (h1 : a1 ≤ 412) : a1 ≤ a0 + 1 + 412 * (1 - 0) := by omega
set_option maxHeartbeats 4000000 in
set_option maxRecDepth 100000 in
theorem d_length {l : Launch} {G : jG} {nh : Nat} {fh : Nat → Option va_E} (ln : Int) (tk : Int) (st : Int) (bh : Int) (va : Int) (pa : Int) (fl : Int) (sz : Int) (hk54 : fh 54 = some (.inr (5, [.ref 55, .int (zI ln), .int (zI tk), .int (zI st), .int (zI bh), .int (zI va), .int (zI pa), .int (zI fl), .ref 56, .int (zI sz)]))) : JM l G yX5_length MX5_length { frames := 0, cells := 0, slots := 0, locals := 0 } [.ref 54] (nh, fh) (fun rr h9 => rr = some (.int (zI ln)) ∧ h9 = (nh, fh)) := by
  refine JM.of (by decide) rfl (fun h => by cases h) (Nat.le_of_ble_eq_true rfl) ⟨0, rfl⟩ ?_
  refine J_hc0 (J_ls (ls2 := [some (.ref 54)]) rfl ?_)
  refine J_aload_n dX5_length_0 rfl rfl ?_
  refine J_get (v := .int (zI ln)) dX5_length_1 fl_X5_15 hk54 rfl ?_
  exact J_iret dX5_length_4 rfl rfl (Nat.le_of_ble_eq_true rfl) (Nat.le_of_ble_eq_true rfl) ⟨rfl, rfl⟩
set_option maxHeartbeats 4000000 in
set_option maxRecDepth 100000 in
theorem d_at {l : Launch} {G : jG} {nh : Nat} {fh : Nat → Option va_E} (x : Int) (ln : Int) (tk : Int) (st : Int) (bh : Int) (va : Int) (pa : Int) (fl : Int) (sz : Int) (tp : Int → Int) (q0 : zr x) (q1 : 0 ≤ ln) (q2 : ln ≤ 400) (q3 : Rg tp 400 0 255) (hk54 : fh 54 = some (.inr (5, [.ref 55, .int (zI ln), .int (zI tk), .int (zI st), .int (zI bh), .int (zI va), .int (zI pa), .int (zI fl), .ref 56, .int (zI sz)]))) (hk55 : fh 55 = some (.inl (0, 400, .inl (zA tp)))) : JM l G yX5_at MX5_at { frames := 0, cells := 0, slots := 0, locals := 0 } [.ref 54, .int (zI x)] (nh, fh) (fun rr h9 => (∃ r : Int, rr = some (.int (zI r)) ∧ h9 = (nh, fh) ∧ (-1 ≤ r) ∧ (r ≤ 255) ∧ (0 ≤ x) ∧ (x < ln) ∧ (tp x = r)) ∨ (rr = some (.int (zI (-1))) ∧ h9 = (nh, fh) ∧ (x < 0)) ∨ (rr = some (.int (zI (-1))) ∧ h9 = (nh, fh) ∧ (ln ≤ x))) := by
  refine JM.of (by decide) rfl (fun h => by cases h) (Nat.le_of_ble_eq_true rfl) ⟨0, rfl⟩ ?_
  refine J_hc0 (J_ls (ls2 := [some (.ref 54), some (.int (zI x))]) rfl ?_)
  refine J_iload_n dX5_at_0 rfl rfl ?_
  refine Z_if_lt (tgt := 21) dX5_at_1 (by decide) (v_b25fa51a85 q0) (fun h1 => ?_) (fun h1 => ?_)
  · refine Z_iconst (n := -1) dX5_at_21 ?_
    exact J_iret dX5_at_22 rfl rfl (Nat.le_of_ble_eq_true rfl) (Nat.le_of_ble_eq_true rfl) (Or.inr (Or.inl ⟨rfl, rfl, h1⟩))
  · refine J_iload_n dX5_at_4 rfl rfl ?_
    refine J_aload_n dX5_at_5 rfl rfl ?_
    refine J_get (v := .int (zI ln)) dX5_at_6 fl_X5_15 hk54 rfl ?_
    refine Z_icmp_ge (tgt := 21) dX5_at_9 (by decide) (v_edc92e96e6 q0 h1) (v_d7389cde0f q1 q2) (fun h2 => ?_) (fun h2 => ?_)
    · refine Z_iconst (n := -1) dX5_at_21 ?_
      exact J_iret dX5_at_22 rfl rfl (Nat.le_of_ble_eq_true rfl) (Nat.le_of_ble_eq_true rfl) (Or.inr (Or.inr ⟨rfl, rfl, h2⟩))
    · refine J_aload_n dX5_at_12 rfl rfl ?_
      refine J_get (v := .ref 55) dX5_at_13 fl_X5_11 hk54 rfl ?_
      refine J_iload_n dX5_at_16 rfl rfl ?_
      obtain ⟨z3, ez3⟩ : ∃ z : Int, tp x = z := ⟨_, rfl⟩
      have h4 := Rg.at q3 (v_b2d8922659 h1) (v_5d8e28db30 q2 h2) ez3
      refine Y_iald (z := z3) 400 dX5_at_17 hk55 rfl (by decide) (v_b2d8922659 h1) (v_5d8e28db30 q2 h2) ez3 ?_
      refine J_goto (tgt := 22) dX5_at_18 (by decide) ?_
      exact J_iret dX5_at_22 rfl rfl (Nat.le_of_ble_eq_true rfl) (Nat.le_of_ble_eq_true rfl) (Or.inl ⟨z3, rfl, rfl, (v_576129c2e8 h4.1), h4.2, (v_b2d8922659 h1), (v_fe9ea41faa h2), ez3⟩)
set_option maxHeartbeats 4000000 in
set_option maxRecDepth 100000 in
theorem d_hasRoom {l : Launch} {G : jG} {nh : Nat} {fh : Nat → Option va_E} (x : Int) (ln : Int) (tk : Int) (st : Int) (bh : Int) (va : Int) (pa : Int) (fl : Int) (sz : Int) (q0 : 0 ≤ x) (q1 : x ≤ 100) (q2 : 0 ≤ ln) (q3 : ln ≤ 400) (hk54 : fh 54 = some (.inr (5, [.ref 55, .int (zI ln), .int (zI tk), .int (zI st), .int (zI bh), .int (zI va), .int (zI pa), .int (zI fl), .ref 56, .int (zI sz)]))) : JM l G yX5_hasRoom MX5_hasRoom { frames := 0, cells := 0, slots := 0, locals := 0 } [.ref 54, .int (zI x)] (nh, fh) (fun rr h9 => (rr = some (.int (zI 1)) ∧ h9 = (nh, fh) ∧ (ln + x ≤ 400)) ∨ (rr = some (.int (zI 0)) ∧ h9 = (nh, fh) ∧ (400 < ln + x))) := by
  refine JM.of (by decide) rfl (fun h => by cases h) (Nat.le_of_ble_eq_true rfl) ⟨0, rfl⟩ ?_
  refine J_hc0 (J_ls (ls2 := [some (.ref 54), some (.int (zI x))]) rfl ?_)
  refine J_aload_n dX5_hasRoom_0 rfl rfl ?_
  refine J_get (v := .int (zI ln)) dX5_hasRoom_1 fl_X5_15 hk54 rfl ?_
  refine J_iload_n dX5_hasRoom_4 rfl rfl ?_
  refine Z_iadd (c := ln + x) dX5_hasRoom_5 rfl ?_
  refine Z_sipush (n := 400) dX5_hasRoom_6 (by decide +kernel) ?_
  refine Z_icmp_gt (tgt := 16) dX5_hasRoom_9 (by decide) (v_ae320c9b25 q0 q1 q2 q3) v_d8dcd4dd52 (fun h1 => ?_) (fun h1 => ?_)
  · refine Z_iconst (n := 0) dX5_hasRoom_16 ?_
    exact J_iret dX5_hasRoom_17 rfl (jbn v_939070ca3f v_316afd7d0b) (Nat.le_of_ble_eq_true rfl) (Nat.le_of_ble_eq_true rfl) (Or.inr ⟨rfl, rfl, h1⟩)
  · refine Z_iconst (n := 1) dX5_hasRoom_12 ?_
    refine J_goto (tgt := 17) dX5_hasRoom_13 (by decide) ?_
    exact J_iret dX5_hasRoom_17 rfl (jbn v_316afd7d0b v_bbcfac9b7d) (Nat.le_of_ble_eq_true rfl) (Nat.le_of_ble_eq_true rfl) (Or.inl ⟨rfl, rfl, (v_6a464b420f h1)⟩)
set_option maxHeartbeats 4000000 in
set_option maxRecDepth 100000 in
theorem d_take {l : Launch} {G : jG} {nh : Nat} {fh : Nat → Option va_E} (x : Int) (ln : Int) (tk : Int) (st : Int) (bh : Int) (va : Int) (pa : Int) (fl : Int) (sz : Int) (tp : Int → Int) (q0 : zr x) (q1 : 0 ≤ ln) (q2 : ln ≤ 396) (q3 : Rg tp 400 0 255) (hk54 : fh 54 = some (.inr (5, [.ref 55, .int (zI ln), .int (zI tk), .int (zI st), .int (zI bh), .int (zI va), .int (zI pa), .int (zI fl), .ref 56, .int (zI sz)]))) (hk55 : fh 55 = some (.inl (0, 400, .inl (zA tp)))) : JM l G yX5_take MX5_take { frames := 0, cells := 0, slots := 0, locals := 0 } [.ref 54, .int (zI x)] (nh, fh) (fun rr h9 => ∃ ln2 : Int, ∃ tp2 : Int → Int, rr = none ∧ h9 = (nh, hc fh [(54, .inr (5, [.ref 55, .int (zI ln2), .int (zI tk), .int (zI st), .int (zI bh), .int (zI va), .int (zI pa), .int (zI fl), .ref 56, .int (zI sz)])), (55, .inl (0, 400, .inl (zA tp2)))]) ∧ (0 ≤ ln2) ∧ (ln2 ≤ 400) ∧ (Rg tp2 400 0 255) ∧ (ln2 = ln + 4) ∧ (TkE tp2 tp ln x 4)) := by
  refine JM.of (by decide) rfl (fun h => by cases h) (Nat.le_of_ble_eq_true rfl) ⟨1, rfl⟩ ?_
  refine J_hc0 (J_ls (ls2 := [some (.ref 54), some (.int (zI x)), none]) rfl ?_)
  refine Z_bipush (n := 24) dX5_take_0 (by decide +kernel) ?_
  refine J_istore_n dX5_take_2 rfl (Nat.le_of_ble_eq_true rfl) rfl ?_
  refine J_ls (ls2 := [some (.ref 54), some (.int (zI x)), some (.int (zI 24))]) rfl ?_
  refine J_touch (k := 54) (e := .inr (5, [.ref 55, .int (zI ln), .int (zI tk), .int (zI st), .int (zI bh), .int (zI va), .int (zI pa), .int (zI fl), .ref 56, .int (zI sz)])) hk54 ?_
  refine J_touch (k := 55) (e := .inl (0, 400, .inl (zA tp))) hk55 ?_
  have lp3 : ∀ (N3 : Nat) (s_3 : Int) (n_3 : Int) (t_3 : Int → Int), (-8 ≤ s_3) → (s_3 ≤ 24) → (0 ≤ n_3) → (n_3 ≤ 400) → (Rg t_3 400 0 255) → (8 * n_3 + s_3 = 8 * ln + 24) → (TkE t_3 tp ln x (n_3 - ln)) → (s_3 + 8).toNat < N3 → J l G MX5_take { frames := 0, cells := 0, slots := 0, locals := 0 } jE (jMQ G { frames := 0, cells := 0, slots := 0, locals := 0 } (fun rr h9 => ∃ ln2 : Int, ∃ tp2 : Int → Int, rr = none ∧ h9 = (nh, hc fh [(54, .inr (5, [.ref 55, .int (zI ln2), .int (zI tk), .int (zI st), .int (zI bh), .int (zI va), .int (zI pa), .int (zI fl), .ref 56, .int (zI sz)])), (55, .inl (0, 400, .inl (zA tp2)))]) ∧ (0 ≤ ln2) ∧ (ln2 ≤ 400) ∧ (Rg tp2 400 0 255) ∧ (ln2 = ln + 4) ∧ (TkE tp2 tp ln x 4))) (nh, hc fh [(55, .inl (0, 400, .inl (zA t_3))), (54, .inr (5, [.ref 55, .int (zI n_3), .int (zI tk), .int (zI st), .int (zI bh), .int (zI va), .int (zI pa), .int (zI fl), .ref 56, .int (zI sz)]))]) 0 0 3 [some (.ref 54), some (.int (zI x)), some (.int (zI s_3))] [] := by
    intro N3
    induction N3 with
    | zero => intro s_3 n_3 t_3 i3_0 i3_1 i3_2 i3_3 i3_4 i3_5 i3_6 hm; exact absurd hm (Nat.not_lt_zero _)
    | succ N3 ih3 =>
      intro s_3 n_3 t_3 i3_0 i3_1 i3_2 i3_3 i3_4 i3_5 i3_6 hm3
      refine J_iload_n dX5_take_3 rfl rfl ?_
      refine Z_if_lt (tgt := 49) dX5_take_4 (by decide) (v_f3427b8b53 i3_0 i3_1) (fun h1 => ?_) (fun h1 => ?_)
      · refine J_touch (k := 55) (e := .inl (0, 400, .inl (zA t_3))) rfl ?_
        refine J_touch (k := 54) (e := .inr (5, [.ref 55, .int (zI n_3), .int (zI tk), .int (zI st), .int (zI bh), .int (zI va), .int (zI pa), .int (zI fl), .ref 56, .int (zI sz)])) rfl ?_
        refine J_mask (L2 := [(54, .inr (5, [.ref 55, .int (zI n_3), .int (zI tk), .int (zI st), .int (zI bh), .int (zI va), .int (zI pa), .int (zI fl), .ref 56, .int (zI sz)])), (55, .inl (0, 400, .inl (zA t_3)))]) (ks := [54, 55, 55, 54]) [true, true, false, false] rfl (by decide +kernel) rfl ?_
        exact J_vret dX5_take_49 rfl (Nat.le_of_ble_eq_true rfl) (Nat.le_of_ble_eq_true rfl) ⟨n_3, t_3, rfl, rfl, i3_2, i3_3, i3_4, ((by omega)), ((by have e : n_3 - ln = 4 := (by omega); rw [← e]; exact i3_6))⟩
      · refine J_aload_n dX5_take_7 rfl rfl ?_
        refine J_get (v := .int (zI n_3)) dX5_take_8 fl_X5_15 rfl rfl ?_
        refine Z_sipush (n := 400) dX5_take_11 (by decide +kernel) ?_
        refine Z_icmp_ge (tgt := 49) dX5_take_14 (by decide) (v_d7389cde0f i3_2 i3_3) v_d8dcd4dd52 (fun h2 => absurd h2 (v_ac889d0a66 q2 i3_5 h1)) (fun h2 => ?_)
        refine J_aload_n dX5_take_17 rfl rfl ?_
        refine J_get (v := .ref 55) dX5_take_18 fl_X5_11 rfl rfl ?_
        refine J_aload_n dX5_take_21 rfl rfl ?_
        refine J_get (v := .int (zI n_3)) dX5_take_22 fl_X5_15 rfl rfl ?_
        refine J_iload_n dX5_take_25 rfl rfl ?_
        refine J_iload_n dX5_take_26 rfl rfl ?_
        obtain ⟨z3, ez3⟩ : ∃ z : Int, zshr x s_3 = z := ⟨_, rfl⟩
        refine Y_ishr (z := z3) dX5_take_27 ez3 ?_
        have h4 : zr z3 := by rw [← ez3]; exact zr_toInt _
        refine Z_sipush (n := 255) dX5_take_28 (by decide +kernel) ?_
        obtain ⟨z5, ez5⟩ : ∃ z : Int, zand z3 255 = z := ⟨_, rfl⟩
        refine Y_iand (z := z5) dX5_take_31 ez5 ?_
        have h6 : zr z5 := by rw [← ez5]; exact zr_toInt _
        have h7 : 0 ≤ z5 ∧ z5 ≤ 255 := zand_mask 8 (by decide) (by decide +kernel) (by decide) ez5
        refine Y_iast (v := z5) 400 dX5_take_32 rfl rfl (by decide) (v_2b02420001 i3_2) (v_2eb09acee2 h2) (fun f8 ef8 => ?_)
        have h9 : Rg f8 400 0 255 := Rg.ups i3_4 ef8 (v_2b02420001 h7.1) (v_d5210584ec h7.2)
        refine J_aload_n dX5_take_33 rfl rfl ?_
        refine J_dup dX5_take_34 rfl ?_
        refine J_get (v := .int (zI n_3)) dX5_take_35 fl_X5_15 rfl rfl ?_
        refine Z_iconst (n := 1) dX5_take_38 ?_
        refine Z_iadd (c := n_3 + 1) dX5_take_39 rfl ?_
        refine K_put (fs2 := [.ref 55, .int (zI (n_3 + 1)), .int (zI tk), .int (zI st), .int (zI bh), .int (zI va), .int (zI pa), .int (zI fl), .ref 56, .int (zI sz)]) dX5_take_40 fw_X5_15 rfl (Nat.le_of_ble_eq_true rfl) (fun _ => ⟨rfl, rfl⟩) rfl ?_
        refine Z_iinc (c := s_3 - 8) (ls2 := [some (.ref 54), some (.int (zI x)), some (.int (zI (s_3 - 8)))]) dX5_take_43 rfl (Nat.le_of_ble_eq_true rfl) rfl v_b88acebfbc rfl ?_
        refine J_goto (tgt := 3) dX5_take_46 (by decide) ?_
        refine J_mask (L2 := [(54, .inr (5, [.ref 55, .int (zI (n_3 + 1)), .int (zI tk), .int (zI st), .int (zI bh), .int (zI va), .int (zI pa), .int (zI fl), .ref 56, .int (zI sz)])), (55, .inl (0, 400, .inl (zA f8)))]) (ks := [54, 55, 55, 54]) [true, true, false, false] rfl (by decide +kernel) rfl ?_
        refine J_touch (k := 54) (e := .inr (5, [.ref 55, .int (zI (n_3 + 1)), .int (zI tk), .int (zI st), .int (zI bh), .int (zI va), .int (zI pa), .int (zI fl), .ref 56, .int (zI sz)])) rfl ?_
        refine J_touch (k := 55) (e := .inl (0, 400, .inl (zA f8))) rfl ?_
        refine J_mask (L2 := [(55, .inl (0, 400, .inl (zA f8))), (54, .inr (5, [.ref 55, .int (zI (n_3 + 1)), .int (zI tk), .int (zI st), .int (zI bh), .int (zI va), .int (zI pa), .int (zI fl), .ref 56, .int (zI sz)]))]) (ks := [55, 54, 54, 55]) [true, true, false, false] rfl (by decide +kernel) rfl ?_
        exact ih3 (s_3 - 8) (n_3 + 1) f8 (v_2cdc0924e2 h1) (v_e27e42dedb i3_1) (v_da458fa48a i3_2) (v_6924477667 h2) h9 (v_3b424409fc i3_5) (TkE.step i3_6 ef8 (v_5ed851111b i3_1 i3_5) v_0cb60ec4e6 (v_10209a891a i3_5) ez3 ez5 v_96e57bfaa2) (meas_lt v_035cfcbd1f (v_3d697e6f4a h1) hm3)
  exact lp3 _ 24 ln tp v_d416bcbf49 v_dfa2d5efb9 q1 (v_b1368e81cc q2) q3 v_48d8540466 (TkE_0 (by omega)) (Nat.lt_succ_self _)
set_option maxHeartbeats 4000000 in
set_option maxRecDepth 100000 in
theorem d_cut {l : Launch} {G : jG} {nh : Nat} {fh : Nat → Option va_E} (x : Int) (ln : Int) (tk : Int) (st : Int) (bh : Int) (va : Int) (pa : Int) (fl : Int) (sz : Int) (q0 : zr x) (q1 : 0 ≤ ln) (q2 : ln ≤ 400) (hk54 : fh 54 = some (.inr (5, [.ref 55, .int (zI ln), .int (zI tk), .int (zI st), .int (zI bh), .int (zI va), .int (zI pa), .int (zI fl), .ref 56, .int (zI sz)]))) : JM l G yX5_cut MX5_cut { frames := 0, cells := 0, slots := 0, locals := 0 } [.ref 54, .int (zI x)] (nh, fh) (fun rr h9 => (rr = some (.int (zI 1)) ∧ h9 = (nh, hc fh [(54, .inr (5, [.ref 55, .int (zI x), .int (zI tk), .int (zI st), .int (zI bh), .int (zI va), .int (zI pa), .int (zI fl), .ref 56, .int (zI sz)]))]) ∧ (0 ≤ x) ∧ (x ≤ ln)) ∨ (rr = some (.int (zI 0)) ∧ h9 = (nh, hc fh [(54, .inr (5, [.ref 55, .int (zI ln), .int (zI tk), .int (zI st), .int (zI bh), .int (zI va), .int (zI pa), .int (zI fl), .ref 56, .int (zI sz)]))]) ∧ (x < 0)) ∨ (rr = some (.int (zI 0)) ∧ h9 = (nh, hc fh [(54, .inr (5, [.ref 55, .int (zI ln), .int (zI tk), .int (zI st), .int (zI bh), .int (zI va), .int (zI pa), .int (zI fl), .ref 56, .int (zI sz)]))]) ∧ (ln < x))) := by
  refine JM.of (by decide) rfl (fun h => by cases h) (Nat.le_of_ble_eq_true rfl) ⟨0, rfl⟩ ?_
  refine J_hc0 (J_ls (ls2 := [some (.ref 54), some (.int (zI x))]) rfl ?_)
  refine J_iload_n dX5_cut_0 rfl rfl ?_
  refine Z_if_lt (tgt := 12) dX5_cut_1 (by decide) (v_b25fa51a85 q0) (fun h1 => ?_) (fun h1 => ?_)
  · refine Z_iconst (n := 0) dX5_cut_12 ?_
    refine J_touch (k := 54) (e := .inr (5, [.ref 55, .int (zI ln), .int (zI tk), .int (zI st), .int (zI bh), .int (zI va), .int (zI pa), .int (zI fl), .ref 56, .int (zI sz)])) hk54 ?_
    exact J_iret dX5_cut_13 rfl (jbn v_939070ca3f v_316afd7d0b) (Nat.le_of_ble_eq_true rfl) (Nat.le_of_ble_eq_true rfl) (Or.inr (Or.inl ⟨rfl, rfl, h1⟩))
  · refine J_iload_n dX5_cut_4 rfl rfl ?_
    refine J_aload_n dX5_cut_5 rfl rfl ?_
    refine J_get (v := .int (zI ln)) dX5_cut_6 fl_X5_15 hk54 rfl ?_
    refine Z_icmp_le (tgt := 14) dX5_cut_9 (by decide) (v_edc92e96e6 q0 h1) (v_d7389cde0f q1 q2) (fun h2 => ?_) (fun h2 => ?_)
    · refine J_aload_n dX5_cut_14 rfl rfl ?_
      refine J_iload_n dX5_cut_15 rfl rfl ?_
      refine K_put (fs2 := [.ref 55, .int (zI x), .int (zI tk), .int (zI st), .int (zI bh), .int (zI va), .int (zI pa), .int (zI fl), .ref 56, .int (zI sz)]) dX5_cut_16 fw_X5_15 hk54 (Nat.le_of_ble_eq_true rfl) (fun _ => ⟨rfl, rfl⟩) rfl ?_
      refine Z_iconst (n := 1) dX5_cut_19 ?_
      exact J_iret dX5_cut_20 rfl (jbn v_316afd7d0b v_bbcfac9b7d) (Nat.le_of_ble_eq_true rfl) (Nat.le_of_ble_eq_true rfl) (Or.inl ⟨rfl, rfl, (v_b2d8922659 h1), h2⟩)
    · refine Z_iconst (n := 0) dX5_cut_12 ?_
      refine J_touch (k := 54) (e := .inr (5, [.ref 55, .int (zI ln), .int (zI tk), .int (zI st), .int (zI bh), .int (zI va), .int (zI pa), .int (zI fl), .ref 56, .int (zI sz)])) hk54 ?_
      exact J_iret dX5_cut_13 rfl (jbn v_939070ca3f v_316afd7d0b) (Nat.le_of_ble_eq_true rfl) (Nat.le_of_ble_eq_true rfl) (Or.inr (Or.inr ⟨rfl, rfl, (v_fe9ea41faa h2)⟩))
set_option maxHeartbeats 4000000 in
set_option maxRecDepth 100000 in
theorem d_holdsColours {l : Launch} {G : jG} {nh : Nat} {fh : Nat → Option va_E} (ln : Int) (tk : Int) (st : Int) (bh : Int) (va : Int) (pa : Int) (fl : Int) (sz : Int) (tp : Int → Int) (q0 : 0 ≤ ln) (q1 : ln ≤ 400) (q2 : Rg tp 400 0 255) (hk54 : fh 54 = some (.inr (5, [.ref 55, .int (zI ln), .int (zI tk), .int (zI st), .int (zI bh), .int (zI va), .int (zI pa), .int (zI fl), .ref 56, .int (zI sz)]))) (hk55 : fh 55 = some (.inl (0, 400, .inl (zA tp)))) : JM l G yX5_holdsColours MX5_holdsColours { frames := 0, cells := 0, slots := 0, locals := 0 } [.ref 54] (nh, fh) (fun rr h9 => (rr = some (.int (zI 1)) ∧ h9 = (nh, fh) ∧ (1 ≤ ln) ∧ (ln ≤ 7) ∧ (Rg tp ln 0 4)) ∨ (rr = some (.int (zI 0)) ∧ h9 = (nh, fh) ∧ (rwk tp ln = false))) := by
  refine JM.of (by decide) rfl (fun h => by cases h) (Nat.le_of_ble_eq_true rfl) ⟨1, rfl⟩ ?_
  refine J_hc0 (J_ls (ls2 := [some (.ref 54), none]) rfl ?_)
  refine J_aload_n dX5_holdsColours_0 rfl rfl ?_
  refine J_get (v := .int (zI ln)) dX5_holdsColours_1 fl_X5_15 hk54 rfl ?_
  refine Z_iconst (n := 1) dX5_holdsColours_4 ?_
  refine Z_icmp_lt (tgt := 17) dX5_holdsColours_5 (by decide) (v_d7389cde0f q0 q1) v_4dcc24baa7 (fun h1 => ?_) (fun h1 => ?_)
  · refine Z_iconst (n := 0) dX5_holdsColours_17 ?_
    exact J_iret dX5_holdsColours_18 rfl (jbn v_939070ca3f v_316afd7d0b) (Nat.le_of_ble_eq_true rfl) (Nat.le_of_ble_eq_true rfl) (Or.inr ⟨rfl, rfl, (rwk_lo (v_663a05fb09 h1))⟩)
  · refine J_aload_n dX5_holdsColours_8 rfl rfl ?_
    refine J_get (v := .int (zI ln)) dX5_holdsColours_9 fl_X5_15 hk54 rfl ?_
    refine Z_bipush (n := 7) dX5_holdsColours_12 (by decide +kernel) ?_
    refine Z_icmp_le (tgt := 19) dX5_holdsColours_14 (by decide) (v_66a0c9ccf8 q1 h1) v_c3fe1a091f (fun h2 => ?_) (fun h2 => ?_)
    · refine Z_iconst (n := 0) dX5_holdsColours_19 ?_
      refine J_istore_n dX5_holdsColours_20 rfl (Nat.le_of_ble_eq_true rfl) rfl ?_
      refine J_ls (ls2 := [some (.ref 54), some (.int (zI 0))]) rfl ?_
      have lp21 : ∀ (N21 : Nat) (i_21 : Int), (0 ≤ i_21) → (i_21 ≤ ln) → (Rg tp i_21 0 4) → (ln - i_21).toNat < N21 → J l G MX5_holdsColours { frames := 0, cells := 0, slots := 0, locals := 0 } jE (jMQ G { frames := 0, cells := 0, slots := 0, locals := 0 } (fun rr h9 => (rr = some (.int (zI 1)) ∧ h9 = (nh, fh) ∧ (1 ≤ ln) ∧ (ln ≤ 7) ∧ (Rg tp ln 0 4)) ∨ (rr = some (.int (zI 0)) ∧ h9 = (nh, fh) ∧ (rwk tp ln = false)))) (nh, hc fh []) 0 0 21 [some (.ref 54), some (.int (zI i_21))] [] := by
        intro N21
        induction N21 with
        | zero => intro i_21 i21_0 i21_1 i21_2 hm; exact absurd hm (Nat.not_lt_zero _)
        | succ N21 ih21 =>
          intro i_21 i21_0 i21_1 i21_2 hm21
          refine J_iload_n dX5_holdsColours_21 rfl rfl ?_
          refine J_aload_n dX5_holdsColours_22 rfl rfl ?_
          refine J_get (v := .int (zI ln)) dX5_holdsColours_23 fl_X5_15 hk54 rfl ?_
          refine Z_icmp_ge (tgt := 47) dX5_holdsColours_26 (by decide) (v_ee3170dbf0 h2 i21_0 i21_1) (v_901f0126f2 h1 h2) (fun h3 => ?_) (fun h3 => ?_)
          · refine Z_iconst (n := 1) dX5_holdsColours_47 ?_
            exact J_iret dX5_holdsColours_48 rfl (jbn v_316afd7d0b v_bbcfac9b7d) (Nat.le_of_ble_eq_true rfl) (Nat.le_of_ble_eq_true rfl) (Or.inl ⟨rfl, rfl, (v_ce6a6f00b7 h1), h2, (Rg.mono i21_2 (v_d464d4c634 h3) v_939070ca3f v_13cb52b44b)⟩)
          · refine J_aload_n dX5_holdsColours_29 rfl rfl ?_
            refine J_get (v := .ref 55) dX5_holdsColours_30 fl_X5_11 hk54 rfl ?_
            refine J_iload_n dX5_holdsColours_33 rfl rfl ?_
            obtain ⟨z4, ez4⟩ : ∃ z : Int, tp i_21 = z := ⟨_, rfl⟩
            have h5 := Rg.at q2 (v_2b02420001 i21_0) (v_6aef9b5ec0 h2 h3) ez4
            refine Y_iald (z := z4) 400 dX5_holdsColours_34 hk55 rfl (by decide) (v_2b02420001 i21_0) (v_6aef9b5ec0 h2 h3) ez4 ?_
            refine Z_iconst (n := 5) dX5_holdsColours_35 ?_
            refine Z_icmp_lt (tgt := 41) dX5_holdsColours_36 (by decide) (v_7675438551 h5.1 h5.2) v_3961fe0d0d (fun h6 => ?_) (fun h6 => ?_)
            · refine Z_iinc (c := i_21 + 1) (ls2 := [some (.ref 54), some (.int (zI (i_21 + 1)))]) dX5_holdsColours_41 rfl (Nat.le_of_ble_eq_true rfl) rfl rfl rfl ?_
              refine J_goto (tgt := 21) dX5_holdsColours_44 (by decide) ?_
              exact ih21 (i_21 + 1) (v_da458fa48a i21_0) (v_e390a36114 h3) (RgE_push i21_2 ez4 (v_2b02420001 h5.1) (v_087600a23e h6)) (meas_lt v_90eacd6fd4 (v_8b7dd7d486 h3) hm21)
            · refine Z_iconst (n := 0) dX5_holdsColours_39 ?_
              exact J_iret dX5_holdsColours_40 rfl (jbn v_939070ca3f v_316afd7d0b) (Nat.le_of_ble_eq_true rfl) (Nat.le_of_ble_eq_true rfl) (Or.inr ⟨rfl, rfl, (rwk_at i21_0 (v_fe9ea41faa h3) (by rw [ez4]; have u := (v_cac29cb1c5 h6); omega))⟩)
      exact lp21 _ 0 v_939070ca3f q0 (Rg.nil v_939070ca3f) (Nat.lt_succ_self _)
    · refine Z_iconst (n := 0) dX5_holdsColours_17 ?_
      exact J_iret dX5_holdsColours_18 rfl (jbn v_939070ca3f v_316afd7d0b) (Nat.le_of_ble_eq_true rfl) (Nat.le_of_ble_eq_true rfl) (Or.inr ⟨rfl, rfl, (rwk_hi (v_1f1f6a172b h2))⟩)
set_option maxHeartbeats 4000000 in
set_option maxRecDepth 100000 in
theorem d_isLetter {l : Launch} {G : jG} {nh : Nat} {fh : Nat → Option va_E} (x : Int) (q0 : zr x) : JM l G yX5_isLetter MX5_isLetter { frames := 0, cells := 0, slots := 0, locals := 0 } [.int (zI x)] (nh, fh) (fun rr h9 => (rr = some (.int (zI 1)) ∧ h9 = (nh, fh) ∧ (97 ≤ x) ∧ (x ≤ 122)) ∨ (rr = some (.int (zI 0)) ∧ h9 = (nh, fh) ∧ (x < 97)) ∨ (rr = some (.int (zI 0)) ∧ h9 = (nh, fh) ∧ (122 < x))) := by
  refine JM.of (by decide) rfl (fun h => by cases h) (Nat.le_of_ble_eq_true rfl) ⟨0, rfl⟩ ?_
  refine J_hc0 (J_ls (ls2 := [some (.int (zI x))]) rfl ?_)
  refine J_iload_n dX5_isLetter_0 rfl rfl ?_
  refine Z_bipush (n := 97) dX5_isLetter_1 (by decide +kernel) ?_
  refine Z_icmp_lt (tgt := 16) dX5_isLetter_3 (by decide) (v_b25fa51a85 q0) v_120e9ced03 (fun h1 => ?_) (fun h1 => ?_)
  · refine Z_iconst (n := 0) dX5_isLetter_16 ?_
    exact J_iret dX5_isLetter_17 rfl (jbn v_939070ca3f v_316afd7d0b) (Nat.le_of_ble_eq_true rfl) (Nat.le_of_ble_eq_true rfl) (Or.inr (Or.inl ⟨rfl, rfl, h1⟩))
  · refine J_iload_n dX5_isLetter_6 rfl rfl ?_
    refine Z_bipush (n := 122) dX5_isLetter_7 (by decide +kernel) ?_
    refine Z_icmp_gt (tgt := 16) dX5_isLetter_9 (by decide) (v_29fc54b483 q0 h1) v_86c2371aa4 (fun h2 => ?_) (fun h2 => ?_)
    · refine Z_iconst (n := 0) dX5_isLetter_16 ?_
      exact J_iret dX5_isLetter_17 rfl (jbn v_939070ca3f v_316afd7d0b) (Nat.le_of_ble_eq_true rfl) (Nat.le_of_ble_eq_true rfl) (Or.inr (Or.inr ⟨rfl, rfl, h2⟩))
    · refine Z_iconst (n := 1) dX5_isLetter_12 ?_
      refine J_goto (tgt := 17) dX5_isLetter_13 (by decide) ?_
      exact J_iret dX5_isLetter_17 rfl (jbn v_316afd7d0b v_bbcfac9b7d) (Nat.le_of_ble_eq_true rfl) (Nat.le_of_ble_eq_true rfl) (Or.inl ⟨rfl, rfl, (v_c88ab225c0 h1), (v_90f692b398 h2)⟩)
set_option maxHeartbeats 4000000 in
set_option maxRecDepth 100000 in
theorem d_isDigit {l : Launch} {G : jG} {nh : Nat} {fh : Nat → Option va_E} (x : Int) (q0 : zr x) : JM l G yX5_isDigit MX5_isDigit { frames := 0, cells := 0, slots := 0, locals := 0 } [.int (zI x)] (nh, fh) (fun rr h9 => (rr = some (.int (zI 1)) ∧ h9 = (nh, fh) ∧ (48 ≤ x) ∧ (x ≤ 57)) ∨ (rr = some (.int (zI 0)) ∧ h9 = (nh, fh) ∧ (x < 48)) ∨ (rr = some (.int (zI 0)) ∧ h9 = (nh, fh) ∧ (57 < x))) := by
  refine JM.of (by decide) rfl (fun h => by cases h) (Nat.le_of_ble_eq_true rfl) ⟨0, rfl⟩ ?_
  refine J_hc0 (J_ls (ls2 := [some (.int (zI x))]) rfl ?_)
  refine J_iload_n dX5_isDigit_0 rfl rfl ?_
  refine Z_bipush (n := 48) dX5_isDigit_1 (by decide +kernel) ?_
  refine Z_icmp_lt (tgt := 16) dX5_isDigit_3 (by decide) (v_b25fa51a85 q0) v_5d2538b988 (fun h1 => ?_) (fun h1 => ?_)
  · refine Z_iconst (n := 0) dX5_isDigit_16 ?_
    exact J_iret dX5_isDigit_17 rfl (jbn v_939070ca3f v_316afd7d0b) (Nat.le_of_ble_eq_true rfl) (Nat.le_of_ble_eq_true rfl) (Or.inr (Or.inl ⟨rfl, rfl, h1⟩))
  · refine J_iload_n dX5_isDigit_6 rfl rfl ?_
    refine Z_bipush (n := 57) dX5_isDigit_7 (by decide +kernel) ?_
    refine Z_icmp_gt (tgt := 16) dX5_isDigit_9 (by decide) (v_1f678a7e63 q0 h1) v_9633cf9c93 (fun h2 => ?_) (fun h2 => ?_)
    · refine Z_iconst (n := 0) dX5_isDigit_16 ?_
      exact J_iret dX5_isDigit_17 rfl (jbn v_939070ca3f v_316afd7d0b) (Nat.le_of_ble_eq_true rfl) (Nat.le_of_ble_eq_true rfl) (Or.inr (Or.inr ⟨rfl, rfl, h2⟩))
    · refine Z_iconst (n := 1) dX5_isDigit_12 ?_
      refine J_goto (tgt := 17) dX5_isDigit_13 (by decide) ?_
      exact J_iret dX5_isDigit_17 rfl (jbn v_316afd7d0b v_bbcfac9b7d) (Nat.le_of_ble_eq_true rfl) (Nat.le_of_ble_eq_true rfl) (Or.inl ⟨rfl, rfl, (v_68553276b5 h1), (v_e5b730cf9c h2)⟩)
set_option maxHeartbeats 4000000 in
set_option maxRecDepth 100000 in
theorem d_isSign {l : Launch} {G : jG} {nh : Nat} {fh : Nat → Option va_E} (x : Int) (ln : Int) (tk : Int) (st : Int) (bh : Int) (va : Int) (pa : Int) (fl : Int) (sz : Int) (q0 : 0 ≤ x) (q1 : x ≤ 255) (q2 : 0 ≤ tk) (q3 : tk ≤ 355) (hk54 : fh 54 = some (.inr (5, [.ref 55, .int (zI ln), .int (zI tk), .int (zI st), .int (zI bh), .int (zI va), .int (zI pa), .int (zI fl), .ref 56, .int (zI sz)]))) : JM l G yX5_isSign MX5_isSign { frames := 0, cells := 0, slots := 0, locals := 0 } [.ref 54, .int (zI x)] (nh, fh) (fun rr h9 => (rr = some (.int (zI 1)) ∧ h9 = (nh, fh) ∧ (tk = x + 100)) ∨ (rr = some (.int (zI 0)) ∧ h9 = (nh, fh) ∧ (¬ tk = x + 100))) := by
  refine JM.of (by decide) rfl (fun h => by cases h) (Nat.le_of_ble_eq_true rfl) ⟨0, rfl⟩ ?_
  refine J_hc0 (J_ls (ls2 := [some (.ref 54), some (.int (zI x))]) rfl ?_)
  refine J_aload_n dX5_isSign_0 rfl rfl ?_
  refine J_get (v := .int (zI tk)) dX5_isSign_1 fl_X5_19 hk54 rfl ?_
  refine Z_bipush (n := 100) dX5_isSign_4 (by decide +kernel) ?_
  refine J_iload_n dX5_isSign_6 rfl rfl ?_
  refine Z_iadd (c := x + 100) dX5_isSign_7 v_2706a00d49 ?_
  refine Z_icmp_ne (tgt := 15) dX5_isSign_8 (by decide) (v_96bf6f782e q2 q3) (v_7e0549880a q0 q1) (fun h1 => ?_) (fun h1 => ?_)
  · refine Z_iconst (n := 0) dX5_isSign_15 ?_
    exact J_iret dX5_isSign_16 rfl (jbn v_939070ca3f v_316afd7d0b) (Nat.le_of_ble_eq_true rfl) (Nat.le_of_ble_eq_true rfl) (Or.inr ⟨rfl, rfl, h1⟩)
  · refine Z_iconst (n := 1) dX5_isSign_11 ?_
    refine J_goto (tgt := 16) dX5_isSign_12 (by decide) ?_
    exact J_iret dX5_isSign_16 rfl (jbn v_316afd7d0b v_bbcfac9b7d) (Nat.le_of_ble_eq_true rfl) (Nat.le_of_ble_eq_true rfl) (Or.inl ⟨rfl, rfl, h1⟩)
set_option maxHeartbeats 4000000 in
set_option maxRecDepth 100000 in
theorem d_wrong {l : Launch} {G : jG} {nh : Nat} {fh : Nat → Option va_E} (ln : Int) (tk : Int) (st : Int) (bh : Int) (va : Int) (pa : Int) (fl : Int) (sz : Int) (q0 : 0 ≤ st) (q1 : st ≤ 400) (hk54 : fh 54 = some (.inr (5, [.ref 55, .int (zI ln), .int (zI tk), .int (zI st), .int (zI bh), .int (zI va), .int (zI pa), .int (zI fl), .ref 56, .int (zI sz)]))) : JM l G yX5_wrong MX5_wrong { frames := 0, cells := 0, slots := 0, locals := 0 } [.ref 54] (nh, fh) (fun rr h9 => rr = some (.int (zI 0)) ∧ h9 = (nh, hc fh [(54, .inr (5, [.ref 55, .int (zI ln), .int (zI tk), .int (zI st), .int (zI bh), .int (zI va), .int (zI pa), .int (zI st), .ref 56, .int (zI sz)]))])) := by
  refine JM.of (by decide) rfl (fun h => by cases h) (Nat.le_of_ble_eq_true rfl) ⟨0, rfl⟩ ?_
  refine J_hc0 (J_ls (ls2 := [some (.ref 54)]) rfl ?_)
  refine J_aload_n dX5_wrong_0 rfl rfl ?_
  refine J_aload_n dX5_wrong_1 rfl rfl ?_
  refine J_get (v := .int (zI st)) dX5_wrong_2 fl_X5_22 hk54 rfl ?_
  refine K_put (fs2 := [.ref 55, .int (zI ln), .int (zI tk), .int (zI st), .int (zI bh), .int (zI va), .int (zI pa), .int (zI st), .ref 56, .int (zI sz)]) dX5_wrong_5 fw_X5_34 hk54 (Nat.le_of_ble_eq_true rfl) (fun _ => ⟨rfl, rfl⟩) rfl ?_
  refine Z_iconst (n := 0) dX5_wrong_8 ?_
  exact J_iret dX5_wrong_9 rfl (jbn v_939070ca3f v_316afd7d0b) (Nat.le_of_ble_eq_true rfl) (Nat.le_of_ble_eq_true rfl) ⟨rfl, rfl⟩
set_option maxHeartbeats 4000000 in
set_option maxRecDepth 100000 in
theorem d_emit {l : Launch} {G : jG} {nh : Nat} {fh : Nat → Option va_E} (k : Int) (m : Int) (ln : Int) (tk : Int) (st : Int) (bh : Int) (va : Int) (pa : Int) (fl : Int) (sz : Int) (cd : Int → Int) (q0 : zr k) (q1 : zr m) (q2 : 0 ≤ sz) (q3 : sz ≤ 412) (q4 : Rg cd 412 (-2147483648) 2147483647) (hk54 : fh 54 = some (.inr (5, [.ref 55, .int (zI ln), .int (zI tk), .int (zI st), .int (zI bh), .int (zI va), .int (zI pa), .int (zI fl), .ref 56, .int (zI sz)]))) (hk56 : fh 56 = some (.inl (0, 412, .inl (zA cd)))) : JM l G yX5_emit MX5_emit { frames := 0, cells := 0, slots := 0, locals := 0 } [.ref 54, .int (zI k), .int (zI m)] (nh, fh) (fun rr h9 => ∃ sz2 : Int, ∃ cd2 : Int → Int, rr = some (.int (zI sz)) ∧ h9 = (nh, hc fh [(54, .inr (5, [.ref 55, .int (zI ln), .int (zI tk), .int (zI st), .int (zI bh), .int (zI va), .int (zI pa), .int (zI fl), .ref 56, .int (zI sz2)])), (56, .inl (0, 412, .inl (zA cd2)))]) ∧ (0 ≤ sz2) ∧ (sz2 ≤ 412) ∧ (sz ≤ sz2) ∧ (sz2 ≤ sz + 1) ∧ (Rg cd2 412 (-2147483648) 2147483647)) := by
  refine JM.of (by decide) rfl (fun h => by cases h) (Nat.le_of_ble_eq_true rfl) ⟨1, rfl⟩ ?_
  refine J_hc0 (J_ls (ls2 := [some (.ref 54), some (.int (zI k)), some (.int (zI m)), none]) rfl ?_)
  refine J_aload_n dX5_emit_0 rfl rfl ?_
  refine J_get (v := .int (zI sz)) dX5_emit_1 fl_X5_40 hk54 rfl ?_
  refine J_istore_n dX5_emit_4 rfl (Nat.le_of_ble_eq_true rfl) rfl ?_
  refine J_ls (ls2 := [some (.ref 54), some (.int (zI k)), some (.int (zI m)), some (.int (zI sz))]) rfl ?_
  refine J_aload_n dX5_emit_5 rfl rfl ?_
  refine J_get (v := .int (zI sz)) dX5_emit_6 fl_X5_40 hk54 rfl ?_
  refine J_aload_n dX5_emit_9 rfl rfl ?_
  refine J_get (v := .ref 56) dX5_emit_10 fl_X5_37 hk54 rfl ?_
  refine Y_alen 412 dX5_emit_13 hk56 rfl rfl ?_
  refine Z_icmp_ge (tgt := 41) dX5_emit_14 (by decide) (v_9099852440 q2 q3) v_27e7d13956 (fun h1 => ?_) (fun h1 => ?_)
  · refine J_iload_n dX5_emit_41 rfl rfl ?_
    refine J_touch (k := 56) (e := .inl (0, 412, .inl (zA cd))) hk56 ?_
    refine J_touch (k := 54) (e := .inr (5, [.ref 55, .int (zI ln), .int (zI tk), .int (zI st), .int (zI bh), .int (zI va), .int (zI pa), .int (zI fl), .ref 56, .int (zI sz)])) hk54 ?_
    exact J_iret dX5_emit_42 rfl rfl (Nat.le_of_ble_eq_true rfl) (Nat.le_of_ble_eq_true rfl) ⟨sz, cd, rfl, rfl, q2, q3, v_0065452639, v_3daf2cb668, q4⟩
  · refine J_aload_n dX5_emit_17 rfl rfl ?_
    refine J_get (v := .ref 56) dX5_emit_18 fl_X5_37 hk54 rfl ?_
    refine J_aload_n dX5_emit_21 rfl rfl ?_
    refine J_get (v := .int (zI sz)) dX5_emit_22 fl_X5_40 hk54 rfl ?_
    refine J_iload_n dX5_emit_25 rfl rfl ?_
    refine J_iload_n dX5_emit_26 rfl rfl ?_
    refine Z_iconst (n := 5) dX5_emit_27 ?_
    obtain ⟨z2, ez2⟩ : ∃ z : Int, zshl m 5 = z := ⟨_, rfl⟩
    refine Y_ishl (z := z2) dX5_emit_28 ez2 ?_
    have h3 : zr z2 := by rw [← ez2]; exact zr_toInt _
    obtain ⟨z4, ez4⟩ : ∃ z : Int, zor k z2 = z := ⟨_, rfl⟩
    refine Y_ior (z := z4) dX5_emit_29 ez4 ?_
    have h5 : zr z4 := by rw [← ez4]; exact zr_toInt _
    refine Y_iast (v := z4) 412 dX5_emit_30 hk56 rfl (by decide) (v_2b02420001 q2) (v_dbf5af2b53 h1) (fun f6 ef6 => ?_)
    have h7 : Rg f6 412 (-2147483648) 2147483647 := Rg.ups q4 ef6 (v_9c631c66d9 h5) (v_602fda786b h5)
    refine J_aload_n dX5_emit_31 rfl rfl ?_
    refine J_dup dX5_emit_32 rfl ?_
    refine J_get (v := .int (zI sz)) dX5_emit_33 fl_X5_40 hk54 rfl ?_
    refine Z_iconst (n := 1) dX5_emit_36 ?_
    refine Z_iadd (c := sz + 1) dX5_emit_37 rfl ?_
    refine K_put (fs2 := [.ref 55, .int (zI ln), .int (zI tk), .int (zI st), .int (zI bh), .int (zI va), .int (zI pa), .int (zI fl), .ref 56, .int (zI (sz + 1))]) dX5_emit_38 fw_X5_40 hk54 (Nat.le_of_ble_eq_true rfl) (fun _ => ⟨rfl, rfl⟩) rfl ?_
    refine J_iload_n dX5_emit_41 rfl rfl ?_
    exact J_iret dX5_emit_42 rfl rfl (Nat.le_of_ble_eq_true rfl) (Nat.le_of_ble_eq_true rfl) ⟨(sz + 1), f6, rfl, rfl, (v_da458fa48a q2), (v_54d4eb8da6 h1), v_32a28518ee, v_3410673be3, h7⟩
set_option maxHeartbeats 4000000 in
set_option maxRecDepth 100000 in
theorem d_aim {l : Launch} {G : jG} {nh : Nat} {fh : Nat → Option va_E} (x : Int) (ln : Int) (tk : Int) (st : Int) (bh : Int) (va : Int) (pa : Int) (fl : Int) (sz : Int) (cd : Int → Int) (q0 : zr x) (q1 : 0 ≤ sz) (q2 : sz ≤ 412) (q3 : Rg cd 412 (-2147483648) 2147483647) (hk54 : fh 54 = some (.inr (5, [.ref 55, .int (zI ln), .int (zI tk), .int (zI st), .int (zI bh), .int (zI va), .int (zI pa), .int (zI fl), .ref 56, .int (zI sz)]))) (hk56 : fh 56 = some (.inl (0, 412, .inl (zA cd)))) : JM l G yX5_aim MX5_aim { frames := 0, cells := 0, slots := 0, locals := 0 } [.ref 54, .int (zI x)] (nh, fh) (fun rr h9 => ∃ cd2 : Int → Int, rr = none ∧ h9 = (nh, hc fh [(56, .inl (0, 412, .inl (zA cd2)))]) ∧ (Rg cd2 412 (-2147483648) 2147483647)) := by
  refine JM.of (by decide) rfl (fun h => by cases h) (Nat.le_of_ble_eq_true rfl) ⟨0, rfl⟩ ?_
  refine J_hc0 (J_ls (ls2 := [some (.ref 54), some (.int (zI x))]) rfl ?_)
  refine J_iload_n dX5_aim_0 rfl rfl ?_
  refine Z_if_lt (tgt := 27) dX5_aim_1 (by decide) (v_b25fa51a85 q0) (fun h1 => ?_) (fun h1 => ?_)
  · refine J_touch (k := 56) (e := .inl (0, 412, .inl (zA cd))) hk56 ?_
    exact J_vret dX5_aim_27 rfl (Nat.le_of_ble_eq_true rfl) (Nat.le_of_ble_eq_true rfl) ⟨cd, rfl, rfl, q3⟩
  · refine J_iload_n dX5_aim_4 rfl rfl ?_
    refine J_aload_n dX5_aim_5 rfl rfl ?_
    refine J_get (v := .int (zI sz)) dX5_aim_6 fl_X5_40 hk54 rfl ?_
    refine Z_icmp_ge (tgt := 27) dX5_aim_9 (by decide) (v_edc92e96e6 q0 h1) (v_9099852440 q1 q2) (fun h2 => ?_) (fun h2 => ?_)
    · refine J_touch (k := 56) (e := .inl (0, 412, .inl (zA cd))) hk56 ?_
      exact J_vret dX5_aim_27 rfl (Nat.le_of_ble_eq_true rfl) (Nat.le_of_ble_eq_true rfl) ⟨cd, rfl, rfl, q3⟩
    · refine J_aload_n dX5_aim_12 rfl rfl ?_
      refine J_get (v := .ref 56) dX5_aim_13 fl_X5_37 hk54 rfl ?_
      refine J_iload_n dX5_aim_16 rfl rfl ?_
      refine J_dup2_11 dX5_aim_17 rfl rfl ?_
      obtain ⟨z3, ez3⟩ : ∃ z : Int, cd x = z := ⟨_, rfl⟩
      have h4 := Rg.at q3 (v_b2d8922659 h1) (v_44cc8cd4bb q2 h2) ez3
      refine Y_iald (z := z3) 412 dX5_aim_18 hk56 rfl (by decide) (v_b2d8922659 h1) (v_44cc8cd4bb q2 h2) ez3 ?_
      refine J_aload_n dX5_aim_19 rfl rfl ?_
      refine J_get (v := .int (zI sz)) dX5_aim_20 fl_X5_40 hk54 rfl ?_
      refine Z_iconst (n := 5) dX5_aim_23 ?_
      obtain ⟨z5, ez5⟩ : ∃ z : Int, zshl sz 5 = z := ⟨_, rfl⟩
      refine Y_ishl (z := z5) dX5_aim_24 ez5 ?_
      have h6 : zr z5 := by rw [← ez5]; exact zr_toInt _
      obtain ⟨z7, ez7⟩ : ∃ z : Int, zor z3 z5 = z := ⟨_, rfl⟩
      refine Y_ior (z := z7) dX5_aim_25 ez7 ?_
      have h8 : zr z7 := by rw [← ez7]; exact zr_toInt _
      refine Y_iast (v := z7) 412 dX5_aim_26 hk56 rfl (by decide) (v_b2d8922659 h1) (v_44cc8cd4bb q2 h2) (fun f9 ef9 => ?_)
      have h10 : Rg f9 412 (-2147483648) 2147483647 := Rg.ups q3 ef9 (v_9c631c66d9 h8) (v_602fda786b h8)
      exact J_vret dX5_aim_27 rfl (Nat.le_of_ble_eq_true rfl) (Nat.le_of_ble_eq_true rfl) ⟨f9, rfl, rfl, h10⟩
/-- the number of words passed, at a place of the text -/
def WdB (n i : Int) : Prop := 0 ≤ n ∧ n ≤ 15 ∧ n ≤ wbi i
theorem WdB.zero : WdB 0 0 := ⟨by decide, by decide, by decide⟩
theorem WdB.same {n i : Int} (h : WdB n i) (h0 : 0 ≤ i) : WdB n (i + 1) := ⟨h.1, h.2.1, Int.le_trans h.2.2 (wbi_same h0)⟩
theorem WdB.next {n i : Int} (h : WdB n i) (h0 : 0 ≤ i) (h1 : i < 73) (e : wch i = 32) : WdB (n + 1) (i + 1) := by
  have a := wbi_next h0 e
  have b := wbi_le (i := i + 1) (by omega)
  have c := h.2.2
  have d := h.1
  exact ⟨by omega, by omega, by omega⟩
set_option maxHeartbeats 4000000 in
set_option maxRecDepth 100000 in
theorem d_wordNumber {l : Launch} {G : jG} {nh : Nat} {fh : Nat → Option va_E} (ln : Int) (tk : Int) (st : Int) (bh : Int) (va : Int) (pa : Int) (fl : Int) (sz : Int) (tp : Int → Int) (q0 : 0 ≤ ln) (q1 : ln ≤ 400) (q2 : 0 ≤ st) (q3 : st ≤ bh) (q4 : bh ≤ ln) (q5 : Rg tp 400 0 255) (hk54 : fh 54 = some (.inr (5, [.ref 55, .int (zI ln), .int (zI tk), .int (zI st), .int (zI bh), .int (zI va), .int (zI pa), .int (zI fl), .ref 56, .int (zI sz)]))) (hk55 : fh 55 = some (.inl (0, 400, .inl (zA tp)))) : JM l G yX5_wordNumber MX5_wordNumber { frames := 4, cells := 0, slots := 0, locals := 85 } [.ref 54] (nh, fh) (fun rr h9 => ∃ r : Int, rr = some (.int (zI r)) ∧ h9 = (nh, fh) ∧ (0 ≤ r) ∧ (r ≤ 15)) := by
  refine JM.of (by decide) rfl (fun h => by cases h) (Nat.le_of_ble_eq_true rfl) ⟨5, rfl⟩ ?_
  refine J_hc0 (J_ls (ls2 := [some (.ref 54), none, none, none, none, none]) rfl ?_)
  refine Z_iconst (n := 0) dX5_wordNumber_0 ?_
  refine J_istore_n dX5_wordNumber_1 rfl (Nat.le_of_ble_eq_true rfl) rfl ?_
  refine J_ls (ls2 := [some (.ref 54), some (.int (zI 0)), none, none, none, none]) rfl ?_
  refine J_aload_n dX5_wordNumber_2 rfl rfl ?_
  refine J_get (v := .int (zI st)) dX5_wordNumber_3 fl_X5_22 hk54 rfl ?_
  refine J_istore_n dX5_wordNumber_6 rfl (Nat.le_of_ble_eq_true rfl) rfl ?_
  refine J_ls (ls2 := [some (.ref 54), some (.int (zI 0)), some (.int (zI st)), none, none, none]) rfl ?_
  refine Z_iconst (n := 1) dX5_wordNumber_7 ?_
  refine J_istore_n dX5_wordNumber_8 rfl (Nat.le_of_ble_eq_true rfl) rfl ?_
  refine J_ls (ls2 := [some (.ref 54), some (.int (zI 0)), some (.int (zI st)), some (.int (zI 1)), none, none]) rfl ?_
  refine Z_iconst (n := 0) dX5_wordNumber_9 ?_
  refine J_istore dX5_wordNumber_10 (Nat.le_of_ble_eq_true rfl) rfl ?_
  refine J_ls (ls2 := [some (.ref 54), some (.int (zI 0)), some (.int (zI st)), some (.int (zI 1)), some (.int (zI 0)), none]) rfl ?_
  have lp12 : ∀ (N12 : Nat) (nu_12 : Int) (at_12 : Int) (sm_12 : Int) (i_12 : Int), (0 ≤ i_12) → (i_12 ≤ 73) → (WdB nu_12 i_12) → (st ≤ at_12) → (at_12 ≤ st + i_12) → (0 ≤ sm_12) → (sm_12 ≤ 1) → (73 - i_12).toNat < N12 → J l G MX5_wordNumber { frames := 4, cells := 0, slots := 0, locals := 85 } jE (jMQ G { frames := 4, cells := 0, slots := 0, locals := 85 } (fun rr h9 => ∃ r : Int, rr = some (.int (zI r)) ∧ h9 = (nh, fh) ∧ (0 ≤ r) ∧ (r ≤ 15))) (nh, hc fh []) 0 0 12 [some (.ref 54), some (.int (zI nu_12)), some (.int (zI at_12)), some (.int (zI sm_12)), some (.int (zI i_12)), none] [] := by
    intro N12
    induction N12 with
    | zero => intro nu_12 at_12 sm_12 i_12 i12_0 i12_1 i12_2 i12_3 i12_4 i12_5 i12_6 hm; exact absurd hm (Nat.not_lt_zero _)
    | succ N12 ih12 =>
      intro nu_12 at_12 sm_12 i_12 i12_0 i12_1 i12_2 i12_3 i12_4 i12_5 i12_6 hm12
      refine J_iload dX5_wordNumber_12 rfl ?_
      refine J_xldc rfl dX5_wordNumber_14 ?_
      refine J_callX (av := []) (st := [.int (zI i_12)]) dX5_wordNumber_16 cx_len s_len rfl rfl (Nat.le_of_ble_eq_true rfl) ⟨(Nat.le_of_ble_eq_true rfl), (Nat.le_of_ble_eq_true rfl)⟩ ⟨(Nat.le_of_ble_eq_true rfl), (Nat.le_of_ble_eq_true rfl)⟩ (fun r h9 hp => ?_)
      obtain ⟨rfl, rfl⟩ := hp
      refine J_nf (nh2 := nh) (ck2 := 0) (sk2 := 0) (st2 := [.int (zI 73), .int (zI i_12)]) rfl rfl rfl rfl ?_
      refine Z_icmp_ge (tgt := 103) dX5_wordNumber_19 (by decide) (v_94d443f0e8 i12_0 i12_1) v_30b0c4d114 (fun h1 => ?_) (fun h1 => ?_)
      · refine Z_bipush (n := 15) dX5_wordNumber_103 (by decide +kernel) ?_
        exact J_iret dX5_wordNumber_105 rfl rfl (Nat.le_of_ble_eq_true rfl) (Nat.le_of_ble_eq_true rfl) ⟨15, rfl, rfl, v_316d906358, v_acae2ba8c8⟩
      · refine J_xldc rfl dX5_wordNumber_22 ?_
        refine J_iload dX5_wordNumber_24 rfl ?_
        obtain ⟨z2, ez2⟩ : ∃ z : Int, wch i_12 = z := ⟨_, rfl⟩
        have h3 : 32 ≤ z2 ∧ z2 ≤ 122 := by rw [← ez2]; exact wch_rg (v_2b02420001 i12_0) (v_5067095eb0 h1)
        refine J_callX (av := [.int (zI i_12)]) (st := []) dX5_wordNumber_26 cx_cha (s_cha i_12 (v_2b02420001 i12_0) (v_5067095eb0 h1)) rfl rfl (Nat.le_of_ble_eq_true rfl) ⟨(Nat.le_of_ble_eq_true rfl), (Nat.le_of_ble_eq_true rfl)⟩ ⟨(Nat.le_of_ble_eq_true rfl), (Nat.le_of_ble_eq_true rfl)⟩ (fun r h9 hp => ?_)
        obtain ⟨rfl, rfl⟩ := hp
        refine J_nf (nh2 := nh) (ck2 := 0) (sk2 := 0) (st2 := [.int (zI (wch i_12))]) rfl rfl rfl rfl ?_
        rw [ez2]
        refine J_istore dX5_wordNumber_29 (Nat.le_of_ble_eq_true rfl) rfl ?_
        refine J_ls (ls2 := [some (.ref 54), some (.int (zI nu_12)), some (.int (zI at_12)), some (.int (zI sm_12)), some (.int (zI i_12)), some (.int (zI z2))]) rfl ?_
        refine J_iload dX5_wordNumber_31 rfl ?_
        refine Z_bipush (n := 32) dX5_wordNumber_33 (by decide +kernel) ?_
        refine Z_icmp_ne (tgt := 65) dX5_wordNumber_35 (by decide) (v_720a29103c h3.1 h3.2) v_27308ff615 (fun h4 => ?_) (fun h4 => ?_)
        · refine J_iload_n dX5_wordNumber_65 rfl rfl ?_
          refine Z_if_eq (tgt := 92) dX5_wordNumber_66 (by decide) (v_5f10a759cd i12_5 i12_6) (fun h5 => ?_) (fun h5 => ?_)
          · refine Z_iconst (n := 0) dX5_wordNumber_92 ?_
            refine J_istore_n dX5_wordNumber_93 rfl (Nat.le_of_ble_eq_true rfl) rfl ?_
            refine J_ls (ls2 := [some (.ref 54), some (.int (zI nu_12)), some (.int (zI at_12)), some (.int (zI 0)), some (.int (zI i_12)), some (.int (zI z2))]) rfl ?_
            refine Z_iinc (c := at_12 + 1) (ls2 := [some (.ref 54), some (.int (zI nu_12)), some (.int (zI (at_12 + 1))), some (.int (zI 0)), some (.int (zI i_12)), some (.int (zI z2))]) dX5_wordNumber_94 rfl (Nat.le_of_ble_eq_true rfl) rfl rfl rfl ?_
            refine Z_iinc (c := i_12 + 1) (ls2 := [some (.ref 54), some (.int (zI nu_12)), some (.int (zI (at_12 + 1))), some (.int (zI 0)), some (.int (zI (i_12 + 1))), some (.int (zI z2))]) dX5_wordNumber_97 rfl (Nat.le_of_ble_eq_true rfl) rfl rfl rfl ?_
            refine J_goto (tgt := 12) dX5_wordNumber_100 (by decide) ?_
            refine J_drop (ls2 := [some (.ref 54), some (.int (zI nu_12)), some (.int (zI (at_12 + 1))), some (.int (zI 0)), some (.int (zI (i_12 + 1))), none]) [true, true, true, true, true, false] rfl ?_
            exact ih12 nu_12 (at_12 + 1) 0 (i_12 + 1) (v_da458fa48a i12_0) (v_893826a06d h1) (WdB.same i12_2 (v_2b02420001 i12_0)) (v_d50281bace i12_3) (v_b1a81de18e i12_4) v_939070ca3f v_316afd7d0b (meas_lt v_d9af624d78 (v_55b44453db h1) hm12)
          · refine J_iload_n dX5_wordNumber_69 rfl rfl ?_
            refine J_aload_n dX5_wordNumber_70 rfl rfl ?_
            refine J_get (v := .int (zI bh)) dX5_wordNumber_71 fl_X5_25 hk54 rfl ?_
            refine Z_icmp_ge (tgt := 92) dX5_wordNumber_74 (by decide) (v_b3aa5f4b1f q1 q2 q3 q4 i12_3 i12_4 h1) (v_0bec36d083 q1 q2 q3 q4) (fun h6 => ?_) (fun h6 => ?_)
            · refine Z_iconst (n := 0) dX5_wordNumber_92 ?_
              refine J_istore_n dX5_wordNumber_93 rfl (Nat.le_of_ble_eq_true rfl) rfl ?_
              refine J_ls (ls2 := [some (.ref 54), some (.int (zI nu_12)), some (.int (zI at_12)), some (.int (zI 0)), some (.int (zI i_12)), some (.int (zI z2))]) rfl ?_
              refine Z_iinc (c := at_12 + 1) (ls2 := [some (.ref 54), some (.int (zI nu_12)), some (.int (zI (at_12 + 1))), some (.int (zI 0)), some (.int (zI i_12)), some (.int (zI z2))]) dX5_wordNumber_94 rfl (Nat.le_of_ble_eq_true rfl) rfl rfl rfl ?_
              refine Z_iinc (c := i_12 + 1) (ls2 := [some (.ref 54), some (.int (zI nu_12)), some (.int (zI (at_12 + 1))), some (.int (zI 0)), some (.int (zI (i_12 + 1))), some (.int (zI z2))]) dX5_wordNumber_97 rfl (Nat.le_of_ble_eq_true rfl) rfl rfl rfl ?_
              refine J_goto (tgt := 12) dX5_wordNumber_100 (by decide) ?_
              refine J_drop (ls2 := [some (.ref 54), some (.int (zI nu_12)), some (.int (zI (at_12 + 1))), some (.int (zI 0)), some (.int (zI (i_12 + 1))), none]) [true, true, true, true, true, false] rfl ?_
              exact ih12 nu_12 (at_12 + 1) 0 (i_12 + 1) (v_da458fa48a i12_0) (v_893826a06d h1) (WdB.same i12_2 (v_2b02420001 i12_0)) (v_d50281bace i12_3) (v_b1a81de18e i12_4) v_939070ca3f v_316afd7d0b (meas_lt v_d9af624d78 (v_55b44453db h1) hm12)
            · refine J_aload_n dX5_wordNumber_77 rfl rfl ?_
              refine J_get (v := .ref 55) dX5_wordNumber_78 fl_X5_11 hk54 rfl ?_
              refine J_iload_n dX5_wordNumber_81 rfl rfl ?_
              obtain ⟨z7, ez7⟩ : ∃ z : Int, tp at_12 = z := ⟨_, rfl⟩
              have h8 := Rg.at q5 (v_21976c7318 q2 i12_3) (v_cba26b68a5 q1 q4 h6) ez7
              refine Y_iald (z := z7) 400 dX5_wordNumber_82 hk55 rfl (by decide) (v_21976c7318 q2 i12_3) (v_cba26b68a5 q1 q4 h6) ez7 ?_
              refine J_iload dX5_wordNumber_83 rfl ?_
              refine Z_icmp_ne (tgt := 92) dX5_wordNumber_85 (by decide) (v_7675438551 h8.1 h8.2) (v_720a29103c h3.1 h3.2) (fun h9 => ?_) (fun h9 => ?_)
              · refine Z_iconst (n := 0) dX5_wordNumber_92 ?_
                refine J_istore_n dX5_wordNumber_93 rfl (Nat.le_of_ble_eq_true rfl) rfl ?_
                refine J_ls (ls2 := [some (.ref 54), some (.int (zI nu_12)), some (.int (zI at_12)), some (.int (zI 0)), some (.int (zI i_12)), some (.int (zI z2))]) rfl ?_
                refine Z_iinc (c := at_12 + 1) (ls2 := [some (.ref 54), some (.int (zI nu_12)), some (.int (zI (at_12 + 1))), some (.int (zI 0)), some (.int (zI i_12)), some (.int (zI z2))]) dX5_wordNumber_94 rfl (Nat.le_of_ble_eq_true rfl) rfl rfl rfl ?_
                refine Z_iinc (c := i_12 + 1) (ls2 := [some (.ref 54), some (.int (zI nu_12)), some (.int (zI (at_12 + 1))), some (.int (zI 0)), some (.int (zI (i_12 + 1))), some (.int (zI z2))]) dX5_wordNumber_97 rfl (Nat.le_of_ble_eq_true rfl) rfl rfl rfl ?_
                refine J_goto (tgt := 12) dX5_wordNumber_100 (by decide) ?_
                refine J_drop (ls2 := [some (.ref 54), some (.int (zI nu_12)), some (.int (zI (at_12 + 1))), some (.int (zI 0)), some (.int (zI (i_12 + 1))), none]) [true, true, true, true, true, false] rfl ?_
                exact ih12 nu_12 (at_12 + 1) 0 (i_12 + 1) (v_da458fa48a i12_0) (v_893826a06d h1) (WdB.same i12_2 (v_2b02420001 i12_0)) (v_d50281bace i12_3) (v_b1a81de18e i12_4) v_939070ca3f v_316afd7d0b (meas_lt v_d9af624d78 (v_55b44453db h1) hm12)
              · refine Z_iconst (n := 1) dX5_wordNumber_88 ?_
                refine J_goto (tgt := 93) dX5_wordNumber_89 (by decide) ?_
                refine J_istore_n dX5_wordNumber_93 rfl (Nat.le_of_ble_eq_true rfl) rfl ?_
                refine J_ls (ls2 := [some (.ref 54), some (.int (zI nu_12)), some (.int (zI at_12)), some (.int (zI 1)), some (.int (zI i_12)), some (.int (zI z2))]) rfl ?_
                refine Z_iinc (c := at_12 + 1) (ls2 := [some (.ref 54), some (.int (zI nu_12)), some (.int (zI (at_12 + 1))), some (.int (zI 1)), some (.int (zI i_12)), some (.int (zI z2))]) dX5_wordNumber_94 rfl (Nat.le_of_ble_eq_true rfl) rfl rfl rfl ?_
                refine Z_iinc (c := i_12 + 1) (ls2 := [some (.ref 54), some (.int (zI nu_12)), some (.int (zI (at_12 + 1))), some (.int (zI 1)), some (.int (zI (i_12 + 1))), some (.int (zI z2))]) dX5_wordNumber_97 rfl (Nat.le_of_ble_eq_true rfl) rfl rfl rfl ?_
                refine J_goto (tgt := 12) dX5_wordNumber_100 (by decide) ?_
                refine J_drop (ls2 := [some (.ref 54), some (.int (zI nu_12)), some (.int (zI (at_12 + 1))), some (.int (zI 1)), some (.int (zI (i_12 + 1))), none]) [true, true, true, true, true, false] rfl ?_
                exact ih12 nu_12 (at_12 + 1) 1 (i_12 + 1) (v_da458fa48a i12_0) (v_893826a06d h1) (WdB.same i12_2 (v_2b02420001 i12_0)) (v_d50281bace i12_3) (v_b1a81de18e i12_4) v_316afd7d0b v_bbcfac9b7d (meas_lt v_d9af624d78 (v_55b44453db h1) hm12)
        · refine J_iload_n dX5_wordNumber_38 rfl rfl ?_
          refine Z_if_eq (tgt := 52) dX5_wordNumber_39 (by decide) (v_5f10a759cd i12_5 i12_6) (fun h10 => ?_) (fun h10 => ?_)
          · refine Z_iinc (c := nu_12 + 1) (ls2 := [some (.ref 54), some (.int (zI (nu_12 + 1))), some (.int (zI at_12)), some (.int (zI sm_12)), some (.int (zI i_12)), some (.int (zI z2))]) dX5_wordNumber_52 rfl (Nat.le_of_ble_eq_true rfl) rfl rfl rfl ?_
            refine J_aload_n dX5_wordNumber_55 rfl rfl ?_
            refine J_get (v := .int (zI st)) dX5_wordNumber_56 fl_X5_22 hk54 rfl ?_
            refine J_istore_n dX5_wordNumber_59 rfl (Nat.le_of_ble_eq_true rfl) rfl ?_
            refine J_ls (ls2 := [some (.ref 54), some (.int (zI (nu_12 + 1))), some (.int (zI st)), some (.int (zI sm_12)), some (.int (zI i_12)), some (.int (zI z2))]) rfl ?_
            refine Z_iconst (n := 1) dX5_wordNumber_60 ?_
            refine J_istore_n dX5_wordNumber_61 rfl (Nat.le_of_ble_eq_true rfl) rfl ?_
            refine J_ls (ls2 := [some (.ref 54), some (.int (zI (nu_12 + 1))), some (.int (zI st)), some (.int (zI 1)), some (.int (zI i_12)), some (.int (zI z2))]) rfl ?_
            refine J_goto (tgt := 97) dX5_wordNumber_62 (by decide) ?_
            refine Z_iinc (c := i_12 + 1) (ls2 := [some (.ref 54), some (.int (zI (nu_12 + 1))), some (.int (zI st)), some (.int (zI 1)), some (.int (zI (i_12 + 1))), some (.int (zI z2))]) dX5_wordNumber_97 rfl (Nat.le_of_ble_eq_true rfl) rfl rfl rfl ?_
            refine J_goto (tgt := 12) dX5_wordNumber_100 (by decide) ?_
            refine J_drop (ls2 := [some (.ref 54), some (.int (zI (nu_12 + 1))), some (.int (zI st)), some (.int (zI 1)), some (.int (zI (i_12 + 1))), none]) [true, true, true, true, true, false] rfl ?_
            exact ih12 (nu_12 + 1) st 1 (i_12 + 1) (v_da458fa48a i12_0) (v_893826a06d h1) (WdB.next i12_2 (v_2b02420001 i12_0) (v_5067095eb0 h1) (ez2.trans (v_2a86628443 h3.1 h4))) v_0065452639 (v_670c5cf6c2 i12_0) v_316afd7d0b v_bbcfac9b7d (meas_lt v_d9af624d78 (v_55b44453db h1) hm12)
          · refine J_iload_n dX5_wordNumber_42 rfl rfl ?_
            refine J_aload_n dX5_wordNumber_43 rfl rfl ?_
            refine J_get (v := .int (zI bh)) dX5_wordNumber_44 fl_X5_25 hk54 rfl ?_
            refine Z_icmp_ne (tgt := 52) dX5_wordNumber_47 (by decide) (v_b3aa5f4b1f q1 q2 q3 q4 i12_3 i12_4 h1) (v_0bec36d083 q1 q2 q3 q4) (fun h11 => ?_) (fun h11 => ?_)
            · refine Z_iinc (c := nu_12 + 1) (ls2 := [some (.ref 54), some (.int (zI (nu_12 + 1))), some (.int (zI at_12)), some (.int (zI sm_12)), some (.int (zI i_12)), some (.int (zI z2))]) dX5_wordNumber_52 rfl (Nat.le_of_ble_eq_true rfl) rfl rfl rfl ?_
              refine J_aload_n dX5_wordNumber_55 rfl rfl ?_
              refine J_get (v := .int (zI st)) dX5_wordNumber_56 fl_X5_22 hk54 rfl ?_
              refine J_istore_n dX5_wordNumber_59 rfl (Nat.le_of_ble_eq_true rfl) rfl ?_
              refine J_ls (ls2 := [some (.ref 54), some (.int (zI (nu_12 + 1))), some (.int (zI st)), some (.int (zI sm_12)), some (.int (zI i_12)), some (.int (zI z2))]) rfl ?_
              refine Z_iconst (n := 1) dX5_wordNumber_60 ?_
              refine J_istore_n dX5_wordNumber_61 rfl (Nat.le_of_ble_eq_true rfl) rfl ?_
              refine J_ls (ls2 := [some (.ref 54), some (.int (zI (nu_12 + 1))), some (.int (zI st)), some (.int (zI 1)), some (.int (zI i_12)), some (.int (zI z2))]) rfl ?_
              refine J_goto (tgt := 97) dX5_wordNumber_62 (by decide) ?_
              refine Z_iinc (c := i_12 + 1) (ls2 := [some (.ref 54), some (.int (zI (nu_12 + 1))), some (.int (zI st)), some (.int (zI 1)), some (.int (zI (i_12 + 1))), some (.int (zI z2))]) dX5_wordNumber_97 rfl (Nat.le_of_ble_eq_true rfl) rfl rfl rfl ?_
              refine J_goto (tgt := 12) dX5_wordNumber_100 (by decide) ?_
              refine J_drop (ls2 := [some (.ref 54), some (.int (zI (nu_12 + 1))), some (.int (zI st)), some (.int (zI 1)), some (.int (zI (i_12 + 1))), none]) [true, true, true, true, true, false] rfl ?_
              exact ih12 (nu_12 + 1) st 1 (i_12 + 1) (v_da458fa48a i12_0) (v_893826a06d h1) (WdB.next i12_2 (v_2b02420001 i12_0) (v_5067095eb0 h1) (ez2.trans (v_2a86628443 h3.1 h4))) v_0065452639 (v_670c5cf6c2 i12_0) v_316afd7d0b v_bbcfac9b7d (meas_lt v_d9af624d78 (v_55b44453db h1) hm12)
            · refine J_iload_n dX5_wordNumber_50 rfl rfl ?_
              exact J_iret dX5_wordNumber_51 rfl rfl (Nat.le_of_ble_eq_true rfl) (Nat.le_of_ble_eq_true rfl) ⟨nu_12, rfl, rfl, i12_2.1, i12_2.2.1⟩
  exact lp12 _ 0 st 1 0 v_939070ca3f v_63fe78b188 (WdB.zero) v_0065452639 v_d0bfa3a8cd v_316afd7d0b v_bbcfac9b7d (Nat.lt_succ_self _)
set_option maxHeartbeats 4000000 in
set_option maxRecDepth 100000 in
theorem d_advance {l : Launch} {G : jG} {nh : Nat} {fh : Nat → Option va_E} (ln : Int) (tk : Int) (st : Int) (bh : Int) (va : Int) (pa : Int) (fl : Int) (sz : Int) (tp : Int → Int) (q0 : 0 ≤ ln) (q1 : ln ≤ 400) (q2 : 0 ≤ bh) (q3 : bh ≤ ln) (q4 : 0 ≤ va) (q5 : va ≤ 1001) (q6 : Rg tp 400 0 255) (hk54 : fh 54 = some (.inr (5, [.ref 55, .int (zI ln), .int (zI tk), .int (zI st), .int (zI bh), .int (zI va), .int (zI pa), .int (zI fl), .ref 56, .int (zI sz)]))) (hk55 : fh 55 = some (.inl (0, 400, .inl (zA tp)))) : JM l G yX5_advance MX5_advance { frames := 5, cells := 0, slots := 0, locals := 110 } [.ref 54] (nh, fh) (fun rr h9 => ∃ tk2 : Int, ∃ st2 : Int, ∃ bh2 : Int, ∃ va2 : Int, rr = none ∧ h9 = (nh, hc fh [(54, .inr (5, [.ref 55, .int (zI ln), .int (zI tk2), .int (zI st2), .int (zI bh2), .int (zI va2), .int (zI pa), .int (zI fl), .ref 56, .int (zI sz)]))]) ∧ (0 ≤ tk2) ∧ (tk2 ≤ 355) ∧ (bh ≤ st2) ∧ (st2 ≤ bh2) ∧ (bh2 ≤ ln) ∧ (0 ≤ va2) ∧ (va2 ≤ 1001) ∧ (TokL tk2 st2 bh2)) := by
  refine JM.of (by decide) rfl (fun h => by cases h) (Nat.le_of_ble_eq_true rfl) ⟨0, rfl⟩ ?_
  refine J_hc0 (J_ls (ls2 := [some (.ref 54)]) rfl ?_)
  refine J_aload_n dX5_advance_0 rfl rfl ?_
  refine J_aload_n dX5_advance_1 rfl rfl ?_
  refine J_get (v := .int (zI bh)) dX5_advance_2 fl_X5_25 hk54 rfl ?_
  refine K_put (fs2 := [.ref 55, .int (zI ln), .int (zI tk), .int (zI bh), .int (zI bh), .int (zI va), .int (zI pa), .int (zI fl), .ref 56, .int (zI sz)]) dX5_advance_5 fw_X5_22 hk54 (Nat.le_of_ble_eq_true rfl) (fun _ => ⟨rfl, rfl⟩) rfl ?_
  have lp8 : ∀ (N8 : Nat) (s_8 : Int), (bh ≤ s_8) → (s_8 ≤ ln) → (ln - s_8).toNat < N8 → J l G MX5_advance { frames := 5, cells := 0, slots := 0, locals := 110 } jE (jMQ G { frames := 5, cells := 0, slots := 0, locals := 110 } (fun rr h9 => ∃ tk2 : Int, ∃ st2 : Int, ∃ bh2 : Int, ∃ va2 : Int, rr = none ∧ h9 = (nh, hc fh [(54, .inr (5, [.ref 55, .int (zI ln), .int (zI tk2), .int (zI st2), .int (zI bh2), .int (zI va2), .int (zI pa), .int (zI fl), .ref 56, .int (zI sz)]))]) ∧ (0 ≤ tk2) ∧ (tk2 ≤ 355) ∧ (bh ≤ st2) ∧ (st2 ≤ bh2) ∧ (bh2 ≤ ln) ∧ (0 ≤ va2) ∧ (va2 ≤ 1001) ∧ (TokL tk2 st2 bh2))) (nh, hc fh [(54, .inr (5, [.ref 55, .int (zI ln), .int (zI tk), .int (zI s_8), .int (zI bh), .int (zI va), .int (zI pa), .int (zI fl), .ref 56, .int (zI sz)]))]) 0 0 8 [some (.ref 54)] [] := by
    intro N8
    induction N8 with
    | zero => intro s_8 i8_0 i8_1 hm; exact absurd hm (Nat.not_lt_zero _)
    | succ N8 ih8 =>
      intro s_8 i8_0 i8_1 hm8
      refine J_aload_n dX5_advance_8 rfl rfl ?_
      refine J_get (v := .int (zI s_8)) dX5_advance_9 fl_X5_22 rfl rfl ?_
      refine J_aload_n dX5_advance_12 rfl rfl ?_
      refine J_get (v := .int (zI ln)) dX5_advance_13 fl_X5_15 rfl rfl ?_
      refine Z_icmp_ge (tgt := 46) dX5_advance_16 (by decide) (v_0bec36d083 q1 q2 i8_0 i8_1) (v_d7389cde0f q0 q1) (fun h1 => ?_) (fun h1 => ?_)
      · refine J_aload_n dX5_advance_46 rfl rfl ?_
        refine J_aload_n dX5_advance_47 rfl rfl ?_
        refine J_get (v := .int (zI s_8)) dX5_advance_48 fl_X5_22 rfl rfl ?_
        refine K_put (fs2 := [.ref 55, .int (zI ln), .int (zI tk), .int (zI s_8), .int (zI s_8), .int (zI va), .int (zI pa), .int (zI fl), .ref 56, .int (zI sz)]) dX5_advance_51 fw_X5_25 rfl (Nat.le_of_ble_eq_true rfl) (fun _ => ⟨rfl, rfl⟩) rfl ?_
        refine J_aload_n dX5_advance_54 rfl rfl ?_
        refine J_get (v := .int (zI s_8)) dX5_advance_55 fl_X5_22 rfl rfl ?_
        refine J_aload_n dX5_advance_58 rfl rfl ?_
        refine J_get (v := .int (zI ln)) dX5_advance_59 fl_X5_15 rfl rfl ?_
        refine Z_icmp_lt (tgt := 74) dX5_advance_62 (by decide) (v_0bec36d083 q1 q2 i8_0 i8_1) (v_d7389cde0f q0 q1) (fun h2 => absurd h2 (v_b598cf8bfa h1)) (fun h2 => ?_)
        refine J_aload_n dX5_advance_65 rfl rfl ?_
        refine Z_bipush (n := 17) dX5_advance_66 (by decide +kernel) ?_
        refine K_put (fs2 := [.ref 55, .int (zI ln), .int (zI 17), .int (zI s_8), .int (zI s_8), .int (zI va), .int (zI pa), .int (zI fl), .ref 56, .int (zI sz)]) dX5_advance_68 fw_X5_19 rfl (Nat.le_of_ble_eq_true rfl) (fun _ => ⟨rfl, rfl⟩) rfl ?_
        refine J_goto (tgt := 263) dX5_advance_71 (by decide) ?_
        refine J_mask (L2 := [(54, .inr (5, [.ref 55, .int (zI ln), .int (zI 17), .int (zI s_8), .int (zI s_8), .int (zI va), .int (zI pa), .int (zI fl), .ref 56, .int (zI sz)]))]) (ks := [54, 54, 54]) [true, false, false] rfl (by decide +kernel) rfl ?_
        exact J_vret dX5_advance_263 rfl (Nat.le_of_ble_eq_true rfl) (Nat.le_of_ble_eq_true rfl) ⟨17, s_8, s_8, va, rfl, rfl, v_d5f9afb2ea, v_4e528d6cd5, i8_0, v_0065452639, i8_1, q4, q5, (Or.inl v_a6a45631f7)⟩
      · refine J_aload_n dX5_advance_19 rfl rfl ?_
        refine J_get (v := .ref 55) dX5_advance_20 fl_X5_11 rfl rfl ?_
        refine J_aload_n dX5_advance_23 rfl rfl ?_
        refine J_get (v := .int (zI s_8)) dX5_advance_24 fl_X5_22 rfl rfl ?_
        obtain ⟨z3, ez3⟩ : ∃ z : Int, tp s_8 = z := ⟨_, rfl⟩
        have h4 := Rg.at q6 (v_21976c7318 q2 i8_0) (v_5d8e28db30 q1 h1) ez3
        refine Y_iald (z := z3) 400 dX5_advance_27 hk55 rfl (by decide) (v_21976c7318 q2 i8_0) (v_5d8e28db30 q1 h1) ez3 ?_
        refine Z_bipush (n := 32) dX5_advance_28 (by decide +kernel) ?_
        refine Z_icmp_ne (tgt := 46) dX5_advance_30 (by decide) (v_7675438551 h4.1 h4.2) v_27308ff615 (fun h5 => ?_) (fun h5 => ?_)
        · refine J_aload_n dX5_advance_46 rfl rfl ?_
          refine J_aload_n dX5_advance_47 rfl rfl ?_
          refine J_get (v := .int (zI s_8)) dX5_advance_48 fl_X5_22 rfl rfl ?_
          refine K_put (fs2 := [.ref 55, .int (zI ln), .int (zI tk), .int (zI s_8), .int (zI s_8), .int (zI va), .int (zI pa), .int (zI fl), .ref 56, .int (zI sz)]) dX5_advance_51 fw_X5_25 rfl (Nat.le_of_ble_eq_true rfl) (fun _ => ⟨rfl, rfl⟩) rfl ?_
          refine J_aload_n dX5_advance_54 rfl rfl ?_
          refine J_get (v := .int (zI s_8)) dX5_advance_55 fl_X5_22 rfl rfl ?_
          refine J_aload_n dX5_advance_58 rfl rfl ?_
          refine J_get (v := .int (zI ln)) dX5_advance_59 fl_X5_15 rfl rfl ?_
          refine Z_icmp_lt (tgt := 74) dX5_advance_62 (by decide) (v_a9a43f8862 q1 q2 i8_0 h1) (v_d7389cde0f q0 q1) (fun h6 => ?_) (fun h6 => absurd h6 (fun q => q (v_fe9ea41faa h1)))
          refine J_aload_n dX5_advance_74 rfl rfl ?_
          refine J_get (v := .ref 55) dX5_advance_75 fl_X5_11 rfl rfl ?_
          refine J_aload_n dX5_advance_78 rfl rfl ?_
          refine J_get (v := .int (zI s_8)) dX5_advance_79 fl_X5_22 rfl rfl ?_
          refine Y_iald (z := z3) 400 dX5_advance_82 hk55 rfl (by decide) (v_21976c7318 q2 i8_0) (v_5d8e28db30 q1 h1) ez3 ?_
          refine J_callS (st := []) dX5_advance_83 cs_X5_98 (d_isLetter z3 (v_7675438551 h4.1 h4.2)) rfl rfl (Nat.le_of_ble_eq_true rfl) ⟨(Nat.le_of_ble_eq_true rfl), (Nat.le_of_ble_eq_true rfl)⟩ ⟨(Nat.le_of_ble_eq_true rfl), (Nat.le_of_ble_eq_true rfl)⟩ (fun r h9 hp => ?_)
          rcases hp with ⟨rfl, rfl, h7, h8⟩ | ⟨rfl, rfl, h9⟩ | ⟨rfl, rfl, h10⟩
          · refine J_nf (nh2 := nh) (ck2 := 0) (sk2 := 0) (st2 := [.int (zI 1)]) rfl rfl rfl rfl ?_
            refine Z_if_eq (tgt := 139) dX5_advance_86 (by decide) v_4dcc24baa7 (fun h11 => absurd h11 v_3a47bfd896) (fun h11 => ?_)
            refine J_mask (L2 := [(54, .inr (5, [.ref 55, .int (zI ln), .int (zI tk), .int (zI s_8), .int (zI s_8), .int (zI va), .int (zI pa), .int (zI fl), .ref 56, .int (zI sz)]))]) (ks := [54, 54]) [true, false] rfl (by decide +kernel) rfl ?_
            have lp89 : ∀ (N89 : Nat) (b_89 : Int), (s_8 ≤ b_89) → (b_89 ≤ ln) → (ln - b_89).toNat < N89 → J l G MX5_advance { frames := 5, cells := 0, slots := 0, locals := 110 } jE (jMQ G { frames := 5, cells := 0, slots := 0, locals := 110 } (fun rr h9 => ∃ tk2 : Int, ∃ st2 : Int, ∃ bh2 : Int, ∃ va2 : Int, rr = none ∧ h9 = (nh, hc fh [(54, .inr (5, [.ref 55, .int (zI ln), .int (zI tk2), .int (zI st2), .int (zI bh2), .int (zI va2), .int (zI pa), .int (zI fl), .ref 56, .int (zI sz)]))]) ∧ (0 ≤ tk2) ∧ (tk2 ≤ 355) ∧ (bh ≤ st2) ∧ (st2 ≤ bh2) ∧ (bh2 ≤ ln) ∧ (0 ≤ va2) ∧ (va2 ≤ 1001) ∧ (TokL tk2 st2 bh2))) (nh, hc fh [(54, .inr (5, [.ref 55, .int (zI ln), .int (zI tk), .int (zI s_8), .int (zI b_89), .int (zI va), .int (zI pa), .int (zI fl), .ref 56, .int (zI sz)]))]) 0 0 89 [some (.ref 54)] [] := by
              intro N89
              induction N89 with
              | zero => intro b_89 i89_0 i89_1 hm; exact absurd hm (Nat.not_lt_zero _)
              | succ N89 ih89 =>
                intro b_89 i89_0 i89_1 hm89
                refine J_aload_n dX5_advance_89 rfl rfl ?_
                refine J_get (v := .int (zI b_89)) dX5_advance_90 fl_X5_25 rfl rfl ?_
                refine J_aload_n dX5_advance_93 rfl rfl ?_
                refine J_get (v := .int (zI ln)) dX5_advance_94 fl_X5_15 rfl rfl ?_
                refine Z_icmp_ge (tgt := 128) dX5_advance_97 (by decide) (v_e297e1497d q1 q2 i8_0 i89_0 i89_1) (v_d7389cde0f q0 q1) (fun h12 => ?_) (fun h12 => ?_)
                · refine J_aload_n dX5_advance_128 rfl rfl ?_
                  refine J_aload_n dX5_advance_129 rfl rfl ?_
                  refine J_callV (st := [.ref 54]) dX5_advance_130 cv_X5_101 (d_wordNumber ln tk s_8 b_89 va pa fl sz tp q0 q1 (v_21976c7318 q2 i8_0) i89_0 i89_1 q6 rfl hk55) rfl rfl rfl (Nat.le_of_ble_eq_true rfl) ⟨(Nat.le_of_ble_eq_true rfl), (Nat.le_of_ble_eq_true rfl)⟩ ⟨(Nat.le_of_ble_eq_true rfl), (Nat.le_of_ble_eq_true rfl)⟩ (fun r h9 hp => ?_)
                  obtain ⟨z13, rfl, rfl, h14, h15⟩ := hp
                  refine J_nf (nh2 := nh) (ck2 := 0) (sk2 := 0) (st2 := [.int (zI z13), .ref 54]) rfl rfl rfl rfl ?_
                  refine K_put (fs2 := [.ref 55, .int (zI ln), .int (zI z13), .int (zI s_8), .int (zI b_89), .int (zI va), .int (zI pa), .int (zI fl), .ref 56, .int (zI sz)]) dX5_advance_133 fw_X5_19 rfl (Nat.le_of_ble_eq_true rfl) (fun _ => ⟨rfl, rfl⟩) rfl ?_
                  refine J_goto (tgt := 263) dX5_advance_136 (by decide) ?_
                  refine J_mask (L2 := [(54, .inr (5, [.ref 55, .int (zI ln), .int (zI z13), .int (zI s_8), .int (zI b_89), .int (zI va), .int (zI pa), .int (zI fl), .ref 56, .int (zI sz)]))]) (ks := [54, 54]) [true, false] rfl (by decide +kernel) rfl ?_
                  exact J_vret dX5_advance_263 rfl (Nat.le_of_ble_eq_true rfl) (Nat.le_of_ble_eq_true rfl) ⟨z13, s_8, b_89, va, rfl, rfl, h14, (v_243b24de7d h15), i8_0, i89_0, i89_1, q4, q5, (Or.inr (v_7fb2d88da4 h1 h12))⟩
                · refine J_aload_n dX5_advance_100 rfl rfl ?_
                  refine J_get (v := .ref 55) dX5_advance_101 fl_X5_11 rfl rfl ?_
                  refine J_aload_n dX5_advance_104 rfl rfl ?_
                  refine J_get (v := .int (zI b_89)) dX5_advance_105 fl_X5_25 rfl rfl ?_
                  obtain ⟨z16, ez16⟩ : ∃ z : Int, tp b_89 = z := ⟨_, rfl⟩
                  have h17 := Rg.at q6 (v_7eaccd6eb1 q2 i8_0 i89_0) (v_5d8e28db30 q1 h12) ez16
                  refine Y_iald (z := z16) 400 dX5_advance_108 hk55 rfl (by decide) (v_7eaccd6eb1 q2 i8_0 i89_0) (v_5d8e28db30 q1 h12) ez16 ?_
                  refine J_callS (st := []) dX5_advance_109 cs_X5_98 (d_isLetter z16 (v_7675438551 h17.1 h17.2)) rfl rfl (Nat.le_of_ble_eq_true rfl) ⟨(Nat.le_of_ble_eq_true rfl), (Nat.le_of_ble_eq_true rfl)⟩ ⟨(Nat.le_of_ble_eq_true rfl), (Nat.le_of_ble_eq_true rfl)⟩ (fun r h9 hp => ?_)
                  rcases hp with ⟨rfl, rfl, h18, h19⟩ | ⟨rfl, rfl, h20⟩ | ⟨rfl, rfl, h21⟩
                  · refine J_nf (nh2 := nh) (ck2 := 0) (sk2 := 0) (st2 := [.int (zI 1)]) rfl rfl rfl rfl ?_
                    refine Z_if_eq (tgt := 128) dX5_advance_112 (by decide) v_4dcc24baa7 (fun h22 => absurd h22 v_3a47bfd896) (fun h22 => ?_)
                    refine J_aload_n dX5_advance_115 rfl rfl ?_
                    refine J_dup dX5_advance_116 rfl ?_
                    refine J_get (v := .int (zI b_89)) dX5_advance_117 fl_X5_25 rfl rfl ?_
                    refine Z_iconst (n := 1) dX5_advance_120 ?_
                    refine Z_iadd (c := b_89 + 1) dX5_advance_121 rfl ?_
                    refine K_put (fs2 := [.ref 55, .int (zI ln), .int (zI tk), .int (zI s_8), .int (zI (b_89 + 1)), .int (zI va), .int (zI pa), .int (zI fl), .ref 56, .int (zI sz)]) dX5_advance_122 fw_X5_25 rfl (Nat.le_of_ble_eq_true rfl) (fun _ => ⟨rfl, rfl⟩) rfl ?_
                    refine J_goto (tgt := 89) dX5_advance_125 (by decide) ?_
                    refine J_mask (L2 := [(54, .inr (5, [.ref 55, .int (zI ln), .int (zI tk), .int (zI s_8), .int (zI (b_89 + 1)), .int (zI va), .int (zI pa), .int (zI fl), .ref 56, .int (zI sz)]))]) (ks := [54, 54]) [true, false] rfl (by decide +kernel) rfl ?_
                    exact ih89 (b_89 + 1) (v_d50281bace i89_0) (v_e390a36114 h12) (meas_lt v_90eacd6fd4 (v_8b7dd7d486 h12) hm89)
                  · refine J_nf (nh2 := nh) (ck2 := 0) (sk2 := 0) (st2 := [.int (zI 0)]) rfl rfl rfl rfl ?_
                    refine Z_if_eq (tgt := 128) dX5_advance_112 (by decide) v_b17331891f (fun h23 => ?_) (fun h23 => absurd h23 (fun q => q v_2ca2bbca1f))
                    refine J_aload_n dX5_advance_128 rfl rfl ?_
                    refine J_aload_n dX5_advance_129 rfl rfl ?_
                    refine J_callV (st := [.ref 54]) dX5_advance_130 cv_X5_101 (d_wordNumber ln tk s_8 b_89 va pa fl sz tp q0 q1 (v_21976c7318 q2 i8_0) i89_0 i89_1 q6 rfl hk55) rfl rfl rfl (Nat.le_of_ble_eq_true rfl) ⟨(Nat.le_of_ble_eq_true rfl), (Nat.le_of_ble_eq_true rfl)⟩ ⟨(Nat.le_of_ble_eq_true rfl), (Nat.le_of_ble_eq_true rfl)⟩ (fun r h9 hp => ?_)
                    obtain ⟨z24, rfl, rfl, h25, h26⟩ := hp
                    refine J_nf (nh2 := nh) (ck2 := 0) (sk2 := 0) (st2 := [.int (zI z24), .ref 54]) rfl rfl rfl rfl ?_
                    refine K_put (fs2 := [.ref 55, .int (zI ln), .int (zI z24), .int (zI s_8), .int (zI b_89), .int (zI va), .int (zI pa), .int (zI fl), .ref 56, .int (zI sz)]) dX5_advance_133 fw_X5_19 rfl (Nat.le_of_ble_eq_true rfl) (fun _ => ⟨rfl, rfl⟩) rfl ?_
                    refine J_goto (tgt := 263) dX5_advance_136 (by decide) ?_
                    refine J_mask (L2 := [(54, .inr (5, [.ref 55, .int (zI ln), .int (zI z24), .int (zI s_8), .int (zI b_89), .int (zI va), .int (zI pa), .int (zI fl), .ref 56, .int (zI sz)]))]) (ks := [54, 54]) [true, false] rfl (by decide +kernel) rfl ?_
                    exact J_vret dX5_advance_263 rfl (Nat.le_of_ble_eq_true rfl) (Nat.le_of_ble_eq_true rfl) ⟨z24, s_8, b_89, va, rfl, rfl, h25, (v_243b24de7d h26), i8_0, i89_0, i89_1, q4, q5, (Or.inr (at_lt ez3 ez16 (v_c159493e72 h7 h20) (v_d464d4c634 i89_0)))⟩
                  · refine J_nf (nh2 := nh) (ck2 := 0) (sk2 := 0) (st2 := [.int (zI 0)]) rfl rfl rfl rfl ?_
                    refine Z_if_eq (tgt := 128) dX5_advance_112 (by decide) v_b17331891f (fun h27 => ?_) (fun h27 => absurd h27 (fun q => q v_2ca2bbca1f))
                    refine J_aload_n dX5_advance_128 rfl rfl ?_
                    refine J_aload_n dX5_advance_129 rfl rfl ?_
                    refine J_callV (st := [.ref 54]) dX5_advance_130 cv_X5_101 (d_wordNumber ln tk s_8 b_89 va pa fl sz tp q0 q1 (v_21976c7318 q2 i8_0) i89_0 i89_1 q6 rfl hk55) rfl rfl rfl (Nat.le_of_ble_eq_true rfl) ⟨(Nat.le_of_ble_eq_true rfl), (Nat.le_of_ble_eq_true rfl)⟩ ⟨(Nat.le_of_ble_eq_true rfl), (Nat.le_of_ble_eq_true rfl)⟩ (fun r h9 hp => ?_)
                    obtain ⟨z28, rfl, rfl, h29, h30⟩ := hp
                    refine J_nf (nh2 := nh) (ck2 := 0) (sk2 := 0) (st2 := [.int (zI z28), .ref 54]) rfl rfl rfl rfl ?_
                    refine K_put (fs2 := [.ref 55, .int (zI ln), .int (zI z28), .int (zI s_8), .int (zI b_89), .int (zI va), .int (zI pa), .int (zI fl), .ref 56, .int (zI sz)]) dX5_advance_133 fw_X5_19 rfl (Nat.le_of_ble_eq_true rfl) (fun _ => ⟨rfl, rfl⟩) rfl ?_
                    refine J_goto (tgt := 263) dX5_advance_136 (by decide) ?_
                    refine J_mask (L2 := [(54, .inr (5, [.ref 55, .int (zI ln), .int (zI z28), .int (zI s_8), .int (zI b_89), .int (zI va), .int (zI pa), .int (zI fl), .ref 56, .int (zI sz)]))]) (ks := [54, 54]) [true, false] rfl (by decide +kernel) rfl ?_
                    exact J_vret dX5_advance_263 rfl (Nat.le_of_ble_eq_true rfl) (Nat.le_of_ble_eq_true rfl) ⟨z28, s_8, b_89, va, rfl, rfl, h29, (v_243b24de7d h30), i8_0, i89_0, i89_1, q4, q5, (Or.inr (at_lt ez3 ez16 (v_8a071c42cc h8 h21) (v_d464d4c634 i89_0)))⟩
            exact lp89 _ s_8 v_0065452639 i8_1 (Nat.lt_succ_self _)
          · refine J_nf (nh2 := nh) (ck2 := 0) (sk2 := 0) (st2 := [.int (zI 0)]) rfl rfl rfl rfl ?_
            refine Z_if_eq (tgt := 139) dX5_advance_86 (by decide) v_b17331891f (fun h31 => ?_) (fun h31 => absurd h31 (fun q => q v_2ca2bbca1f))
            refine J_aload_n dX5_advance_139 rfl rfl ?_
            refine J_get (v := .ref 55) dX5_advance_140 fl_X5_11 rfl rfl ?_
            refine J_aload_n dX5_advance_143 rfl rfl ?_
            refine J_get (v := .int (zI s_8)) dX5_advance_144 fl_X5_22 rfl rfl ?_
            refine Y_iald (z := z3) 400 dX5_advance_147 hk55 rfl (by decide) (v_21976c7318 q2 i8_0) (v_5d8e28db30 q1 h1) ez3 ?_
            refine J_callS (st := []) dX5_advance_148 cs_X5_105 (d_isDigit z3 (v_a9b52e2056 h4.1 h9)) rfl rfl (Nat.le_of_ble_eq_true rfl) ⟨(Nat.le_of_ble_eq_true rfl), (Nat.le_of_ble_eq_true rfl)⟩ ⟨(Nat.le_of_ble_eq_true rfl), (Nat.le_of_ble_eq_true rfl)⟩ (fun r h9 hp => ?_)
            rcases hp with ⟨rfl, rfl, h32, h33⟩ | ⟨rfl, rfl, h34⟩ | ⟨rfl, rfl, h35⟩
            · refine J_nf (nh2 := nh) (ck2 := 0) (sk2 := 0) (st2 := [.int (zI 1)]) rfl rfl rfl rfl ?_
              refine Z_if_eq (tgt := 237) dX5_advance_151 (by decide) v_4dcc24baa7 (fun h36 => absurd h36 v_3a47bfd896) (fun h36 => ?_)
              refine J_aload_n dX5_advance_154 rfl rfl ?_
              refine Z_iconst (n := 0) dX5_advance_155 ?_
              refine K_put (fs2 := [.ref 55, .int (zI ln), .int (zI tk), .int (zI s_8), .int (zI s_8), .int (zI 0), .int (zI pa), .int (zI fl), .ref 56, .int (zI sz)]) dX5_advance_156 fw_X5_28 rfl (Nat.le_of_ble_eq_true rfl) (fun _ => ⟨rfl, rfl⟩) rfl ?_
              refine J_mask (L2 := [(54, .inr (5, [.ref 55, .int (zI ln), .int (zI tk), .int (zI s_8), .int (zI s_8), .int (zI 0), .int (zI pa), .int (zI fl), .ref 56, .int (zI sz)]))]) (ks := [54, 54, 54]) [true, false, false] rfl (by decide +kernel) rfl ?_
              have lp159 : ∀ (N159 : Nat) (b_159 : Int) (v_159 : Int), (s_8 ≤ b_159) → (b_159 ≤ ln) → (0 ≤ v_159) → (v_159 ≤ 1001) → (ln - b_159).toNat < N159 → J l G MX5_advance { frames := 5, cells := 0, slots := 0, locals := 110 } jE (jMQ G { frames := 5, cells := 0, slots := 0, locals := 110 } (fun rr h9 => ∃ tk2 : Int, ∃ st2 : Int, ∃ bh2 : Int, ∃ va2 : Int, rr = none ∧ h9 = (nh, hc fh [(54, .inr (5, [.ref 55, .int (zI ln), .int (zI tk2), .int (zI st2), .int (zI bh2), .int (zI va2), .int (zI pa), .int (zI fl), .ref 56, .int (zI sz)]))]) ∧ (0 ≤ tk2) ∧ (tk2 ≤ 355) ∧ (bh ≤ st2) ∧ (st2 ≤ bh2) ∧ (bh2 ≤ ln) ∧ (0 ≤ va2) ∧ (va2 ≤ 1001) ∧ (TokL tk2 st2 bh2))) (nh, hc fh [(54, .inr (5, [.ref 55, .int (zI ln), .int (zI tk), .int (zI s_8), .int (zI b_159), .int (zI v_159), .int (zI pa), .int (zI fl), .ref 56, .int (zI sz)]))]) 0 0 159 [some (.ref 54)] [] := by
                intro N159
                induction N159 with
                | zero => intro b_159 v_159 i159_0 i159_1 i159_2 i159_3 hm; exact absurd hm (Nat.not_lt_zero _)
                | succ N159 ih159 =>
                  intro b_159 v_159 i159_0 i159_1 i159_2 i159_3 hm159
                  refine J_aload_n dX5_advance_159 rfl rfl ?_
                  refine J_get (v := .int (zI b_159)) dX5_advance_160 fl_X5_25 rfl rfl ?_
                  refine J_aload_n dX5_advance_163 rfl rfl ?_
                  refine J_get (v := .int (zI ln)) dX5_advance_164 fl_X5_15 rfl rfl ?_
                  refine Z_icmp_ge (tgt := 228) dX5_advance_167 (by decide) (v_e297e1497d q1 q2 i8_0 i159_0 i159_1) (v_d7389cde0f q0 q1) (fun h37 => ?_) (fun h37 => ?_)
                  · refine J_aload_n dX5_advance_228 rfl rfl ?_
                    refine Z_bipush (n := 16) dX5_advance_229 (by decide +kernel) ?_
                    refine K_put (fs2 := [.ref 55, .int (zI ln), .int (zI 16), .int (zI s_8), .int (zI b_159), .int (zI v_159), .int (zI pa), .int (zI fl), .ref 56, .int (zI sz)]) dX5_advance_231 fw_X5_19 rfl (Nat.le_of_ble_eq_true rfl) (fun _ => ⟨rfl, rfl⟩) rfl ?_
                    refine J_goto (tgt := 263) dX5_advance_234 (by decide) ?_
                    refine J_mask (L2 := [(54, .inr (5, [.ref 55, .int (zI ln), .int (zI 16), .int (zI s_8), .int (zI b_159), .int (zI v_159), .int (zI pa), .int (zI fl), .ref 56, .int (zI sz)]))]) (ks := [54, 54]) [true, false] rfl (by decide +kernel) rfl ?_
                    exact J_vret dX5_advance_263 rfl (Nat.le_of_ble_eq_true rfl) (Nat.le_of_ble_eq_true rfl) ⟨16, s_8, b_159, v_159, rfl, rfl, v_479b56dbea, v_e969a4d572, i8_0, i159_0, i159_1, i159_2, i159_3, (Or.inr (v_7fb2d88da4 h1 h37))⟩
                  · refine J_aload_n dX5_advance_170 rfl rfl ?_
                    refine J_get (v := .ref 55) dX5_advance_171 fl_X5_11 rfl rfl ?_
                    refine J_aload_n dX5_advance_174 rfl rfl ?_
                    refine J_get (v := .int (zI b_159)) dX5_advance_175 fl_X5_25 rfl rfl ?_
                    obtain ⟨z38, ez38⟩ : ∃ z : Int, tp b_159 = z := ⟨_, rfl⟩
                    have h39 := Rg.at q6 (v_7eaccd6eb1 q2 i8_0 i159_0) (v_5d8e28db30 q1 h37) ez38
                    refine Y_iald (z := z38) 400 dX5_advance_178 hk55 rfl (by decide) (v_7eaccd6eb1 q2 i8_0 i159_0) (v_5d8e28db30 q1 h37) ez38 ?_
                    refine J_callS (st := []) dX5_advance_179 cs_X5_105 (d_isDigit z38 (v_7675438551 h39.1 h39.2)) rfl rfl (Nat.le_of_ble_eq_true rfl) ⟨(Nat.le_of_ble_eq_true rfl), (Nat.le_of_ble_eq_true rfl)⟩ ⟨(Nat.le_of_ble_eq_true rfl), (Nat.le_of_ble_eq_true rfl)⟩ (fun r h9 hp => ?_)
                    rcases hp with ⟨rfl, rfl, h40, h41⟩ | ⟨rfl, rfl, h42⟩ | ⟨rfl, rfl, h43⟩
                    · refine J_nf (nh2 := nh) (ck2 := 0) (sk2 := 0) (st2 := [.int (zI 1)]) rfl rfl rfl rfl ?_
                      refine Z_if_eq (tgt := 228) dX5_advance_182 (by decide) v_4dcc24baa7 (fun h44 => absurd h44 v_3a47bfd896) (fun h44 => ?_)
                      refine J_aload_n dX5_advance_185 rfl rfl ?_
                      refine Z_sipush (n := 1001) dX5_advance_186 (by decide +kernel) ?_
                      refine J_aload_n dX5_advance_189 rfl rfl ?_
                      refine J_get (v := .int (zI v_159)) dX5_advance_190 fl_X5_28 rfl rfl ?_
                      refine Z_bipush (n := 10) dX5_advance_193 (by decide +kernel) ?_
                      refine Z_imul (c := 10 * v_159) dX5_advance_195 v_0701810ab8 ?_
                      refine J_aload_n dX5_advance_196 rfl rfl ?_
                      refine J_get (v := .ref 55) dX5_advance_197 fl_X5_11 rfl rfl ?_
                      refine J_aload_n dX5_advance_200 rfl rfl ?_
                      refine J_get (v := .int (zI b_159)) dX5_advance_201 fl_X5_25 rfl rfl ?_
                      refine Y_iald (z := z38) 400 dX5_advance_204 hk55 rfl (by decide) (v_7eaccd6eb1 q2 i8_0 i159_0) (v_5d8e28db30 q1 h37) ez38 ?_
                      refine Z_iadd (c := 10 * v_159 + z38) dX5_advance_205 rfl ?_
                      refine Z_bipush (n := 48) dX5_advance_206 (by decide +kernel) ?_
                      refine Z_isub (c := 10 * v_159 + z38 - 48) dX5_advance_208 rfl ?_
                      obtain ⟨z45, ez45⟩ : ∃ z : Int, min 1001 (10 * v_159 + z38 - 48) = z := ⟨_, rfl⟩
                      refine J_mmin (z := zI z45) dX5_advance_209 (jt3 221 rfl rfl) (jt3 222 rfl rfl) (jt1 19 rfl rfl) (jt3 223 rfl rfl) (Nat.le_of_ble_eq_true rfl) (Nat.le_of_ble_eq_true rfl) (Nat.le_of_ble_eq_true rfl) (Nat.le_of_ble_eq_true rfl) (by rw [zI_min v_0eb3c069c9 (v_fbf291c56e i159_2 i159_3 h40 h41), ez45]) ?_
                      have h46 : z45 ≤ 1001 ∧ z45 ≤ 10 * v_159 + z38 - 48 ∧ (z45 = 1001 ∨ z45 = 10 * v_159 + z38 - 48) := by omega
                      have h47 : 0 ≤ z45 := by omega
                      refine K_put (fs2 := [.ref 55, .int (zI ln), .int (zI tk), .int (zI s_8), .int (zI b_159), .int (zI z45), .int (zI pa), .int (zI fl), .ref 56, .int (zI sz)]) dX5_advance_212 fw_X5_28 rfl (Nat.le_of_ble_eq_true rfl) (fun _ => ⟨rfl, rfl⟩) rfl ?_
                      refine J_aload_n dX5_advance_215 rfl rfl ?_
                      refine J_dup dX5_advance_216 rfl ?_
                      refine J_get (v := .int (zI b_159)) dX5_advance_217 fl_X5_25 rfl rfl ?_
                      refine Z_iconst (n := 1) dX5_advance_220 ?_
                      refine Z_iadd (c := b_159 + 1) dX5_advance_221 rfl ?_
                      refine K_put (fs2 := [.ref 55, .int (zI ln), .int (zI tk), .int (zI s_8), .int (zI (b_159 + 1)), .int (zI z45), .int (zI pa), .int (zI fl), .ref 56, .int (zI sz)]) dX5_advance_222 fw_X5_25 rfl (Nat.le_of_ble_eq_true rfl) (fun _ => ⟨rfl, rfl⟩) rfl ?_
                      refine J_goto (tgt := 159) dX5_advance_225 (by decide) ?_
                      refine J_mask (L2 := [(54, .inr (5, [.ref 55, .int (zI ln), .int (zI tk), .int (zI s_8), .int (zI (b_159 + 1)), .int (zI z45), .int (zI pa), .int (zI fl), .ref 56, .int (zI sz)]))]) (ks := [54, 54, 54]) [true, false, false] rfl (by decide +kernel) rfl ?_
                      exact ih159 (b_159 + 1) z45 (v_d50281bace i159_0) (v_e390a36114 h37) h47 h46.1 (meas_lt v_90eacd6fd4 (v_8b7dd7d486 h37) hm159)
                    · refine J_nf (nh2 := nh) (ck2 := 0) (sk2 := 0) (st2 := [.int (zI 0)]) rfl rfl rfl rfl ?_
                      refine Z_if_eq (tgt := 228) dX5_advance_182 (by decide) v_b17331891f (fun h48 => ?_) (fun h48 => absurd h48 (fun q => q v_2ca2bbca1f))
                      refine J_aload_n dX5_advance_228 rfl rfl ?_
                      refine Z_bipush (n := 16) dX5_advance_229 (by decide +kernel) ?_
                      refine K_put (fs2 := [.ref 55, .int (zI ln), .int (zI 16), .int (zI s_8), .int (zI b_159), .int (zI v_159), .int (zI pa), .int (zI fl), .ref 56, .int (zI sz)]) dX5_advance_231 fw_X5_19 rfl (Nat.le_of_ble_eq_true rfl) (fun _ => ⟨rfl, rfl⟩) rfl ?_
                      refine J_goto (tgt := 263) dX5_advance_234 (by decide) ?_
                      refine J_mask (L2 := [(54, .inr (5, [.ref 55, .int (zI ln), .int (zI 16), .int (zI s_8), .int (zI b_159), .int (zI v_159), .int (zI pa), .int (zI fl), .ref 56, .int (zI sz)]))]) (ks := [54, 54]) [true, false] rfl (by decide +kernel) rfl ?_
                      exact J_vret dX5_advance_263 rfl (Nat.le_of_ble_eq_true rfl) (Nat.le_of_ble_eq_true rfl) ⟨16, s_8, b_159, v_159, rfl, rfl, v_479b56dbea, v_e969a4d572, i8_0, i159_0, i159_1, i159_2, i159_3, (Or.inr (at_lt ez3 ez38 (v_bff012c994 h32 h42) (v_d464d4c634 i159_0)))⟩
                    · refine J_nf (nh2 := nh) (ck2 := 0) (sk2 := 0) (st2 := [.int (zI 0)]) rfl rfl rfl rfl ?_
                      refine Z_if_eq (tgt := 228) dX5_advance_182 (by decide) v_b17331891f (fun h49 => ?_) (fun h49 => absurd h49 (fun q => q v_2ca2bbca1f))
                      refine J_aload_n dX5_advance_228 rfl rfl ?_
                      refine Z_bipush (n := 16) dX5_advance_229 (by decide +kernel) ?_
                      refine K_put (fs2 := [.ref 55, .int (zI ln), .int (zI 16), .int (zI s_8), .int (zI b_159), .int (zI v_159), .int (zI pa), .int (zI fl), .ref 56, .int (zI sz)]) dX5_advance_231 fw_X5_19 rfl (Nat.le_of_ble_eq_true rfl) (fun _ => ⟨rfl, rfl⟩) rfl ?_
                      refine J_goto (tgt := 263) dX5_advance_234 (by decide) ?_
                      refine J_mask (L2 := [(54, .inr (5, [.ref 55, .int (zI ln), .int (zI 16), .int (zI s_8), .int (zI b_159), .int (zI v_159), .int (zI pa), .int (zI fl), .ref 56, .int (zI sz)]))]) (ks := [54, 54]) [true, false] rfl (by decide +kernel) rfl ?_
                      exact J_vret dX5_advance_263 rfl (Nat.le_of_ble_eq_true rfl) (Nat.le_of_ble_eq_true rfl) ⟨16, s_8, b_159, v_159, rfl, rfl, v_479b56dbea, v_e969a4d572, i8_0, i159_0, i159_1, i159_2, i159_3, (Or.inr (at_lt ez3 ez38 (v_98c147a587 h33 h43) (v_d464d4c634 i159_0)))⟩
              exact lp159 _ s_8 0 v_0065452639 i8_1 v_939070ca3f v_7f788d9343 (Nat.lt_succ_self _)
            · refine J_nf (nh2 := nh) (ck2 := 0) (sk2 := 0) (st2 := [.int (zI 0)]) rfl rfl rfl rfl ?_
              refine Z_if_eq (tgt := 237) dX5_advance_151 (by decide) v_b17331891f (fun h50 => ?_) (fun h50 => absurd h50 (fun q => q v_2ca2bbca1f))
              refine J_aload_n dX5_advance_237 rfl rfl ?_
              refine Z_bipush (n := 100) dX5_advance_238 (by decide +kernel) ?_
              refine J_aload_n dX5_advance_240 rfl rfl ?_
              refine J_get (v := .ref 55) dX5_advance_241 fl_X5_11 rfl rfl ?_
              refine J_aload_n dX5_advance_244 rfl rfl ?_
              refine J_get (v := .int (zI s_8)) dX5_advance_245 fl_X5_22 rfl rfl ?_
              refine Y_iald (z := z3) 400 dX5_advance_248 hk55 rfl (by decide) (v_21976c7318 q2 i8_0) (v_5d8e28db30 q1 h1) ez3 ?_
              refine Z_iadd (c := z3 + 100) dX5_advance_249 v_2706a00d49 ?_
              refine K_put (fs2 := [.ref 55, .int (zI ln), .int (zI (z3 + 100)), .int (zI s_8), .int (zI s_8), .int (zI va), .int (zI pa), .int (zI fl), .ref 56, .int (zI sz)]) dX5_advance_250 fw_X5_19 rfl (Nat.le_of_ble_eq_true rfl) (fun _ => ⟨rfl, rfl⟩) rfl ?_
              refine J_aload_n dX5_advance_253 rfl rfl ?_
              refine J_dup dX5_advance_254 rfl ?_
              refine J_get (v := .int (zI s_8)) dX5_advance_255 fl_X5_25 rfl rfl ?_
              refine Z_iconst (n := 1) dX5_advance_258 ?_
              refine Z_iadd (c := s_8 + 1) dX5_advance_259 rfl ?_
              refine K_put (fs2 := [.ref 55, .int (zI ln), .int (zI (z3 + 100)), .int (zI s_8), .int (zI (s_8 + 1)), .int (zI va), .int (zI pa), .int (zI fl), .ref 56, .int (zI sz)]) dX5_advance_260 fw_X5_25 rfl (Nat.le_of_ble_eq_true rfl) (fun _ => ⟨rfl, rfl⟩) rfl ?_
              refine J_mask (L2 := [(54, .inr (5, [.ref 55, .int (zI ln), .int (zI (z3 + 100)), .int (zI s_8), .int (zI (s_8 + 1)), .int (zI va), .int (zI pa), .int (zI fl), .ref 56, .int (zI sz)]))]) (ks := [54, 54, 54, 54]) [true, false, false, false] rfl (by decide +kernel) rfl ?_
              exact J_vret dX5_advance_263 rfl (Nat.le_of_ble_eq_true rfl) (Nat.le_of_ble_eq_true rfl) ⟨(z3 + 100), s_8, (s_8 + 1), va, rfl, rfl, (v_168f970488 h4.1), (v_964874f55d h34), i8_0, v_32a28518ee, (v_e390a36114 h1), q4, q5, (Or.inr v_3bdb46b03b)⟩
            · refine J_nf (nh2 := nh) (ck2 := 0) (sk2 := 0) (st2 := [.int (zI 0)]) rfl rfl rfl rfl ?_
              refine Z_if_eq (tgt := 237) dX5_advance_151 (by decide) v_b17331891f (fun h51 => ?_) (fun h51 => absurd h51 (fun q => q v_2ca2bbca1f))
              refine J_aload_n dX5_advance_237 rfl rfl ?_
              refine Z_bipush (n := 100) dX5_advance_238 (by decide +kernel) ?_
              refine J_aload_n dX5_advance_240 rfl rfl ?_
              refine J_get (v := .ref 55) dX5_advance_241 fl_X5_11 rfl rfl ?_
              refine J_aload_n dX5_advance_244 rfl rfl ?_
              refine J_get (v := .int (zI s_8)) dX5_advance_245 fl_X5_22 rfl rfl ?_
              refine Y_iald (z := z3) 400 dX5_advance_248 hk55 rfl (by decide) (v_21976c7318 q2 i8_0) (v_5d8e28db30 q1 h1) ez3 ?_
              refine Z_iadd (c := z3 + 100) dX5_advance_249 v_2706a00d49 ?_
              refine K_put (fs2 := [.ref 55, .int (zI ln), .int (zI (z3 + 100)), .int (zI s_8), .int (zI s_8), .int (zI va), .int (zI pa), .int (zI fl), .ref 56, .int (zI sz)]) dX5_advance_250 fw_X5_19 rfl (Nat.le_of_ble_eq_true rfl) (fun _ => ⟨rfl, rfl⟩) rfl ?_
              refine J_aload_n dX5_advance_253 rfl rfl ?_
              refine J_dup dX5_advance_254 rfl ?_
              refine J_get (v := .int (zI s_8)) dX5_advance_255 fl_X5_25 rfl rfl ?_
              refine Z_iconst (n := 1) dX5_advance_258 ?_
              refine Z_iadd (c := s_8 + 1) dX5_advance_259 rfl ?_
              refine K_put (fs2 := [.ref 55, .int (zI ln), .int (zI (z3 + 100)), .int (zI s_8), .int (zI (s_8 + 1)), .int (zI va), .int (zI pa), .int (zI fl), .ref 56, .int (zI sz)]) dX5_advance_260 fw_X5_25 rfl (Nat.le_of_ble_eq_true rfl) (fun _ => ⟨rfl, rfl⟩) rfl ?_
              refine J_mask (L2 := [(54, .inr (5, [.ref 55, .int (zI ln), .int (zI (z3 + 100)), .int (zI s_8), .int (zI (s_8 + 1)), .int (zI va), .int (zI pa), .int (zI fl), .ref 56, .int (zI sz)]))]) (ks := [54, 54, 54, 54]) [true, false, false, false] rfl (by decide +kernel) rfl ?_
              exact J_vret dX5_advance_263 rfl (Nat.le_of_ble_eq_true rfl) (Nat.le_of_ble_eq_true rfl) ⟨(z3 + 100), s_8, (s_8 + 1), va, rfl, rfl, (v_3e3d35cd3f h35), (v_d205086e28 h9), i8_0, v_32a28518ee, (v_e390a36114 h1), q4, q5, (Or.inr v_3bdb46b03b)⟩
          · refine J_nf (nh2 := nh) (ck2 := 0) (sk2 := 0) (st2 := [.int (zI 0)]) rfl rfl rfl rfl ?_
            refine Z_if_eq (tgt := 139) dX5_advance_86 (by decide) v_b17331891f (fun h52 => ?_) (fun h52 => absurd h52 (fun q => q v_2ca2bbca1f))
            refine J_aload_n dX5_advance_139 rfl rfl ?_
            refine J_get (v := .ref 55) dX5_advance_140 fl_X5_11 rfl rfl ?_
            refine J_aload_n dX5_advance_143 rfl rfl ?_
            refine J_get (v := .int (zI s_8)) dX5_advance_144 fl_X5_22 rfl rfl ?_
            refine Y_iald (z := z3) 400 dX5_advance_147 hk55 rfl (by decide) (v_21976c7318 q2 i8_0) (v_5d8e28db30 q1 h1) ez3 ?_
            refine J_callS (st := []) dX5_advance_148 cs_X5_105 (d_isDigit z3 (v_eab840f878 h4.2 h10)) rfl rfl (Nat.le_of_ble_eq_true rfl) ⟨(Nat.le_of_ble_eq_true rfl), (Nat.le_of_ble_eq_true rfl)⟩ ⟨(Nat.le_of_ble_eq_true rfl), (Nat.le_of_ble_eq_true rfl)⟩ (fun r h9 hp => ?_)
            rcases hp with ⟨rfl, rfl, h53, h54⟩ | ⟨rfl, rfl, h55⟩ | ⟨rfl, rfl, h56⟩
            · exact False.elim (v_d55b1f7223 h10 h54)
            · exact False.elim (v_09cbf12418 h10 h55)
            · refine J_nf (nh2 := nh) (ck2 := 0) (sk2 := 0) (st2 := [.int (zI 0)]) rfl rfl rfl rfl ?_
              refine Z_if_eq (tgt := 237) dX5_advance_151 (by decide) v_b17331891f (fun h57 => ?_) (fun h57 => absurd h57 (fun q => q v_2ca2bbca1f))
              refine J_aload_n dX5_advance_237 rfl rfl ?_
              refine Z_bipush (n := 100) dX5_advance_238 (by decide +kernel) ?_
              refine J_aload_n dX5_advance_240 rfl rfl ?_
              refine J_get (v := .ref 55) dX5_advance_241 fl_X5_11 rfl rfl ?_
              refine J_aload_n dX5_advance_244 rfl rfl ?_
              refine J_get (v := .int (zI s_8)) dX5_advance_245 fl_X5_22 rfl rfl ?_
              refine Y_iald (z := z3) 400 dX5_advance_248 hk55 rfl (by decide) (v_21976c7318 q2 i8_0) (v_5d8e28db30 q1 h1) ez3 ?_
              refine Z_iadd (c := z3 + 100) dX5_advance_249 v_2706a00d49 ?_
              refine K_put (fs2 := [.ref 55, .int (zI ln), .int (zI (z3 + 100)), .int (zI s_8), .int (zI s_8), .int (zI va), .int (zI pa), .int (zI fl), .ref 56, .int (zI sz)]) dX5_advance_250 fw_X5_19 rfl (Nat.le_of_ble_eq_true rfl) (fun _ => ⟨rfl, rfl⟩) rfl ?_
              refine J_aload_n dX5_advance_253 rfl rfl ?_
              refine J_dup dX5_advance_254 rfl ?_
              refine J_get (v := .int (zI s_8)) dX5_advance_255 fl_X5_25 rfl rfl ?_
              refine Z_iconst (n := 1) dX5_advance_258 ?_
              refine Z_iadd (c := s_8 + 1) dX5_advance_259 rfl ?_
              refine K_put (fs2 := [.ref 55, .int (zI ln), .int (zI (z3 + 100)), .int (zI s_8), .int (zI (s_8 + 1)), .int (zI va), .int (zI pa), .int (zI fl), .ref 56, .int (zI sz)]) dX5_advance_260 fw_X5_25 rfl (Nat.le_of_ble_eq_true rfl) (fun _ => ⟨rfl, rfl⟩) rfl ?_
              refine J_mask (L2 := [(54, .inr (5, [.ref 55, .int (zI ln), .int (zI (z3 + 100)), .int (zI s_8), .int (zI (s_8 + 1)), .int (zI va), .int (zI pa), .int (zI fl), .ref 56, .int (zI sz)]))]) (ks := [54, 54, 54, 54]) [true, false, false, false] rfl (by decide +kernel) rfl ?_
              exact J_vret dX5_advance_263 rfl (Nat.le_of_ble_eq_true rfl) (Nat.le_of_ble_eq_true rfl) ⟨(z3 + 100), s_8, (s_8 + 1), va, rfl, rfl, (v_d48ed1b1ad h10), (v_dc622ca575 h4.2), i8_0, v_32a28518ee, (v_e390a36114 h1), q4, q5, (Or.inr v_3bdb46b03b)⟩
        · refine J_aload_n dX5_advance_33 rfl rfl ?_
          refine J_dup dX5_advance_34 rfl ?_
          refine J_get (v := .int (zI s_8)) dX5_advance_35 fl_X5_22 rfl rfl ?_
          refine Z_iconst (n := 1) dX5_advance_38 ?_
          refine Z_iadd (c := s_8 + 1) dX5_advance_39 rfl ?_
          refine K_put (fs2 := [.ref 55, .int (zI ln), .int (zI tk), .int (zI (s_8 + 1)), .int (zI bh), .int (zI va), .int (zI pa), .int (zI fl), .ref 56, .int (zI sz)]) dX5_advance_40 fw_X5_22 rfl (Nat.le_of_ble_eq_true rfl) (fun _ => ⟨rfl, rfl⟩) rfl ?_
          refine J_goto (tgt := 8) dX5_advance_43 (by decide) ?_
          refine J_mask (L2 := [(54, .inr (5, [.ref 55, .int (zI ln), .int (zI tk), .int (zI (s_8 + 1)), .int (zI bh), .int (zI va), .int (zI pa), .int (zI fl), .ref 56, .int (zI sz)]))]) (ks := [54, 54]) [true, false] rfl (by decide +kernel) rfl ?_
          exact ih8 (s_8 + 1) (v_d50281bace i8_0) (v_e390a36114 h1) (meas_lt v_90eacd6fd4 (v_8b7dd7d486 h1) hm8)
  exact lp8 _ bh v_0065452639 q3 (Nat.lt_succ_self _)
set_option maxHeartbeats 4000000 in
set_option maxRecDepth 100000 in
theorem d_bracketedSum8 {l : Launch} {G : jG} {nh : Nat} {fh : Nat → Option va_E} (ln : Int) (tk : Int) (st : Int) (bh : Int) (va : Int) (pa : Int) (fl : Int) (sz : Int) (tp : Int → Int) (cd : Int → Int) (q0 : 0 ≤ ln) (q1 : ln ≤ 400) (q2 : 0 ≤ tk) (q3 : tk ≤ 355) (q4 : 0 ≤ st) (q5 : st ≤ bh) (q6 : bh ≤ ln) (q7 : 0 ≤ va) (q8 : va ≤ 1001) (q9 : 0 ≤ pa) (q10 : pa ≤ 50) (q11 : zr fl) (q12 : 0 ≤ sz) (q13 : sz ≤ 412) (q14 : TokL tk st bh) (q15 : Rg tp 400 0 255) (q16 : Rg cd 412 (-2147483648) 2147483647) (hk54 : fh 54 = some (.inr (5, [.ref 55, .int (zI ln), .int (zI tk), .int (zI st), .int (zI bh), .int (zI va), .int (zI pa), .int (zI fl), .ref 56, .int (zI sz)]))) (hk55 : fh 55 = some (.inl (0, 400, .inl (zA tp)))) (hk56 : fh 56 = some (.inl (0, 412, .inl (zA cd)))) : JM l G yX5_bracketedSum MX5_bracketedSum { frames := 1, cells := 0, slots := 0, locals := 20 } [.ref 54, .int (zI 8)] (nh, fh) (fun rr h9 => (∃ tk2 : Int, ∃ st2 : Int, ∃ bh2 : Int, ∃ va2 : Int, ∃ pa2 : Int, ∃ sz2 : Int, ∃ cd2 : Int → Int, rr = some (.int (zI 1)) ∧ h9 = (nh, hc fh [(54, .inr (5, [.ref 55, .int (zI ln), .int (zI tk2), .int (zI st2), .int (zI bh2), .int (zI va2), .int (zI pa2), .int (zI fl), .ref 56, .int (zI sz2)])), (56, .inl (0, 412, .inl (zA cd2)))]) ∧ (0 ≤ tk2) ∧ (tk2 ≤ 355) ∧ (0 ≤ st2) ∧ (st2 ≤ bh2) ∧ (bh2 ≤ ln) ∧ (0 ≤ va2) ∧ (va2 ≤ 1001) ∧ (0 ≤ pa2) ∧ (pa2 ≤ 50) ∧ (0 ≤ sz2) ∧ (sz2 ≤ 412) ∧ (TokL tk2 st2 bh2) ∧ (Rg cd2 412 (-2147483648) 2147483647) ∧ (sz2 + st ≤ sz + st2) ∧ (st ≤ st2)) ∨ (∃ tk2 : Int, ∃ st2 : Int, ∃ bh2 : Int, ∃ va2 : Int, ∃ pa2 : Int, ∃ sz2 : Int, ∃ cd2 : Int → Int, ∃ fl2 : Int, rr = some (.int (zI 0)) ∧ h9 = (nh, hc fh [(54, .inr (5, [.ref 55, .int (zI ln), .int (zI tk2), .int (zI st2), .int (zI bh2), .int (zI va2), .int (zI pa2), .int (zI fl2), .ref 56, .int (zI sz2)])), (56, .inl (0, 412, .inl (zA cd2)))]) ∧ (0 ≤ tk2) ∧ (tk2 ≤ 355) ∧ (0 ≤ st2) ∧ (st2 ≤ bh2) ∧ (bh2 ≤ ln) ∧ (0 ≤ va2) ∧ (va2 ≤ 1001) ∧ (0 ≤ pa2) ∧ (pa2 ≤ 50) ∧ (0 ≤ sz2) ∧ (sz2 ≤ 412) ∧ (TokL tk2 st2 bh2) ∧ (Rg cd2 412 (-2147483648) 2147483647) ∧ (0 ≤ fl2) ∧ (fl2 ≤ 400))) := by
  refine JM.of (by decide) rfl (fun h => by cases h) (Nat.le_of_ble_eq_true rfl) ⟨0, rfl⟩ ?_
  refine J_hc0 (J_ls (ls2 := [some (.ref 54), some (.int (zI 8))]) rfl ?_)
  refine J_iload_n dX5_bracketedSum_0 rfl rfl ?_
  refine Z_bipush (n := 8) dX5_bracketedSum_1 (by decide +kernel) ?_
  refine Z_icmp_lt (tgt := 11) dX5_bracketedSum_3 (by decide) v_665891e294 v_665891e294 (fun h1 => absurd h1 v_0041fc7102) (fun h1 => ?_)
  refine J_aload_n dX5_bracketedSum_6 rfl rfl ?_
  refine J_callV (st := []) dX5_bracketedSum_7 cv_X5_54 (d_wrong ln tk st bh va pa fl sz q4 (v_1adcfdfee5 q1 q5 q6) hk54) hk54 rfl rfl (Nat.le_of_ble_eq_true rfl) ⟨(Nat.le_of_ble_eq_true rfl), (Nat.le_of_ble_eq_true rfl)⟩ ⟨(Nat.le_of_ble_eq_true rfl), (Nat.le_of_ble_eq_true rfl)⟩ (fun r h9 hp => ?_)
  obtain ⟨rfl, rfl⟩ := hp
  refine J_nf (nh2 := nh) (ck2 := 0) (sk2 := 0) (st2 := [.int (zI 0)]) rfl rfl rfl rfl ?_
  refine J_app (L3 := [(54, .inr (5, [.ref 55, .int (zI ln), .int (zI tk), .int (zI st), .int (zI bh), .int (zI va), .int (zI pa), .int (zI st), .ref 56, .int (zI sz)]))]) rfl ?_
  refine J_touch (k := 56) (e := .inl (0, 412, .inl (zA cd))) hk56 ?_
  refine J_touch (k := 54) (e := .inr (5, [.ref 55, .int (zI ln), .int (zI tk), .int (zI st), .int (zI bh), .int (zI va), .int (zI pa), .int (zI st), .ref 56, .int (zI sz)])) rfl ?_
  refine J_mask (L2 := [(54, .inr (5, [.ref 55, .int (zI ln), .int (zI tk), .int (zI st), .int (zI bh), .int (zI va), .int (zI pa), .int (zI st), .ref 56, .int (zI sz)])), (56, .inl (0, 412, .inl (zA cd)))]) (ks := [54, 56, 54]) [true, true, false] rfl (by decide +kernel) rfl ?_
  exact J_iret dX5_bracketedSum_10 rfl (jbn v_939070ca3f v_316afd7d0b) (Nat.le_of_ble_eq_true rfl) (Nat.le_of_ble_eq_true rfl) (Or.inr ⟨tk, st, bh, va, pa, sz, cd, st, rfl, rfl, q2, q3, q4, q5, q6, q7, q8, q9, q10, q12, q13, q14, q16, q4, (v_1adcfdfee5 q1 q5 q6)⟩)
set_option maxHeartbeats 4000000 in
set_option maxRecDepth 100000 in
theorem d_part8 {l : Launch} {G : jG} {nh : Nat} {fh : Nat → Option va_E} (ln : Int) (tk : Int) (st : Int) (bh : Int) (va : Int) (pa : Int) (fl : Int) (sz : Int) (tp : Int → Int) (cd : Int → Int) (q0 : 0 ≤ ln) (q1 : ln ≤ 400) (q2 : 0 ≤ tk) (q3 : tk ≤ 355) (q4 : 0 ≤ st) (q5 : st ≤ bh) (q6 : bh ≤ ln) (q7 : 0 ≤ va) (q8 : va ≤ 1001) (q9 : 0 ≤ pa) (q10 : pa ≤ 50) (q11 : zr fl) (q12 : 0 ≤ sz) (q13 : sz ≤ 412) (q14 : TokL tk st bh) (q15 : Rg tp 400 0 255) (q16 : Rg cd 412 (-2147483648) 2147483647) (hk54 : fh 54 = some (.inr (5, [.ref 55, .int (zI ln), .int (zI tk), .int (zI st), .int (zI bh), .int (zI va), .int (zI pa), .int (zI fl), .ref 56, .int (zI sz)]))) (hk55 : fh 55 = some (.inl (0, 400, .inl (zA tp)))) (hk56 : fh 56 = some (.inl (0, 412, .inl (zA cd)))) : JM l G yX5_part MX5_part { frames := 6, cells := 0, slots := 0, locals := 130 } [.ref 54, .int (zI 8)] (nh, fh) (fun rr h9 => (∃ tk2 : Int, ∃ st2 : Int, ∃ bh2 : Int, ∃ va2 : Int, ∃ pa2 : Int, ∃ sz2 : Int, ∃ cd2 : Int → Int, rr = some (.int (zI 1)) ∧ h9 = (nh, hc fh [(54, .inr (5, [.ref 55, .int (zI ln), .int (zI tk2), .int (zI st2), .int (zI bh2), .int (zI va2), .int (zI pa2), .int (zI fl), .ref 56, .int (zI sz2)])), (56, .inl (0, 412, .inl (zA cd2)))]) ∧ (0 ≤ tk2) ∧ (tk2 ≤ 355) ∧ (0 ≤ st2) ∧ (st2 ≤ bh2) ∧ (bh2 ≤ ln) ∧ (0 ≤ va2) ∧ (va2 ≤ 1001) ∧ (0 ≤ pa2) ∧ (pa2 ≤ 50) ∧ (0 ≤ sz2) ∧ (sz2 ≤ 412) ∧ (TokL tk2 st2 bh2) ∧ (Rg cd2 412 (-2147483648) 2147483647) ∧ (sz2 + st ≤ sz + st2) ∧ (st ≤ st2)) ∨ (∃ tk2 : Int, ∃ st2 : Int, ∃ bh2 : Int, ∃ va2 : Int, ∃ pa2 : Int, ∃ sz2 : Int, ∃ cd2 : Int → Int, ∃ fl2 : Int, rr = some (.int (zI 0)) ∧ h9 = (nh, hc fh [(54, .inr (5, [.ref 55, .int (zI ln), .int (zI tk2), .int (zI st2), .int (zI bh2), .int (zI va2), .int (zI pa2), .int (zI fl2), .ref 56, .int (zI sz2)])), (56, .inl (0, 412, .inl (zA cd2)))]) ∧ (0 ≤ tk2) ∧ (tk2 ≤ 355) ∧ (0 ≤ st2) ∧ (st2 ≤ bh2) ∧ (bh2 ≤ ln) ∧ (0 ≤ va2) ∧ (va2 ≤ 1001) ∧ (0 ≤ pa2) ∧ (pa2 ≤ 50) ∧ (0 ≤ sz2) ∧ (sz2 ≤ 412) ∧ (TokL tk2 st2 bh2) ∧ (Rg cd2 412 (-2147483648) 2147483647) ∧ (0 ≤ fl2) ∧ (fl2 ≤ 400))) := by
  refine JM.of (by decide) rfl (fun h => by cases h) (Nat.le_of_ble_eq_true rfl) ⟨2, rfl⟩ ?_
  refine J_hc0 (J_ls (ls2 := [some (.ref 54), some (.int (zI 8)), none, none]) rfl ?_)
  refine J_aload_n dX5_part_0 rfl rfl ?_
  refine Z_bipush (n := 91) dX5_part_1 (by decide +kernel) ?_
  refine J_callV (st := []) dX5_part_3 cv_X5_50 (d_isSign 91 ln tk st bh va pa fl sz v_df2cb83190 v_d563f19a9d q2 q3 hk54) hk54 rfl rfl (Nat.le_of_ble_eq_true rfl) ⟨(Nat.le_of_ble_eq_true rfl), (Nat.le_of_ble_eq_true rfl)⟩ ⟨(Nat.le_of_ble_eq_true rfl), (Nat.le_of_ble_eq_true rfl)⟩ (fun r h9 hp => ?_)
  rcases hp with ⟨rfl, rfl, h1⟩ | ⟨rfl, rfl, h2⟩
  · refine J_nf (nh2 := nh) (ck2 := 0) (sk2 := 0) (st2 := [.int (zI 1)]) rfl rfl rfl rfl ?_
    refine Z_if_eq (tgt := 15) dX5_part_6 (by decide) v_4dcc24baa7 (fun h3 => absurd h3 v_3a47bfd896) (fun h3 => ?_)
    refine J_aload_n dX5_part_9 rfl rfl ?_
    refine J_iload_n dX5_part_10 rfl rfl ?_
    refine J_callV (st := []) dX5_part_11 cv_X5_95 (d_bracketedSum8 ln tk st bh va pa fl sz tp cd q0 q1 q2 q3 q4 q5 q6 q7 q8 q9 q10 q11 q12 q13 q14 q15 q16 hk54 hk55 hk56) hk54 rfl rfl (Nat.le_of_ble_eq_true rfl) ⟨(Nat.le_of_ble_eq_true rfl), (Nat.le_of_ble_eq_true rfl)⟩ ⟨(Nat.le_of_ble_eq_true rfl), (Nat.le_of_ble_eq_true rfl)⟩ (fun r h9 hp => ?_)
    rcases hp with ⟨z4, z5, z6, z7, z8, z9, f10, rfl, rfl, h11, h12, h13, h14, h15, h16, h17, h18, h19, h20, h21, h22, h23, h24, h25⟩ | ⟨z26, z27, z28, z29, z30, z31, f32, z33, rfl, rfl, h34, h35, h36, h37, h38, h39, h40, h41, h42, h43, h44, h45, h46, h47, h48⟩
    · refine J_nf (nh2 := nh) (ck2 := 0) (sk2 := 0) (st2 := [.int (zI 1)]) rfl rfl rfl rfl ?_
      refine J_app (L3 := [(54, .inr (5, [.ref 55, .int (zI ln), .int (zI z4), .int (zI z5), .int (zI z6), .int (zI z7), .int (zI z8), .int (zI fl), .ref 56, .int (zI z9)])), (56, .inl (0, 412, .inl (zA f10)))]) rfl ?_
      exact J_iret dX5_part_14 rfl (jbn v_316afd7d0b v_bbcfac9b7d) (Nat.le_of_ble_eq_true rfl) (Nat.le_of_ble_eq_true rfl) (Or.inl ⟨z4, z5, z6, z7, z8, z9, f10, rfl, rfl, h11, h12, h13, h14, h15, h16, h17, h18, h19, h20, h21, h22, h23, h24, h25⟩)
    · refine J_nf (nh2 := nh) (ck2 := 0) (sk2 := 0) (st2 := [.int (zI 0)]) rfl rfl rfl rfl ?_
      refine J_app (L3 := [(54, .inr (5, [.ref 55, .int (zI ln), .int (zI z26), .int (zI z27), .int (zI z28), .int (zI z29), .int (zI z30), .int (zI z33), .ref 56, .int (zI z31)])), (56, .inl (0, 412, .inl (zA f32)))]) rfl ?_
      exact J_iret dX5_part_14 rfl (jbn v_939070ca3f v_316afd7d0b) (Nat.le_of_ble_eq_true rfl) (Nat.le_of_ble_eq_true rfl) (Or.inr ⟨z26, z27, z28, z29, z30, z31, f32, z33, rfl, rfl, h34, h35, h36, h37, h38, h39, h40, h41, h42, h43, h44, h45, h46, h47, h48⟩)
  · refine J_nf (nh2 := nh) (ck2 := 0) (sk2 := 0) (st2 := [.int (zI 0)]) rfl rfl rfl rfl ?_
    refine Z_if_eq (tgt := 15) dX5_part_6 (by decide) v_b17331891f (fun h49 => ?_) (fun h49 => absurd h49 (fun q => q v_2ca2bbca1f))
    refine J_aload_n dX5_part_15 rfl rfl ?_
    refine J_get (v := .int (zI tk)) dX5_part_16 fl_X5_19 hk54 rfl ?_
    refine Z_bipush (n := 16) dX5_part_19 (by decide +kernel) ?_
    refine Z_icmp_ne (tgt := 38) dX5_part_21 (by decide) (v_96bf6f782e q2 q3) v_1b6115d470 (fun h50 => ?_) (fun h50 => ?_)
    · refine Z_iconst (n := 0) dX5_part_38 ?_
      refine J_istore_n dX5_part_39 rfl (Nat.le_of_ble_eq_true rfl) rfl ?_
      refine J_ls (ls2 := [some (.ref 54), some (.int (zI 8)), some (.int (zI 0)), none]) rfl ?_
      refine J_aload_n dX5_part_40 rfl rfl ?_
      refine J_get (v := .int (zI tk)) dX5_part_41 fl_X5_19 hk54 rfl ?_
      refine Z_bipush (n := 7) dX5_part_44 (by decide +kernel) ?_
      refine Z_icmp_lt (tgt := 62) dX5_part_46 (by decide) (v_96bf6f782e q2 q3) v_c3fe1a091f (fun h51 => ?_) (fun h51 => ?_)
      · refine Z_iconst (n := 0) dX5_part_62 ?_
        refine J_istore_n dX5_part_63 rfl (Nat.le_of_ble_eq_true rfl) rfl ?_
        refine J_ls (ls2 := [some (.ref 54), some (.int (zI 8)), some (.int (zI 0)), some (.int (zI 0))]) rfl ?_
        refine J_iload_n dX5_part_64 rfl rfl ?_
        refine Z_if_ne (tgt := 72) dX5_part_65 (by decide) v_b17331891f (fun h52 => absurd h52 (fun q => q v_2ca2bbca1f)) (fun h52 => ?_)
        refine J_iload_n dX5_part_68 rfl rfl ?_
        refine Z_if_eq (tgt := 81) dX5_part_69 (by decide) v_b17331891f (fun h53 => ?_) (fun h53 => absurd h53 (fun q => q v_2ca2bbca1f))
        refine J_aload_n dX5_part_81 rfl rfl ?_
        refine J_callV (st := []) dX5_part_82 cv_X5_54 (d_wrong ln tk st bh va pa fl sz q4 (v_1adcfdfee5 q1 q5 q6) hk54) hk54 rfl rfl (Nat.le_of_ble_eq_true rfl) ⟨(Nat.le_of_ble_eq_true rfl), (Nat.le_of_ble_eq_true rfl)⟩ ⟨(Nat.le_of_ble_eq_true rfl), (Nat.le_of_ble_eq_true rfl)⟩ (fun r h9 hp => ?_)
        obtain ⟨rfl, rfl⟩ := hp
        refine J_nf (nh2 := nh) (ck2 := 0) (sk2 := 0) (st2 := [.int (zI 0)]) rfl rfl rfl rfl ?_
        refine J_app (L3 := [(54, .inr (5, [.ref 55, .int (zI ln), .int (zI tk), .int (zI st), .int (zI bh), .int (zI va), .int (zI pa), .int (zI st), .ref 56, .int (zI sz)]))]) rfl ?_
        refine J_touch (k := 56) (e := .inl (0, 412, .inl (zA cd))) hk56 ?_
        refine J_touch (k := 54) (e := .inr (5, [.ref 55, .int (zI ln), .int (zI tk), .int (zI st), .int (zI bh), .int (zI va), .int (zI pa), .int (zI st), .ref 56, .int (zI sz)])) rfl ?_
        refine J_mask (L2 := [(54, .inr (5, [.ref 55, .int (zI ln), .int (zI tk), .int (zI st), .int (zI bh), .int (zI va), .int (zI pa), .int (zI st), .ref 56, .int (zI sz)])), (56, .inl (0, 412, .inl (zA cd)))]) (ks := [54, 56, 54]) [true, true, false] rfl (by decide +kernel) rfl ?_
        exact J_iret dX5_part_85 rfl (jbn v_939070ca3f v_316afd7d0b) (Nat.le_of_ble_eq_true rfl) (Nat.le_of_ble_eq_true rfl) (Or.inr ⟨tk, st, bh, va, pa, sz, cd, st, rfl, rfl, q2, q3, q4, q5, q6, q7, q8, q9, q10, q12, q13, q14, q16, q4, (v_1adcfdfee5 q1 q5 q6)⟩)
      · refine J_aload_n dX5_part_49 rfl rfl ?_
        refine J_get (v := .int (zI tk)) dX5_part_50 fl_X5_19 hk54 rfl ?_
        refine Z_bipush (n := 14) dX5_part_53 (by decide +kernel) ?_
        refine Z_icmp_gt (tgt := 62) dX5_part_55 (by decide) (v_e33259c014 q3 h51) v_2a4719925a (fun h54 => ?_) (fun h54 => ?_)
        · refine Z_iconst (n := 0) dX5_part_62 ?_
          refine J_istore_n dX5_part_63 rfl (Nat.le_of_ble_eq_true rfl) rfl ?_
          refine J_ls (ls2 := [some (.ref 54), some (.int (zI 8)), some (.int (zI 0)), some (.int (zI 0))]) rfl ?_
          refine J_iload_n dX5_part_64 rfl rfl ?_
          refine Z_if_ne (tgt := 72) dX5_part_65 (by decide) v_b17331891f (fun h55 => absurd h55 (fun q => q v_2ca2bbca1f)) (fun h55 => ?_)
          refine J_iload_n dX5_part_68 rfl rfl ?_
          refine Z_if_eq (tgt := 81) dX5_part_69 (by decide) v_b17331891f (fun h56 => ?_) (fun h56 => absurd h56 (fun q => q v_2ca2bbca1f))
          refine J_aload_n dX5_part_81 rfl rfl ?_
          refine J_callV (st := []) dX5_part_82 cv_X5_54 (d_wrong ln tk st bh va pa fl sz q4 (v_1adcfdfee5 q1 q5 q6) hk54) hk54 rfl rfl (Nat.le_of_ble_eq_true rfl) ⟨(Nat.le_of_ble_eq_true rfl), (Nat.le_of_ble_eq_true rfl)⟩ ⟨(Nat.le_of_ble_eq_true rfl), (Nat.le_of_ble_eq_true rfl)⟩ (fun r h9 hp => ?_)
          obtain ⟨rfl, rfl⟩ := hp
          refine J_nf (nh2 := nh) (ck2 := 0) (sk2 := 0) (st2 := [.int (zI 0)]) rfl rfl rfl rfl ?_
          refine J_app (L3 := [(54, .inr (5, [.ref 55, .int (zI ln), .int (zI tk), .int (zI st), .int (zI bh), .int (zI va), .int (zI pa), .int (zI st), .ref 56, .int (zI sz)]))]) rfl ?_
          refine J_touch (k := 56) (e := .inl (0, 412, .inl (zA cd))) hk56 ?_
          refine J_touch (k := 54) (e := .inr (5, [.ref 55, .int (zI ln), .int (zI tk), .int (zI st), .int (zI bh), .int (zI va), .int (zI pa), .int (zI st), .ref 56, .int (zI sz)])) rfl ?_
          refine J_mask (L2 := [(54, .inr (5, [.ref 55, .int (zI ln), .int (zI tk), .int (zI st), .int (zI bh), .int (zI va), .int (zI pa), .int (zI st), .ref 56, .int (zI sz)])), (56, .inl (0, 412, .inl (zA cd)))]) (ks := [54, 56, 54]) [true, true, false] rfl (by decide +kernel) rfl ?_
          exact J_iret dX5_part_85 rfl (jbn v_939070ca3f v_316afd7d0b) (Nat.le_of_ble_eq_true rfl) (Nat.le_of_ble_eq_true rfl) (Or.inr ⟨tk, st, bh, va, pa, sz, cd, st, rfl, rfl, q2, q3, q4, q5, q6, q7, q8, q9, q10, q12, q13, q14, q16, q4, (v_1adcfdfee5 q1 q5 q6)⟩)
        · refine Z_iconst (n := 1) dX5_part_58 ?_
          refine J_goto (tgt := 63) dX5_part_59 (by decide) ?_
          refine J_istore_n dX5_part_63 rfl (Nat.le_of_ble_eq_true rfl) rfl ?_
          refine J_ls (ls2 := [some (.ref 54), some (.int (zI 8)), some (.int (zI 0)), some (.int (zI 1))]) rfl ?_
          refine J_iload_n dX5_part_64 rfl rfl ?_
          refine Z_if_ne (tgt := 72) dX5_part_65 (by decide) v_b17331891f (fun h57 => absurd h57 (fun q => q v_2ca2bbca1f)) (fun h57 => ?_)
          refine J_iload_n dX5_part_68 rfl rfl ?_
          refine Z_if_eq (tgt := 81) dX5_part_69 (by decide) v_4dcc24baa7 (fun h58 => absurd h58 v_3a47bfd896) (fun h58 => ?_)
          refine J_aload_n dX5_part_72 rfl rfl ?_
          refine J_get (v := .int (zI pa)) dX5_part_73 fl_X5_31 hk54 rfl ?_
          refine Z_bipush (n := 50) dX5_part_76 (by decide +kernel) ?_
          refine Z_icmp_lt (tgt := 86) dX5_part_78 (by decide) (v_196348439e q9 q10) v_e1e0ea2c24 (fun h59 => ?_) (fun h59 => ?_)
          · refine J_aload_n dX5_part_86 rfl rfl ?_
            refine J_dup dX5_part_87 rfl ?_
            refine J_get (v := .int (zI pa)) dX5_part_88 fl_X5_31 hk54 rfl ?_
            refine Z_iconst (n := 1) dX5_part_91 ?_
            refine Z_iadd (c := pa + 1) dX5_part_92 rfl ?_
            refine K_put (fs2 := [.ref 55, .int (zI ln), .int (zI tk), .int (zI st), .int (zI bh), .int (zI va), .int (zI (pa + 1)), .int (zI fl), .ref 56, .int (zI sz)]) dX5_part_93 fw_X5_31 hk54 (Nat.le_of_ble_eq_true rfl) (fun _ => ⟨rfl, rfl⟩) rfl ?_
            refine J_iload_n dX5_part_96 rfl rfl ?_
            refine Z_if_eq (tgt := 113) dX5_part_97 (by decide) v_b17331891f (fun h60 => ?_) (fun h60 => absurd h60 (fun q => q v_2ca2bbca1f))
            refine J_aload_n dX5_part_113 rfl rfl ?_
            refine Z_iconst (n := 1) dX5_part_114 ?_
            refine J_aload_n dX5_part_115 rfl rfl ?_
            refine J_get (v := .int (zI tk)) dX5_part_116 fl_X5_19 rfl rfl ?_
            refine Z_bipush (n := 7) dX5_part_119 (by decide +kernel) ?_
            refine Z_isub (c := tk - 7) dX5_part_121 rfl ?_
            refine J_callV (st := []) dX5_part_122 cv_X5_72 (d_emit 1 (tk - 7) ln tk st bh va (pa + 1) fl sz cd v_4dcc24baa7 (v_2b807321aa h51 h54) q12 q13 q16 rfl hk56) rfl rfl rfl (Nat.le_of_ble_eq_true rfl) ⟨(Nat.le_of_ble_eq_true rfl), (Nat.le_of_ble_eq_true rfl)⟩ ⟨(Nat.le_of_ble_eq_true rfl), (Nat.le_of_ble_eq_true rfl)⟩ (fun r h9 hp => ?_)
            obtain ⟨z61, f62, rfl, rfl, h63, h64, h65, h66, h67⟩ := hp
            refine J_nf (nh2 := nh) (ck2 := 0) (sk2 := 0) (st2 := [.int (zI sz)]) rfl rfl rfl rfl ?_
            refine J_app (L3 := [(54, .inr (5, [.ref 55, .int (zI ln), .int (zI tk), .int (zI st), .int (zI bh), .int (zI va), .int (zI (pa + 1)), .int (zI fl), .ref 56, .int (zI z61)])), (56, .inl (0, 412, .inl (zA f62))), (54, .inr (5, [.ref 55, .int (zI ln), .int (zI tk), .int (zI st), .int (zI bh), .int (zI va), .int (zI (pa + 1)), .int (zI fl), .ref 56, .int (zI sz)]))]) rfl ?_
            refine J_mask (L2 := [(54, .inr (5, [.ref 55, .int (zI ln), .int (zI tk), .int (zI st), .int (zI bh), .int (zI va), .int (zI (pa + 1)), .int (zI fl), .ref 56, .int (zI z61)])), (56, .inl (0, 412, .inl (zA f62)))]) (ks := [54, 56, 54]) [true, true, false] rfl (by decide +kernel) rfl ?_
            refine J_pop dX5_part_125 rfl ?_
            refine J_aload_n dX5_part_126 rfl rfl ?_
            have g68 := TokL.lt q14 (v_b0bfd58e62 h54)
            refine J_callV (st := []) dX5_part_127 cv_X5_43 (d_advance ln tk st bh va (pa + 1) fl z61 tp q0 q1 (v_d253cb2c59 q4 g68) q6 q7 q8 q15 rfl hk55) rfl rfl rfl (Nat.le_of_ble_eq_true rfl) ⟨(Nat.le_of_ble_eq_true rfl), (Nat.le_of_ble_eq_true rfl)⟩ ⟨(Nat.le_of_ble_eq_true rfl), (Nat.le_of_ble_eq_true rfl)⟩ (fun r h9 hp => ?_)
            obtain ⟨z69, z70, z71, z72, rfl, rfl, h73, h74, h75, h76, h77, h78, h79, h80⟩ := hp
            refine J_nf (nh2 := nh) (ck2 := 0) (sk2 := 0) (st2 := []) rfl rfl rfl rfl ?_
            refine J_app (L3 := [(54, .inr (5, [.ref 55, .int (zI ln), .int (zI z69), .int (zI z70), .int (zI z71), .int (zI z72), .int (zI (pa + 1)), .int (zI fl), .ref 56, .int (zI z61)])), (54, .inr (5, [.ref 55, .int (zI ln), .int (zI tk), .int (zI st), .int (zI bh), .int (zI va), .int (zI (pa + 1)), .int (zI fl), .ref 56, .int (zI z61)])), (56, .inl (0, 412, .inl (zA f62)))]) rfl ?_
            refine J_mask (L2 := [(54, .inr (5, [.ref 55, .int (zI ln), .int (zI z69), .int (zI z70), .int (zI z71), .int (zI z72), .int (zI (pa + 1)), .int (zI fl), .ref 56, .int (zI z61)])), (56, .inl (0, 412, .inl (zA f62)))]) (ks := [54, 54, 56]) [true, false, true] rfl (by decide +kernel) rfl ?_
            refine Z_iconst (n := 1) dX5_part_130 ?_
            exact J_iret dX5_part_131 rfl (jbn v_316afd7d0b v_bbcfac9b7d) (Nat.le_of_ble_eq_true rfl) (Nat.le_of_ble_eq_true rfl) (Or.inl ⟨z69, z70, z71, z72, (pa + 1), z61, f62, rfl, rfl, h73, h74, (v_9b2e2070a2 q4 g68 h75), h76, h77, h78, h79, (v_da458fa48a q9), (v_dc0d6dc503 h59), h63, h64, h80, h67, (v_37ad0bc16a h66 g68 h75), (v_016485883e g68 h75)⟩)
          · refine J_aload_n dX5_part_81 rfl rfl ?_
            refine J_callV (st := []) dX5_part_82 cv_X5_54 (d_wrong ln tk st bh va pa fl sz q4 (v_1adcfdfee5 q1 q5 q6) hk54) hk54 rfl rfl (Nat.le_of_ble_eq_true rfl) ⟨(Nat.le_of_ble_eq_true rfl), (Nat.le_of_ble_eq_true rfl)⟩ ⟨(Nat.le_of_ble_eq_true rfl), (Nat.le_of_ble_eq_true rfl)⟩ (fun r h9 hp => ?_)
            obtain ⟨rfl, rfl⟩ := hp
            refine J_nf (nh2 := nh) (ck2 := 0) (sk2 := 0) (st2 := [.int (zI 0)]) rfl rfl rfl rfl ?_
            refine J_app (L3 := [(54, .inr (5, [.ref 55, .int (zI ln), .int (zI tk), .int (zI st), .int (zI bh), .int (zI va), .int (zI pa), .int (zI st), .ref 56, .int (zI sz)]))]) rfl ?_
            refine J_touch (k := 56) (e := .inl (0, 412, .inl (zA cd))) hk56 ?_
            refine J_touch (k := 54) (e := .inr (5, [.ref 55, .int (zI ln), .int (zI tk), .int (zI st), .int (zI bh), .int (zI va), .int (zI pa), .int (zI st), .ref 56, .int (zI sz)])) rfl ?_
            refine J_mask (L2 := [(54, .inr (5, [.ref 55, .int (zI ln), .int (zI tk), .int (zI st), .int (zI bh), .int (zI va), .int (zI pa), .int (zI st), .ref 56, .int (zI sz)])), (56, .inl (0, 412, .inl (zA cd)))]) (ks := [54, 56, 54]) [true, true, false] rfl (by decide +kernel) rfl ?_
            exact J_iret dX5_part_85 rfl (jbn v_939070ca3f v_316afd7d0b) (Nat.le_of_ble_eq_true rfl) (Nat.le_of_ble_eq_true rfl) (Or.inr ⟨tk, st, bh, va, pa, sz, cd, st, rfl, rfl, q2, q3, q4, q5, q6, q7, q8, q9, q10, q12, q13, q14, q16, q4, (v_1adcfdfee5 q1 q5 q6)⟩)
    · refine J_aload_n dX5_part_24 rfl rfl ?_
      refine J_get (v := .int (zI va)) dX5_part_25 fl_X5_28 hk54 rfl ?_
      refine Z_sipush (n := 1000) dX5_part_28 (by decide +kernel) ?_
      refine Z_icmp_gt (tgt := 38) dX5_part_31 (by decide) (v_c986789e97 q7 q8) v_822edaa202 (fun h81 => ?_) (fun h81 => ?_)
      · refine Z_iconst (n := 0) dX5_part_38 ?_
        refine J_istore_n dX5_part_39 rfl (Nat.le_of_ble_eq_true rfl) rfl ?_
        refine J_ls (ls2 := [some (.ref 54), some (.int (zI 8)), some (.int (zI 0)), none]) rfl ?_
        refine J_aload_n dX5_part_40 rfl rfl ?_
        refine J_get (v := .int (zI tk)) dX5_part_41 fl_X5_19 hk54 rfl ?_
        refine Z_bipush (n := 7) dX5_part_44 (by decide +kernel) ?_
        refine Z_icmp_lt (tgt := 62) dX5_part_46 (by decide) (v_87f911991b h50) v_c3fe1a091f (fun h82 => absurd h82 (v_a610ec54f4 h50)) (fun h82 => ?_)
        refine J_aload_n dX5_part_49 rfl rfl ?_
        refine J_get (v := .int (zI tk)) dX5_part_50 fl_X5_19 hk54 rfl ?_
        refine Z_bipush (n := 14) dX5_part_53 (by decide +kernel) ?_
        refine Z_icmp_gt (tgt := 62) dX5_part_55 (by decide) (v_87f911991b h50) v_2a4719925a (fun h83 => ?_) (fun h83 => absurd h83 (fun q => q (v_8a408c96ed h50)))
        refine Z_iconst (n := 0) dX5_part_62 ?_
        refine J_istore_n dX5_part_63 rfl (Nat.le_of_ble_eq_true rfl) rfl ?_
        refine J_ls (ls2 := [some (.ref 54), some (.int (zI 8)), some (.int (zI 0)), some (.int (zI 0))]) rfl ?_
        refine J_iload_n dX5_part_64 rfl rfl ?_
        refine Z_if_ne (tgt := 72) dX5_part_65 (by decide) v_b17331891f (fun h84 => absurd h84 (fun q => q v_2ca2bbca1f)) (fun h84 => ?_)
        refine J_iload_n dX5_part_68 rfl rfl ?_
        refine Z_if_eq (tgt := 81) dX5_part_69 (by decide) v_b17331891f (fun h85 => ?_) (fun h85 => absurd h85 (fun q => q v_2ca2bbca1f))
        refine J_aload_n dX5_part_81 rfl rfl ?_
        refine J_callV (st := []) dX5_part_82 cv_X5_54 (d_wrong ln tk st bh va pa fl sz q4 (v_1adcfdfee5 q1 q5 q6) hk54) hk54 rfl rfl (Nat.le_of_ble_eq_true rfl) ⟨(Nat.le_of_ble_eq_true rfl), (Nat.le_of_ble_eq_true rfl)⟩ ⟨(Nat.le_of_ble_eq_true rfl), (Nat.le_of_ble_eq_true rfl)⟩ (fun r h9 hp => ?_)
        obtain ⟨rfl, rfl⟩ := hp
        refine J_nf (nh2 := nh) (ck2 := 0) (sk2 := 0) (st2 := [.int (zI 0)]) rfl rfl rfl rfl ?_
        refine J_app (L3 := [(54, .inr (5, [.ref 55, .int (zI ln), .int (zI tk), .int (zI st), .int (zI bh), .int (zI va), .int (zI pa), .int (zI st), .ref 56, .int (zI sz)]))]) rfl ?_
        refine J_touch (k := 56) (e := .inl (0, 412, .inl (zA cd))) hk56 ?_
        refine J_touch (k := 54) (e := .inr (5, [.ref 55, .int (zI ln), .int (zI tk), .int (zI st), .int (zI bh), .int (zI va), .int (zI pa), .int (zI st), .ref 56, .int (zI sz)])) rfl ?_
        refine J_mask (L2 := [(54, .inr (5, [.ref 55, .int (zI ln), .int (zI tk), .int (zI st), .int (zI bh), .int (zI va), .int (zI pa), .int (zI st), .ref 56, .int (zI sz)])), (56, .inl (0, 412, .inl (zA cd)))]) (ks := [54, 56, 54]) [true, true, false] rfl (by decide +kernel) rfl ?_
        exact J_iret dX5_part_85 rfl (jbn v_939070ca3f v_316afd7d0b) (Nat.le_of_ble_eq_true rfl) (Nat.le_of_ble_eq_true rfl) (Or.inr ⟨tk, st, bh, va, pa, sz, cd, st, rfl, rfl, q2, q3, q4, q5, q6, q7, q8, q9, q10, q12, q13, q14, q16, q4, (v_1adcfdfee5 q1 q5 q6)⟩)
      · refine Z_iconst (n := 1) dX5_part_34 ?_
        refine J_goto (tgt := 39) dX5_part_35 (by decide) ?_
        refine J_istore_n dX5_part_39 rfl (Nat.le_of_ble_eq_true rfl) rfl ?_
        refine J_ls (ls2 := [some (.ref 54), some (.int (zI 8)), some (.int (zI 1)), none]) rfl ?_
        refine J_aload_n dX5_part_40 rfl rfl ?_
        refine J_get (v := .int (zI tk)) dX5_part_41 fl_X5_19 hk54 rfl ?_
        refine Z_bipush (n := 7) dX5_part_44 (by decide +kernel) ?_
        refine Z_icmp_lt (tgt := 62) dX5_part_46 (by decide) (v_87f911991b h50) v_c3fe1a091f (fun h86 => absurd h86 (v_a610ec54f4 h50)) (fun h86 => ?_)
        refine J_aload_n dX5_part_49 rfl rfl ?_
        refine J_get (v := .int (zI tk)) dX5_part_50 fl_X5_19 hk54 rfl ?_
        refine Z_bipush (n := 14) dX5_part_53 (by decide +kernel) ?_
        refine Z_icmp_gt (tgt := 62) dX5_part_55 (by decide) (v_87f911991b h50) v_2a4719925a (fun h87 => ?_) (fun h87 => absurd h87 (fun q => q (v_8a408c96ed h50)))
        refine Z_iconst (n := 0) dX5_part_62 ?_
        refine J_istore_n dX5_part_63 rfl (Nat.le_of_ble_eq_true rfl) rfl ?_
        refine J_ls (ls2 := [some (.ref 54), some (.int (zI 8)), some (.int (zI 1)), some (.int (zI 0))]) rfl ?_
        refine J_iload_n dX5_part_64 rfl rfl ?_
        refine Z_if_ne (tgt := 72) dX5_part_65 (by decide) v_4dcc24baa7 (fun h88 => ?_) (fun h88 => absurd h88 v_3a47bfd896)
        refine J_aload_n dX5_part_72 rfl rfl ?_
        refine J_get (v := .int (zI pa)) dX5_part_73 fl_X5_31 hk54 rfl ?_
        refine Z_bipush (n := 50) dX5_part_76 (by decide +kernel) ?_
        refine Z_icmp_lt (tgt := 86) dX5_part_78 (by decide) (v_196348439e q9 q10) v_e1e0ea2c24 (fun h89 => ?_) (fun h89 => ?_)
        · refine J_aload_n dX5_part_86 rfl rfl ?_
          refine J_dup dX5_part_87 rfl ?_
          refine J_get (v := .int (zI pa)) dX5_part_88 fl_X5_31 hk54 rfl ?_
          refine Z_iconst (n := 1) dX5_part_91 ?_
          refine Z_iadd (c := pa + 1) dX5_part_92 rfl ?_
          refine K_put (fs2 := [.ref 55, .int (zI ln), .int (zI tk), .int (zI st), .int (zI bh), .int (zI va), .int (zI (pa + 1)), .int (zI fl), .ref 56, .int (zI sz)]) dX5_part_93 fw_X5_31 hk54 (Nat.le_of_ble_eq_true rfl) (fun _ => ⟨rfl, rfl⟩) rfl ?_
          refine J_iload_n dX5_part_96 rfl rfl ?_
          refine Z_if_eq (tgt := 113) dX5_part_97 (by decide) v_4dcc24baa7 (fun h90 => absurd h90 v_3a47bfd896) (fun h90 => ?_)
          refine J_aload_n dX5_part_100 rfl rfl ?_
          refine Z_iconst (n := 0) dX5_part_101 ?_
          refine J_aload_n dX5_part_102 rfl rfl ?_
          refine J_get (v := .int (zI va)) dX5_part_103 fl_X5_28 rfl rfl ?_
          refine J_callV (st := []) dX5_part_106 cv_X5_72 (d_emit 0 va ln tk st bh va (pa + 1) fl sz cd v_b17331891f (v_3f1e82a223 q7 h81) q12 q13 q16 rfl hk56) rfl rfl rfl (Nat.le_of_ble_eq_true rfl) ⟨(Nat.le_of_ble_eq_true rfl), (Nat.le_of_ble_eq_true rfl)⟩ ⟨(Nat.le_of_ble_eq_true rfl), (Nat.le_of_ble_eq_true rfl)⟩ (fun r h9 hp => ?_)
          obtain ⟨z91, f92, rfl, rfl, h93, h94, h95, h96, h97⟩ := hp
          refine J_nf (nh2 := nh) (ck2 := 0) (sk2 := 0) (st2 := [.int (zI sz)]) rfl rfl rfl rfl ?_
          refine J_app (L3 := [(54, .inr (5, [.ref 55, .int (zI ln), .int (zI tk), .int (zI st), .int (zI bh), .int (zI va), .int (zI (pa + 1)), .int (zI fl), .ref 56, .int (zI z91)])), (56, .inl (0, 412, .inl (zA f92))), (54, .inr (5, [.ref 55, .int (zI ln), .int (zI tk), .int (zI st), .int (zI bh), .int (zI va), .int (zI (pa + 1)), .int (zI fl), .ref 56, .int (zI sz)]))]) rfl ?_
          refine J_mask (L2 := [(54, .inr (5, [.ref 55, .int (zI ln), .int (zI tk), .int (zI st), .int (zI bh), .int (zI va), .int (zI (pa + 1)), .int (zI fl), .ref 56, .int (zI z91)])), (56, .inl (0, 412, .inl (zA f92)))]) (ks := [54, 56, 54]) [true, true, false] rfl (by decide +kernel) rfl ?_
          refine J_pop dX5_part_109 rfl ?_
          refine J_goto (tgt := 126) dX5_part_110 (by decide) ?_
          refine J_aload_n dX5_part_126 rfl rfl ?_
          have g98 := TokL.lt q14 (v_842fc1ac99 h50)
          refine J_callV (st := []) dX5_part_127 cv_X5_43 (d_advance ln tk st bh va (pa + 1) fl z91 tp q0 q1 (v_d253cb2c59 q4 g98) q6 q7 q8 q15 rfl hk55) rfl rfl rfl (Nat.le_of_ble_eq_true rfl) ⟨(Nat.le_of_ble_eq_true rfl), (Nat.le_of_ble_eq_true rfl)⟩ ⟨(Nat.le_of_ble_eq_true rfl), (Nat.le_of_ble_eq_true rfl)⟩ (fun r h9 hp => ?_)
          obtain ⟨z99, z100, z101, z102, rfl, rfl, h103, h104, h105, h106, h107, h108, h109, h110⟩ := hp
          refine J_nf (nh2 := nh) (ck2 := 0) (sk2 := 0) (st2 := []) rfl rfl rfl rfl ?_
          refine J_app (L3 := [(54, .inr (5, [.ref 55, .int (zI ln), .int (zI z99), .int (zI z100), .int (zI z101), .int (zI z102), .int (zI (pa + 1)), .int (zI fl), .ref 56, .int (zI z91)])), (54, .inr (5, [.ref 55, .int (zI ln), .int (zI tk), .int (zI st), .int (zI bh), .int (zI va), .int (zI (pa + 1)), .int (zI fl), .ref 56, .int (zI z91)])), (56, .inl (0, 412, .inl (zA f92)))]) rfl ?_
          refine J_mask (L2 := [(54, .inr (5, [.ref 55, .int (zI ln), .int (zI z99), .int (zI z100), .int (zI z101), .int (zI z102), .int (zI (pa + 1)), .int (zI fl), .ref 56, .int (zI z91)])), (56, .inl (0, 412, .inl (zA f92)))]) (ks := [54, 54, 56]) [true, false, true] rfl (by decide +kernel) rfl ?_
          refine Z_iconst (n := 1) dX5_part_130 ?_
          exact J_iret dX5_part_131 rfl (jbn v_316afd7d0b v_bbcfac9b7d) (Nat.le_of_ble_eq_true rfl) (Nat.le_of_ble_eq_true rfl) (Or.inl ⟨z99, z100, z101, z102, (pa + 1), z91, f92, rfl, rfl, h103, h104, (v_9b2e2070a2 q4 g98 h105), h106, h107, h108, h109, (v_da458fa48a q9), (v_dc0d6dc503 h89), h93, h94, h110, h97, (v_37ad0bc16a h96 g98 h105), (v_016485883e g98 h105)⟩)
        · refine J_aload_n dX5_part_81 rfl rfl ?_
          refine J_callV (st := []) dX5_part_82 cv_X5_54 (d_wrong ln tk st bh va pa fl sz q4 (v_1adcfdfee5 q1 q5 q6) hk54) hk54 rfl rfl (Nat.le_of_ble_eq_true rfl) ⟨(Nat.le_of_ble_eq_true rfl), (Nat.le_of_ble_eq_true rfl)⟩ ⟨(Nat.le_of_ble_eq_true rfl), (Nat.le_of_ble_eq_true rfl)⟩ (fun r h9 hp => ?_)
          obtain ⟨rfl, rfl⟩ := hp
          refine J_nf (nh2 := nh) (ck2 := 0) (sk2 := 0) (st2 := [.int (zI 0)]) rfl rfl rfl rfl ?_
          refine J_app (L3 := [(54, .inr (5, [.ref 55, .int (zI ln), .int (zI tk), .int (zI st), .int (zI bh), .int (zI va), .int (zI pa), .int (zI st), .ref 56, .int (zI sz)]))]) rfl ?_
          refine J_touch (k := 56) (e := .inl (0, 412, .inl (zA cd))) hk56 ?_
          refine J_touch (k := 54) (e := .inr (5, [.ref 55, .int (zI ln), .int (zI tk), .int (zI st), .int (zI bh), .int (zI va), .int (zI pa), .int (zI st), .ref 56, .int (zI sz)])) rfl ?_
          refine J_mask (L2 := [(54, .inr (5, [.ref 55, .int (zI ln), .int (zI tk), .int (zI st), .int (zI bh), .int (zI va), .int (zI pa), .int (zI st), .ref 56, .int (zI sz)])), (56, .inl (0, 412, .inl (zA cd)))]) (ks := [54, 56, 54]) [true, true, false] rfl (by decide +kernel) rfl ?_
          exact J_iret dX5_part_85 rfl (jbn v_939070ca3f v_316afd7d0b) (Nat.le_of_ble_eq_true rfl) (Nat.le_of_ble_eq_true rfl) (Or.inr ⟨tk, st, bh, va, pa, sz, cd, st, rfl, rfl, q2, q3, q4, q5, q6, q7, q8, q9, q10, q12, q13, q14, q16, q4, (v_1adcfdfee5 q1 q5 q6)⟩)
set_option maxHeartbeats 4000000 in
set_option maxRecDepth 100000 in
theorem d_term8 {l : Launch} {G : jG} {nh : Nat} {fh : Nat → Option va_E} (ln : Int) (tk : Int) (st : Int) (bh : Int) (va : Int) (pa : Int) (fl : Int) (sz : Int) (tp : Int → Int) (cd : Int → Int) (q0 : 0 ≤ ln) (q1 : ln ≤ 400) (q2 : 0 ≤ tk) (q3 : tk ≤ 355) (q4 : 0 ≤ st) (q5 : st ≤ bh) (q6 : bh ≤ ln) (q7 : 0 ≤ va) (q8 : va ≤ 1001) (q9 : 0 ≤ pa) (q10 : pa ≤ 50) (q11 : zr fl) (q12 : 0 ≤ sz) (q13 : sz ≤ 412) (q14 : TokL tk st bh) (q15 : Rg tp 400 0 255) (q16 : Rg cd 412 (-2147483648) 2147483647) (hk54 : fh 54 = some (.inr (5, [.ref 55, .int (zI ln), .int (zI tk), .int (zI st), .int (zI bh), .int (zI va), .int (zI pa), .int (zI fl), .ref 56, .int (zI sz)]))) (hk55 : fh 55 = some (.inl (0, 400, .inl (zA tp)))) (hk56 : fh 56 = some (.inl (0, 412, .inl (zA cd)))) : JM l G yX5_term MX5_term { frames := 7, cells := 0, slots := 0, locals := 153 } [.ref 54, .int (zI 8)] (nh, fh) (fun rr h9 => (∃ tk2 : Int, ∃ st2 : Int, ∃ bh2 : Int, ∃ va2 : Int, ∃ pa2 : Int, ∃ sz2 : Int, ∃ cd2 : Int → Int, rr = some (.int (zI 1)) ∧ h9 = (nh, hc fh [(54, .inr (5, [.ref 55, .int (zI ln), .int (zI tk2), .int (zI st2), .int (zI bh2), .int (zI va2), .int (zI pa2), .int (zI fl), .ref 56, .int (zI sz2)])), (56, .inl (0, 412, .inl (zA cd2)))]) ∧ (0 ≤ tk2) ∧ (tk2 ≤ 355) ∧ (0 ≤ st2) ∧ (st2 ≤ bh2) ∧ (bh2 ≤ ln) ∧ (0 ≤ va2) ∧ (va2 ≤ 1001) ∧ (0 ≤ pa2) ∧ (pa2 ≤ 50) ∧ (0 ≤ sz2) ∧ (sz2 ≤ 412) ∧ (TokL tk2 st2 bh2) ∧ (Rg cd2 412 (-2147483648) 2147483647) ∧ (sz2 + st ≤ sz + st2) ∧ (st ≤ st2)) ∨ (∃ tk2 : Int, ∃ st2 : Int, ∃ bh2 : Int, ∃ va2 : Int, ∃ pa2 : Int, ∃ sz2 : Int, ∃ cd2 : Int → Int, ∃ fl2 : Int, rr = some (.int (zI 0)) ∧ h9 = (nh, hc fh [(54, .inr (5, [.ref 55, .int (zI ln), .int (zI tk2), .int (zI st2), .int (zI bh2), .int (zI va2), .int (zI pa2), .int (zI fl2), .ref 56, .int (zI sz2)])), (56, .inl (0, 412, .inl (zA cd2)))]) ∧ (0 ≤ tk2) ∧ (tk2 ≤ 355) ∧ (0 ≤ st2) ∧ (st2 ≤ bh2) ∧ (bh2 ≤ ln) ∧ (0 ≤ va2) ∧ (va2 ≤ 1001) ∧ (0 ≤ pa2) ∧ (pa2 ≤ 50) ∧ (0 ≤ sz2) ∧ (sz2 ≤ 412) ∧ (TokL tk2 st2 bh2) ∧ (Rg cd2 412 (-2147483648) 2147483647) ∧ (0 ≤ fl2) ∧ (fl2 ≤ 400))) := by
  refine JM.of (by decide) rfl (fun h => by cases h) (Nat.le_of_ble_eq_true rfl) ⟨2, rfl⟩ ?_
  refine J_hc0 (J_ls (ls2 := [some (.ref 54), some (.int (zI 8)), none, none]) rfl ?_)
  refine J_aload_n dX5_term_0 rfl rfl ?_
  refine J_iload_n dX5_term_1 rfl rfl ?_
  refine J_callV (st := []) dX5_term_2 cv_X5_92 (d_part8 ln tk st bh va pa fl sz tp cd q0 q1 q2 q3 q4 q5 q6 q7 q8 q9 q10 q11 q12 q13 q14 q15 q16 hk54 hk55 hk56) hk54 rfl rfl (Nat.le_of_ble_eq_true rfl) ⟨(Nat.le_of_ble_eq_true rfl), (Nat.le_of_ble_eq_true rfl)⟩ ⟨(Nat.le_of_ble_eq_true rfl), (Nat.le_of_ble_eq_true rfl)⟩ (fun r h9 hp => ?_)
  rcases hp with ⟨z1, z2, z3, z4, z5, z6, f7, rfl, rfl, h8, h9, h10, h11, h12, h13, h14, h15, h16, h17, h18, h19, h20, h21, h22⟩ | ⟨z23, z24, z25, z26, z27, z28, f29, z30, rfl, rfl, h31, h32, h33, h34, h35, h36, h37, h38, h39, h40, h41, h42, h43, h44, h45⟩
  · refine J_nf (nh2 := nh) (ck2 := 0) (sk2 := 0) (st2 := [.int (zI 1)]) rfl rfl rfl rfl ?_
    refine J_app (L3 := [(54, .inr (5, [.ref 55, .int (zI ln), .int (zI z1), .int (zI z2), .int (zI z3), .int (zI z4), .int (zI z5), .int (zI fl), .ref 56, .int (zI z6)])), (56, .inl (0, 412, .inl (zA f7)))]) rfl ?_
    refine Z_if_ne (tgt := 10) dX5_term_5 (by decide) v_4dcc24baa7 (fun h46 => ?_) (fun h46 => absurd h46 v_3a47bfd896)
    refine Z_iconst (n := 0) dX5_term_10 ?_
    refine J_istore_n dX5_term_11 rfl (Nat.le_of_ble_eq_true rfl) rfl ?_
    refine J_ls (ls2 := [some (.ref 54), some (.int (zI 8)), some (.int (zI 0)), none]) rfl ?_
    have lp12 : ∀ (N12 : Nat) (i_12 : Int) (tx_12 : Int) (sx_12 : Int) (bx_12 : Int) (vx_12 : Int) (px_12 : Int) (zx_12 : Int) (cx_12 : Int → Int), (0 ≤ i_12) → (i_12 ≤ 400) → (zx_12 + st ≤ sz + sx_12) → (st ≤ sx_12) → (0 ≤ tx_12) → (tx_12 ≤ 355) → (0 ≤ sx_12) → (sx_12 ≤ bx_12) → (bx_12 ≤ ln) → (0 ≤ vx_12) → (vx_12 ≤ 1001) → (TokL tx_12 sx_12 bx_12) → (Rg cx_12 412 (-2147483648) 2147483647) → (0 ≤ zx_12) → (zx_12 ≤ 412) → (0 ≤ px_12) → (px_12 ≤ 50) → (400 - i_12).toNat < N12 → J l G MX5_term { frames := 7, cells := 0, slots := 0, locals := 153 } jE (jMQ G { frames := 7, cells := 0, slots := 0, locals := 153 } (fun rr h9 => (∃ tk2 : Int, ∃ st2 : Int, ∃ bh2 : Int, ∃ va2 : Int, ∃ pa2 : Int, ∃ sz2 : Int, ∃ cd2 : Int → Int, rr = some (.int (zI 1)) ∧ h9 = (nh, hc fh [(54, .inr (5, [.ref 55, .int (zI ln), .int (zI tk2), .int (zI st2), .int (zI bh2), .int (zI va2), .int (zI pa2), .int (zI fl), .ref 56, .int (zI sz2)])), (56, .inl (0, 412, .inl (zA cd2)))]) ∧ (0 ≤ tk2) ∧ (tk2 ≤ 355) ∧ (0 ≤ st2) ∧ (st2 ≤ bh2) ∧ (bh2 ≤ ln) ∧ (0 ≤ va2) ∧ (va2 ≤ 1001) ∧ (0 ≤ pa2) ∧ (pa2 ≤ 50) ∧ (0 ≤ sz2) ∧ (sz2 ≤ 412) ∧ (TokL tk2 st2 bh2) ∧ (Rg cd2 412 (-2147483648) 2147483647) ∧ (sz2 + st ≤ sz + st2) ∧ (st ≤ st2)) ∨ (∃ tk2 : Int, ∃ st2 : Int, ∃ bh2 : Int, ∃ va2 : Int, ∃ pa2 : Int, ∃ sz2 : Int, ∃ cd2 : Int → Int, ∃ fl2 : Int, rr = some (.int (zI 0)) ∧ h9 = (nh, hc fh [(54, .inr (5, [.ref 55, .int (zI ln), .int (zI tk2), .int (zI st2), .int (zI bh2), .int (zI va2), .int (zI pa2), .int (zI fl2), .ref 56, .int (zI sz2)])), (56, .inl (0, 412, .inl (zA cd2)))]) ∧ (0 ≤ tk2) ∧ (tk2 ≤ 355) ∧ (0 ≤ st2) ∧ (st2 ≤ bh2) ∧ (bh2 ≤ ln) ∧ (0 ≤ va2) ∧ (va2 ≤ 1001) ∧ (0 ≤ pa2) ∧ (pa2 ≤ 50) ∧ (0 ≤ sz2) ∧ (sz2 ≤ 412) ∧ (TokL tk2 st2 bh2) ∧ (Rg cd2 412 (-2147483648) 2147483647) ∧ (0 ≤ fl2) ∧ (fl2 ≤ 400)))) (nh, hc fh [(54, .inr (5, [.ref 55, .int (zI ln), .int (zI tx_12), .int (zI sx_12), .int (zI bx_12), .int (zI vx_12), .int (zI px_12), .int (zI fl), .ref 56, .int (zI zx_12)])), (56, .inl (0, 412, .inl (zA cx_12)))]) 0 0 12 [some (.ref 54), some (.int (zI 8)), some (.int (zI i_12)), none] [] := by
      intro N12
      induction N12 with
      | zero => intro i_12 tx_12 sx_12 bx_12 vx_12 px_12 zx_12 cx_12 i12_0 i12_1 i12_2 i12_3 i12_4 i12_5 i12_6 i12_7 i12_8 i12_9 i12_10 i12_11 i12_12 i12_13 i12_14 i12_15 i12_16 hm; exact absurd hm (Nat.not_lt_zero _)
      | succ N12 ih12 =>
        intro i_12 tx_12 sx_12 bx_12 vx_12 px_12 zx_12 cx_12 i12_0 i12_1 i12_2 i12_3 i12_4 i12_5 i12_6 i12_7 i12_8 i12_9 i12_10 i12_11 i12_12 i12_13 i12_14 i12_15 i12_16 hm12
        refine J_iload_n dX5_term_12 rfl rfl ?_
        refine Z_sipush (n := 400) dX5_term_13 (by decide +kernel) ?_
        refine Z_icmp_ge (tgt := 79) dX5_term_16 (by decide) (v_d7389cde0f i12_0 i12_1) v_d8dcd4dd52 (fun h47 => ?_) (fun h47 => ?_)
        · refine Z_iconst (n := 1) dX5_term_79 ?_
          exact J_iret dX5_term_80 rfl (jbn v_316afd7d0b v_bbcfac9b7d) (Nat.le_of_ble_eq_true rfl) (Nat.le_of_ble_eq_true rfl) (Or.inl ⟨tx_12, sx_12, bx_12, vx_12, px_12, zx_12, cx_12, rfl, rfl, i12_4, i12_5, i12_6, i12_7, i12_8, i12_9, i12_10, i12_15, i12_16, i12_13, i12_14, i12_11, i12_12, i12_2, i12_3⟩)
        · refine J_aload_n dX5_term_19 rfl rfl ?_
          refine Z_bipush (n := 42) dX5_term_20 (by decide +kernel) ?_
          refine J_callV (st := []) dX5_term_22 cv_X5_50 (d_isSign 42 ln tx_12 sx_12 bx_12 vx_12 px_12 fl zx_12 v_19b0ad2cd1 v_1f79c0c2c4 i12_4 i12_5 rfl) rfl rfl rfl (Nat.le_of_ble_eq_true rfl) ⟨(Nat.le_of_ble_eq_true rfl), (Nat.le_of_ble_eq_true rfl)⟩ ⟨(Nat.le_of_ble_eq_true rfl), (Nat.le_of_ble_eq_true rfl)⟩ (fun r h9 hp => ?_)
          rcases hp with ⟨rfl, rfl, h48⟩ | ⟨rfl, rfl, h49⟩
          · refine J_nf (nh2 := nh) (ck2 := 0) (sk2 := 0) (st2 := [.int (zI 1)]) rfl rfl rfl rfl ?_
            refine Z_if_ne (tgt := 37) dX5_term_25 (by decide) v_4dcc24baa7 (fun h50 => ?_) (fun h50 => absurd h50 v_3a47bfd896)
            refine J_aload_n dX5_term_37 rfl rfl ?_
            refine Z_bipush (n := 42) dX5_term_38 (by decide +kernel) ?_
            refine J_callV (st := []) dX5_term_40 cv_X5_50 (d_isSign 42 ln tx_12 sx_12 bx_12 vx_12 px_12 fl zx_12 v_19b0ad2cd1 v_1f79c0c2c4 i12_4 i12_5 rfl) rfl rfl rfl (Nat.le_of_ble_eq_true rfl) ⟨(Nat.le_of_ble_eq_true rfl), (Nat.le_of_ble_eq_true rfl)⟩ ⟨(Nat.le_of_ble_eq_true rfl), (Nat.le_of_ble_eq_true rfl)⟩ (fun r h9 hp => ?_)
            rcases hp with ⟨rfl, rfl, h51⟩ | ⟨rfl, rfl, h52⟩
            · refine J_nf (nh2 := nh) (ck2 := 0) (sk2 := 0) (st2 := [.int (zI 1)]) rfl rfl rfl rfl ?_
              refine Z_if_eq (tgt := 50) dX5_term_43 (by decide) v_4dcc24baa7 (fun h53 => absurd h53 v_3a47bfd896) (fun h53 => ?_)
              refine Z_iconst (n := 4) dX5_term_46 ?_
              refine J_goto (tgt := 51) dX5_term_47 (by decide) ?_
              refine J_istore_n dX5_term_51 rfl (Nat.le_of_ble_eq_true rfl) rfl ?_
              refine J_ls (ls2 := [some (.ref 54), some (.int (zI 8)), some (.int (zI i_12)), some (.int (zI 4))]) rfl ?_
              refine J_aload_n dX5_term_52 rfl rfl ?_
              have g54 := TokL.lt i12_11 (v_4a9f236eb2 h48)
              refine J_callV (st := []) dX5_term_53 cv_X5_43 (d_advance ln tx_12 sx_12 bx_12 vx_12 px_12 fl zx_12 tp q0 q1 (v_d253cb2c59 i12_6 g54) i12_8 i12_9 i12_10 q15 rfl hk55) rfl rfl rfl (Nat.le_of_ble_eq_true rfl) ⟨(Nat.le_of_ble_eq_true rfl), (Nat.le_of_ble_eq_true rfl)⟩ ⟨(Nat.le_of_ble_eq_true rfl), (Nat.le_of_ble_eq_true rfl)⟩ (fun r h9 hp => ?_)
              obtain ⟨z55, z56, z57, z58, rfl, rfl, h59, h60, h61, h62, h63, h64, h65, h66⟩ := hp
              refine J_nf (nh2 := nh) (ck2 := 0) (sk2 := 0) (st2 := []) rfl rfl rfl rfl ?_
              refine J_app (L3 := [(54, .inr (5, [.ref 55, .int (zI ln), .int (zI z55), .int (zI z56), .int (zI z57), .int (zI z58), .int (zI px_12), .int (zI fl), .ref 56, .int (zI zx_12)])), (54, .inr (5, [.ref 55, .int (zI ln), .int (zI tx_12), .int (zI sx_12), .int (zI bx_12), .int (zI vx_12), .int (zI px_12), .int (zI fl), .ref 56, .int (zI zx_12)])), (56, .inl (0, 412, .inl (zA cx_12)))]) rfl ?_
              refine J_mask (L2 := [(54, .inr (5, [.ref 55, .int (zI ln), .int (zI z55), .int (zI z56), .int (zI z57), .int (zI z58), .int (zI px_12), .int (zI fl), .ref 56, .int (zI zx_12)])), (56, .inl (0, 412, .inl (zA cx_12)))]) (ks := [54, 54, 56]) [true, false, true] rfl (by decide +kernel) rfl ?_
              refine J_aload_n dX5_term_56 rfl rfl ?_
              refine J_iload_n dX5_term_57 rfl rfl ?_
              refine J_callV (st := []) dX5_term_58 cv_X5_92 (d_part8 ln z55 z56 z57 z58 px_12 fl zx_12 tp cx_12 q0 q1 h59 h60 (v_9b2e2070a2 i12_6 g54 h61) h62 h63 h64 h65 i12_15 i12_16 q11 i12_13 i12_14 h66 q15 i12_12 rfl hk55 rfl) rfl rfl rfl (Nat.le_of_ble_eq_true rfl) ⟨(Nat.le_of_ble_eq_true rfl), (Nat.le_of_ble_eq_true rfl)⟩ ⟨(Nat.le_of_ble_eq_true rfl), (Nat.le_of_ble_eq_true rfl)⟩ (fun r h9 hp => ?_)
              rcases hp with ⟨z67, z68, z69, z70, z71, z72, f73, rfl, rfl, h74, h75, h76, h77, h78, h79, h80, h81, h82, h83, h84, h85, h86, h87, h88⟩ | ⟨z89, z90, z91, z92, z93, z94, f95, z96, rfl, rfl, h97, h98, h99, h100, h101, h102, h103, h104, h105, h106, h107, h108, h109, h110, h111⟩
              · refine J_nf (nh2 := nh) (ck2 := 0) (sk2 := 0) (st2 := [.int (zI 1)]) rfl rfl rfl rfl ?_
                refine J_app (L3 := [(54, .inr (5, [.ref 55, .int (zI ln), .int (zI z67), .int (zI z68), .int (zI z69), .int (zI z70), .int (zI z71), .int (zI fl), .ref 56, .int (zI z72)])), (56, .inl (0, 412, .inl (zA f73))), (54, .inr (5, [.ref 55, .int (zI ln), .int (zI z55), .int (zI z56), .int (zI z57), .int (zI z58), .int (zI px_12), .int (zI fl), .ref 56, .int (zI zx_12)])), (56, .inl (0, 412, .inl (zA cx_12)))]) rfl ?_
                refine J_mask (L2 := [(54, .inr (5, [.ref 55, .int (zI ln), .int (zI z67), .int (zI z68), .int (zI z69), .int (zI z70), .int (zI z71), .int (zI fl), .ref 56, .int (zI z72)])), (56, .inl (0, 412, .inl (zA f73)))]) (ks := [54, 56, 54, 56]) [true, true, false, false] rfl (by decide +kernel) rfl ?_
                refine Z_if_ne (tgt := 66) dX5_term_61 (by decide) v_4dcc24baa7 (fun h112 => ?_) (fun h112 => absurd h112 v_3a47bfd896)
                refine J_aload_n dX5_term_66 rfl rfl ?_
                refine J_iload_n dX5_term_67 rfl rfl ?_
                refine Z_iconst (n := 0) dX5_term_68 ?_
                refine J_callV (st := []) dX5_term_69 cv_X5_72 (d_emit 4 0 ln z67 z68 z69 z70 z71 fl z72 f73 v_ffb526fa28 v_b17331891f h83 h84 h86 rfl rfl) rfl rfl rfl (Nat.le_of_ble_eq_true rfl) ⟨(Nat.le_of_ble_eq_true rfl), (Nat.le_of_ble_eq_true rfl)⟩ ⟨(Nat.le_of_ble_eq_true rfl), (Nat.le_of_ble_eq_true rfl)⟩ (fun r h9 hp => ?_)
                obtain ⟨z113, f114, rfl, rfl, h115, h116, h117, h118, h119⟩ := hp
                refine J_nf (nh2 := nh) (ck2 := 0) (sk2 := 0) (st2 := [.int (zI z72)]) rfl rfl rfl rfl ?_
                refine J_app (L3 := [(54, .inr (5, [.ref 55, .int (zI ln), .int (zI z67), .int (zI z68), .int (zI z69), .int (zI z70), .int (zI z71), .int (zI fl), .ref 56, .int (zI z113)])), (56, .inl (0, 412, .inl (zA f114))), (54, .inr (5, [.ref 55, .int (zI ln), .int (zI z67), .int (zI z68), .int (zI z69), .int (zI z70), .int (zI z71), .int (zI fl), .ref 56, .int (zI z72)])), (56, .inl (0, 412, .inl (zA f73)))]) rfl ?_
                refine J_mask (L2 := [(54, .inr (5, [.ref 55, .int (zI ln), .int (zI z67), .int (zI z68), .int (zI z69), .int (zI z70), .int (zI z71), .int (zI fl), .ref 56, .int (zI z113)])), (56, .inl (0, 412, .inl (zA f114)))]) (ks := [54, 56, 54, 56]) [true, true, false, false] rfl (by decide +kernel) rfl ?_
                refine J_pop dX5_term_72 rfl ?_
                refine Z_iinc (c := i_12 + 1) (ls2 := [some (.ref 54), some (.int (zI 8)), some (.int (zI (i_12 + 1))), some (.int (zI 4))]) dX5_term_73 rfl (Nat.le_of_ble_eq_true rfl) rfl rfl rfl ?_
                refine J_goto (tgt := 12) dX5_term_76 (by decide) ?_
                refine J_drop (ls2 := [some (.ref 54), some (.int (zI 8)), some (.int (zI (i_12 + 1))), none]) [true, true, true, false] rfl ?_
                exact ih12 (i_12 + 1) z67 z68 z69 z70 z71 z113 f114 (v_da458fa48a i12_0) (v_6924477667 h47) (v_5af1455273 i12_2 g54 h61 h87 h118) (v_269579bf42 i12_3 g54 h61 h88) h74 h75 h76 h77 h78 h79 h80 h85 h119 h115 h116 h81 h82 (meas_lt v_ceb2ed6d2b (v_44ddc35e90 h47) hm12)
              · refine J_nf (nh2 := nh) (ck2 := 0) (sk2 := 0) (st2 := [.int (zI 0)]) rfl rfl rfl rfl ?_
                refine J_app (L3 := [(54, .inr (5, [.ref 55, .int (zI ln), .int (zI z89), .int (zI z90), .int (zI z91), .int (zI z92), .int (zI z93), .int (zI z96), .ref 56, .int (zI z94)])), (56, .inl (0, 412, .inl (zA f95))), (54, .inr (5, [.ref 55, .int (zI ln), .int (zI z55), .int (zI z56), .int (zI z57), .int (zI z58), .int (zI px_12), .int (zI fl), .ref 56, .int (zI zx_12)])), (56, .inl (0, 412, .inl (zA cx_12)))]) rfl ?_
                refine J_mask (L2 := [(54, .inr (5, [.ref 55, .int (zI ln), .int (zI z89), .int (zI z90), .int (zI z91), .int (zI z92), .int (zI z93), .int (zI z96), .ref 56, .int (zI z94)])), (56, .inl (0, 412, .inl (zA f95)))]) (ks := [54, 56, 54, 56]) [true, true, false, false] rfl (by decide +kernel) rfl ?_
                refine Z_if_ne (tgt := 66) dX5_term_61 (by decide) v_b17331891f (fun h120 => absurd h120 (fun q => q v_2ca2bbca1f)) (fun h120 => ?_)
                refine Z_iconst (n := 0) dX5_term_64 ?_
                exact J_iret dX5_term_65 rfl (jbn v_939070ca3f v_316afd7d0b) (Nat.le_of_ble_eq_true rfl) (Nat.le_of_ble_eq_true rfl) (Or.inr ⟨z89, z90, z91, z92, z93, z94, f95, z96, rfl, rfl, h97, h98, h99, h100, h101, h102, h103, h104, h105, h106, h107, h108, h109, h110, h111⟩)
            · exact False.elim (v_dc1247e06b h48 h52)
          · refine J_nf (nh2 := nh) (ck2 := 0) (sk2 := 0) (st2 := [.int (zI 0)]) rfl rfl rfl rfl ?_
            refine Z_if_ne (tgt := 37) dX5_term_25 (by decide) v_b17331891f (fun h121 => absurd h121 (fun q => q v_2ca2bbca1f)) (fun h121 => ?_)
            refine J_aload_n dX5_term_28 rfl rfl ?_
            refine Z_bipush (n := 47) dX5_term_29 (by decide +kernel) ?_
            refine J_callV (st := []) dX5_term_31 cv_X5_50 (d_isSign 47 ln tx_12 sx_12 bx_12 vx_12 px_12 fl zx_12 v_a2835897db v_8710bb8462 i12_4 i12_5 rfl) rfl rfl rfl (Nat.le_of_ble_eq_true rfl) ⟨(Nat.le_of_ble_eq_true rfl), (Nat.le_of_ble_eq_true rfl)⟩ ⟨(Nat.le_of_ble_eq_true rfl), (Nat.le_of_ble_eq_true rfl)⟩ (fun r h9 hp => ?_)
            rcases hp with ⟨rfl, rfl, h122⟩ | ⟨rfl, rfl, h123⟩
            · refine J_nf (nh2 := nh) (ck2 := 0) (sk2 := 0) (st2 := [.int (zI 1)]) rfl rfl rfl rfl ?_
              refine Z_if_eq (tgt := 79) dX5_term_34 (by decide) v_4dcc24baa7 (fun h124 => absurd h124 v_3a47bfd896) (fun h124 => ?_)
              refine J_aload_n dX5_term_37 rfl rfl ?_
              refine Z_bipush (n := 42) dX5_term_38 (by decide +kernel) ?_
              refine J_callV (st := []) dX5_term_40 cv_X5_50 (d_isSign 42 ln tx_12 sx_12 bx_12 vx_12 px_12 fl zx_12 v_19b0ad2cd1 v_1f79c0c2c4 i12_4 i12_5 rfl) rfl rfl rfl (Nat.le_of_ble_eq_true rfl) ⟨(Nat.le_of_ble_eq_true rfl), (Nat.le_of_ble_eq_true rfl)⟩ ⟨(Nat.le_of_ble_eq_true rfl), (Nat.le_of_ble_eq_true rfl)⟩ (fun r h9 hp => ?_)
              rcases hp with ⟨rfl, rfl, h125⟩ | ⟨rfl, rfl, h126⟩
              · exact False.elim (v_4c7f0d169f h122 h125)
              · refine J_nf (nh2 := nh) (ck2 := 0) (sk2 := 0) (st2 := [.int (zI 0)]) rfl rfl rfl rfl ?_
                refine Z_if_eq (tgt := 50) dX5_term_43 (by decide) v_b17331891f (fun h127 => ?_) (fun h127 => absurd h127 (fun q => q v_2ca2bbca1f))
                refine Z_iconst (n := 5) dX5_term_50 ?_
                refine J_istore_n dX5_term_51 rfl (Nat.le_of_ble_eq_true rfl) rfl ?_
                refine J_ls (ls2 := [some (.ref 54), some (.int (zI 8)), some (.int (zI i_12)), some (.int (zI 5))]) rfl ?_
                refine J_aload_n dX5_term_52 rfl rfl ?_
                have g128 := TokL.lt i12_11 (v_6abada17c7 h122)
                refine J_callV (st := []) dX5_term_53 cv_X5_43 (d_advance ln tx_12 sx_12 bx_12 vx_12 px_12 fl zx_12 tp q0 q1 (v_d253cb2c59 i12_6 g128) i12_8 i12_9 i12_10 q15 rfl hk55) rfl rfl rfl (Nat.le_of_ble_eq_true rfl) ⟨(Nat.le_of_ble_eq_true rfl), (Nat.le_of_ble_eq_true rfl)⟩ ⟨(Nat.le_of_ble_eq_true rfl), (Nat.le_of_ble_eq_true rfl)⟩ (fun r h9 hp => ?_)
                obtain ⟨z129, z130, z131, z132, rfl, rfl, h133, h134, h135, h136, h137, h138, h139, h140⟩ := hp
                refine J_nf (nh2 := nh) (ck2 := 0) (sk2 := 0) (st2 := []) rfl rfl rfl rfl ?_
                refine J_app (L3 := [(54, .inr (5, [.ref 55, .int (zI ln), .int (zI z129), .int (zI z130), .int (zI z131), .int (zI z132), .int (zI px_12), .int (zI fl), .ref 56, .int (zI zx_12)])), (54, .inr (5, [.ref 55, .int (zI ln), .int (zI tx_12), .int (zI sx_12), .int (zI bx_12), .int (zI vx_12), .int (zI px_12), .int (zI fl), .ref 56, .int (zI zx_12)])), (56, .inl (0, 412, .inl (zA cx_12)))]) rfl ?_
                refine J_mask (L2 := [(54, .inr (5, [.ref 55, .int (zI ln), .int (zI z129), .int (zI z130), .int (zI z131), .int (zI z132), .int (zI px_12), .int (zI fl), .ref 56, .int (zI zx_12)])), (56, .inl (0, 412, .inl (zA cx_12)))]) (ks := [54, 54, 56]) [true, false, true] rfl (by decide +kernel) rfl ?_
                refine J_aload_n dX5_term_56 rfl rfl ?_
                refine J_iload_n dX5_term_57 rfl rfl ?_
                refine J_callV (st := []) dX5_term_58 cv_X5_92 (d_part8 ln z129 z130 z131 z132 px_12 fl zx_12 tp cx_12 q0 q1 h133 h134 (v_9b2e2070a2 i12_6 g128 h135) h136 h137 h138 h139 i12_15 i12_16 q11 i12_13 i12_14 h140 q15 i12_12 rfl hk55 rfl) rfl rfl rfl (Nat.le_of_ble_eq_true rfl) ⟨(Nat.le_of_ble_eq_true rfl), (Nat.le_of_ble_eq_true rfl)⟩ ⟨(Nat.le_of_ble_eq_true rfl), (Nat.le_of_ble_eq_true rfl)⟩ (fun r h9 hp => ?_)
                rcases hp with ⟨z141, z142, z143, z144, z145, z146, f147, rfl, rfl, h148, h149, h150, h151, h152, h153, h154, h155, h156, h157, h158, h159, h160, h161, h162⟩ | ⟨z163, z164, z165, z166, z167, z168, f169, z170, rfl, rfl, h171, h172, h173, h174, h175, h176, h177, h178, h179, h180, h181, h182, h183, h184, h185⟩
                · refine J_nf (nh2 := nh) (ck2 := 0) (sk2 := 0) (st2 := [.int (zI 1)]) rfl rfl rfl rfl ?_
                  refine J_app (L3 := [(54, .inr (5, [.ref 55, .int (zI ln), .int (zI z141), .int (zI z142), .int (zI z143), .int (zI z144), .int (zI z145), .int (zI fl), .ref 56, .int (zI z146)])), (56, .inl (0, 412, .inl (zA f147))), (54, .inr (5, [.ref 55, .int (zI ln), .int (zI z129), .int (zI z130), .int (zI z131), .int (zI z132), .int (zI px_12), .int (zI fl), .ref 56, .int (zI zx_12)])), (56, .inl (0, 412, .inl (zA cx_12)))]) rfl ?_
                  refine J_mask (L2 := [(54, .inr (5, [.ref 55, .int (zI ln), .int (zI z141), .int (zI z142), .int (zI z143), .int (zI z144), .int (zI z145), .int (zI fl), .ref 56, .int (zI z146)])), (56, .inl (0, 412, .inl (zA f147)))]) (ks := [54, 56, 54, 56]) [true, true, false, false] rfl (by decide +kernel) rfl ?_
                  refine Z_if_ne (tgt := 66) dX5_term_61 (by decide) v_4dcc24baa7 (fun h186 => ?_) (fun h186 => absurd h186 v_3a47bfd896)
                  refine J_aload_n dX5_term_66 rfl rfl ?_
                  refine J_iload_n dX5_term_67 rfl rfl ?_
                  refine Z_iconst (n := 0) dX5_term_68 ?_
                  refine J_callV (st := []) dX5_term_69 cv_X5_72 (d_emit 5 0 ln z141 z142 z143 z144 z145 fl z146 f147 v_3961fe0d0d v_b17331891f h157 h158 h160 rfl rfl) rfl rfl rfl (Nat.le_of_ble_eq_true rfl) ⟨(Nat.le_of_ble_eq_true rfl), (Nat.le_of_ble_eq_true rfl)⟩ ⟨(Nat.le_of_ble_eq_true rfl), (Nat.le_of_ble_eq_true rfl)⟩ (fun r h9 hp => ?_)
                  obtain ⟨z187, f188, rfl, rfl, h189, h190, h191, h192, h193⟩ := hp
                  refine J_nf (nh2 := nh) (ck2 := 0) (sk2 := 0) (st2 := [.int (zI z146)]) rfl rfl rfl rfl ?_
                  refine J_app (L3 := [(54, .inr (5, [.ref 55, .int (zI ln), .int (zI z141), .int (zI z142), .int (zI z143), .int (zI z144), .int (zI z145), .int (zI fl), .ref 56, .int (zI z187)])), (56, .inl (0, 412, .inl (zA f188))), (54, .inr (5, [.ref 55, .int (zI ln), .int (zI z141), .int (zI z142), .int (zI z143), .int (zI z144), .int (zI z145), .int (zI fl), .ref 56, .int (zI z146)])), (56, .inl (0, 412, .inl (zA f147)))]) rfl ?_
                  refine J_mask (L2 := [(54, .inr (5, [.ref 55, .int (zI ln), .int (zI z141), .int (zI z142), .int (zI z143), .int (zI z144), .int (zI z145), .int (zI fl), .ref 56, .int (zI z187)])), (56, .inl (0, 412, .inl (zA f188)))]) (ks := [54, 56, 54, 56]) [true, true, false, false] rfl (by decide +kernel) rfl ?_
                  refine J_pop dX5_term_72 rfl ?_
                  refine Z_iinc (c := i_12 + 1) (ls2 := [some (.ref 54), some (.int (zI 8)), some (.int (zI (i_12 + 1))), some (.int (zI 5))]) dX5_term_73 rfl (Nat.le_of_ble_eq_true rfl) rfl rfl rfl ?_
                  refine J_goto (tgt := 12) dX5_term_76 (by decide) ?_
                  refine J_drop (ls2 := [some (.ref 54), some (.int (zI 8)), some (.int (zI (i_12 + 1))), none]) [true, true, true, false] rfl ?_
                  exact ih12 (i_12 + 1) z141 z142 z143 z144 z145 z187 f188 (v_da458fa48a i12_0) (v_6924477667 h47) (v_5af1455273 i12_2 g128 h135 h161 h192) (v_269579bf42 i12_3 g128 h135 h162) h148 h149 h150 h151 h152 h153 h154 h159 h193 h189 h190 h155 h156 (meas_lt v_ceb2ed6d2b (v_44ddc35e90 h47) hm12)
                · refine J_nf (nh2 := nh) (ck2 := 0) (sk2 := 0) (st2 := [.int (zI 0)]) rfl rfl rfl rfl ?_
                  refine J_app (L3 := [(54, .inr (5, [.ref 55, .int (zI ln), .int (zI z163), .int (zI z164), .int (zI z165), .int (zI z166), .int (zI z167), .int (zI z170), .ref 56, .int (zI z168)])), (56, .inl (0, 412, .inl (zA f169))), (54, .inr (5, [.ref 55, .int (zI ln), .int (zI z129), .int (zI z130), .int (zI z131), .int (zI z132), .int (zI px_12), .int (zI fl), .ref 56, .int (zI zx_12)])), (56, .inl (0, 412, .inl (zA cx_12)))]) rfl ?_
                  refine J_mask (L2 := [(54, .inr (5, [.ref 55, .int (zI ln), .int (zI z163), .int (zI z164), .int (zI z165), .int (zI z166), .int (zI z167), .int (zI z170), .ref 56, .int (zI z168)])), (56, .inl (0, 412, .inl (zA f169)))]) (ks := [54, 56, 54, 56]) [true, true, false, false] rfl (by decide +kernel) rfl ?_
                  refine Z_if_ne (tgt := 66) dX5_term_61 (by decide) v_b17331891f (fun h194 => absurd h194 (fun q => q v_2ca2bbca1f)) (fun h194 => ?_)
                  refine Z_iconst (n := 0) dX5_term_64 ?_
                  exact J_iret dX5_term_65 rfl (jbn v_939070ca3f v_316afd7d0b) (Nat.le_of_ble_eq_true rfl) (Nat.le_of_ble_eq_true rfl) (Or.inr ⟨z163, z164, z165, z166, z167, z168, f169, z170, rfl, rfl, h171, h172, h173, h174, h175, h176, h177, h178, h179, h180, h181, h182, h183, h184, h185⟩)
            · refine J_nf (nh2 := nh) (ck2 := 0) (sk2 := 0) (st2 := [.int (zI 0)]) rfl rfl rfl rfl ?_
              refine Z_if_eq (tgt := 79) dX5_term_34 (by decide) v_b17331891f (fun h195 => ?_) (fun h195 => absurd h195 (fun q => q v_2ca2bbca1f))
              refine Z_iconst (n := 1) dX5_term_79 ?_
              exact J_iret dX5_term_80 rfl (jbn v_316afd7d0b v_bbcfac9b7d) (Nat.le_of_ble_eq_true rfl) (Nat.le_of_ble_eq_true rfl) (Or.inl ⟨tx_12, sx_12, bx_12, vx_12, px_12, zx_12, cx_12, rfl, rfl, i12_4, i12_5, i12_6, i12_7, i12_8, i12_9, i12_10, i12_15, i12_16, i12_13, i12_14, i12_11, i12_12, i12_2, i12_3⟩)
    exact lp12 _ 0 z1 z2 z3 z4 z5 z6 f7 v_939070ca3f v_5ab96f7b5e h21 h22 h8 h9 h10 h11 h12 h13 h14 h19 h20 h17 h18 h15 h16 (Nat.lt_succ_self _)
  · refine J_nf (nh2 := nh) (ck2 := 0) (sk2 := 0) (st2 := [.int (zI 0)]) rfl rfl rfl rfl ?_
    refine J_app (L3 := [(54, .inr (5, [.ref 55, .int (zI ln), .int (zI z23), .int (zI z24), .int (zI z25), .int (zI z26), .int (zI z27), .int (zI z30), .ref 56, .int (zI z28)])), (56, .inl (0, 412, .inl (zA f29)))]) rfl ?_
    refine Z_if_ne (tgt := 10) dX5_term_5 (by decide) v_b17331891f (fun h196 => absurd h196 (fun q => q v_2ca2bbca1f)) (fun h196 => ?_)
    refine Z_iconst (n := 0) dX5_term_8 ?_
    exact J_iret dX5_term_9 rfl (jbn v_939070ca3f v_316afd7d0b) (Nat.le_of_ble_eq_true rfl) (Nat.le_of_ble_eq_true rfl) (Or.inr ⟨z23, z24, z25, z26, z27, z28, f29, z30, rfl, rfl, h31, h32, h33, h34, h35, h36, h37, h38, h39, h40, h41, h42, h43, h44, h45⟩)
set_option maxHeartbeats 4000000 in
set_option maxRecDepth 100000 in
theorem d_sum8 {l : Launch} {G : jG} {nh : Nat} {fh : Nat → Option va_E} (ln : Int) (tk : Int) (st : Int) (bh : Int) (va : Int) (pa : Int) (fl : Int) (sz : Int) (tp : Int → Int) (cd : Int → Int) (q0 : 0 ≤ ln) (q1 : ln ≤ 400) (q2 : 0 ≤ tk) (q3 : tk ≤ 355) (q4 : 0 ≤ st) (q5 : st ≤ bh) (q6 : bh ≤ ln) (q7 : 0 ≤ va) (q8 : va ≤ 1001) (q9 : 0 ≤ pa) (q10 : pa ≤ 50) (q11 : zr fl) (q12 : 0 ≤ sz) (q13 : sz ≤ 412) (q14 : TokL tk st bh) (q15 : Rg tp 400 0 255) (q16 : Rg cd 412 (-2147483648) 2147483647) (hk54 : fh 54 = some (.inr (5, [.ref 55, .int (zI ln), .int (zI tk), .int (zI st), .int (zI bh), .int (zI va), .int (zI pa), .int (zI fl), .ref 56, .int (zI sz)]))) (hk55 : fh 55 = some (.inl (0, 400, .inl (zA tp)))) (hk56 : fh 56 = some (.inl (0, 412, .inl (zA cd)))) : JM l G yX5_sum MX5_sum { frames := 8, cells := 0, slots := 0, locals := 176 } [.ref 54, .int (zI 8)] (nh, fh) (fun rr h9 => (∃ tk2 : Int, ∃ st2 : Int, ∃ bh2 : Int, ∃ va2 : Int, ∃ pa2 : Int, ∃ sz2 : Int, ∃ cd2 : Int → Int, rr = some (.int (zI 1)) ∧ h9 = (nh, hc fh [(54, .inr (5, [.ref 55, .int (zI ln), .int (zI tk2), .int (zI st2), .int (zI bh2), .int (zI va2), .int (zI pa2), .int (zI fl), .ref 56, .int (zI sz2)])), (56, .inl (0, 412, .inl (zA cd2)))]) ∧ (0 ≤ tk2) ∧ (tk2 ≤ 355) ∧ (0 ≤ st2) ∧ (st2 ≤ bh2) ∧ (bh2 ≤ ln) ∧ (0 ≤ va2) ∧ (va2 ≤ 1001) ∧ (0 ≤ pa2) ∧ (pa2 ≤ 50) ∧ (0 ≤ sz2) ∧ (sz2 ≤ 412) ∧ (TokL tk2 st2 bh2) ∧ (Rg cd2 412 (-2147483648) 2147483647) ∧ (sz2 + st ≤ sz + st2) ∧ (st ≤ st2)) ∨ (∃ tk2 : Int, ∃ st2 : Int, ∃ bh2 : Int, ∃ va2 : Int, ∃ pa2 : Int, ∃ sz2 : Int, ∃ cd2 : Int → Int, ∃ fl2 : Int, rr = some (.int (zI 0)) ∧ h9 = (nh, hc fh [(54, .inr (5, [.ref 55, .int (zI ln), .int (zI tk2), .int (zI st2), .int (zI bh2), .int (zI va2), .int (zI pa2), .int (zI fl2), .ref 56, .int (zI sz2)])), (56, .inl (0, 412, .inl (zA cd2)))]) ∧ (0 ≤ tk2) ∧ (tk2 ≤ 355) ∧ (0 ≤ st2) ∧ (st2 ≤ bh2) ∧ (bh2 ≤ ln) ∧ (0 ≤ va2) ∧ (va2 ≤ 1001) ∧ (0 ≤ pa2) ∧ (pa2 ≤ 50) ∧ (0 ≤ sz2) ∧ (sz2 ≤ 412) ∧ (TokL tk2 st2 bh2) ∧ (Rg cd2 412 (-2147483648) 2147483647) ∧ (0 ≤ fl2) ∧ (fl2 ≤ 400))) := by
  refine JM.of (by decide) rfl (fun h => by cases h) (Nat.le_of_ble_eq_true rfl) ⟨2, rfl⟩ ?_
  refine J_hc0 (J_ls (ls2 := [some (.ref 54), some (.int (zI 8)), none, none]) rfl ?_)
  refine J_aload_n dX5_sum_0 rfl rfl ?_
  refine J_iload_n dX5_sum_1 rfl rfl ?_
  refine J_callV (st := []) dX5_sum_2 cv_X5_89 (d_term8 ln tk st bh va pa fl sz tp cd q0 q1 q2 q3 q4 q5 q6 q7 q8 q9 q10 q11 q12 q13 q14 q15 q16 hk54 hk55 hk56) hk54 rfl rfl (Nat.le_of_ble_eq_true rfl) ⟨(Nat.le_of_ble_eq_true rfl), (Nat.le_of_ble_eq_true rfl)⟩ ⟨(Nat.le_of_ble_eq_true rfl), (Nat.le_of_ble_eq_true rfl)⟩ (fun r h9 hp => ?_)
  rcases hp with ⟨z1, z2, z3, z4, z5, z6, f7, rfl, rfl, h8, h9, h10, h11, h12, h13, h14, h15, h16, h17, h18, h19, h20, h21, h22⟩ | ⟨z23, z24, z25, z26, z27, z28, f29, z30, rfl, rfl, h31, h32, h33, h34, h35, h36, h37, h38, h39, h40, h41, h42, h43, h44, h45⟩
  · refine J_nf (nh2 := nh) (ck2 := 0) (sk2 := 0) (st2 := [.int (zI 1)]) rfl rfl rfl rfl ?_
    refine J_app (L3 := [(54, .inr (5, [.ref 55, .int (zI ln), .int (zI z1), .int (zI z2), .int (zI z3), .int (zI z4), .int (zI z5), .int (zI fl), .ref 56, .int (zI z6)])), (56, .inl (0, 412, .inl (zA f7)))]) rfl ?_
    refine Z_if_ne (tgt := 10) dX5_sum_5 (by decide) v_4dcc24baa7 (fun h46 => ?_) (fun h46 => absurd h46 v_3a47bfd896)
    refine Z_iconst (n := 0) dX5_sum_10 ?_
    refine J_istore_n dX5_sum_11 rfl (Nat.le_of_ble_eq_true rfl) rfl ?_
    refine J_ls (ls2 := [some (.ref 54), some (.int (zI 8)), some (.int (zI 0)), none]) rfl ?_
    have lp12 : ∀ (N12 : Nat) (i_12 : Int) (tx_12 : Int) (sx_12 : Int) (bx_12 : Int) (vx_12 : Int) (px_12 : Int) (zx_12 : Int) (cx_12 : Int → Int), (0 ≤ i_12) → (i_12 ≤ 400) → (zx_12 + st ≤ sz + sx_12) → (st ≤ sx_12) → (0 ≤ tx_12) → (tx_12 ≤ 355) → (0 ≤ sx_12) → (sx_12 ≤ bx_12) → (bx_12 ≤ ln) → (0 ≤ vx_12) → (vx_12 ≤ 1001) → (TokL tx_12 sx_12 bx_12) → (Rg cx_12 412 (-2147483648) 2147483647) → (0 ≤ zx_12) → (zx_12 ≤ 412) → (0 ≤ px_12) → (px_12 ≤ 50) → (400 - i_12).toNat < N12 → J l G MX5_sum { frames := 8, cells := 0, slots := 0, locals := 176 } jE (jMQ G { frames := 8, cells := 0, slots := 0, locals := 176 } (fun rr h9 => (∃ tk2 : Int, ∃ st2 : Int, ∃ bh2 : Int, ∃ va2 : Int, ∃ pa2 : Int, ∃ sz2 : Int, ∃ cd2 : Int → Int, rr = some (.int (zI 1)) ∧ h9 = (nh, hc fh [(54, .inr (5, [.ref 55, .int (zI ln), .int (zI tk2), .int (zI st2), .int (zI bh2), .int (zI va2), .int (zI pa2), .int (zI fl), .ref 56, .int (zI sz2)])), (56, .inl (0, 412, .inl (zA cd2)))]) ∧ (0 ≤ tk2) ∧ (tk2 ≤ 355) ∧ (0 ≤ st2) ∧ (st2 ≤ bh2) ∧ (bh2 ≤ ln) ∧ (0 ≤ va2) ∧ (va2 ≤ 1001) ∧ (0 ≤ pa2) ∧ (pa2 ≤ 50) ∧ (0 ≤ sz2) ∧ (sz2 ≤ 412) ∧ (TokL tk2 st2 bh2) ∧ (Rg cd2 412 (-2147483648) 2147483647) ∧ (sz2 + st ≤ sz + st2) ∧ (st ≤ st2)) ∨ (∃ tk2 : Int, ∃ st2 : Int, ∃ bh2 : Int, ∃ va2 : Int, ∃ pa2 : Int, ∃ sz2 : Int, ∃ cd2 : Int → Int, ∃ fl2 : Int, rr = some (.int (zI 0)) ∧ h9 = (nh, hc fh [(54, .inr (5, [.ref 55, .int (zI ln), .int (zI tk2), .int (zI st2), .int (zI bh2), .int (zI va2), .int (zI pa2), .int (zI fl2), .ref 56, .int (zI sz2)])), (56, .inl (0, 412, .inl (zA cd2)))]) ∧ (0 ≤ tk2) ∧ (tk2 ≤ 355) ∧ (0 ≤ st2) ∧ (st2 ≤ bh2) ∧ (bh2 ≤ ln) ∧ (0 ≤ va2) ∧ (va2 ≤ 1001) ∧ (0 ≤ pa2) ∧ (pa2 ≤ 50) ∧ (0 ≤ sz2) ∧ (sz2 ≤ 412) ∧ (TokL tk2 st2 bh2) ∧ (Rg cd2 412 (-2147483648) 2147483647) ∧ (0 ≤ fl2) ∧ (fl2 ≤ 400)))) (nh, hc fh [(54, .inr (5, [.ref 55, .int (zI ln), .int (zI tx_12), .int (zI sx_12), .int (zI bx_12), .int (zI vx_12), .int (zI px_12), .int (zI fl), .ref 56, .int (zI zx_12)])), (56, .inl (0, 412, .inl (zA cx_12)))]) 0 0 12 [some (.ref 54), some (.int (zI 8)), some (.int (zI i_12)), none] [] := by
      intro N12
      induction N12 with
      | zero => intro i_12 tx_12 sx_12 bx_12 vx_12 px_12 zx_12 cx_12 i12_0 i12_1 i12_2 i12_3 i12_4 i12_5 i12_6 i12_7 i12_8 i12_9 i12_10 i12_11 i12_12 i12_13 i12_14 i12_15 i12_16 hm; exact absurd hm (Nat.not_lt_zero _)
      | succ N12 ih12 =>
        intro i_12 tx_12 sx_12 bx_12 vx_12 px_12 zx_12 cx_12 i12_0 i12_1 i12_2 i12_3 i12_4 i12_5 i12_6 i12_7 i12_8 i12_9 i12_10 i12_11 i12_12 i12_13 i12_14 i12_15 i12_16 hm12
        refine J_iload_n dX5_sum_12 rfl rfl ?_
        refine Z_sipush (n := 400) dX5_sum_13 (by decide +kernel) ?_
        refine Z_icmp_ge (tgt := 79) dX5_sum_16 (by decide) (v_d7389cde0f i12_0 i12_1) v_d8dcd4dd52 (fun h47 => ?_) (fun h47 => ?_)
        · refine Z_iconst (n := 1) dX5_sum_79 ?_
          exact J_iret dX5_sum_80 rfl (jbn v_316afd7d0b v_bbcfac9b7d) (Nat.le_of_ble_eq_true rfl) (Nat.le_of_ble_eq_true rfl) (Or.inl ⟨tx_12, sx_12, bx_12, vx_12, px_12, zx_12, cx_12, rfl, rfl, i12_4, i12_5, i12_6, i12_7, i12_8, i12_9, i12_10, i12_15, i12_16, i12_13, i12_14, i12_11, i12_12, i12_2, i12_3⟩)
        · refine J_aload_n dX5_sum_19 rfl rfl ?_
          refine Z_bipush (n := 43) dX5_sum_20 (by decide +kernel) ?_
          refine J_callV (st := []) dX5_sum_22 cv_X5_50 (d_isSign 43 ln tx_12 sx_12 bx_12 vx_12 px_12 fl zx_12 v_8b70ad274a v_ff10987188 i12_4 i12_5 rfl) rfl rfl rfl (Nat.le_of_ble_eq_true rfl) ⟨(Nat.le_of_ble_eq_true rfl), (Nat.le_of_ble_eq_true rfl)⟩ ⟨(Nat.le_of_ble_eq_true rfl), (Nat.le_of_ble_eq_true rfl)⟩ (fun r h9 hp => ?_)
          rcases hp with ⟨rfl, rfl, h48⟩ | ⟨rfl, rfl, h49⟩
          · refine J_nf (nh2 := nh) (ck2 := 0) (sk2 := 0) (st2 := [.int (zI 1)]) rfl rfl rfl rfl ?_
            refine Z_if_ne (tgt := 37) dX5_sum_25 (by decide) v_4dcc24baa7 (fun h50 => ?_) (fun h50 => absurd h50 v_3a47bfd896)
            refine J_aload_n dX5_sum_37 rfl rfl ?_
            refine Z_bipush (n := 43) dX5_sum_38 (by decide +kernel) ?_
            refine J_callV (st := []) dX5_sum_40 cv_X5_50 (d_isSign 43 ln tx_12 sx_12 bx_12 vx_12 px_12 fl zx_12 v_8b70ad274a v_ff10987188 i12_4 i12_5 rfl) rfl rfl rfl (Nat.le_of_ble_eq_true rfl) ⟨(Nat.le_of_ble_eq_true rfl), (Nat.le_of_ble_eq_true rfl)⟩ ⟨(Nat.le_of_ble_eq_true rfl), (Nat.le_of_ble_eq_true rfl)⟩ (fun r h9 hp => ?_)
            rcases hp with ⟨rfl, rfl, h51⟩ | ⟨rfl, rfl, h52⟩
            · refine J_nf (nh2 := nh) (ck2 := 0) (sk2 := 0) (st2 := [.int (zI 1)]) rfl rfl rfl rfl ?_
              refine Z_if_eq (tgt := 50) dX5_sum_43 (by decide) v_4dcc24baa7 (fun h53 => absurd h53 v_3a47bfd896) (fun h53 => ?_)
              refine Z_iconst (n := 2) dX5_sum_46 ?_
              refine J_goto (tgt := 51) dX5_sum_47 (by decide) ?_
              refine J_istore_n dX5_sum_51 rfl (Nat.le_of_ble_eq_true rfl) rfl ?_
              refine J_ls (ls2 := [some (.ref 54), some (.int (zI 8)), some (.int (zI i_12)), some (.int (zI 2))]) rfl ?_
              refine J_aload_n dX5_sum_52 rfl rfl ?_
              have g54 := TokL.lt i12_11 (v_7a588369ee h48)
              refine J_callV (st := []) dX5_sum_53 cv_X5_43 (d_advance ln tx_12 sx_12 bx_12 vx_12 px_12 fl zx_12 tp q0 q1 (v_d253cb2c59 i12_6 g54) i12_8 i12_9 i12_10 q15 rfl hk55) rfl rfl rfl (Nat.le_of_ble_eq_true rfl) ⟨(Nat.le_of_ble_eq_true rfl), (Nat.le_of_ble_eq_true rfl)⟩ ⟨(Nat.le_of_ble_eq_true rfl), (Nat.le_of_ble_eq_true rfl)⟩ (fun r h9 hp => ?_)
              obtain ⟨z55, z56, z57, z58, rfl, rfl, h59, h60, h61, h62, h63, h64, h65, h66⟩ := hp
              refine J_nf (nh2 := nh) (ck2 := 0) (sk2 := 0) (st2 := []) rfl rfl rfl rfl ?_
              refine J_app (L3 := [(54, .inr (5, [.ref 55, .int (zI ln), .int (zI z55), .int (zI z56), .int (zI z57), .int (zI z58), .int (zI px_12), .int (zI fl), .ref 56, .int (zI zx_12)])), (54, .inr (5, [.ref 55, .int (zI ln), .int (zI tx_12), .int (zI sx_12), .int (zI bx_12), .int (zI vx_12), .int (zI px_12), .int (zI fl), .ref 56, .int (zI zx_12)])), (56, .inl (0, 412, .inl (zA cx_12)))]) rfl ?_
              refine J_mask (L2 := [(54, .inr (5, [.ref 55, .int (zI ln), .int (zI z55), .int (zI z56), .int (zI z57), .int (zI z58), .int (zI px_12), .int (zI fl), .ref 56, .int (zI zx_12)])), (56, .inl (0, 412, .inl (zA cx_12)))]) (ks := [54, 54, 56]) [true, false, true] rfl (by decide +kernel) rfl ?_
              refine J_aload_n dX5_sum_56 rfl rfl ?_
              refine J_iload_n dX5_sum_57 rfl rfl ?_
              refine J_callV (st := []) dX5_sum_58 cv_X5_89 (d_term8 ln z55 z56 z57 z58 px_12 fl zx_12 tp cx_12 q0 q1 h59 h60 (v_9b2e2070a2 i12_6 g54 h61) h62 h63 h64 h65 i12_15 i12_16 q11 i12_13 i12_14 h66 q15 i12_12 rfl hk55 rfl) rfl rfl rfl (Nat.le_of_ble_eq_true rfl) ⟨(Nat.le_of_ble_eq_true rfl), (Nat.le_of_ble_eq_true rfl)⟩ ⟨(Nat.le_of_ble_eq_true rfl), (Nat.le_of_ble_eq_true rfl)⟩ (fun r h9 hp => ?_)
              rcases hp with ⟨z67, z68, z69, z70, z71, z72, f73, rfl, rfl, h74, h75, h76, h77, h78, h79, h80, h81, h82, h83, h84, h85, h86, h87, h88⟩ | ⟨z89, z90, z91, z92, z93, z94, f95, z96, rfl, rfl, h97, h98, h99, h100, h101, h102, h103, h104, h105, h106, h107, h108, h109, h110, h111⟩
              · refine J_nf (nh2 := nh) (ck2 := 0) (sk2 := 0) (st2 := [.int (zI 1)]) rfl rfl rfl rfl ?_
                refine J_app (L3 := [(54, .inr (5, [.ref 55, .int (zI ln), .int (zI z67), .int (zI z68), .int (zI z69), .int (zI z70), .int (zI z71), .int (zI fl), .ref 56, .int (zI z72)])), (56, .inl (0, 412, .inl (zA f73))), (54, .inr (5, [.ref 55, .int (zI ln), .int (zI z55), .int (zI z56), .int (zI z57), .int (zI z58), .int (zI px_12), .int (zI fl), .ref 56, .int (zI zx_12)])), (56, .inl (0, 412, .inl (zA cx_12)))]) rfl ?_
                refine J_mask (L2 := [(54, .inr (5, [.ref 55, .int (zI ln), .int (zI z67), .int (zI z68), .int (zI z69), .int (zI z70), .int (zI z71), .int (zI fl), .ref 56, .int (zI z72)])), (56, .inl (0, 412, .inl (zA f73)))]) (ks := [54, 56, 54, 56]) [true, true, false, false] rfl (by decide +kernel) rfl ?_
                refine Z_if_ne (tgt := 66) dX5_sum_61 (by decide) v_4dcc24baa7 (fun h112 => ?_) (fun h112 => absurd h112 v_3a47bfd896)
                refine J_aload_n dX5_sum_66 rfl rfl ?_
                refine J_iload_n dX5_sum_67 rfl rfl ?_
                refine Z_iconst (n := 0) dX5_sum_68 ?_
                refine J_callV (st := []) dX5_sum_69 cv_X5_72 (d_emit 2 0 ln z67 z68 z69 z70 z71 fl z72 f73 v_9ea63c5f56 v_b17331891f h83 h84 h86 rfl rfl) rfl rfl rfl (Nat.le_of_ble_eq_true rfl) ⟨(Nat.le_of_ble_eq_true rfl), (Nat.le_of_ble_eq_true rfl)⟩ ⟨(Nat.le_of_ble_eq_true rfl), (Nat.le_of_ble_eq_true rfl)⟩ (fun r h9 hp => ?_)
                obtain ⟨z113, f114, rfl, rfl, h115, h116, h117, h118, h119⟩ := hp
                refine J_nf (nh2 := nh) (ck2 := 0) (sk2 := 0) (st2 := [.int (zI z72)]) rfl rfl rfl rfl ?_
                refine J_app (L3 := [(54, .inr (5, [.ref 55, .int (zI ln), .int (zI z67), .int (zI z68), .int (zI z69), .int (zI z70), .int (zI z71), .int (zI fl), .ref 56, .int (zI z113)])), (56, .inl (0, 412, .inl (zA f114))), (54, .inr (5, [.ref 55, .int (zI ln), .int (zI z67), .int (zI z68), .int (zI z69), .int (zI z70), .int (zI z71), .int (zI fl), .ref 56, .int (zI z72)])), (56, .inl (0, 412, .inl (zA f73)))]) rfl ?_
                refine J_mask (L2 := [(54, .inr (5, [.ref 55, .int (zI ln), .int (zI z67), .int (zI z68), .int (zI z69), .int (zI z70), .int (zI z71), .int (zI fl), .ref 56, .int (zI z113)])), (56, .inl (0, 412, .inl (zA f114)))]) (ks := [54, 56, 54, 56]) [true, true, false, false] rfl (by decide +kernel) rfl ?_
                refine J_pop dX5_sum_72 rfl ?_
                refine Z_iinc (c := i_12 + 1) (ls2 := [some (.ref 54), some (.int (zI 8)), some (.int (zI (i_12 + 1))), some (.int (zI 2))]) dX5_sum_73 rfl (Nat.le_of_ble_eq_true rfl) rfl rfl rfl ?_
                refine J_goto (tgt := 12) dX5_sum_76 (by decide) ?_
                refine J_drop (ls2 := [some (.ref 54), some (.int (zI 8)), some (.int (zI (i_12 + 1))), none]) [true, true, true, false] rfl ?_
                exact ih12 (i_12 + 1) z67 z68 z69 z70 z71 z113 f114 (v_da458fa48a i12_0) (v_6924477667 h47) (v_5af1455273 i12_2 g54 h61 h87 h118) (v_269579bf42 i12_3 g54 h61 h88) h74 h75 h76 h77 h78 h79 h80 h85 h119 h115 h116 h81 h82 (meas_lt v_ceb2ed6d2b (v_44ddc35e90 h47) hm12)
              · refine J_nf (nh2 := nh) (ck2 := 0) (sk2 := 0) (st2 := [.int (zI 0)]) rfl rfl rfl rfl ?_
                refine J_app (L3 := [(54, .inr (5, [.ref 55, .int (zI ln), .int (zI z89), .int (zI z90), .int (zI z91), .int (zI z92), .int (zI z93), .int (zI z96), .ref 56, .int (zI z94)])), (56, .inl (0, 412, .inl (zA f95))), (54, .inr (5, [.ref 55, .int (zI ln), .int (zI z55), .int (zI z56), .int (zI z57), .int (zI z58), .int (zI px_12), .int (zI fl), .ref 56, .int (zI zx_12)])), (56, .inl (0, 412, .inl (zA cx_12)))]) rfl ?_
                refine J_mask (L2 := [(54, .inr (5, [.ref 55, .int (zI ln), .int (zI z89), .int (zI z90), .int (zI z91), .int (zI z92), .int (zI z93), .int (zI z96), .ref 56, .int (zI z94)])), (56, .inl (0, 412, .inl (zA f95)))]) (ks := [54, 56, 54, 56]) [true, true, false, false] rfl (by decide +kernel) rfl ?_
                refine Z_if_ne (tgt := 66) dX5_sum_61 (by decide) v_b17331891f (fun h120 => absurd h120 (fun q => q v_2ca2bbca1f)) (fun h120 => ?_)
                refine Z_iconst (n := 0) dX5_sum_64 ?_
                exact J_iret dX5_sum_65 rfl (jbn v_939070ca3f v_316afd7d0b) (Nat.le_of_ble_eq_true rfl) (Nat.le_of_ble_eq_true rfl) (Or.inr ⟨z89, z90, z91, z92, z93, z94, f95, z96, rfl, rfl, h97, h98, h99, h100, h101, h102, h103, h104, h105, h106, h107, h108, h109, h110, h111⟩)
            · exact False.elim (v_a48d9a0d20 h48 h52)
          · refine J_nf (nh2 := nh) (ck2 := 0) (sk2 := 0) (st2 := [.int (zI 0)]) rfl rfl rfl rfl ?_
            refine Z_if_ne (tgt := 37) dX5_sum_25 (by decide) v_b17331891f (fun h121 => absurd h121 (fun q => q v_2ca2bbca1f)) (fun h121 => ?_)
            refine J_aload_n dX5_sum_28 rfl rfl ?_
            refine Z_bipush (n := 45) dX5_sum_29 (by decide +kernel) ?_
            refine J_callV (st := []) dX5_sum_31 cv_X5_50 (d_isSign 45 ln tx_12 sx_12 bx_12 vx_12 px_12 fl zx_12 v_8bc5410605 v_46bbb1acae i12_4 i12_5 rfl) rfl rfl rfl (Nat.le_of_ble_eq_true rfl) ⟨(Nat.le_of_ble_eq_true rfl), (Nat.le_of_ble_eq_true rfl)⟩ ⟨(Nat.le_of_ble_eq_true rfl), (Nat.le_of_ble_eq_true rfl)⟩ (fun r h9 hp => ?_)
            rcases hp with ⟨rfl, rfl, h122⟩ | ⟨rfl, rfl, h123⟩
            · refine J_nf (nh2 := nh) (ck2 := 0) (sk2 := 0) (st2 := [.int (zI 1)]) rfl rfl rfl rfl ?_
              refine Z_if_eq (tgt := 79) dX5_sum_34 (by decide) v_4dcc24baa7 (fun h124 => absurd h124 v_3a47bfd896) (fun h124 => ?_)
              refine J_aload_n dX5_sum_37 rfl rfl ?_
              refine Z_bipush (n := 43) dX5_sum_38 (by decide +kernel) ?_
              refine J_callV (st := []) dX5_sum_40 cv_X5_50 (d_isSign 43 ln tx_12 sx_12 bx_12 vx_12 px_12 fl zx_12 v_8b70ad274a v_ff10987188 i12_4 i12_5 rfl) rfl rfl rfl (Nat.le_of_ble_eq_true rfl) ⟨(Nat.le_of_ble_eq_true rfl), (Nat.le_of_ble_eq_true rfl)⟩ ⟨(Nat.le_of_ble_eq_true rfl), (Nat.le_of_ble_eq_true rfl)⟩ (fun r h9 hp => ?_)
              rcases hp with ⟨rfl, rfl, h125⟩ | ⟨rfl, rfl, h126⟩
              · exact False.elim (v_1d6e974349 h122 h125)
              · refine J_nf (nh2 := nh) (ck2 := 0) (sk2 := 0) (st2 := [.int (zI 0)]) rfl rfl rfl rfl ?_
                refine Z_if_eq (tgt := 50) dX5_sum_43 (by decide) v_b17331891f (fun h127 => ?_) (fun h127 => absurd h127 (fun q => q v_2ca2bbca1f))
                refine Z_iconst (n := 3) dX5_sum_50 ?_
                refine J_istore_n dX5_sum_51 rfl (Nat.le_of_ble_eq_true rfl) rfl ?_
                refine J_ls (ls2 := [some (.ref 54), some (.int (zI 8)), some (.int (zI i_12)), some (.int (zI 3))]) rfl ?_
                refine J_aload_n dX5_sum_52 rfl rfl ?_
                have g128 := TokL.lt i12_11 (v_1c70dbbeab h122)
                refine J_callV (st := []) dX5_sum_53 cv_X5_43 (d_advance ln tx_12 sx_12 bx_12 vx_12 px_12 fl zx_12 tp q0 q1 (v_d253cb2c59 i12_6 g128) i12_8 i12_9 i12_10 q15 rfl hk55) rfl rfl rfl (Nat.le_of_ble_eq_true rfl) ⟨(Nat.le_of_ble_eq_true rfl), (Nat.le_of_ble_eq_true rfl)⟩ ⟨(Nat.le_of_ble_eq_true rfl), (Nat.le_of_ble_eq_true rfl)⟩ (fun r h9 hp => ?_)
                obtain ⟨z129, z130, z131, z132, rfl, rfl, h133, h134, h135, h136, h137, h138, h139, h140⟩ := hp
                refine J_nf (nh2 := nh) (ck2 := 0) (sk2 := 0) (st2 := []) rfl rfl rfl rfl ?_
                refine J_app (L3 := [(54, .inr (5, [.ref 55, .int (zI ln), .int (zI z129), .int (zI z130), .int (zI z131), .int (zI z132), .int (zI px_12), .int (zI fl), .ref 56, .int (zI zx_12)])), (54, .inr (5, [.ref 55, .int (zI ln), .int (zI tx_12), .int (zI sx_12), .int (zI bx_12), .int (zI vx_12), .int (zI px_12), .int (zI fl), .ref 56, .int (zI zx_12)])), (56, .inl (0, 412, .inl (zA cx_12)))]) rfl ?_
                refine J_mask (L2 := [(54, .inr (5, [.ref 55, .int (zI ln), .int (zI z129), .int (zI z130), .int (zI z131), .int (zI z132), .int (zI px_12), .int (zI fl), .ref 56, .int (zI zx_12)])), (56, .inl (0, 412, .inl (zA cx_12)))]) (ks := [54, 54, 56]) [true, false, true] rfl (by decide +kernel) rfl ?_
                refine J_aload_n dX5_sum_56 rfl rfl ?_
                refine J_iload_n dX5_sum_57 rfl rfl ?_
                refine J_callV (st := []) dX5_sum_58 cv_X5_89 (d_term8 ln z129 z130 z131 z132 px_12 fl zx_12 tp cx_12 q0 q1 h133 h134 (v_9b2e2070a2 i12_6 g128 h135) h136 h137 h138 h139 i12_15 i12_16 q11 i12_13 i12_14 h140 q15 i12_12 rfl hk55 rfl) rfl rfl rfl (Nat.le_of_ble_eq_true rfl) ⟨(Nat.le_of_ble_eq_true rfl), (Nat.le_of_ble_eq_true rfl)⟩ ⟨(Nat.le_of_ble_eq_true rfl), (Nat.le_of_ble_eq_true rfl)⟩ (fun r h9 hp => ?_)
                rcases hp with ⟨z141, z142, z143, z144, z145, z146, f147, rfl, rfl, h148, h149, h150, h151, h152, h153, h154, h155, h156, h157, h158, h159, h160, h161, h162⟩ | ⟨z163, z164, z165, z166, z167, z168, f169, z170, rfl, rfl, h171, h172, h173, h174, h175, h176, h177, h178, h179, h180, h181, h182, h183, h184, h185⟩
                · refine J_nf (nh2 := nh) (ck2 := 0) (sk2 := 0) (st2 := [.int (zI 1)]) rfl rfl rfl rfl ?_
                  refine J_app (L3 := [(54, .inr (5, [.ref 55, .int (zI ln), .int (zI z141), .int (zI z142), .int (zI z143), .int (zI z144), .int (zI z145), .int (zI fl), .ref 56, .int (zI z146)])), (56, .inl (0, 412, .inl (zA f147))), (54, .inr (5, [.ref 55, .int (zI ln), .int (zI z129), .int (zI z130), .int (zI z131), .int (zI z132), .int (zI px_12), .int (zI fl), .ref 56, .int (zI zx_12)])), (56, .inl (0, 412, .inl (zA cx_12)))]) rfl ?_
                  refine J_mask (L2 := [(54, .inr (5, [.ref 55, .int (zI ln), .int (zI z141), .int (zI z142), .int (zI z143), .int (zI z144), .int (zI z145), .int (zI fl), .ref 56, .int (zI z146)])), (56, .inl (0, 412, .inl (zA f147)))]) (ks := [54, 56, 54, 56]) [true, true, false, false] rfl (by decide +kernel) rfl ?_
                  refine Z_if_ne (tgt := 66) dX5_sum_61 (by decide) v_4dcc24baa7 (fun h186 => ?_) (fun h186 => absurd h186 v_3a47bfd896)
                  refine J_aload_n dX5_sum_66 rfl rfl ?_
                  refine J_iload_n dX5_sum_67 rfl rfl ?_
                  refine Z_iconst (n := 0) dX5_sum_68 ?_
                  refine J_callV (st := []) dX5_sum_69 cv_X5_72 (d_emit 3 0 ln z141 z142 z143 z144 z145 fl z146 f147 v_1cc5223c3a v_b17331891f h157 h158 h160 rfl rfl) rfl rfl rfl (Nat.le_of_ble_eq_true rfl) ⟨(Nat.le_of_ble_eq_true rfl), (Nat.le_of_ble_eq_true rfl)⟩ ⟨(Nat.le_of_ble_eq_true rfl), (Nat.le_of_ble_eq_true rfl)⟩ (fun r h9 hp => ?_)
                  obtain ⟨z187, f188, rfl, rfl, h189, h190, h191, h192, h193⟩ := hp
                  refine J_nf (nh2 := nh) (ck2 := 0) (sk2 := 0) (st2 := [.int (zI z146)]) rfl rfl rfl rfl ?_
                  refine J_app (L3 := [(54, .inr (5, [.ref 55, .int (zI ln), .int (zI z141), .int (zI z142), .int (zI z143), .int (zI z144), .int (zI z145), .int (zI fl), .ref 56, .int (zI z187)])), (56, .inl (0, 412, .inl (zA f188))), (54, .inr (5, [.ref 55, .int (zI ln), .int (zI z141), .int (zI z142), .int (zI z143), .int (zI z144), .int (zI z145), .int (zI fl), .ref 56, .int (zI z146)])), (56, .inl (0, 412, .inl (zA f147)))]) rfl ?_
                  refine J_mask (L2 := [(54, .inr (5, [.ref 55, .int (zI ln), .int (zI z141), .int (zI z142), .int (zI z143), .int (zI z144), .int (zI z145), .int (zI fl), .ref 56, .int (zI z187)])), (56, .inl (0, 412, .inl (zA f188)))]) (ks := [54, 56, 54, 56]) [true, true, false, false] rfl (by decide +kernel) rfl ?_
                  refine J_pop dX5_sum_72 rfl ?_
                  refine Z_iinc (c := i_12 + 1) (ls2 := [some (.ref 54), some (.int (zI 8)), some (.int (zI (i_12 + 1))), some (.int (zI 3))]) dX5_sum_73 rfl (Nat.le_of_ble_eq_true rfl) rfl rfl rfl ?_
                  refine J_goto (tgt := 12) dX5_sum_76 (by decide) ?_
                  refine J_drop (ls2 := [some (.ref 54), some (.int (zI 8)), some (.int (zI (i_12 + 1))), none]) [true, true, true, false] rfl ?_
                  exact ih12 (i_12 + 1) z141 z142 z143 z144 z145 z187 f188 (v_da458fa48a i12_0) (v_6924477667 h47) (v_5af1455273 i12_2 g128 h135 h161 h192) (v_269579bf42 i12_3 g128 h135 h162) h148 h149 h150 h151 h152 h153 h154 h159 h193 h189 h190 h155 h156 (meas_lt v_ceb2ed6d2b (v_44ddc35e90 h47) hm12)
                · refine J_nf (nh2 := nh) (ck2 := 0) (sk2 := 0) (st2 := [.int (zI 0)]) rfl rfl rfl rfl ?_
                  refine J_app (L3 := [(54, .inr (5, [.ref 55, .int (zI ln), .int (zI z163), .int (zI z164), .int (zI z165), .int (zI z166), .int (zI z167), .int (zI z170), .ref 56, .int (zI z168)])), (56, .inl (0, 412, .inl (zA f169))), (54, .inr (5, [.ref 55, .int (zI ln), .int (zI z129), .int (zI z130), .int (zI z131), .int (zI z132), .int (zI px_12), .int (zI fl), .ref 56, .int (zI zx_12)])), (56, .inl (0, 412, .inl (zA cx_12)))]) rfl ?_
                  refine J_mask (L2 := [(54, .inr (5, [.ref 55, .int (zI ln), .int (zI z163), .int (zI z164), .int (zI z165), .int (zI z166), .int (zI z167), .int (zI z170), .ref 56, .int (zI z168)])), (56, .inl (0, 412, .inl (zA f169)))]) (ks := [54, 56, 54, 56]) [true, true, false, false] rfl (by decide +kernel) rfl ?_
                  refine Z_if_ne (tgt := 66) dX5_sum_61 (by decide) v_b17331891f (fun h194 => absurd h194 (fun q => q v_2ca2bbca1f)) (fun h194 => ?_)
                  refine Z_iconst (n := 0) dX5_sum_64 ?_
                  exact J_iret dX5_sum_65 rfl (jbn v_939070ca3f v_316afd7d0b) (Nat.le_of_ble_eq_true rfl) (Nat.le_of_ble_eq_true rfl) (Or.inr ⟨z163, z164, z165, z166, z167, z168, f169, z170, rfl, rfl, h171, h172, h173, h174, h175, h176, h177, h178, h179, h180, h181, h182, h183, h184, h185⟩)
            · refine J_nf (nh2 := nh) (ck2 := 0) (sk2 := 0) (st2 := [.int (zI 0)]) rfl rfl rfl rfl ?_
              refine Z_if_eq (tgt := 79) dX5_sum_34 (by decide) v_b17331891f (fun h195 => ?_) (fun h195 => absurd h195 (fun q => q v_2ca2bbca1f))
              refine Z_iconst (n := 1) dX5_sum_79 ?_
              exact J_iret dX5_sum_80 rfl (jbn v_316afd7d0b v_bbcfac9b7d) (Nat.le_of_ble_eq_true rfl) (Nat.le_of_ble_eq_true rfl) (Or.inl ⟨tx_12, sx_12, bx_12, vx_12, px_12, zx_12, cx_12, rfl, rfl, i12_4, i12_5, i12_6, i12_7, i12_8, i12_9, i12_10, i12_15, i12_16, i12_13, i12_14, i12_11, i12_12, i12_2, i12_3⟩)
    exact lp12 _ 0 z1 z2 z3 z4 z5 z6 f7 v_939070ca3f v_5ab96f7b5e h21 h22 h8 h9 h10 h11 h12 h13 h14 h19 h20 h17 h18 h15 h16 (Nat.lt_succ_self _)
  · refine J_nf (nh2 := nh) (ck2 := 0) (sk2 := 0) (st2 := [.int (zI 0)]) rfl rfl rfl rfl ?_
    refine J_app (L3 := [(54, .inr (5, [.ref 55, .int (zI ln), .int (zI z23), .int (zI z24), .int (zI z25), .int (zI z26), .int (zI z27), .int (zI z30), .ref 56, .int (zI z28)])), (56, .inl (0, 412, .inl (zA f29)))]) rfl ?_
    refine Z_if_ne (tgt := 10) dX5_sum_5 (by decide) v_b17331891f (fun h196 => absurd h196 (fun q => q v_2ca2bbca1f)) (fun h196 => ?_)
    refine Z_iconst (n := 0) dX5_sum_8 ?_
    exact J_iret dX5_sum_9 rfl (jbn v_939070ca3f v_316afd7d0b) (Nat.le_of_ble_eq_true rfl) (Nat.le_of_ble_eq_true rfl) (Or.inr ⟨z23, z24, z25, z26, z27, z28, f29, z30, rfl, rfl, h31, h32, h33, h34, h35, h36, h37, h38, h39, h40, h41, h42, h43, h44, h45⟩)
set_option maxHeartbeats 4000000 in
set_option maxRecDepth 100000 in
theorem d_bracketedTest8 {l : Launch} {G : jG} {nh : Nat} {fh : Nat → Option va_E} (ln : Int) (tk : Int) (st : Int) (bh : Int) (va : Int) (pa : Int) (fl : Int) (sz : Int) (tp : Int → Int) (cd : Int → Int) (q0 : 0 ≤ ln) (q1 : ln ≤ 400) (q2 : 0 ≤ tk) (q3 : tk ≤ 355) (q4 : 0 ≤ st) (q5 : st ≤ bh) (q6 : bh ≤ ln) (q7 : 0 ≤ va) (q8 : va ≤ 1001) (q9 : 0 ≤ pa) (q10 : pa ≤ 50) (q11 : zr fl) (q12 : 0 ≤ sz) (q13 : sz ≤ 412) (q14 : TokL tk st bh) (q15 : Rg tp 400 0 255) (q16 : Rg cd 412 (-2147483648) 2147483647) (hk54 : fh 54 = some (.inr (5, [.ref 55, .int (zI ln), .int (zI tk), .int (zI st), .int (zI bh), .int (zI va), .int (zI pa), .int (zI fl), .ref 56, .int (zI sz)]))) (hk55 : fh 55 = some (.inl (0, 400, .inl (zA tp)))) (hk56 : fh 56 = some (.inl (0, 412, .inl (zA cd)))) : JM l G yX5_bracketedTest MX5_bracketedTest { frames := 1, cells := 0, slots := 0, locals := 20 } [.ref 54, .int (zI 8)] (nh, fh) (fun rr h9 => (∃ tk2 : Int, ∃ st2 : Int, ∃ bh2 : Int, ∃ va2 : Int, ∃ pa2 : Int, ∃ sz2 : Int, ∃ cd2 : Int → Int, rr = some (.int (zI 1)) ∧ h9 = (nh, hc fh [(54, .inr (5, [.ref 55, .int (zI ln), .int (zI tk2), .int (zI st2), .int (zI bh2), .int (zI va2), .int (zI pa2), .int (zI fl), .ref 56, .int (zI sz2)])), (56, .inl (0, 412, .inl (zA cd2)))]) ∧ (0 ≤ tk2) ∧ (tk2 ≤ 355) ∧ (0 ≤ st2) ∧ (st2 ≤ bh2) ∧ (bh2 ≤ ln) ∧ (0 ≤ va2) ∧ (va2 ≤ 1001) ∧ (0 ≤ pa2) ∧ (pa2 ≤ 50) ∧ (0 ≤ sz2) ∧ (sz2 ≤ 412) ∧ (TokL tk2 st2 bh2) ∧ (Rg cd2 412 (-2147483648) 2147483647) ∧ (sz2 + st ≤ sz + st2) ∧ (st ≤ st2)) ∨ (∃ tk2 : Int, ∃ st2 : Int, ∃ bh2 : Int, ∃ va2 : Int, ∃ pa2 : Int, ∃ sz2 : Int, ∃ cd2 : Int → Int, ∃ fl2 : Int, rr = some (.int (zI 0)) ∧ h9 = (nh, hc fh [(54, .inr (5, [.ref 55, .int (zI ln), .int (zI tk2), .int (zI st2), .int (zI bh2), .int (zI va2), .int (zI pa2), .int (zI fl2), .ref 56, .int (zI sz2)])), (56, .inl (0, 412, .inl (zA cd2)))]) ∧ (0 ≤ tk2) ∧ (tk2 ≤ 355) ∧ (0 ≤ st2) ∧ (st2 ≤ bh2) ∧ (bh2 ≤ ln) ∧ (0 ≤ va2) ∧ (va2 ≤ 1001) ∧ (0 ≤ pa2) ∧ (pa2 ≤ 50) ∧ (0 ≤ sz2) ∧ (sz2 ≤ 412) ∧ (TokL tk2 st2 bh2) ∧ (Rg cd2 412 (-2147483648) 2147483647) ∧ (0 ≤ fl2) ∧ (fl2 ≤ 400))) := by
  refine JM.of (by decide) rfl (fun h => by cases h) (Nat.le_of_ble_eq_true rfl) ⟨0, rfl⟩ ?_
  refine J_hc0 (J_ls (ls2 := [some (.ref 54), some (.int (zI 8))]) rfl ?_)
  refine J_iload_n dX5_bracketedTest_0 rfl rfl ?_
  refine Z_bipush (n := 8) dX5_bracketedTest_1 (by decide +kernel) ?_
  refine Z_icmp_lt (tgt := 11) dX5_bracketedTest_3 (by decide) v_665891e294 v_665891e294 (fun h1 => absurd h1 v_0041fc7102) (fun h1 => ?_)
  refine J_aload_n dX5_bracketedTest_6 rfl rfl ?_
  refine J_callV (st := []) dX5_bracketedTest_7 cv_X5_54 (d_wrong ln tk st bh va pa fl sz q4 (v_1adcfdfee5 q1 q5 q6) hk54) hk54 rfl rfl (Nat.le_of_ble_eq_true rfl) ⟨(Nat.le_of_ble_eq_true rfl), (Nat.le_of_ble_eq_true rfl)⟩ ⟨(Nat.le_of_ble_eq_true rfl), (Nat.le_of_ble_eq_true rfl)⟩ (fun r h9 hp => ?_)
  obtain ⟨rfl, rfl⟩ := hp
  refine J_nf (nh2 := nh) (ck2 := 0) (sk2 := 0) (st2 := [.int (zI 0)]) rfl rfl rfl rfl ?_
  refine J_app (L3 := [(54, .inr (5, [.ref 55, .int (zI ln), .int (zI tk), .int (zI st), .int (zI bh), .int (zI va), .int (zI pa), .int (zI st), .ref 56, .int (zI sz)]))]) rfl ?_
  refine J_touch (k := 56) (e := .inl (0, 412, .inl (zA cd))) hk56 ?_
  refine J_touch (k := 54) (e := .inr (5, [.ref 55, .int (zI ln), .int (zI tk), .int (zI st), .int (zI bh), .int (zI va), .int (zI pa), .int (zI st), .ref 56, .int (zI sz)])) rfl ?_
  refine J_mask (L2 := [(54, .inr (5, [.ref 55, .int (zI ln), .int (zI tk), .int (zI st), .int (zI bh), .int (zI va), .int (zI pa), .int (zI st), .ref 56, .int (zI sz)])), (56, .inl (0, 412, .inl (zA cd)))]) (ks := [54, 56, 54]) [true, true, false] rfl (by decide +kernel) rfl ?_
  exact J_iret dX5_bracketedTest_10 rfl (jbn v_939070ca3f v_316afd7d0b) (Nat.le_of_ble_eq_true rfl) (Nat.le_of_ble_eq_true rfl) (Or.inr ⟨tk, st, bh, va, pa, sz, cd, st, rfl, rfl, q2, q3, q4, q5, q6, q7, q8, q9, q10, q12, q13, q14, q16, q4, (v_1adcfdfee5 q1 q5 q6)⟩)
set_option maxHeartbeats 4000000 in
set_option maxRecDepth 100000 in
theorem d_plain8 {l : Launch} {G : jG} {nh : Nat} {fh : Nat → Option va_E} (ln : Int) (tk : Int) (st : Int) (bh : Int) (va : Int) (pa : Int) (fl : Int) (sz : Int) (tp : Int → Int) (cd : Int → Int) (q0 : 0 ≤ ln) (q1 : ln ≤ 400) (q2 : 0 ≤ tk) (q3 : tk ≤ 355) (q4 : 0 ≤ st) (q5 : st ≤ bh) (q6 : bh ≤ ln) (q7 : 0 ≤ va) (q8 : va ≤ 1001) (q9 : 0 ≤ pa) (q10 : pa ≤ 50) (q11 : zr fl) (q12 : 0 ≤ sz) (q13 : sz ≤ 412) (q14 : TokL tk st bh) (q15 : Rg tp 400 0 255) (q16 : Rg cd 412 (-2147483648) 2147483647) (hk54 : fh 54 = some (.inr (5, [.ref 55, .int (zI ln), .int (zI tk), .int (zI st), .int (zI bh), .int (zI va), .int (zI pa), .int (zI fl), .ref 56, .int (zI sz)]))) (hk55 : fh 55 = some (.inl (0, 400, .inl (zA tp)))) (hk56 : fh 56 = some (.inl (0, 412, .inl (zA cd)))) : JM l G yX5_plain MX5_plain { frames := 9, cells := 0, slots := 0, locals := 199 } [.ref 54, .int (zI 8)] (nh, fh) (fun rr h9 => (∃ tk2 : Int, ∃ st2 : Int, ∃ bh2 : Int, ∃ va2 : Int, ∃ pa2 : Int, ∃ sz2 : Int, ∃ cd2 : Int → Int, rr = some (.int (zI 1)) ∧ h9 = (nh, hc fh [(54, .inr (5, [.ref 55, .int (zI ln), .int (zI tk2), .int (zI st2), .int (zI bh2), .int (zI va2), .int (zI pa2), .int (zI fl), .ref 56, .int (zI sz2)])), (56, .inl (0, 412, .inl (zA cd2)))]) ∧ (0 ≤ tk2) ∧ (tk2 ≤ 355) ∧ (0 ≤ st2) ∧ (st2 ≤ bh2) ∧ (bh2 ≤ ln) ∧ (0 ≤ va2) ∧ (va2 ≤ 1001) ∧ (0 ≤ pa2) ∧ (pa2 ≤ 50) ∧ (0 ≤ sz2) ∧ (sz2 ≤ 412) ∧ (TokL tk2 st2 bh2) ∧ (Rg cd2 412 (-2147483648) 2147483647) ∧ (sz2 + st ≤ sz + st2) ∧ (st ≤ st2)) ∨ (∃ tk2 : Int, ∃ st2 : Int, ∃ bh2 : Int, ∃ va2 : Int, ∃ pa2 : Int, ∃ sz2 : Int, ∃ cd2 : Int → Int, ∃ fl2 : Int, rr = some (.int (zI 0)) ∧ h9 = (nh, hc fh [(54, .inr (5, [.ref 55, .int (zI ln), .int (zI tk2), .int (zI st2), .int (zI bh2), .int (zI va2), .int (zI pa2), .int (zI fl2), .ref 56, .int (zI sz2)])), (56, .inl (0, 412, .inl (zA cd2)))]) ∧ (0 ≤ tk2) ∧ (tk2 ≤ 355) ∧ (0 ≤ st2) ∧ (st2 ≤ bh2) ∧ (bh2 ≤ ln) ∧ (0 ≤ va2) ∧ (va2 ≤ 1001) ∧ (0 ≤ pa2) ∧ (pa2 ≤ 50) ∧ (0 ≤ sz2) ∧ (sz2 ≤ 412) ∧ (TokL tk2 st2 bh2) ∧ (Rg cd2 412 (-2147483648) 2147483647) ∧ (0 ≤ fl2) ∧ (fl2 ≤ 400))) := by
  refine JM.of (by decide) rfl (fun h => by cases h) (Nat.le_of_ble_eq_true rfl) ⟨2, rfl⟩ ?_
  refine J_hc0 (J_ls (ls2 := [some (.ref 54), some (.int (zI 8)), none, none]) rfl ?_)
  refine Z_iconst (n := 0) dX5_plain_0 ?_
  refine J_istore_n dX5_plain_1 rfl (Nat.le_of_ble_eq_true rfl) rfl ?_
  refine J_ls (ls2 := [some (.ref 54), some (.int (zI 8)), some (.int (zI 0)), none]) rfl ?_
  refine Z_iconst (n := 0) dX5_plain_2 ?_
  refine J_istore_n dX5_plain_3 rfl (Nat.le_of_ble_eq_true rfl) rfl ?_
  refine J_ls (ls2 := [some (.ref 54), some (.int (zI 8)), some (.int (zI 0)), some (.int (zI 0))]) rfl ?_
  refine J_touch (k := 54) (e := .inr (5, [.ref 55, .int (zI ln), .int (zI tk), .int (zI st), .int (zI bh), .int (zI va), .int (zI pa), .int (zI fl), .ref 56, .int (zI sz)])) hk54 ?_
  have lp4 : ∀ (N4 : Nat) (dn_4 : Int) (i_4 : Int) (tx_4 : Int) (sx_4 : Int) (bx_4 : Int) (vx_4 : Int), (0 ≤ i_4) → (i_4 ≤ 400) → (0 ≤ dn_4) → (dn_4 ≤ 1) → (st + dn_4 ≤ sx_4) → (0 ≤ tx_4) → (tx_4 ≤ 355) → (0 ≤ sx_4) → (sx_4 ≤ bx_4) → (bx_4 ≤ ln) → (0 ≤ vx_4) → (vx_4 ≤ 1001) → (TokL tx_4 sx_4 bx_4) → (400 - i_4).toNat < N4 → J l G MX5_plain { frames := 9, cells := 0, slots := 0, locals := 199 } jE (jMQ G { frames := 9, cells := 0, slots := 0, locals := 199 } (fun rr h9 => (∃ tk2 : Int, ∃ st2 : Int, ∃ bh2 : Int, ∃ va2 : Int, ∃ pa2 : Int, ∃ sz2 : Int, ∃ cd2 : Int → Int, rr = some (.int (zI 1)) ∧ h9 = (nh, hc fh [(54, .inr (5, [.ref 55, .int (zI ln), .int (zI tk2), .int (zI st2), .int (zI bh2), .int (zI va2), .int (zI pa2), .int (zI fl), .ref 56, .int (zI sz2)])), (56, .inl (0, 412, .inl (zA cd2)))]) ∧ (0 ≤ tk2) ∧ (tk2 ≤ 355) ∧ (0 ≤ st2) ∧ (st2 ≤ bh2) ∧ (bh2 ≤ ln) ∧ (0 ≤ va2) ∧ (va2 ≤ 1001) ∧ (0 ≤ pa2) ∧ (pa2 ≤ 50) ∧ (0 ≤ sz2) ∧ (sz2 ≤ 412) ∧ (TokL tk2 st2 bh2) ∧ (Rg cd2 412 (-2147483648) 2147483647) ∧ (sz2 + st ≤ sz + st2) ∧ (st ≤ st2)) ∨ (∃ tk2 : Int, ∃ st2 : Int, ∃ bh2 : Int, ∃ va2 : Int, ∃ pa2 : Int, ∃ sz2 : Int, ∃ cd2 : Int → Int, ∃ fl2 : Int, rr = some (.int (zI 0)) ∧ h9 = (nh, hc fh [(54, .inr (5, [.ref 55, .int (zI ln), .int (zI tk2), .int (zI st2), .int (zI bh2), .int (zI va2), .int (zI pa2), .int (zI fl2), .ref 56, .int (zI sz2)])), (56, .inl (0, 412, .inl (zA cd2)))]) ∧ (0 ≤ tk2) ∧ (tk2 ≤ 355) ∧ (0 ≤ st2) ∧ (st2 ≤ bh2) ∧ (bh2 ≤ ln) ∧ (0 ≤ va2) ∧ (va2 ≤ 1001) ∧ (0 ≤ pa2) ∧ (pa2 ≤ 50) ∧ (0 ≤ sz2) ∧ (sz2 ≤ 412) ∧ (TokL tk2 st2 bh2) ∧ (Rg cd2 412 (-2147483648) 2147483647) ∧ (0 ≤ fl2) ∧ (fl2 ≤ 400)))) (nh, hc fh [(54, .inr (5, [.ref 55, .int (zI ln), .int (zI tx_4), .int (zI sx_4), .int (zI bx_4), .int (zI vx_4), .int (zI pa), .int (zI fl), .ref 56, .int (zI sz)]))]) 0 0 4 [some (.ref 54), some (.int (zI 8)), some (.int (zI dn_4)), some (.int (zI i_4))] [] := by
    intro N4
    induction N4 with
    | zero => intro dn_4 i_4 tx_4 sx_4 bx_4 vx_4 i4_0 i4_1 i4_2 i4_3 i4_4 i4_5 i4_6 i4_7 i4_8 i4_9 i4_10 i4_11 i4_12 hm; exact absurd hm (Nat.not_lt_zero _)
    | succ N4 ih4 =>
      intro dn_4 i_4 tx_4 sx_4 bx_4 vx_4 i4_0 i4_1 i4_2 i4_3 i4_4 i4_5 i4_6 i4_7 i4_8 i4_9 i4_10 i4_11 i4_12 hm4
      refine J_iload_n dX5_plain_4 rfl rfl ?_
      refine Z_sipush (n := 400) dX5_plain_5 (by decide +kernel) ?_
      refine Z_icmp_ge (tgt := 40) dX5_plain_8 (by decide) (v_d7389cde0f i4_0 i4_1) v_d8dcd4dd52 (fun h1 => ?_) (fun h1 => ?_)
      · refine J_aload_n dX5_plain_40 rfl rfl ?_
        refine Z_bipush (n := 40) dX5_plain_41 (by decide +kernel) ?_
        refine J_callV (st := []) dX5_plain_43 cv_X5_50 (d_isSign 40 ln tx_4 sx_4 bx_4 vx_4 pa fl sz v_3958fe4c87 v_fdd2493dbb i4_5 i4_6 rfl) rfl rfl rfl (Nat.le_of_ble_eq_true rfl) ⟨(Nat.le_of_ble_eq_true rfl), (Nat.le_of_ble_eq_true rfl)⟩ ⟨(Nat.le_of_ble_eq_true rfl), (Nat.le_of_ble_eq_true rfl)⟩ (fun r h9 hp => ?_)
        rcases hp with ⟨rfl, rfl, h2⟩ | ⟨rfl, rfl, h3⟩
        · refine J_nf (nh2 := nh) (ck2 := 0) (sk2 := 0) (st2 := [.int (zI 1)]) rfl rfl rfl rfl ?_
          refine Z_if_eq (tgt := 59) dX5_plain_46 (by decide) v_4dcc24baa7 (fun h4 => absurd h4 v_3a47bfd896) (fun h4 => ?_)
          refine J_aload_n dX5_plain_49 rfl rfl ?_
          refine J_iload_n dX5_plain_50 rfl rfl ?_
          refine J_callV (st := []) dX5_plain_51 cv_X5_86 (d_bracketedTest8 ln tx_4 sx_4 bx_4 vx_4 pa fl sz tp cd q0 q1 i4_5 i4_6 i4_7 i4_8 i4_9 i4_10 i4_11 q9 q10 q11 q12 q13 i4_12 q15 q16 rfl hk55 hk56) rfl rfl rfl (Nat.le_of_ble_eq_true rfl) ⟨(Nat.le_of_ble_eq_true rfl), (Nat.le_of_ble_eq_true rfl)⟩ ⟨(Nat.le_of_ble_eq_true rfl), (Nat.le_of_ble_eq_true rfl)⟩ (fun r h9 hp => ?_)
          rcases hp with ⟨z5, z6, z7, z8, z9, z10, f11, rfl, rfl, h12, h13, h14, h15, h16, h17, h18, h19, h20, h21, h22, h23, h24, h25, h26⟩ | ⟨z27, z28, z29, z30, z31, z32, f33, z34, rfl, rfl, h35, h36, h37, h38, h39, h40, h41, h42, h43, h44, h45, h46, h47, h48, h49⟩
          · refine J_nf (nh2 := nh) (ck2 := 0) (sk2 := 0) (st2 := [.int (zI 1)]) rfl rfl rfl rfl ?_
            refine J_app (L3 := [(54, .inr (5, [.ref 55, .int (zI ln), .int (zI z5), .int (zI z6), .int (zI z7), .int (zI z8), .int (zI z9), .int (zI fl), .ref 56, .int (zI z10)])), (56, .inl (0, 412, .inl (zA f11))), (54, .inr (5, [.ref 55, .int (zI ln), .int (zI tx_4), .int (zI sx_4), .int (zI bx_4), .int (zI vx_4), .int (zI pa), .int (zI fl), .ref 56, .int (zI sz)]))]) rfl ?_
            refine J_mask (L2 := [(54, .inr (5, [.ref 55, .int (zI ln), .int (zI z5), .int (zI z6), .int (zI z7), .int (zI z8), .int (zI z9), .int (zI fl), .ref 56, .int (zI z10)])), (56, .inl (0, 412, .inl (zA f11)))]) (ks := [54, 56, 54]) [true, true, false] rfl (by decide +kernel) rfl ?_
            refine Z_if_ne (tgt := 141) dX5_plain_54 (by decide) v_4dcc24baa7 (fun h50 => ?_) (fun h50 => absurd h50 v_3a47bfd896)
            refine J_iload_n dX5_plain_141 rfl rfl ?_
            refine Z_if_eq (tgt := 153) dX5_plain_142 (by decide) (v_5f10a759cd i4_2 i4_3) (fun h51 => ?_) (fun h51 => ?_)
            · refine Z_iconst (n := 1) dX5_plain_153 ?_
              exact J_iret dX5_plain_154 rfl (jbn v_316afd7d0b v_bbcfac9b7d) (Nat.le_of_ble_eq_true rfl) (Nat.le_of_ble_eq_true rfl) (Or.inl ⟨z5, z6, z7, z8, z9, z10, f11, rfl, rfl, h12, h13, h14, h15, h16, h17, h18, h19, h20, h21, h22, h23, h24, (v_f7907ed2b5 i4_2 i4_4 h25), (v_4790cfd5f0 i4_2 i4_4 h26)⟩)
            · refine J_aload_n dX5_plain_145 rfl rfl ?_
              refine Z_bipush (n := 9) dX5_plain_146 (by decide +kernel) ?_
              refine Z_iconst (n := 0) dX5_plain_148 ?_
              refine J_callV (st := []) dX5_plain_149 cv_X5_72 (d_emit 9 0 ln z5 z6 z7 z8 z9 fl z10 f11 v_00f9f00cc1 v_b17331891f h21 h22 h24 rfl rfl) rfl rfl rfl (Nat.le_of_ble_eq_true rfl) ⟨(Nat.le_of_ble_eq_true rfl), (Nat.le_of_ble_eq_true rfl)⟩ ⟨(Nat.le_of_ble_eq_true rfl), (Nat.le_of_ble_eq_true rfl)⟩ (fun r h9 hp => ?_)
              obtain ⟨z52, f53, rfl, rfl, h54, h55, h56, h57, h58⟩ := hp
              refine J_nf (nh2 := nh) (ck2 := 0) (sk2 := 0) (st2 := [.int (zI z10)]) rfl rfl rfl rfl ?_
              refine J_app (L3 := [(54, .inr (5, [.ref 55, .int (zI ln), .int (zI z5), .int (zI z6), .int (zI z7), .int (zI z8), .int (zI z9), .int (zI fl), .ref 56, .int (zI z52)])), (56, .inl (0, 412, .inl (zA f53))), (54, .inr (5, [.ref 55, .int (zI ln), .int (zI z5), .int (zI z6), .int (zI z7), .int (zI z8), .int (zI z9), .int (zI fl), .ref 56, .int (zI z10)])), (56, .inl (0, 412, .inl (zA f11)))]) rfl ?_
              refine J_mask (L2 := [(54, .inr (5, [.ref 55, .int (zI ln), .int (zI z5), .int (zI z6), .int (zI z7), .int (zI z8), .int (zI z9), .int (zI fl), .ref 56, .int (zI z52)])), (56, .inl (0, 412, .inl (zA f53)))]) (ks := [54, 56, 54, 56]) [true, true, false, false] rfl (by decide +kernel) rfl ?_
              refine J_pop dX5_plain_152 rfl ?_
              refine Z_iconst (n := 1) dX5_plain_153 ?_
              exact J_iret dX5_plain_154 rfl (jbn v_316afd7d0b v_bbcfac9b7d) (Nat.le_of_ble_eq_true rfl) (Nat.le_of_ble_eq_true rfl) (Or.inl ⟨z5, z6, z7, z8, z9, z52, f53, rfl, rfl, h12, h13, h14, h15, h16, h17, h18, h19, h20, h54, h55, h23, h58, (v_6cbc4edc5d i4_2 i4_4 h25 h51 h57), (v_4790cfd5f0 i4_2 i4_4 h26)⟩)
          · refine J_nf (nh2 := nh) (ck2 := 0) (sk2 := 0) (st2 := [.int (zI 0)]) rfl rfl rfl rfl ?_
            refine J_app (L3 := [(54, .inr (5, [.ref 55, .int (zI ln), .int (zI z27), .int (zI z28), .int (zI z29), .int (zI z30), .int (zI z31), .int (zI z34), .ref 56, .int (zI z32)])), (56, .inl (0, 412, .inl (zA f33))), (54, .inr (5, [.ref 55, .int (zI ln), .int (zI tx_4), .int (zI sx_4), .int (zI bx_4), .int (zI vx_4), .int (zI pa), .int (zI fl), .ref 56, .int (zI sz)]))]) rfl ?_
            refine J_mask (L2 := [(54, .inr (5, [.ref 55, .int (zI ln), .int (zI z27), .int (zI z28), .int (zI z29), .int (zI z30), .int (zI z31), .int (zI z34), .ref 56, .int (zI z32)])), (56, .inl (0, 412, .inl (zA f33)))]) (ks := [54, 56, 54]) [true, true, false] rfl (by decide +kernel) rfl ?_
            refine Z_if_ne (tgt := 141) dX5_plain_54 (by decide) v_b17331891f (fun h59 => absurd h59 (fun q => q v_2ca2bbca1f)) (fun h59 => ?_)
            refine Z_iconst (n := 0) dX5_plain_57 ?_
            exact J_iret dX5_plain_58 rfl (jbn v_939070ca3f v_316afd7d0b) (Nat.le_of_ble_eq_true rfl) (Nat.le_of_ble_eq_true rfl) (Or.inr ⟨z27, z28, z29, z30, z31, z32, f33, z34, rfl, rfl, h35, h36, h37, h38, h39, h40, h41, h42, h43, h44, h45, h46, h47, h48, h49⟩)
        · refine J_nf (nh2 := nh) (ck2 := 0) (sk2 := 0) (st2 := [.int (zI 0)]) rfl rfl rfl rfl ?_
          refine Z_if_eq (tgt := 59) dX5_plain_46 (by decide) v_b17331891f (fun h60 => ?_) (fun h60 => absurd h60 (fun q => q v_2ca2bbca1f))
          refine J_aload_n dX5_plain_59 rfl rfl ?_
          refine J_iload_n dX5_plain_60 rfl rfl ?_
          refine J_callV (st := []) dX5_plain_61 cv_X5_63 (d_sum8 ln tx_4 sx_4 bx_4 vx_4 pa fl sz tp cd q0 q1 i4_5 i4_6 i4_7 i4_8 i4_9 i4_10 i4_11 q9 q10 q11 q12 q13 i4_12 q15 q16 rfl hk55 hk56) rfl rfl rfl (Nat.le_of_ble_eq_true rfl) ⟨(Nat.le_of_ble_eq_true rfl), (Nat.le_of_ble_eq_true rfl)⟩ ⟨(Nat.le_of_ble_eq_true rfl), (Nat.le_of_ble_eq_true rfl)⟩ (fun r h9 hp => ?_)
          rcases hp with ⟨z61, z62, z63, z64, z65, z66, f67, rfl, rfl, h68, h69, h70, h71, h72, h73, h74, h75, h76, h77, h78, h79, h80, h81, h82⟩ | ⟨z83, z84, z85, z86, z87, z88, f89, z90, rfl, rfl, h91, h92, h93, h94, h95, h96, h97, h98, h99, h100, h101, h102, h103, h104, h105⟩
          · refine J_nf (nh2 := nh) (ck2 := 0) (sk2 := 0) (st2 := [.int (zI 1)]) rfl rfl rfl rfl ?_
            refine J_app (L3 := [(54, .inr (5, [.ref 55, .int (zI ln), .int (zI z61), .int (zI z62), .int (zI z63), .int (zI z64), .int (zI z65), .int (zI fl), .ref 56, .int (zI z66)])), (56, .inl (0, 412, .inl (zA f67))), (54, .inr (5, [.ref 55, .int (zI ln), .int (zI tx_4), .int (zI sx_4), .int (zI bx_4), .int (zI vx_4), .int (zI pa), .int (zI fl), .ref 56, .int (zI sz)]))]) rfl ?_
            refine J_mask (L2 := [(54, .inr (5, [.ref 55, .int (zI ln), .int (zI z61), .int (zI z62), .int (zI z63), .int (zI z64), .int (zI z65), .int (zI fl), .ref 56, .int (zI z66)])), (56, .inl (0, 412, .inl (zA f67)))]) (ks := [54, 56, 54]) [true, true, false] rfl (by decide +kernel) rfl ?_
            refine Z_if_ne (tgt := 69) dX5_plain_64 (by decide) v_4dcc24baa7 (fun h106 => ?_) (fun h106 => absurd h106 v_3a47bfd896)
            refine J_aload_n dX5_plain_69 rfl rfl ?_
            refine Z_bipush (n := 60) dX5_plain_70 (by decide +kernel) ?_
            refine J_callV (st := []) dX5_plain_72 cv_X5_50 (d_isSign 60 ln z61 z62 z63 z64 z65 fl z66 v_eb2f5e1e3a v_382af52349 h68 h69 rfl) rfl rfl rfl (Nat.le_of_ble_eq_true rfl) ⟨(Nat.le_of_ble_eq_true rfl), (Nat.le_of_ble_eq_true rfl)⟩ ⟨(Nat.le_of_ble_eq_true rfl), (Nat.le_of_ble_eq_true rfl)⟩ (fun r h9 hp => ?_)
            rcases hp with ⟨rfl, rfl, h107⟩ | ⟨rfl, rfl, h108⟩
            · refine J_nf (nh2 := nh) (ck2 := 0) (sk2 := 0) (st2 := [.int (zI 1)]) rfl rfl rfl rfl ?_
              refine Z_if_eq (tgt := 83) dX5_plain_75 (by decide) v_4dcc24baa7 (fun h109 => absurd h109 v_3a47bfd896) (fun h109 => ?_)
              refine Z_bipush (n := 6) dX5_plain_78 (by decide +kernel) ?_
              refine J_goto (tgt := 99) dX5_plain_80 (by decide) ?_
              refine J_istore_n dX5_plain_99 rfl (Nat.le_of_ble_eq_true rfl) rfl ?_
              refine J_ls (ls2 := [some (.ref 54), some (.int (zI 8)), some (.int (zI dn_4)), some (.int (zI 6))]) rfl ?_
              refine J_iload_n dX5_plain_100 rfl rfl ?_
              refine Z_bipush (n := 8) dX5_plain_101 (by decide +kernel) ?_
              refine Z_icmp_ne (tgt := 120) dX5_plain_103 (by decide) v_8f5ecbc95e v_665891e294 (fun h110 => ?_) (fun h110 => absurd h110 v_ada6685030)
              refine J_aload_n dX5_plain_120 rfl rfl ?_
              have g111 := TokL.lt h79 (v_f5333b39e4 h107)
              refine J_callV (st := []) dX5_plain_121 cv_X5_43 (d_advance ln z61 z62 z63 z64 z65 fl z66 tp q0 q1 (v_d253cb2c59 h70 g111) h72 h73 h74 q15 rfl hk55) rfl rfl rfl (Nat.le_of_ble_eq_true rfl) ⟨(Nat.le_of_ble_eq_true rfl), (Nat.le_of_ble_eq_true rfl)⟩ ⟨(Nat.le_of_ble_eq_true rfl), (Nat.le_of_ble_eq_true rfl)⟩ (fun r h9 hp => ?_)
              obtain ⟨z112, z113, z114, z115, rfl, rfl, h116, h117, h118, h119, h120, h121, h122, h123⟩ := hp
              refine J_nf (nh2 := nh) (ck2 := 0) (sk2 := 0) (st2 := []) rfl rfl rfl rfl ?_
              refine J_app (L3 := [(54, .inr (5, [.ref 55, .int (zI ln), .int (zI z112), .int (zI z113), .int (zI z114), .int (zI z115), .int (zI z65), .int (zI fl), .ref 56, .int (zI z66)])), (54, .inr (5, [.ref 55, .int (zI ln), .int (zI z61), .int (zI z62), .int (zI z63), .int (zI z64), .int (zI z65), .int (zI fl), .ref 56, .int (zI z66)])), (56, .inl (0, 412, .inl (zA f67)))]) rfl ?_
              refine J_mask (L2 := [(54, .inr (5, [.ref 55, .int (zI ln), .int (zI z112), .int (zI z113), .int (zI z114), .int (zI z115), .int (zI z65), .int (zI fl), .ref 56, .int (zI z66)])), (56, .inl (0, 412, .inl (zA f67)))]) (ks := [54, 54, 56]) [true, false, true] rfl (by decide +kernel) rfl ?_
              refine J_aload_n dX5_plain_124 rfl rfl ?_
              refine J_iload_n dX5_plain_125 rfl rfl ?_
              refine J_callV (st := []) dX5_plain_126 cv_X5_63 (d_sum8 ln z112 z113 z114 z115 z65 fl z66 tp f67 q0 q1 h116 h117 (v_9b2e2070a2 h70 g111 h118) h119 h120 h121 h122 h75 h76 q11 h77 h78 h123 q15 h80 rfl hk55 rfl) rfl rfl rfl (Nat.le_of_ble_eq_true rfl) ⟨(Nat.le_of_ble_eq_true rfl), (Nat.le_of_ble_eq_true rfl)⟩ ⟨(Nat.le_of_ble_eq_true rfl), (Nat.le_of_ble_eq_true rfl)⟩ (fun r h9 hp => ?_)
              rcases hp with ⟨z124, z125, z126, z127, z128, z129, f130, rfl, rfl, h131, h132, h133, h134, h135, h136, h137, h138, h139, h140, h141, h142, h143, h144, h145⟩ | ⟨z146, z147, z148, z149, z150, z151, f152, z153, rfl, rfl, h154, h155, h156, h157, h158, h159, h160, h161, h162, h163, h164, h165, h166, h167, h168⟩
              · refine J_nf (nh2 := nh) (ck2 := 0) (sk2 := 0) (st2 := [.int (zI 1)]) rfl rfl rfl rfl ?_
                refine J_app (L3 := [(54, .inr (5, [.ref 55, .int (zI ln), .int (zI z124), .int (zI z125), .int (zI z126), .int (zI z127), .int (zI z128), .int (zI fl), .ref 56, .int (zI z129)])), (56, .inl (0, 412, .inl (zA f130))), (54, .inr (5, [.ref 55, .int (zI ln), .int (zI z112), .int (zI z113), .int (zI z114), .int (zI z115), .int (zI z65), .int (zI fl), .ref 56, .int (zI z66)])), (56, .inl (0, 412, .inl (zA f67)))]) rfl ?_
                refine J_mask (L2 := [(54, .inr (5, [.ref 55, .int (zI ln), .int (zI z124), .int (zI z125), .int (zI z126), .int (zI z127), .int (zI z128), .int (zI fl), .ref 56, .int (zI z129)])), (56, .inl (0, 412, .inl (zA f130)))]) (ks := [54, 56, 54, 56]) [true, true, false, false] rfl (by decide +kernel) rfl ?_
                refine Z_if_ne (tgt := 134) dX5_plain_129 (by decide) v_4dcc24baa7 (fun h169 => ?_) (fun h169 => absurd h169 v_3a47bfd896)
                refine J_aload_n dX5_plain_134 rfl rfl ?_
                refine J_iload_n dX5_plain_135 rfl rfl ?_
                refine Z_iconst (n := 0) dX5_plain_136 ?_
                refine J_callV (st := []) dX5_plain_137 cv_X5_72 (d_emit 6 0 ln z124 z125 z126 z127 z128 fl z129 f130 v_8f5ecbc95e v_b17331891f h140 h141 h143 rfl rfl) rfl rfl rfl (Nat.le_of_ble_eq_true rfl) ⟨(Nat.le_of_ble_eq_true rfl), (Nat.le_of_ble_eq_true rfl)⟩ ⟨(Nat.le_of_ble_eq_true rfl), (Nat.le_of_ble_eq_true rfl)⟩ (fun r h9 hp => ?_)
                obtain ⟨z170, f171, rfl, rfl, h172, h173, h174, h175, h176⟩ := hp
                refine J_nf (nh2 := nh) (ck2 := 0) (sk2 := 0) (st2 := [.int (zI z129)]) rfl rfl rfl rfl ?_
                refine J_app (L3 := [(54, .inr (5, [.ref 55, .int (zI ln), .int (zI z124), .int (zI z125), .int (zI z126), .int (zI z127), .int (zI z128), .int (zI fl), .ref 56, .int (zI z170)])), (56, .inl (0, 412, .inl (zA f171))), (54, .inr (5, [.ref 55, .int (zI ln), .int (zI z124), .int (zI z125), .int (zI z126), .int (zI z127), .int (zI z128), .int (zI fl), .ref 56, .int (zI z129)])), (56, .inl (0, 412, .inl (zA f130)))]) rfl ?_
                refine J_mask (L2 := [(54, .inr (5, [.ref 55, .int (zI ln), .int (zI z124), .int (zI z125), .int (zI z126), .int (zI z127), .int (zI z128), .int (zI fl), .ref 56, .int (zI z170)])), (56, .inl (0, 412, .inl (zA f171)))]) (ks := [54, 56, 54, 56]) [true, true, false, false] rfl (by decide +kernel) rfl ?_
                refine J_pop dX5_plain_140 rfl ?_
                refine J_iload_n dX5_plain_141 rfl rfl ?_
                refine Z_if_eq (tgt := 153) dX5_plain_142 (by decide) (v_5f10a759cd i4_2 i4_3) (fun h177 => ?_) (fun h177 => ?_)
                · refine Z_iconst (n := 1) dX5_plain_153 ?_
                  exact J_iret dX5_plain_154 rfl (jbn v_316afd7d0b v_bbcfac9b7d) (Nat.le_of_ble_eq_true rfl) (Nat.le_of_ble_eq_true rfl) (Or.inl ⟨z124, z125, z126, z127, z128, z170, f171, rfl, rfl, h131, h132, h133, h134, h135, h136, h137, h138, h139, h172, h173, h142, h176, (v_5848421b37 i4_2 i4_4 h81 g111 h118 h144 h175), (v_60a9ec55dc i4_2 i4_4 h82 g111 h118 h145)⟩)
                · refine J_aload_n dX5_plain_145 rfl rfl ?_
                  refine Z_bipush (n := 9) dX5_plain_146 (by decide +kernel) ?_
                  refine Z_iconst (n := 0) dX5_plain_148 ?_
                  refine J_callV (st := []) dX5_plain_149 cv_X5_72 (d_emit 9 0 ln z124 z125 z126 z127 z128 fl z170 f171 v_00f9f00cc1 v_b17331891f h172 h173 h176 rfl rfl) rfl rfl rfl (Nat.le_of_ble_eq_true rfl) ⟨(Nat.le_of_ble_eq_true rfl), (Nat.le_of_ble_eq_true rfl)⟩ ⟨(Nat.le_of_ble_eq_true rfl), (Nat.le_of_ble_eq_true rfl)⟩ (fun r h9 hp => ?_)
                  obtain ⟨z178, f179, rfl, rfl, h180, h181, h182, h183, h184⟩ := hp
                  refine J_nf (nh2 := nh) (ck2 := 0) (sk2 := 0) (st2 := [.int (zI z170)]) rfl rfl rfl rfl ?_
                  refine J_app (L3 := [(54, .inr (5, [.ref 55, .int (zI ln), .int (zI z124), .int (zI z125), .int (zI z126), .int (zI z127), .int (zI z128), .int (zI fl), .ref 56, .int (zI z178)])), (56, .inl (0, 412, .inl (zA f179))), (54, .inr (5, [.ref 55, .int (zI ln), .int (zI z124), .int (zI z125), .int (zI z126), .int (zI z127), .int (zI z128), .int (zI fl), .ref 56, .int (zI z170)])), (56, .inl (0, 412, .inl (zA f171)))]) rfl ?_
                  refine J_mask (L2 := [(54, .inr (5, [.ref 55, .int (zI ln), .int (zI z124), .int (zI z125), .int (zI z126), .int (zI z127), .int (zI z128), .int (zI fl), .ref 56, .int (zI z178)])), (56, .inl (0, 412, .inl (zA f179)))]) (ks := [54, 56, 54, 56]) [true, true, false, false] rfl (by decide +kernel) rfl ?_
                  refine J_pop dX5_plain_152 rfl ?_
                  refine Z_iconst (n := 1) dX5_plain_153 ?_
                  exact J_iret dX5_plain_154 rfl (jbn v_316afd7d0b v_bbcfac9b7d) (Nat.le_of_ble_eq_true rfl) (Nat.le_of_ble_eq_true rfl) (Or.inl ⟨z124, z125, z126, z127, z128, z178, f179, rfl, rfl, h131, h132, h133, h134, h135, h136, h137, h138, h139, h180, h181, h142, h184, (v_1533bd4120 i4_2 i4_4 h81 g111 h118 h144 h175 h177 h183), (v_60a9ec55dc i4_2 i4_4 h82 g111 h118 h145)⟩)
              · refine J_nf (nh2 := nh) (ck2 := 0) (sk2 := 0) (st2 := [.int (zI 0)]) rfl rfl rfl rfl ?_
                refine J_app (L3 := [(54, .inr (5, [.ref 55, .int (zI ln), .int (zI z146), .int (zI z147), .int (zI z148), .int (zI z149), .int (zI z150), .int (zI z153), .ref 56, .int (zI z151)])), (56, .inl (0, 412, .inl (zA f152))), (54, .inr (5, [.ref 55, .int (zI ln), .int (zI z112), .int (zI z113), .int (zI z114), .int (zI z115), .int (zI z65), .int (zI fl), .ref 56, .int (zI z66)])), (56, .inl (0, 412, .inl (zA f67)))]) rfl ?_
                refine J_mask (L2 := [(54, .inr (5, [.ref 55, .int (zI ln), .int (zI z146), .int (zI z147), .int (zI z148), .int (zI z149), .int (zI z150), .int (zI z153), .ref 56, .int (zI z151)])), (56, .inl (0, 412, .inl (zA f152)))]) (ks := [54, 56, 54, 56]) [true, true, false, false] rfl (by decide +kernel) rfl ?_
                refine Z_if_ne (tgt := 134) dX5_plain_129 (by decide) v_b17331891f (fun h185 => absurd h185 (fun q => q v_2ca2bbca1f)) (fun h185 => ?_)
                refine Z_iconst (n := 0) dX5_plain_132 ?_
                exact J_iret dX5_plain_133 rfl (jbn v_939070ca3f v_316afd7d0b) (Nat.le_of_ble_eq_true rfl) (Nat.le_of_ble_eq_true rfl) (Or.inr ⟨z146, z147, z148, z149, z150, z151, f152, z153, rfl, rfl, h154, h155, h156, h157, h158, h159, h160, h161, h162, h163, h164, h165, h166, h167, h168⟩)
            · refine J_nf (nh2 := nh) (ck2 := 0) (sk2 := 0) (st2 := [.int (zI 0)]) rfl rfl rfl rfl ?_
              refine Z_if_eq (tgt := 83) dX5_plain_75 (by decide) v_b17331891f (fun h186 => ?_) (fun h186 => absurd h186 (fun q => q v_2ca2bbca1f))
              refine J_aload_n dX5_plain_83 rfl rfl ?_
              refine Z_bipush (n := 62) dX5_plain_84 (by decide +kernel) ?_
              refine J_callV (st := []) dX5_plain_86 cv_X5_50 (d_isSign 62 ln z61 z62 z63 z64 z65 fl z66 v_722c6b3941 v_3996c1d9a8 h68 h69 rfl) rfl rfl rfl (Nat.le_of_ble_eq_true rfl) ⟨(Nat.le_of_ble_eq_true rfl), (Nat.le_of_ble_eq_true rfl)⟩ ⟨(Nat.le_of_ble_eq_true rfl), (Nat.le_of_ble_eq_true rfl)⟩ (fun r h9 hp => ?_)
              rcases hp with ⟨rfl, rfl, h187⟩ | ⟨rfl, rfl, h188⟩
              · refine J_nf (nh2 := nh) (ck2 := 0) (sk2 := 0) (st2 := [.int (zI 1)]) rfl rfl rfl rfl ?_
                refine Z_if_eq (tgt := 97) dX5_plain_89 (by decide) v_4dcc24baa7 (fun h189 => absurd h189 v_3a47bfd896) (fun h189 => ?_)
                refine Z_bipush (n := 7) dX5_plain_92 (by decide +kernel) ?_
                refine J_goto (tgt := 99) dX5_plain_94 (by decide) ?_
                refine J_istore_n dX5_plain_99 rfl (Nat.le_of_ble_eq_true rfl) rfl ?_
                refine J_ls (ls2 := [some (.ref 54), some (.int (zI 8)), some (.int (zI dn_4)), some (.int (zI 7))]) rfl ?_
                refine J_iload_n dX5_plain_100 rfl rfl ?_
                refine Z_bipush (n := 8) dX5_plain_101 (by decide +kernel) ?_
                refine Z_icmp_ne (tgt := 120) dX5_plain_103 (by decide) v_c3fe1a091f v_665891e294 (fun h190 => ?_) (fun h190 => absurd h190 v_d62b89f05c)
                refine J_aload_n dX5_plain_120 rfl rfl ?_
                have g191 := TokL.lt h79 (v_3ec9e003c7 h187)
                refine J_callV (st := []) dX5_plain_121 cv_X5_43 (d_advance ln z61 z62 z63 z64 z65 fl z66 tp q0 q1 (v_d253cb2c59 h70 g191) h72 h73 h74 q15 rfl hk55) rfl rfl rfl (Nat.le_of_ble_eq_true rfl) ⟨(Nat.le_of_ble_eq_true rfl), (Nat.le_of_ble_eq_true rfl)⟩ ⟨(Nat.le_of_ble_eq_true rfl), (Nat.le_of_ble_eq_true rfl)⟩ (fun r h9 hp => ?_)
                obtain ⟨z192, z193, z194, z195, rfl, rfl, h196, h197, h198, h199, h200, h201, h202, h203⟩ := hp
                refine J_nf (nh2 := nh) (ck2 := 0) (sk2 := 0) (st2 := []) rfl rfl rfl rfl ?_
                refine J_app (L3 := [(54, .inr (5, [.ref 55, .int (zI ln), .int (zI z192), .int (zI z193), .int (zI z194), .int (zI z195), .int (zI z65), .int (zI fl), .ref 56, .int (zI z66)])), (54, .inr (5, [.ref 55, .int (zI ln), .int (zI z61), .int (zI z62), .int (zI z63), .int (zI z64), .int (zI z65), .int (zI fl), .ref 56, .int (zI z66)])), (56, .inl (0, 412, .inl (zA f67)))]) rfl ?_
                refine J_mask (L2 := [(54, .inr (5, [.ref 55, .int (zI ln), .int (zI z192), .int (zI z193), .int (zI z194), .int (zI z195), .int (zI z65), .int (zI fl), .ref 56, .int (zI z66)])), (56, .inl (0, 412, .inl (zA f67)))]) (ks := [54, 54, 56]) [true, false, true] rfl (by decide +kernel) rfl ?_
                refine J_aload_n dX5_plain_124 rfl rfl ?_
                refine J_iload_n dX5_plain_125 rfl rfl ?_
                refine J_callV (st := []) dX5_plain_126 cv_X5_63 (d_sum8 ln z192 z193 z194 z195 z65 fl z66 tp f67 q0 q1 h196 h197 (v_9b2e2070a2 h70 g191 h198) h199 h200 h201 h202 h75 h76 q11 h77 h78 h203 q15 h80 rfl hk55 rfl) rfl rfl rfl (Nat.le_of_ble_eq_true rfl) ⟨(Nat.le_of_ble_eq_true rfl), (Nat.le_of_ble_eq_true rfl)⟩ ⟨(Nat.le_of_ble_eq_true rfl), (Nat.le_of_ble_eq_true rfl)⟩ (fun r h9 hp => ?_)
                rcases hp with ⟨z204, z205, z206, z207, z208, z209, f210, rfl, rfl, h211, h212, h213, h214, h215, h216, h217, h218, h219, h220, h221, h222, h223, h224, h225⟩ | ⟨z226, z227, z228, z229, z230, z231, f232, z233, rfl, rfl, h234, h235, h236, h237, h238, h239, h240, h241, h242, h243, h244, h245, h246, h247, h248⟩
                · refine J_nf (nh2 := nh) (ck2 := 0) (sk2 := 0) (st2 := [.int (zI 1)]) rfl rfl rfl rfl ?_
                  refine J_app (L3 := [(54, .inr (5, [.ref 55, .int (zI ln), .int (zI z204), .int (zI z205), .int (zI z206), .int (zI z207), .int (zI z208), .int (zI fl), .ref 56, .int (zI z209)])), (56, .inl (0, 412, .inl (zA f210))), (54, .inr (5, [.ref 55, .int (zI ln), .int (zI z192), .int (zI z193), .int (zI z194), .int (zI z195), .int (zI z65), .int (zI fl), .ref 56, .int (zI z66)])), (56, .inl (0, 412, .inl (zA f67)))]) rfl ?_
                  refine J_mask (L2 := [(54, .inr (5, [.ref 55, .int (zI ln), .int (zI z204), .int (zI z205), .int (zI z206), .int (zI z207), .int (zI z208), .int (zI fl), .ref 56, .int (zI z209)])), (56, .inl (0, 412, .inl (zA f210)))]) (ks := [54, 56, 54, 56]) [true, true, false, false] rfl (by decide +kernel) rfl ?_
                  refine Z_if_ne (tgt := 134) dX5_plain_129 (by decide) v_4dcc24baa7 (fun h249 => ?_) (fun h249 => absurd h249 v_3a47bfd896)
                  refine J_aload_n dX5_plain_134 rfl rfl ?_
                  refine J_iload_n dX5_plain_135 rfl rfl ?_
                  refine Z_iconst (n := 0) dX5_plain_136 ?_
                  refine J_callV (st := []) dX5_plain_137 cv_X5_72 (d_emit 7 0 ln z204 z205 z206 z207 z208 fl z209 f210 v_c3fe1a091f v_b17331891f h220 h221 h223 rfl rfl) rfl rfl rfl (Nat.le_of_ble_eq_true rfl) ⟨(Nat.le_of_ble_eq_true rfl), (Nat.le_of_ble_eq_true rfl)⟩ ⟨(Nat.le_of_ble_eq_true rfl), (Nat.le_of_ble_eq_true rfl)⟩ (fun r h9 hp => ?_)
                  obtain ⟨z250, f251, rfl, rfl, h252, h253, h254, h255, h256⟩ := hp
                  refine J_nf (nh2 := nh) (ck2 := 0) (sk2 := 0) (st2 := [.int (zI z209)]) rfl rfl rfl rfl ?_
                  refine J_app (L3 := [(54, .inr (5, [.ref 55, .int (zI ln), .int (zI z204), .int (zI z205), .int (zI z206), .int (zI z207), .int (zI z208), .int (zI fl), .ref 56, .int (zI z250)])), (56, .inl (0, 412, .inl (zA f251))), (54, .inr (5, [.ref 55, .int (zI ln), .int (zI z204), .int (zI z205), .int (zI z206), .int (zI z207), .int (zI z208), .int (zI fl), .ref 56, .int (zI z209)])), (56, .inl (0, 412, .inl (zA f210)))]) rfl ?_
                  refine J_mask (L2 := [(54, .inr (5, [.ref 55, .int (zI ln), .int (zI z204), .int (zI z205), .int (zI z206), .int (zI z207), .int (zI z208), .int (zI fl), .ref 56, .int (zI z250)])), (56, .inl (0, 412, .inl (zA f251)))]) (ks := [54, 56, 54, 56]) [true, true, false, false] rfl (by decide +kernel) rfl ?_
                  refine J_pop dX5_plain_140 rfl ?_
                  refine J_iload_n dX5_plain_141 rfl rfl ?_
                  refine Z_if_eq (tgt := 153) dX5_plain_142 (by decide) (v_5f10a759cd i4_2 i4_3) (fun h257 => ?_) (fun h257 => ?_)
                  · refine Z_iconst (n := 1) dX5_plain_153 ?_
                    exact J_iret dX5_plain_154 rfl (jbn v_316afd7d0b v_bbcfac9b7d) (Nat.le_of_ble_eq_true rfl) (Nat.le_of_ble_eq_true rfl) (Or.inl ⟨z204, z205, z206, z207, z208, z250, f251, rfl, rfl, h211, h212, h213, h214, h215, h216, h217, h218, h219, h252, h253, h222, h256, (v_5848421b37 i4_2 i4_4 h81 g191 h198 h224 h255), (v_60a9ec55dc i4_2 i4_4 h82 g191 h198 h225)⟩)
                  · refine J_aload_n dX5_plain_145 rfl rfl ?_
                    refine Z_bipush (n := 9) dX5_plain_146 (by decide +kernel) ?_
                    refine Z_iconst (n := 0) dX5_plain_148 ?_
                    refine J_callV (st := []) dX5_plain_149 cv_X5_72 (d_emit 9 0 ln z204 z205 z206 z207 z208 fl z250 f251 v_00f9f00cc1 v_b17331891f h252 h253 h256 rfl rfl) rfl rfl rfl (Nat.le_of_ble_eq_true rfl) ⟨(Nat.le_of_ble_eq_true rfl), (Nat.le_of_ble_eq_true rfl)⟩ ⟨(Nat.le_of_ble_eq_true rfl), (Nat.le_of_ble_eq_true rfl)⟩ (fun r h9 hp => ?_)
                    obtain ⟨z258, f259, rfl, rfl, h260, h261, h262, h263, h264⟩ := hp
                    refine J_nf (nh2 := nh) (ck2 := 0) (sk2 := 0) (st2 := [.int (zI z250)]) rfl rfl rfl rfl ?_
                    refine J_app (L3 := [(54, .inr (5, [.ref 55, .int (zI ln), .int (zI z204), .int (zI z205), .int (zI z206), .int (zI z207), .int (zI z208), .int (zI fl), .ref 56, .int (zI z258)])), (56, .inl (0, 412, .inl (zA f259))), (54, .inr (5, [.ref 55, .int (zI ln), .int (zI z204), .int (zI z205), .int (zI z206), .int (zI z207), .int (zI z208), .int (zI fl), .ref 56, .int (zI z250)])), (56, .inl (0, 412, .inl (zA f251)))]) rfl ?_
                    refine J_mask (L2 := [(54, .inr (5, [.ref 55, .int (zI ln), .int (zI z204), .int (zI z205), .int (zI z206), .int (zI z207), .int (zI z208), .int (zI fl), .ref 56, .int (zI z258)])), (56, .inl (0, 412, .inl (zA f259)))]) (ks := [54, 56, 54, 56]) [true, true, false, false] rfl (by decide +kernel) rfl ?_
                    refine J_pop dX5_plain_152 rfl ?_
                    refine Z_iconst (n := 1) dX5_plain_153 ?_
                    exact J_iret dX5_plain_154 rfl (jbn v_316afd7d0b v_bbcfac9b7d) (Nat.le_of_ble_eq_true rfl) (Nat.le_of_ble_eq_true rfl) (Or.inl ⟨z204, z205, z206, z207, z208, z258, f259, rfl, rfl, h211, h212, h213, h214, h215, h216, h217, h218, h219, h260, h261, h222, h264, (v_1533bd4120 i4_2 i4_4 h81 g191 h198 h224 h255 h257 h263), (v_60a9ec55dc i4_2 i4_4 h82 g191 h198 h225)⟩)
                · refine J_nf (nh2 := nh) (ck2 := 0) (sk2 := 0) (st2 := [.int (zI 0)]) rfl rfl rfl rfl ?_
                  refine J_app (L3 := [(54, .inr (5, [.ref 55, .int (zI ln), .int (zI z226), .int (zI z227), .int (zI z228), .int (zI z229), .int (zI z230), .int (zI z233), .ref 56, .int (zI z231)])), (56, .inl (0, 412, .inl (zA f232))), (54, .inr (5, [.ref 55, .int (zI ln), .int (zI z192), .int (zI z193), .int (zI z194), .int (zI z195), .int (zI z65), .int (zI fl), .ref 56, .int (zI z66)])), (56, .inl (0, 412, .inl (zA f67)))]) rfl ?_
                  refine J_mask (L2 := [(54, .inr (5, [.ref 55, .int (zI ln), .int (zI z226), .int (zI z227), .int (zI z228), .int (zI z229), .int (zI z230), .int (zI z233), .ref 56, .int (zI z231)])), (56, .inl (0, 412, .inl (zA f232)))]) (ks := [54, 56, 54, 56]) [true, true, false, false] rfl (by decide +kernel) rfl ?_
                  refine Z_if_ne (tgt := 134) dX5_plain_129 (by decide) v_b17331891f (fun h265 => absurd h265 (fun q => q v_2ca2bbca1f)) (fun h265 => ?_)
                  refine Z_iconst (n := 0) dX5_plain_132 ?_
                  exact J_iret dX5_plain_133 rfl (jbn v_939070ca3f v_316afd7d0b) (Nat.le_of_ble_eq_true rfl) (Nat.le_of_ble_eq_true rfl) (Or.inr ⟨z226, z227, z228, z229, z230, z231, f232, z233, rfl, rfl, h234, h235, h236, h237, h238, h239, h240, h241, h242, h243, h244, h245, h246, h247, h248⟩)
              · refine J_nf (nh2 := nh) (ck2 := 0) (sk2 := 0) (st2 := [.int (zI 0)]) rfl rfl rfl rfl ?_
                refine Z_if_eq (tgt := 97) dX5_plain_89 (by decide) v_b17331891f (fun h266 => ?_) (fun h266 => absurd h266 (fun q => q v_2ca2bbca1f))
                refine Z_bipush (n := 8) dX5_plain_97 (by decide +kernel) ?_
                refine J_istore_n dX5_plain_99 rfl (Nat.le_of_ble_eq_true rfl) rfl ?_
                refine J_ls (ls2 := [some (.ref 54), some (.int (zI 8)), some (.int (zI dn_4)), some (.int (zI 8))]) rfl ?_
                refine J_iload_n dX5_plain_100 rfl rfl ?_
                refine Z_bipush (n := 8) dX5_plain_101 (by decide +kernel) ?_
                refine Z_icmp_ne (tgt := 120) dX5_plain_103 (by decide) v_665891e294 v_665891e294 (fun h267 => absurd h267 (fun q => q v_c1b8243509)) (fun h267 => ?_)
                refine J_aload_n dX5_plain_106 rfl rfl ?_
                refine Z_bipush (n := 61) dX5_plain_107 (by decide +kernel) ?_
                refine J_callV (st := []) dX5_plain_109 cv_X5_50 (d_isSign 61 ln z61 z62 z63 z64 z65 fl z66 v_b92a3c53b8 v_7b9730a51b h68 h69 rfl) rfl rfl rfl (Nat.le_of_ble_eq_true rfl) ⟨(Nat.le_of_ble_eq_true rfl), (Nat.le_of_ble_eq_true rfl)⟩ ⟨(Nat.le_of_ble_eq_true rfl), (Nat.le_of_ble_eq_true rfl)⟩ (fun r h9 hp => ?_)
                rcases hp with ⟨rfl, rfl, h268⟩ | ⟨rfl, rfl, h269⟩
                · refine J_nf (nh2 := nh) (ck2 := 0) (sk2 := 0) (st2 := [.int (zI 1)]) rfl rfl rfl rfl ?_
                  refine Z_if_ne (tgt := 120) dX5_plain_112 (by decide) v_4dcc24baa7 (fun h270 => ?_) (fun h270 => absurd h270 v_3a47bfd896)
                  refine J_aload_n dX5_plain_120 rfl rfl ?_
                  have g271 := TokL.lt h79 (v_23eeeea057 h268)
                  refine J_callV (st := []) dX5_plain_121 cv_X5_43 (d_advance ln z61 z62 z63 z64 z65 fl z66 tp q0 q1 (v_d253cb2c59 h70 g271) h72 h73 h74 q15 rfl hk55) rfl rfl rfl (Nat.le_of_ble_eq_true rfl) ⟨(Nat.le_of_ble_eq_true rfl), (Nat.le_of_ble_eq_true rfl)⟩ ⟨(Nat.le_of_ble_eq_true rfl), (Nat.le_of_ble_eq_true rfl)⟩ (fun r h9 hp => ?_)
                  obtain ⟨z272, z273, z274, z275, rfl, rfl, h276, h277, h278, h279, h280, h281, h282, h283⟩ := hp
                  refine J_nf (nh2 := nh) (ck2 := 0) (sk2 := 0) (st2 := []) rfl rfl rfl rfl ?_
                  refine J_app (L3 := [(54, .inr (5, [.ref 55, .int (zI ln), .int (zI z272), .int (zI z273), .int (zI z274), .int (zI z275), .int (zI z65), .int (zI fl), .ref 56, .int (zI z66)])), (54, .inr (5, [.ref 55, .int (zI ln), .int (zI z61), .int (zI z62), .int (zI z63), .int (zI z64), .int (zI z65), .int (zI fl), .ref 56, .int (zI z66)])), (56, .inl (0, 412, .inl (zA f67)))]) rfl ?_
                  refine J_mask (L2 := [(54, .inr (5, [.ref 55, .int (zI ln), .int (zI z272), .int (zI z273), .int (zI z274), .int (zI z275), .int (zI z65), .int (zI fl), .ref 56, .int (zI z66)])), (56, .inl (0, 412, .inl (zA f67)))]) (ks := [54, 54, 56]) [true, false, true] rfl (by decide +kernel) rfl ?_
                  refine J_aload_n dX5_plain_124 rfl rfl ?_
                  refine J_iload_n dX5_plain_125 rfl rfl ?_
                  refine J_callV (st := []) dX5_plain_126 cv_X5_63 (d_sum8 ln z272 z273 z274 z275 z65 fl z66 tp f67 q0 q1 h276 h277 (v_9b2e2070a2 h70 g271 h278) h279 h280 h281 h282 h75 h76 q11 h77 h78 h283 q15 h80 rfl hk55 rfl) rfl rfl rfl (Nat.le_of_ble_eq_true rfl) ⟨(Nat.le_of_ble_eq_true rfl), (Nat.le_of_ble_eq_true rfl)⟩ ⟨(Nat.le_of_ble_eq_true rfl), (Nat.le_of_ble_eq_true rfl)⟩ (fun r h9 hp => ?_)
                  rcases hp with ⟨z284, z285, z286, z287, z288, z289, f290, rfl, rfl, h291, h292, h293, h294, h295, h296, h297, h298, h299, h300, h301, h302, h303, h304, h305⟩ | ⟨z306, z307, z308, z309, z310, z311, f312, z313, rfl, rfl, h314, h315, h316, h317, h318, h319, h320, h321, h322, h323, h324, h325, h326, h327, h328⟩
                  · refine J_nf (nh2 := nh) (ck2 := 0) (sk2 := 0) (st2 := [.int (zI 1)]) rfl rfl rfl rfl ?_
                    refine J_app (L3 := [(54, .inr (5, [.ref 55, .int (zI ln), .int (zI z284), .int (zI z285), .int (zI z286), .int (zI z287), .int (zI z288), .int (zI fl), .ref 56, .int (zI z289)])), (56, .inl (0, 412, .inl (zA f290))), (54, .inr (5, [.ref 55, .int (zI ln), .int (zI z272), .int (zI z273), .int (zI z274), .int (zI z275), .int (zI z65), .int (zI fl), .ref 56, .int (zI z66)])), (56, .inl (0, 412, .inl (zA f67)))]) rfl ?_
                    refine J_mask (L2 := [(54, .inr (5, [.ref 55, .int (zI ln), .int (zI z284), .int (zI z285), .int (zI z286), .int (zI z287), .int (zI z288), .int (zI fl), .ref 56, .int (zI z289)])), (56, .inl (0, 412, .inl (zA f290)))]) (ks := [54, 56, 54, 56]) [true, true, false, false] rfl (by decide +kernel) rfl ?_
                    refine Z_if_ne (tgt := 134) dX5_plain_129 (by decide) v_4dcc24baa7 (fun h329 => ?_) (fun h329 => absurd h329 v_3a47bfd896)
                    refine J_aload_n dX5_plain_134 rfl rfl ?_
                    refine J_iload_n dX5_plain_135 rfl rfl ?_
                    refine Z_iconst (n := 0) dX5_plain_136 ?_
                    refine J_callV (st := []) dX5_plain_137 cv_X5_72 (d_emit 8 0 ln z284 z285 z286 z287 z288 fl z289 f290 v_665891e294 v_b17331891f h300 h301 h303 rfl rfl) rfl rfl rfl (Nat.le_of_ble_eq_true rfl) ⟨(Nat.le_of_ble_eq_true rfl), (Nat.le_of_ble_eq_true rfl)⟩ ⟨(Nat.le_of_ble_eq_true rfl), (Nat.le_of_ble_eq_true rfl)⟩ (fun r h9 hp => ?_)
                    obtain ⟨z330, f331, rfl, rfl, h332, h333, h334, h335, h336⟩ := hp
                    refine J_nf (nh2 := nh) (ck2 := 0) (sk2 := 0) (st2 := [.int (zI z289)]) rfl rfl rfl rfl ?_
                    refine J_app (L3 := [(54, .inr (5, [.ref 55, .int (zI ln), .int (zI z284), .int (zI z285), .int (zI z286), .int (zI z287), .int (zI z288), .int (zI fl), .ref 56, .int (zI z330)])), (56, .inl (0, 412, .inl (zA f331))), (54, .inr (5, [.ref 55, .int (zI ln), .int (zI z284), .int (zI z285), .int (zI z286), .int (zI z287), .int (zI z288), .int (zI fl), .ref 56, .int (zI z289)])), (56, .inl (0, 412, .inl (zA f290)))]) rfl ?_
                    refine J_mask (L2 := [(54, .inr (5, [.ref 55, .int (zI ln), .int (zI z284), .int (zI z285), .int (zI z286), .int (zI z287), .int (zI z288), .int (zI fl), .ref 56, .int (zI z330)])), (56, .inl (0, 412, .inl (zA f331)))]) (ks := [54, 56, 54, 56]) [true, true, false, false] rfl (by decide +kernel) rfl ?_
                    refine J_pop dX5_plain_140 rfl ?_
                    refine J_iload_n dX5_plain_141 rfl rfl ?_
                    refine Z_if_eq (tgt := 153) dX5_plain_142 (by decide) (v_5f10a759cd i4_2 i4_3) (fun h337 => ?_) (fun h337 => ?_)
                    · refine Z_iconst (n := 1) dX5_plain_153 ?_
                      exact J_iret dX5_plain_154 rfl (jbn v_316afd7d0b v_bbcfac9b7d) (Nat.le_of_ble_eq_true rfl) (Nat.le_of_ble_eq_true rfl) (Or.inl ⟨z284, z285, z286, z287, z288, z330, f331, rfl, rfl, h291, h292, h293, h294, h295, h296, h297, h298, h299, h332, h333, h302, h336, (v_5848421b37 i4_2 i4_4 h81 g271 h278 h304 h335), (v_60a9ec55dc i4_2 i4_4 h82 g271 h278 h305)⟩)
                    · refine J_aload_n dX5_plain_145 rfl rfl ?_
                      refine Z_bipush (n := 9) dX5_plain_146 (by decide +kernel) ?_
                      refine Z_iconst (n := 0) dX5_plain_148 ?_
                      refine J_callV (st := []) dX5_plain_149 cv_X5_72 (d_emit 9 0 ln z284 z285 z286 z287 z288 fl z330 f331 v_00f9f00cc1 v_b17331891f h332 h333 h336 rfl rfl) rfl rfl rfl (Nat.le_of_ble_eq_true rfl) ⟨(Nat.le_of_ble_eq_true rfl), (Nat.le_of_ble_eq_true rfl)⟩ ⟨(Nat.le_of_ble_eq_true rfl), (Nat.le_of_ble_eq_true rfl)⟩ (fun r h9 hp => ?_)
                      obtain ⟨z338, f339, rfl, rfl, h340, h341, h342, h343, h344⟩ := hp
                      refine J_nf (nh2 := nh) (ck2 := 0) (sk2 := 0) (st2 := [.int (zI z330)]) rfl rfl rfl rfl ?_
                      refine J_app (L3 := [(54, .inr (5, [.ref 55, .int (zI ln), .int (zI z284), .int (zI z285), .int (zI z286), .int (zI z287), .int (zI z288), .int (zI fl), .ref 56, .int (zI z338)])), (56, .inl (0, 412, .inl (zA f339))), (54, .inr (5, [.ref 55, .int (zI ln), .int (zI z284), .int (zI z285), .int (zI z286), .int (zI z287), .int (zI z288), .int (zI fl), .ref 56, .int (zI z330)])), (56, .inl (0, 412, .inl (zA f331)))]) rfl ?_
                      refine J_mask (L2 := [(54, .inr (5, [.ref 55, .int (zI ln), .int (zI z284), .int (zI z285), .int (zI z286), .int (zI z287), .int (zI z288), .int (zI fl), .ref 56, .int (zI z338)])), (56, .inl (0, 412, .inl (zA f339)))]) (ks := [54, 56, 54, 56]) [true, true, false, false] rfl (by decide +kernel) rfl ?_
                      refine J_pop dX5_plain_152 rfl ?_
                      refine Z_iconst (n := 1) dX5_plain_153 ?_
                      exact J_iret dX5_plain_154 rfl (jbn v_316afd7d0b v_bbcfac9b7d) (Nat.le_of_ble_eq_true rfl) (Nat.le_of_ble_eq_true rfl) (Or.inl ⟨z284, z285, z286, z287, z288, z338, f339, rfl, rfl, h291, h292, h293, h294, h295, h296, h297, h298, h299, h340, h341, h302, h344, (v_1533bd4120 i4_2 i4_4 h81 g271 h278 h304 h335 h337 h343), (v_60a9ec55dc i4_2 i4_4 h82 g271 h278 h305)⟩)
                  · refine J_nf (nh2 := nh) (ck2 := 0) (sk2 := 0) (st2 := [.int (zI 0)]) rfl rfl rfl rfl ?_
                    refine J_app (L3 := [(54, .inr (5, [.ref 55, .int (zI ln), .int (zI z306), .int (zI z307), .int (zI z308), .int (zI z309), .int (zI z310), .int (zI z313), .ref 56, .int (zI z311)])), (56, .inl (0, 412, .inl (zA f312))), (54, .inr (5, [.ref 55, .int (zI ln), .int (zI z272), .int (zI z273), .int (zI z274), .int (zI z275), .int (zI z65), .int (zI fl), .ref 56, .int (zI z66)])), (56, .inl (0, 412, .inl (zA f67)))]) rfl ?_
                    refine J_mask (L2 := [(54, .inr (5, [.ref 55, .int (zI ln), .int (zI z306), .int (zI z307), .int (zI z308), .int (zI z309), .int (zI z310), .int (zI z313), .ref 56, .int (zI z311)])), (56, .inl (0, 412, .inl (zA f312)))]) (ks := [54, 56, 54, 56]) [true, true, false, false] rfl (by decide +kernel) rfl ?_
                    refine Z_if_ne (tgt := 134) dX5_plain_129 (by decide) v_b17331891f (fun h345 => absurd h345 (fun q => q v_2ca2bbca1f)) (fun h345 => ?_)
                    refine Z_iconst (n := 0) dX5_plain_132 ?_
                    exact J_iret dX5_plain_133 rfl (jbn v_939070ca3f v_316afd7d0b) (Nat.le_of_ble_eq_true rfl) (Nat.le_of_ble_eq_true rfl) (Or.inr ⟨z306, z307, z308, z309, z310, z311, f312, z313, rfl, rfl, h314, h315, h316, h317, h318, h319, h320, h321, h322, h323, h324, h325, h326, h327, h328⟩)
                · refine J_nf (nh2 := nh) (ck2 := 0) (sk2 := 0) (st2 := [.int (zI 0)]) rfl rfl rfl rfl ?_
                  refine Z_if_ne (tgt := 120) dX5_plain_112 (by decide) v_b17331891f (fun h346 => absurd h346 (fun q => q v_2ca2bbca1f)) (fun h346 => ?_)
                  refine J_aload_n dX5_plain_115 rfl rfl ?_
                  refine J_callV (st := []) dX5_plain_116 cv_X5_54 (d_wrong ln z61 z62 z63 z64 z65 fl z66 h70 (v_1adcfdfee5 q1 h71 h72) rfl) rfl rfl rfl (Nat.le_of_ble_eq_true rfl) ⟨(Nat.le_of_ble_eq_true rfl), (Nat.le_of_ble_eq_true rfl)⟩ ⟨(Nat.le_of_ble_eq_true rfl), (Nat.le_of_ble_eq_true rfl)⟩ (fun r h9 hp => ?_)
                  obtain ⟨rfl, rfl⟩ := hp
                  refine J_nf (nh2 := nh) (ck2 := 0) (sk2 := 0) (st2 := [.int (zI 0)]) rfl rfl rfl rfl ?_
                  refine J_app (L3 := [(54, .inr (5, [.ref 55, .int (zI ln), .int (zI z61), .int (zI z62), .int (zI z63), .int (zI z64), .int (zI z65), .int (zI z62), .ref 56, .int (zI z66)])), (54, .inr (5, [.ref 55, .int (zI ln), .int (zI z61), .int (zI z62), .int (zI z63), .int (zI z64), .int (zI z65), .int (zI fl), .ref 56, .int (zI z66)])), (56, .inl (0, 412, .inl (zA f67)))]) rfl ?_
                  refine J_mask (L2 := [(54, .inr (5, [.ref 55, .int (zI ln), .int (zI z61), .int (zI z62), .int (zI z63), .int (zI z64), .int (zI z65), .int (zI z62), .ref 56, .int (zI z66)])), (56, .inl (0, 412, .inl (zA f67)))]) (ks := [54, 54, 56]) [true, false, true] rfl (by decide +kernel) rfl ?_
                  exact J_iret dX5_plain_119 rfl (jbn v_939070ca3f v_316afd7d0b) (Nat.le_of_ble_eq_true rfl) (Nat.le_of_ble_eq_true rfl) (Or.inr ⟨z61, z62, z63, z64, z65, z66, f67, z62, rfl, rfl, h68, h69, h70, h71, h72, h73, h74, h75, h76, h77, h78, h79, h80, h70, (v_1adcfdfee5 q1 h71 h72)⟩)
          · refine J_nf (nh2 := nh) (ck2 := 0) (sk2 := 0) (st2 := [.int (zI 0)]) rfl rfl rfl rfl ?_
            refine J_app (L3 := [(54, .inr (5, [.ref 55, .int (zI ln), .int (zI z83), .int (zI z84), .int (zI z85), .int (zI z86), .int (zI z87), .int (zI z90), .ref 56, .int (zI z88)])), (56, .inl (0, 412, .inl (zA f89))), (54, .inr (5, [.ref 55, .int (zI ln), .int (zI tx_4), .int (zI sx_4), .int (zI bx_4), .int (zI vx_4), .int (zI pa), .int (zI fl), .ref 56, .int (zI sz)]))]) rfl ?_
            refine J_mask (L2 := [(54, .inr (5, [.ref 55, .int (zI ln), .int (zI z83), .int (zI z84), .int (zI z85), .int (zI z86), .int (zI z87), .int (zI z90), .ref 56, .int (zI z88)])), (56, .inl (0, 412, .inl (zA f89)))]) (ks := [54, 56, 54]) [true, true, false] rfl (by decide +kernel) rfl ?_
            refine Z_if_ne (tgt := 69) dX5_plain_64 (by decide) v_b17331891f (fun h347 => absurd h347 (fun q => q v_2ca2bbca1f)) (fun h347 => ?_)
            refine Z_iconst (n := 0) dX5_plain_67 ?_
            exact J_iret dX5_plain_68 rfl (jbn v_939070ca3f v_316afd7d0b) (Nat.le_of_ble_eq_true rfl) (Nat.le_of_ble_eq_true rfl) (Or.inr ⟨z83, z84, z85, z86, z87, z88, f89, z90, rfl, rfl, h91, h92, h93, h94, h95, h96, h97, h98, h99, h100, h101, h102, h103, h104, h105⟩)
      · refine J_aload_n dX5_plain_11 rfl rfl ?_
        refine J_get (v := .int (zI tx_4)) dX5_plain_12 fl_X5_19 rfl rfl ?_
        refine Z_bipush (n := 6) dX5_plain_15 (by decide +kernel) ?_
        refine Z_icmp_ne (tgt := 40) dX5_plain_17 (by decide) (v_96bf6f782e i4_5 i4_6) v_8f5ecbc95e (fun h348 => ?_) (fun h348 => ?_)
        · refine J_aload_n dX5_plain_40 rfl rfl ?_
          refine Z_bipush (n := 40) dX5_plain_41 (by decide +kernel) ?_
          refine J_callV (st := []) dX5_plain_43 cv_X5_50 (d_isSign 40 ln tx_4 sx_4 bx_4 vx_4 pa fl sz v_3958fe4c87 v_fdd2493dbb i4_5 i4_6 rfl) rfl rfl rfl (Nat.le_of_ble_eq_true rfl) ⟨(Nat.le_of_ble_eq_true rfl), (Nat.le_of_ble_eq_true rfl)⟩ ⟨(Nat.le_of_ble_eq_true rfl), (Nat.le_of_ble_eq_true rfl)⟩ (fun r h9 hp => ?_)
          rcases hp with ⟨rfl, rfl, h349⟩ | ⟨rfl, rfl, h350⟩
          · refine J_nf (nh2 := nh) (ck2 := 0) (sk2 := 0) (st2 := [.int (zI 1)]) rfl rfl rfl rfl ?_
            refine Z_if_eq (tgt := 59) dX5_plain_46 (by decide) v_4dcc24baa7 (fun h351 => absurd h351 v_3a47bfd896) (fun h351 => ?_)
            refine J_aload_n dX5_plain_49 rfl rfl ?_
            refine J_iload_n dX5_plain_50 rfl rfl ?_
            refine J_callV (st := []) dX5_plain_51 cv_X5_86 (d_bracketedTest8 ln tx_4 sx_4 bx_4 vx_4 pa fl sz tp cd q0 q1 i4_5 i4_6 i4_7 i4_8 i4_9 i4_10 i4_11 q9 q10 q11 q12 q13 i4_12 q15 q16 rfl hk55 hk56) rfl rfl rfl (Nat.le_of_ble_eq_true rfl) ⟨(Nat.le_of_ble_eq_true rfl), (Nat.le_of_ble_eq_true rfl)⟩ ⟨(Nat.le_of_ble_eq_true rfl), (Nat.le_of_ble_eq_true rfl)⟩ (fun r h9 hp => ?_)
            rcases hp with ⟨z352, z353, z354, z355, z356, z357, f358, rfl, rfl, h359, h360, h361, h362, h363, h364, h365, h366, h367, h368, h369, h370, h371, h372, h373⟩ | ⟨z374, z375, z376, z377, z378, z379, f380, z381, rfl, rfl, h382, h383, h384, h385, h386, h387, h388, h389, h390, h391, h392, h393, h394, h395, h396⟩
            · refine J_nf (nh2 := nh) (ck2 := 0) (sk2 := 0) (st2 := [.int (zI 1)]) rfl rfl rfl rfl ?_
              refine J_app (L3 := [(54, .inr (5, [.ref 55, .int (zI ln), .int (zI z352), .int (zI z353), .int (zI z354), .int (zI z355), .int (zI z356), .int (zI fl), .ref 56, .int (zI z357)])), (56, .inl (0, 412, .inl (zA f358))), (54, .inr (5, [.ref 55, .int (zI ln), .int (zI tx_4), .int (zI sx_4), .int (zI bx_4), .int (zI vx_4), .int (zI pa), .int (zI fl), .ref 56, .int (zI sz)]))]) rfl ?_
              refine J_mask (L2 := [(54, .inr (5, [.ref 55, .int (zI ln), .int (zI z352), .int (zI z353), .int (zI z354), .int (zI z355), .int (zI z356), .int (zI fl), .ref 56, .int (zI z357)])), (56, .inl (0, 412, .inl (zA f358)))]) (ks := [54, 56, 54]) [true, true, false] rfl (by decide +kernel) rfl ?_
              refine Z_if_ne (tgt := 141) dX5_plain_54 (by decide) v_4dcc24baa7 (fun h397 => ?_) (fun h397 => absurd h397 v_3a47bfd896)
              refine J_iload_n dX5_plain_141 rfl rfl ?_
              refine Z_if_eq (tgt := 153) dX5_plain_142 (by decide) (v_5f10a759cd i4_2 i4_3) (fun h398 => ?_) (fun h398 => ?_)
              · refine Z_iconst (n := 1) dX5_plain_153 ?_
                exact J_iret dX5_plain_154 rfl (jbn v_316afd7d0b v_bbcfac9b7d) (Nat.le_of_ble_eq_true rfl) (Nat.le_of_ble_eq_true rfl) (Or.inl ⟨z352, z353, z354, z355, z356, z357, f358, rfl, rfl, h359, h360, h361, h362, h363, h364, h365, h366, h367, h368, h369, h370, h371, (v_f7907ed2b5 i4_2 i4_4 h372), (v_4790cfd5f0 i4_2 i4_4 h373)⟩)
              · refine J_aload_n dX5_plain_145 rfl rfl ?_
                refine Z_bipush (n := 9) dX5_plain_146 (by decide +kernel) ?_
                refine Z_iconst (n := 0) dX5_plain_148 ?_
                refine J_callV (st := []) dX5_plain_149 cv_X5_72 (d_emit 9 0 ln z352 z353 z354 z355 z356 fl z357 f358 v_00f9f00cc1 v_b17331891f h368 h369 h371 rfl rfl) rfl rfl rfl (Nat.le_of_ble_eq_true rfl) ⟨(Nat.le_of_ble_eq_true rfl), (Nat.le_of_ble_eq_true rfl)⟩ ⟨(Nat.le_of_ble_eq_true rfl), (Nat.le_of_ble_eq_true rfl)⟩ (fun r h9 hp => ?_)
                obtain ⟨z399, f400, rfl, rfl, h401, h402, h403, h404, h405⟩ := hp
                refine J_nf (nh2 := nh) (ck2 := 0) (sk2 := 0) (st2 := [.int (zI z357)]) rfl rfl rfl rfl ?_
                refine J_app (L3 := [(54, .inr (5, [.ref 55, .int (zI ln), .int (zI z352), .int (zI z353), .int (zI z354), .int (zI z355), .int (zI z356), .int (zI fl), .ref 56, .int (zI z399)])), (56, .inl (0, 412, .inl (zA f400))), (54, .inr (5, [.ref 55, .int (zI ln), .int (zI z352), .int (zI z353), .int (zI z354), .int (zI z355), .int (zI z356), .int (zI fl), .ref 56, .int (zI z357)])), (56, .inl (0, 412, .inl (zA f358)))]) rfl ?_
                refine J_mask (L2 := [(54, .inr (5, [.ref 55, .int (zI ln), .int (zI z352), .int (zI z353), .int (zI z354), .int (zI z355), .int (zI z356), .int (zI fl), .ref 56, .int (zI z399)])), (56, .inl (0, 412, .inl (zA f400)))]) (ks := [54, 56, 54, 56]) [true, true, false, false] rfl (by decide +kernel) rfl ?_
                refine J_pop dX5_plain_152 rfl ?_
                refine Z_iconst (n := 1) dX5_plain_153 ?_
                exact J_iret dX5_plain_154 rfl (jbn v_316afd7d0b v_bbcfac9b7d) (Nat.le_of_ble_eq_true rfl) (Nat.le_of_ble_eq_true rfl) (Or.inl ⟨z352, z353, z354, z355, z356, z399, f400, rfl, rfl, h359, h360, h361, h362, h363, h364, h365, h366, h367, h401, h402, h370, h405, (v_6cbc4edc5d i4_2 i4_4 h372 h398 h404), (v_4790cfd5f0 i4_2 i4_4 h373)⟩)
            · refine J_nf (nh2 := nh) (ck2 := 0) (sk2 := 0) (st2 := [.int (zI 0)]) rfl rfl rfl rfl ?_
              refine J_app (L3 := [(54, .inr (5, [.ref 55, .int (zI ln), .int (zI z374), .int (zI z375), .int (zI z376), .int (zI z377), .int (zI z378), .int (zI z381), .ref 56, .int (zI z379)])), (56, .inl (0, 412, .inl (zA f380))), (54, .inr (5, [.ref 55, .int (zI ln), .int (zI tx_4), .int (zI sx_4), .int (zI bx_4), .int (zI vx_4), .int (zI pa), .int (zI fl), .ref 56, .int (zI sz)]))]) rfl ?_
              refine J_mask (L2 := [(54, .inr (5, [.ref 55, .int (zI ln), .int (zI z374), .int (zI z375), .int (zI z376), .int (zI z377), .int (zI z378), .int (zI z381), .ref 56, .int (zI z379)])), (56, .inl (0, 412, .inl (zA f380)))]) (ks := [54, 56, 54]) [true, true, false] rfl (by decide +kernel) rfl ?_
              refine Z_if_ne (tgt := 141) dX5_plain_54 (by decide) v_b17331891f (fun h406 => absurd h406 (fun q => q v_2ca2bbca1f)) (fun h406 => ?_)
              refine Z_iconst (n := 0) dX5_plain_57 ?_
              exact J_iret dX5_plain_58 rfl (jbn v_939070ca3f v_316afd7d0b) (Nat.le_of_ble_eq_true rfl) (Nat.le_of_ble_eq_true rfl) (Or.inr ⟨z374, z375, z376, z377, z378, z379, f380, z381, rfl, rfl, h382, h383, h384, h385, h386, h387, h388, h389, h390, h391, h392, h393, h394, h395, h396⟩)
          · refine J_nf (nh2 := nh) (ck2 := 0) (sk2 := 0) (st2 := [.int (zI 0)]) rfl rfl rfl rfl ?_
            refine Z_if_eq (tgt := 59) dX5_plain_46 (by decide) v_b17331891f (fun h407 => ?_) (fun h407 => absurd h407 (fun q => q v_2ca2bbca1f))
            refine J_aload_n dX5_plain_59 rfl rfl ?_
            refine J_iload_n dX5_plain_60 rfl rfl ?_
            refine J_callV (st := []) dX5_plain_61 cv_X5_63 (d_sum8 ln tx_4 sx_4 bx_4 vx_4 pa fl sz tp cd q0 q1 i4_5 i4_6 i4_7 i4_8 i4_9 i4_10 i4_11 q9 q10 q11 q12 q13 i4_12 q15 q16 rfl hk55 hk56) rfl rfl rfl (Nat.le_of_ble_eq_true rfl) ⟨(Nat.le_of_ble_eq_true rfl), (Nat.le_of_ble_eq_true rfl)⟩ ⟨(Nat.le_of_ble_eq_true rfl), (Nat.le_of_ble_eq_true rfl)⟩ (fun r h9 hp => ?_)
            rcases hp with ⟨z408, z409, z410, z411, z412, z413, f414, rfl, rfl, h415, h416, h417, h418, h419, h420, h421, h422, h423, h424, h425, h426, h427, h428, h429⟩ | ⟨z430, z431, z432, z433, z434, z435, f436, z437, rfl, rfl, h438, h439, h440, h441, h442, h443, h444, h445, h446, h447, h448, h449, h450, h451, h452⟩
            · refine J_nf (nh2 := nh) (ck2 := 0) (sk2 := 0) (st2 := [.int (zI 1)]) rfl rfl rfl rfl ?_
              refine J_app (L3 := [(54, .inr (5, [.ref 55, .int (zI ln), .int (zI z408), .int (zI z409), .int (zI z410), .int (zI z411), .int (zI z412), .int (zI fl), .ref 56, .int (zI z413)])), (56, .inl (0, 412, .inl (zA f414))), (54, .inr (5, [.ref 55, .int (zI ln), .int (zI tx_4), .int (zI sx_4), .int (zI bx_4), .int (zI vx_4), .int (zI pa), .int (zI fl), .ref 56, .int (zI sz)]))]) rfl ?_
              refine J_mask (L2 := [(54, .inr (5, [.ref 55, .int (zI ln), .int (zI z408), .int (zI z409), .int (zI z410), .int (zI z411), .int (zI z412), .int (zI fl), .ref 56, .int (zI z413)])), (56, .inl (0, 412, .inl (zA f414)))]) (ks := [54, 56, 54]) [true, true, false] rfl (by decide +kernel) rfl ?_
              refine Z_if_ne (tgt := 69) dX5_plain_64 (by decide) v_4dcc24baa7 (fun h453 => ?_) (fun h453 => absurd h453 v_3a47bfd896)
              refine J_aload_n dX5_plain_69 rfl rfl ?_
              refine Z_bipush (n := 60) dX5_plain_70 (by decide +kernel) ?_
              refine J_callV (st := []) dX5_plain_72 cv_X5_50 (d_isSign 60 ln z408 z409 z410 z411 z412 fl z413 v_eb2f5e1e3a v_382af52349 h415 h416 rfl) rfl rfl rfl (Nat.le_of_ble_eq_true rfl) ⟨(Nat.le_of_ble_eq_true rfl), (Nat.le_of_ble_eq_true rfl)⟩ ⟨(Nat.le_of_ble_eq_true rfl), (Nat.le_of_ble_eq_true rfl)⟩ (fun r h9 hp => ?_)
              rcases hp with ⟨rfl, rfl, h454⟩ | ⟨rfl, rfl, h455⟩
              · refine J_nf (nh2 := nh) (ck2 := 0) (sk2 := 0) (st2 := [.int (zI 1)]) rfl rfl rfl rfl ?_
                refine Z_if_eq (tgt := 83) dX5_plain_75 (by decide) v_4dcc24baa7 (fun h456 => absurd h456 v_3a47bfd896) (fun h456 => ?_)
                refine Z_bipush (n := 6) dX5_plain_78 (by decide +kernel) ?_
                refine J_goto (tgt := 99) dX5_plain_80 (by decide) ?_
                refine J_istore_n dX5_plain_99 rfl (Nat.le_of_ble_eq_true rfl) rfl ?_
                refine J_ls (ls2 := [some (.ref 54), some (.int (zI 8)), some (.int (zI dn_4)), some (.int (zI 6))]) rfl ?_
                refine J_iload_n dX5_plain_100 rfl rfl ?_
                refine Z_bipush (n := 8) dX5_plain_101 (by decide +kernel) ?_
                refine Z_icmp_ne (tgt := 120) dX5_plain_103 (by decide) v_8f5ecbc95e v_665891e294 (fun h457 => ?_) (fun h457 => absurd h457 v_ada6685030)
                refine J_aload_n dX5_plain_120 rfl rfl ?_
                have g458 := TokL.lt h426 (v_f5333b39e4 h454)
                refine J_callV (st := []) dX5_plain_121 cv_X5_43 (d_advance ln z408 z409 z410 z411 z412 fl z413 tp q0 q1 (v_d253cb2c59 h417 g458) h419 h420 h421 q15 rfl hk55) rfl rfl rfl (Nat.le_of_ble_eq_true rfl) ⟨(Nat.le_of_ble_eq_true rfl), (Nat.le_of_ble_eq_true rfl)⟩ ⟨(Nat.le_of_ble_eq_true rfl), (Nat.le_of_ble_eq_true rfl)⟩ (fun r h9 hp => ?_)
                obtain ⟨z459, z460, z461, z462, rfl, rfl, h463, h464, h465, h466, h467, h468, h469, h470⟩ := hp
                refine J_nf (nh2 := nh) (ck2 := 0) (sk2 := 0) (st2 := []) rfl rfl rfl rfl ?_
                refine J_app (L3 := [(54, .inr (5, [.ref 55, .int (zI ln), .int (zI z459), .int (zI z460), .int (zI z461), .int (zI z462), .int (zI z412), .int (zI fl), .ref 56, .int (zI z413)])), (54, .inr (5, [.ref 55, .int (zI ln), .int (zI z408), .int (zI z409), .int (zI z410), .int (zI z411), .int (zI z412), .int (zI fl), .ref 56, .int (zI z413)])), (56, .inl (0, 412, .inl (zA f414)))]) rfl ?_
                refine J_mask (L2 := [(54, .inr (5, [.ref 55, .int (zI ln), .int (zI z459), .int (zI z460), .int (zI z461), .int (zI z462), .int (zI z412), .int (zI fl), .ref 56, .int (zI z413)])), (56, .inl (0, 412, .inl (zA f414)))]) (ks := [54, 54, 56]) [true, false, true] rfl (by decide +kernel) rfl ?_
                refine J_aload_n dX5_plain_124 rfl rfl ?_
                refine J_iload_n dX5_plain_125 rfl rfl ?_
                refine J_callV (st := []) dX5_plain_126 cv_X5_63 (d_sum8 ln z459 z460 z461 z462 z412 fl z413 tp f414 q0 q1 h463 h464 (v_9b2e2070a2 h417 g458 h465) h466 h467 h468 h469 h422 h423 q11 h424 h425 h470 q15 h427 rfl hk55 rfl) rfl rfl rfl (Nat.le_of_ble_eq_true rfl) ⟨(Nat.le_of_ble_eq_true rfl), (Nat.le_of_ble_eq_true rfl)⟩ ⟨(Nat.le_of_ble_eq_true rfl), (Nat.le_of_ble_eq_true rfl)⟩ (fun r h9 hp => ?_)
                rcases hp with ⟨z471, z472, z473, z474, z475, z476, f477, rfl, rfl, h478, h479, h480, h481, h482, h483, h484, h485, h486, h487, h488, h489, h490, h491, h492⟩ | ⟨z493, z494, z495, z496, z497, z498, f499, z500, rfl, rfl, h501, h502, h503, h504, h505, h506, h507, h508, h509, h510, h511, h512, h513, h514, h515⟩
                · refine J_nf (nh2 := nh) (ck2 := 0) (sk2 := 0) (st2 := [.int (zI 1)]) rfl rfl rfl rfl ?_
                  refine J_app (L3 := [(54, .inr (5, [.ref 55, .int (zI ln), .int (zI z471), .int (zI z472), .int (zI z473), .int (zI z474), .int (zI z475), .int (zI fl), .ref 56, .int (zI z476)])), (56, .inl (0, 412, .inl (zA f477))), (54, .inr (5, [.ref 55, .int (zI ln), .int (zI z459), .int (zI z460), .int (zI z461), .int (zI z462), .int (zI z412), .int (zI fl), .ref 56, .int (zI z413)])), (56, .inl (0, 412, .inl (zA f414)))]) rfl ?_
                  refine J_mask (L2 := [(54, .inr (5, [.ref 55, .int (zI ln), .int (zI z471), .int (zI z472), .int (zI z473), .int (zI z474), .int (zI z475), .int (zI fl), .ref 56, .int (zI z476)])), (56, .inl (0, 412, .inl (zA f477)))]) (ks := [54, 56, 54, 56]) [true, true, false, false] rfl (by decide +kernel) rfl ?_
                  refine Z_if_ne (tgt := 134) dX5_plain_129 (by decide) v_4dcc24baa7 (fun h516 => ?_) (fun h516 => absurd h516 v_3a47bfd896)
                  refine J_aload_n dX5_plain_134 rfl rfl ?_
                  refine J_iload_n dX5_plain_135 rfl rfl ?_
                  refine Z_iconst (n := 0) dX5_plain_136 ?_
                  refine J_callV (st := []) dX5_plain_137 cv_X5_72 (d_emit 6 0 ln z471 z472 z473 z474 z475 fl z476 f477 v_8f5ecbc95e v_b17331891f h487 h488 h490 rfl rfl) rfl rfl rfl (Nat.le_of_ble_eq_true rfl) ⟨(Nat.le_of_ble_eq_true rfl), (Nat.le_of_ble_eq_true rfl)⟩ ⟨(Nat.le_of_ble_eq_true rfl), (Nat.le_of_ble_eq_true rfl)⟩ (fun r h9 hp => ?_)
                  obtain ⟨z517, f518, rfl, rfl, h519, h520, h521, h522, h523⟩ := hp
                  refine J_nf (nh2 := nh) (ck2 := 0) (sk2 := 0) (st2 := [.int (zI z476)]) rfl rfl rfl rfl ?_
                  refine J_app (L3 := [(54, .inr (5, [.ref 55, .int (zI ln), .int (zI z471), .int (zI z472), .int (zI z473), .int (zI z474), .int (zI z475), .int (zI fl), .ref 56, .int (zI z517)])), (56, .inl (0, 412, .inl (zA f518))), (54, .inr (5, [.ref 55, .int (zI ln), .int (zI z471), .int (zI z472), .int (zI z473), .int (zI z474), .int (zI z475), .int (zI fl), .ref 56, .int (zI z476)])), (56, .inl (0, 412, .inl (zA f477)))]) rfl ?_
                  refine J_mask (L2 := [(54, .inr (5, [.ref 55, .int (zI ln), .int (zI z471), .int (zI z472), .int (zI z473), .int (zI z474), .int (zI z475), .int (zI fl), .ref 56, .int (zI z517)])), (56, .inl (0, 412, .inl (zA f518)))]) (ks := [54, 56, 54, 56]) [true, true, false, false] rfl (by decide +kernel) rfl ?_
                  refine J_pop dX5_plain_140 rfl ?_
                  refine J_iload_n dX5_plain_141 rfl rfl ?_
                  refine Z_if_eq (tgt := 153) dX5_plain_142 (by decide) (v_5f10a759cd i4_2 i4_3) (fun h524 => ?_) (fun h524 => ?_)
                  · refine Z_iconst (n := 1) dX5_plain_153 ?_
                    exact J_iret dX5_plain_154 rfl (jbn v_316afd7d0b v_bbcfac9b7d) (Nat.le_of_ble_eq_true rfl) (Nat.le_of_ble_eq_true rfl) (Or.inl ⟨z471, z472, z473, z474, z475, z517, f518, rfl, rfl, h478, h479, h480, h481, h482, h483, h484, h485, h486, h519, h520, h489, h523, (v_5848421b37 i4_2 i4_4 h428 g458 h465 h491 h522), (v_60a9ec55dc i4_2 i4_4 h429 g458 h465 h492)⟩)
                  · refine J_aload_n dX5_plain_145 rfl rfl ?_
                    refine Z_bipush (n := 9) dX5_plain_146 (by decide +kernel) ?_
                    refine Z_iconst (n := 0) dX5_plain_148 ?_
                    refine J_callV (st := []) dX5_plain_149 cv_X5_72 (d_emit 9 0 ln z471 z472 z473 z474 z475 fl z517 f518 v_00f9f00cc1 v_b17331891f h519 h520 h523 rfl rfl) rfl rfl rfl (Nat.le_of_ble_eq_true rfl) ⟨(Nat.le_of_ble_eq_true rfl), (Nat.le_of_ble_eq_true rfl)⟩ ⟨(Nat.le_of_ble_eq_true rfl), (Nat.le_of_ble_eq_true rfl)⟩ (fun r h9 hp => ?_)
                    obtain ⟨z525, f526, rfl, rfl, h527, h528, h529, h530, h531⟩ := hp
                    refine J_nf (nh2 := nh) (ck2 := 0) (sk2 := 0) (st2 := [.int (zI z517)]) rfl rfl rfl rfl ?_
                    refine J_app (L3 := [(54, .inr (5, [.ref 55, .int (zI ln), .int (zI z471), .int (zI z472), .int (zI z473), .int (zI z474), .int (zI z475), .int (zI fl), .ref 56, .int (zI z525)])), (56, .inl (0, 412, .inl (zA f526))), (54, .inr (5, [.ref 55, .int (zI ln), .int (zI z471), .int (zI z472), .int (zI z473), .int (zI z474), .int (zI z475), .int (zI fl), .ref 56, .int (zI z517)])), (56, .inl (0, 412, .inl (zA f518)))]) rfl ?_
                    refine J_mask (L2 := [(54, .inr (5, [.ref 55, .int (zI ln), .int (zI z471), .int (zI z472), .int (zI z473), .int (zI z474), .int (zI z475), .int (zI fl), .ref 56, .int (zI z525)])), (56, .inl (0, 412, .inl (zA f526)))]) (ks := [54, 56, 54, 56]) [true, true, false, false] rfl (by decide +kernel) rfl ?_
                    refine J_pop dX5_plain_152 rfl ?_
                    refine Z_iconst (n := 1) dX5_plain_153 ?_
                    exact J_iret dX5_plain_154 rfl (jbn v_316afd7d0b v_bbcfac9b7d) (Nat.le_of_ble_eq_true rfl) (Nat.le_of_ble_eq_true rfl) (Or.inl ⟨z471, z472, z473, z474, z475, z525, f526, rfl, rfl, h478, h479, h480, h481, h482, h483, h484, h485, h486, h527, h528, h489, h531, (v_1533bd4120 i4_2 i4_4 h428 g458 h465 h491 h522 h524 h530), (v_60a9ec55dc i4_2 i4_4 h429 g458 h465 h492)⟩)
                · refine J_nf (nh2 := nh) (ck2 := 0) (sk2 := 0) (st2 := [.int (zI 0)]) rfl rfl rfl rfl ?_
                  refine J_app (L3 := [(54, .inr (5, [.ref 55, .int (zI ln), .int (zI z493), .int (zI z494), .int (zI z495), .int (zI z496), .int (zI z497), .int (zI z500), .ref 56, .int (zI z498)])), (56, .inl (0, 412, .inl (zA f499))), (54, .inr (5, [.ref 55, .int (zI ln), .int (zI z459), .int (zI z460), .int (zI z461), .int (zI z462), .int (zI z412), .int (zI fl), .ref 56, .int (zI z413)])), (56, .inl (0, 412, .inl (zA f414)))]) rfl ?_
                  refine J_mask (L2 := [(54, .inr (5, [.ref 55, .int (zI ln), .int (zI z493), .int (zI z494), .int (zI z495), .int (zI z496), .int (zI z497), .int (zI z500), .ref 56, .int (zI z498)])), (56, .inl (0, 412, .inl (zA f499)))]) (ks := [54, 56, 54, 56]) [true, true, false, false] rfl (by decide +kernel) rfl ?_
                  refine Z_if_ne (tgt := 134) dX5_plain_129 (by decide) v_b17331891f (fun h532 => absurd h532 (fun q => q v_2ca2bbca1f)) (fun h532 => ?_)
                  refine Z_iconst (n := 0) dX5_plain_132 ?_
                  exact J_iret dX5_plain_133 rfl (jbn v_939070ca3f v_316afd7d0b) (Nat.le_of_ble_eq_true rfl) (Nat.le_of_ble_eq_true rfl) (Or.inr ⟨z493, z494, z495, z496, z497, z498, f499, z500, rfl, rfl, h501, h502, h503, h504, h505, h506, h507, h508, h509, h510, h511, h512, h513, h514, h515⟩)
              · refine J_nf (nh2 := nh) (ck2 := 0) (sk2 := 0) (st2 := [.int (zI 0)]) rfl rfl rfl rfl ?_
                refine Z_if_eq (tgt := 83) dX5_plain_75 (by decide) v_b17331891f (fun h533 => ?_) (fun h533 => absurd h533 (fun q => q v_2ca2bbca1f))
                refine J_aload_n dX5_plain_83 rfl rfl ?_
                refine Z_bipush (n := 62) dX5_plain_84 (by decide +kernel) ?_
                refine J_callV (st := []) dX5_plain_86 cv_X5_50 (d_isSign 62 ln z408 z409 z410 z411 z412 fl z413 v_722c6b3941 v_3996c1d9a8 h415 h416 rfl) rfl rfl rfl (Nat.le_of_ble_eq_true rfl) ⟨(Nat.le_of_ble_eq_true rfl), (Nat.le_of_ble_eq_true rfl)⟩ ⟨(Nat.le_of_ble_eq_true rfl), (Nat.le_of_ble_eq_true rfl)⟩ (fun r h9 hp => ?_)
                rcases hp with ⟨rfl, rfl, h534⟩ | ⟨rfl, rfl, h535⟩
                · refine J_nf (nh2 := nh) (ck2 := 0) (sk2 := 0) (st2 := [.int (zI 1)]) rfl rfl rfl rfl ?_
                  refine Z_if_eq (tgt := 97) dX5_plain_89 (by decide) v_4dcc24baa7 (fun h536 => absurd h536 v_3a47bfd896) (fun h536 => ?_)
                  refine Z_bipush (n := 7) dX5_plain_92 (by decide +kernel) ?_
                  refine J_goto (tgt := 99) dX5_plain_94 (by decide) ?_
                  refine J_istore_n dX5_plain_99 rfl (Nat.le_of_ble_eq_true rfl) rfl ?_
                  refine J_ls (ls2 := [some (.ref 54), some (.int (zI 8)), some (.int (zI dn_4)), some (.int (zI 7))]) rfl ?_
                  refine J_iload_n dX5_plain_100 rfl rfl ?_
                  refine Z_bipush (n := 8) dX5_plain_101 (by decide +kernel) ?_
                  refine Z_icmp_ne (tgt := 120) dX5_plain_103 (by decide) v_c3fe1a091f v_665891e294 (fun h537 => ?_) (fun h537 => absurd h537 v_d62b89f05c)
                  refine J_aload_n dX5_plain_120 rfl rfl ?_
                  have g538 := TokL.lt h426 (v_3ec9e003c7 h534)
                  refine J_callV (st := []) dX5_plain_121 cv_X5_43 (d_advance ln z408 z409 z410 z411 z412 fl z413 tp q0 q1 (v_d253cb2c59 h417 g538) h419 h420 h421 q15 rfl hk55) rfl rfl rfl (Nat.le_of_ble_eq_true rfl) ⟨(Nat.le_of_ble_eq_true rfl), (Nat.le_of_ble_eq_true rfl)⟩ ⟨(Nat.le_of_ble_eq_true rfl), (Nat.le_of_ble_eq_true rfl)⟩ (fun r h9 hp => ?_)
                  obtain ⟨z539, z540, z541, z542, rfl, rfl, h543, h544, h545, h546, h547, h548, h549, h550⟩ := hp
                  refine J_nf (nh2 := nh) (ck2 := 0) (sk2 := 0) (st2 := []) rfl rfl rfl rfl ?_
                  refine J_app (L3 := [(54, .inr (5, [.ref 55, .int (zI ln), .int (zI z539), .int (zI z540), .int (zI z541), .int (zI z542), .int (zI z412), .int (zI fl), .ref 56, .int (zI z413)])), (54, .inr (5, [.ref 55, .int (zI ln), .int (zI z408), .int (zI z409), .int (zI z410), .int (zI z411), .int (zI z412), .int (zI fl), .ref 56, .int (zI z413)])), (56, .inl (0, 412, .inl (zA f414)))]) rfl ?_
                  refine J_mask (L2 := [(54, .inr (5, [.ref 55, .int (zI ln), .int (zI z539), .int (zI z540), .int (zI z541), .int (zI z542), .int (zI z412), .int (zI fl), .ref 56, .int (zI z413)])), (56, .inl (0, 412, .inl (zA f414)))]) (ks := [54, 54, 56]) [true, false, true] rfl (by decide +kernel) rfl ?_
                  refine J_aload_n dX5_plain_124 rfl rfl ?_
                  refine J_iload_n dX5_plain_125 rfl rfl ?_
                  refine J_callV (st := []) dX5_plain_126 cv_X5_63 (d_sum8 ln z539 z540 z541 z542 z412 fl z413 tp f414 q0 q1 h543 h544 (v_9b2e2070a2 h417 g538 h545) h546 h547 h548 h549 h422 h423 q11 h424 h425 h550 q15 h427 rfl hk55 rfl) rfl rfl rfl (Nat.le_of_ble_eq_true rfl) ⟨(Nat.le_of_ble_eq_true rfl), (Nat.le_of_ble_eq_true rfl)⟩ ⟨(Nat.le_of_ble_eq_true rfl), (Nat.le_of_ble_eq_true rfl)⟩ (fun r h9 hp => ?_)
                  rcases hp with ⟨z551, z552, z553, z554, z555, z556, f557, rfl, rfl, h558, h559, h560, h561, h562, h563, h564, h565, h566, h567, h568, h569, h570, h571, h572⟩ | ⟨z573, z574, z575, z576, z577, z578, f579, z580, rfl, rfl, h581, h582, h583, h584, h585, h586, h587, h588, h589, h590, h591, h592, h593, h594, h595⟩
                  · refine J_nf (nh2 := nh) (ck2 := 0) (sk2 := 0) (st2 := [.int (zI 1)]) rfl rfl rfl rfl ?_
                    refine J_app (L3 := [(54, .inr (5, [.ref 55, .int (zI ln), .int (zI z551), .int (zI z552), .int (zI z553), .int (zI z554), .int (zI z555), .int (zI fl), .ref 56, .int (zI z556)])), (56, .inl (0, 412, .inl (zA f557))), (54, .inr (5, [.ref 55, .int (zI ln), .int (zI z539), .int (zI z540), .int (zI z541), .int (zI z542), .int (zI z412), .int (zI fl), .ref 56, .int (zI z413)])), (56, .inl (0, 412, .inl (zA f414)))]) rfl ?_
                    refine J_mask (L2 := [(54, .inr (5, [.ref 55, .int (zI ln), .int (zI z551), .int (zI z552), .int (zI z553), .int (zI z554), .int (zI z555), .int (zI fl), .ref 56, .int (zI z556)])), (56, .inl (0, 412, .inl (zA f557)))]) (ks := [54, 56, 54, 56]) [true, true, false, false] rfl (by decide +kernel) rfl ?_
                    refine Z_if_ne (tgt := 134) dX5_plain_129 (by decide) v_4dcc24baa7 (fun h596 => ?_) (fun h596 => absurd h596 v_3a47bfd896)
                    refine J_aload_n dX5_plain_134 rfl rfl ?_
                    refine J_iload_n dX5_plain_135 rfl rfl ?_
                    refine Z_iconst (n := 0) dX5_plain_136 ?_
                    refine J_callV (st := []) dX5_plain_137 cv_X5_72 (d_emit 7 0 ln z551 z552 z553 z554 z555 fl z556 f557 v_c3fe1a091f v_b17331891f h567 h568 h570 rfl rfl) rfl rfl rfl (Nat.le_of_ble_eq_true rfl) ⟨(Nat.le_of_ble_eq_true rfl), (Nat.le_of_ble_eq_true rfl)⟩ ⟨(Nat.le_of_ble_eq_true rfl), (Nat.le_of_ble_eq_true rfl)⟩ (fun r h9 hp => ?_)
                    obtain ⟨z597, f598, rfl, rfl, h599, h600, h601, h602, h603⟩ := hp
                    refine J_nf (nh2 := nh) (ck2 := 0) (sk2 := 0) (st2 := [.int (zI z556)]) rfl rfl rfl rfl ?_
                    refine J_app (L3 := [(54, .inr (5, [.ref 55, .int (zI ln), .int (zI z551), .int (zI z552), .int (zI z553), .int (zI z554), .int (zI z555), .int (zI fl), .ref 56, .int (zI z597)])), (56, .inl (0, 412, .inl (zA f598))), (54, .inr (5, [.ref 55, .int (zI ln), .int (zI z551), .int (zI z552), .int (zI z553), .int (zI z554), .int (zI z555), .int (zI fl), .ref 56, .int (zI z556)])), (56, .inl (0, 412, .inl (zA f557)))]) rfl ?_
                    refine J_mask (L2 := [(54, .inr (5, [.ref 55, .int (zI ln), .int (zI z551), .int (zI z552), .int (zI z553), .int (zI z554), .int (zI z555), .int (zI fl), .ref 56, .int (zI z597)])), (56, .inl (0, 412, .inl (zA f598)))]) (ks := [54, 56, 54, 56]) [true, true, false, false] rfl (by decide +kernel) rfl ?_
                    refine J_pop dX5_plain_140 rfl ?_
                    refine J_iload_n dX5_plain_141 rfl rfl ?_
                    refine Z_if_eq (tgt := 153) dX5_plain_142 (by decide) (v_5f10a759cd i4_2 i4_3) (fun h604 => ?_) (fun h604 => ?_)
                    · refine Z_iconst (n := 1) dX5_plain_153 ?_
                      exact J_iret dX5_plain_154 rfl (jbn v_316afd7d0b v_bbcfac9b7d) (Nat.le_of_ble_eq_true rfl) (Nat.le_of_ble_eq_true rfl) (Or.inl ⟨z551, z552, z553, z554, z555, z597, f598, rfl, rfl, h558, h559, h560, h561, h562, h563, h564, h565, h566, h599, h600, h569, h603, (v_5848421b37 i4_2 i4_4 h428 g538 h545 h571 h602), (v_60a9ec55dc i4_2 i4_4 h429 g538 h545 h572)⟩)
                    · refine J_aload_n dX5_plain_145 rfl rfl ?_
                      refine Z_bipush (n := 9) dX5_plain_146 (by decide +kernel) ?_
                      refine Z_iconst (n := 0) dX5_plain_148 ?_
                      refine J_callV (st := []) dX5_plain_149 cv_X5_72 (d_emit 9 0 ln z551 z552 z553 z554 z555 fl z597 f598 v_00f9f00cc1 v_b17331891f h599 h600 h603 rfl rfl) rfl rfl rfl (Nat.le_of_ble_eq_true rfl) ⟨(Nat.le_of_ble_eq_true rfl), (Nat.le_of_ble_eq_true rfl)⟩ ⟨(Nat.le_of_ble_eq_true rfl), (Nat.le_of_ble_eq_true rfl)⟩ (fun r h9 hp => ?_)
                      obtain ⟨z605, f606, rfl, rfl, h607, h608, h609, h610, h611⟩ := hp
                      refine J_nf (nh2 := nh) (ck2 := 0) (sk2 := 0) (st2 := [.int (zI z597)]) rfl rfl rfl rfl ?_
                      refine J_app (L3 := [(54, .inr (5, [.ref 55, .int (zI ln), .int (zI z551), .int (zI z552), .int (zI z553), .int (zI z554), .int (zI z555), .int (zI fl), .ref 56, .int (zI z605)])), (56, .inl (0, 412, .inl (zA f606))), (54, .inr (5, [.ref 55, .int (zI ln), .int (zI z551), .int (zI z552), .int (zI z553), .int (zI z554), .int (zI z555), .int (zI fl), .ref 56, .int (zI z597)])), (56, .inl (0, 412, .inl (zA f598)))]) rfl ?_
                      refine J_mask (L2 := [(54, .inr (5, [.ref 55, .int (zI ln), .int (zI z551), .int (zI z552), .int (zI z553), .int (zI z554), .int (zI z555), .int (zI fl), .ref 56, .int (zI z605)])), (56, .inl (0, 412, .inl (zA f606)))]) (ks := [54, 56, 54, 56]) [true, true, false, false] rfl (by decide +kernel) rfl ?_
                      refine J_pop dX5_plain_152 rfl ?_
                      refine Z_iconst (n := 1) dX5_plain_153 ?_
                      exact J_iret dX5_plain_154 rfl (jbn v_316afd7d0b v_bbcfac9b7d) (Nat.le_of_ble_eq_true rfl) (Nat.le_of_ble_eq_true rfl) (Or.inl ⟨z551, z552, z553, z554, z555, z605, f606, rfl, rfl, h558, h559, h560, h561, h562, h563, h564, h565, h566, h607, h608, h569, h611, (v_1533bd4120 i4_2 i4_4 h428 g538 h545 h571 h602 h604 h610), (v_60a9ec55dc i4_2 i4_4 h429 g538 h545 h572)⟩)
                  · refine J_nf (nh2 := nh) (ck2 := 0) (sk2 := 0) (st2 := [.int (zI 0)]) rfl rfl rfl rfl ?_
                    refine J_app (L3 := [(54, .inr (5, [.ref 55, .int (zI ln), .int (zI z573), .int (zI z574), .int (zI z575), .int (zI z576), .int (zI z577), .int (zI z580), .ref 56, .int (zI z578)])), (56, .inl (0, 412, .inl (zA f579))), (54, .inr (5, [.ref 55, .int (zI ln), .int (zI z539), .int (zI z540), .int (zI z541), .int (zI z542), .int (zI z412), .int (zI fl), .ref 56, .int (zI z413)])), (56, .inl (0, 412, .inl (zA f414)))]) rfl ?_
                    refine J_mask (L2 := [(54, .inr (5, [.ref 55, .int (zI ln), .int (zI z573), .int (zI z574), .int (zI z575), .int (zI z576), .int (zI z577), .int (zI z580), .ref 56, .int (zI z578)])), (56, .inl (0, 412, .inl (zA f579)))]) (ks := [54, 56, 54, 56]) [true, true, false, false] rfl (by decide +kernel) rfl ?_
                    refine Z_if_ne (tgt := 134) dX5_plain_129 (by decide) v_b17331891f (fun h612 => absurd h612 (fun q => q v_2ca2bbca1f)) (fun h612 => ?_)
                    refine Z_iconst (n := 0) dX5_plain_132 ?_
                    exact J_iret dX5_plain_133 rfl (jbn v_939070ca3f v_316afd7d0b) (Nat.le_of_ble_eq_true rfl) (Nat.le_of_ble_eq_true rfl) (Or.inr ⟨z573, z574, z575, z576, z577, z578, f579, z580, rfl, rfl, h581, h582, h583, h584, h585, h586, h587, h588, h589, h590, h591, h592, h593, h594, h595⟩)
                · refine J_nf (nh2 := nh) (ck2 := 0) (sk2 := 0) (st2 := [.int (zI 0)]) rfl rfl rfl rfl ?_
                  refine Z_if_eq (tgt := 97) dX5_plain_89 (by decide) v_b17331891f (fun h613 => ?_) (fun h613 => absurd h613 (fun q => q v_2ca2bbca1f))
                  refine Z_bipush (n := 8) dX5_plain_97 (by decide +kernel) ?_
                  refine J_istore_n dX5_plain_99 rfl (Nat.le_of_ble_eq_true rfl) rfl ?_
                  refine J_ls (ls2 := [some (.ref 54), some (.int (zI 8)), some (.int (zI dn_4)), some (.int (zI 8))]) rfl ?_
                  refine J_iload_n dX5_plain_100 rfl rfl ?_
                  refine Z_bipush (n := 8) dX5_plain_101 (by decide +kernel) ?_
                  refine Z_icmp_ne (tgt := 120) dX5_plain_103 (by decide) v_665891e294 v_665891e294 (fun h614 => absurd h614 (fun q => q v_c1b8243509)) (fun h614 => ?_)
                  refine J_aload_n dX5_plain_106 rfl rfl ?_
                  refine Z_bipush (n := 61) dX5_plain_107 (by decide +kernel) ?_
                  refine J_callV (st := []) dX5_plain_109 cv_X5_50 (d_isSign 61 ln z408 z409 z410 z411 z412 fl z413 v_b92a3c53b8 v_7b9730a51b h415 h416 rfl) rfl rfl rfl (Nat.le_of_ble_eq_true rfl) ⟨(Nat.le_of_ble_eq_true rfl), (Nat.le_of_ble_eq_true rfl)⟩ ⟨(Nat.le_of_ble_eq_true rfl), (Nat.le_of_ble_eq_true rfl)⟩ (fun r h9 hp => ?_)
                  rcases hp with ⟨rfl, rfl, h615⟩ | ⟨rfl, rfl, h616⟩
                  · refine J_nf (nh2 := nh) (ck2 := 0) (sk2 := 0) (st2 := [.int (zI 1)]) rfl rfl rfl rfl ?_
                    refine Z_if_ne (tgt := 120) dX5_plain_112 (by decide) v_4dcc24baa7 (fun h617 => ?_) (fun h617 => absurd h617 v_3a47bfd896)
                    refine J_aload_n dX5_plain_120 rfl rfl ?_
                    have g618 := TokL.lt h426 (v_23eeeea057 h615)
                    refine J_callV (st := []) dX5_plain_121 cv_X5_43 (d_advance ln z408 z409 z410 z411 z412 fl z413 tp q0 q1 (v_d253cb2c59 h417 g618) h419 h420 h421 q15 rfl hk55) rfl rfl rfl (Nat.le_of_ble_eq_true rfl) ⟨(Nat.le_of_ble_eq_true rfl), (Nat.le_of_ble_eq_true rfl)⟩ ⟨(Nat.le_of_ble_eq_true rfl), (Nat.le_of_ble_eq_true rfl)⟩ (fun r h9 hp => ?_)
                    obtain ⟨z619, z620, z621, z622, rfl, rfl, h623, h624, h625, h626, h627, h628, h629, h630⟩ := hp
                    refine J_nf (nh2 := nh) (ck2 := 0) (sk2 := 0) (st2 := []) rfl rfl rfl rfl ?_
                    refine J_app (L3 := [(54, .inr (5, [.ref 55, .int (zI ln), .int (zI z619), .int (zI z620), .int (zI z621), .int (zI z622), .int (zI z412), .int (zI fl), .ref 56, .int (zI z413)])), (54, .inr (5, [.ref 55, .int (zI ln), .int (zI z408), .int (zI z409), .int (zI z410), .int (zI z411), .int (zI z412), .int (zI fl), .ref 56, .int (zI z413)])), (56, .inl (0, 412, .inl (zA f414)))]) rfl ?_
                    refine J_mask (L2 := [(54, .inr (5, [.ref 55, .int (zI ln), .int (zI z619), .int (zI z620), .int (zI z621), .int (zI z622), .int (zI z412), .int (zI fl), .ref 56, .int (zI z413)])), (56, .inl (0, 412, .inl (zA f414)))]) (ks := [54, 54, 56]) [true, false, true] rfl (by decide +kernel) rfl ?_
                    refine J_aload_n dX5_plain_124 rfl rfl ?_
                    refine J_iload_n dX5_plain_125 rfl rfl ?_
                    refine J_callV (st := []) dX5_plain_126 cv_X5_63 (d_sum8 ln z619 z620 z621 z622 z412 fl z413 tp f414 q0 q1 h623 h624 (v_9b2e2070a2 h417 g618 h625) h626 h627 h628 h629 h422 h423 q11 h424 h425 h630 q15 h427 rfl hk55 rfl) rfl rfl rfl (Nat.le_of_ble_eq_true rfl) ⟨(Nat.le_of_ble_eq_true rfl), (Nat.le_of_ble_eq_true rfl)⟩ ⟨(Nat.le_of_ble_eq_true rfl), (Nat.le_of_ble_eq_true rfl)⟩ (fun r h9 hp => ?_)
                    rcases hp with ⟨z631, z632, z633, z634, z635, z636, f637, rfl, rfl, h638, h639, h640, h641, h642, h643, h644, h645, h646, h647, h648, h649, h650, h651, h652⟩ | ⟨z653, z654, z655, z656, z657, z658, f659, z660, rfl, rfl, h661, h662, h663, h664, h665, h666, h667, h668, h669, h670, h671, h672, h673, h674, h675⟩
                    · refine J_nf (nh2 := nh) (ck2 := 0) (sk2 := 0) (st2 := [.int (zI 1)]) rfl rfl rfl rfl ?_
                      refine J_app (L3 := [(54, .inr (5, [.ref 55, .int (zI ln), .int (zI z631), .int (zI z632), .int (zI z633), .int (zI z634), .int (zI z635), .int (zI fl), .ref 56, .int (zI z636)])), (56, .inl (0, 412, .inl (zA f637))), (54, .inr (5, [.ref 55, .int (zI ln), .int (zI z619), .int (zI z620), .int (zI z621), .int (zI z622), .int (zI z412), .int (zI fl), .ref 56, .int (zI z413)])), (56, .inl (0, 412, .inl (zA f414)))]) rfl ?_
                      refine J_mask (L2 := [(54, .inr (5, [.ref 55, .int (zI ln), .int (zI z631), .int (zI z632), .int (zI z633), .int (zI z634), .int (zI z635), .int (zI fl), .ref 56, .int (zI z636)])), (56, .inl (0, 412, .inl (zA f637)))]) (ks := [54, 56, 54, 56]) [true, true, false, false] rfl (by decide +kernel) rfl ?_
                      refine Z_if_ne (tgt := 134) dX5_plain_129 (by decide) v_4dcc24baa7 (fun h676 => ?_) (fun h676 => absurd h676 v_3a47bfd896)
                      refine J_aload_n dX5_plain_134 rfl rfl ?_
                      refine J_iload_n dX5_plain_135 rfl rfl ?_
                      refine Z_iconst (n := 0) dX5_plain_136 ?_
                      refine J_callV (st := []) dX5_plain_137 cv_X5_72 (d_emit 8 0 ln z631 z632 z633 z634 z635 fl z636 f637 v_665891e294 v_b17331891f h647 h648 h650 rfl rfl) rfl rfl rfl (Nat.le_of_ble_eq_true rfl) ⟨(Nat.le_of_ble_eq_true rfl), (Nat.le_of_ble_eq_true rfl)⟩ ⟨(Nat.le_of_ble_eq_true rfl), (Nat.le_of_ble_eq_true rfl)⟩ (fun r h9 hp => ?_)
                      obtain ⟨z677, f678, rfl, rfl, h679, h680, h681, h682, h683⟩ := hp
                      refine J_nf (nh2 := nh) (ck2 := 0) (sk2 := 0) (st2 := [.int (zI z636)]) rfl rfl rfl rfl ?_
                      refine J_app (L3 := [(54, .inr (5, [.ref 55, .int (zI ln), .int (zI z631), .int (zI z632), .int (zI z633), .int (zI z634), .int (zI z635), .int (zI fl), .ref 56, .int (zI z677)])), (56, .inl (0, 412, .inl (zA f678))), (54, .inr (5, [.ref 55, .int (zI ln), .int (zI z631), .int (zI z632), .int (zI z633), .int (zI z634), .int (zI z635), .int (zI fl), .ref 56, .int (zI z636)])), (56, .inl (0, 412, .inl (zA f637)))]) rfl ?_
                      refine J_mask (L2 := [(54, .inr (5, [.ref 55, .int (zI ln), .int (zI z631), .int (zI z632), .int (zI z633), .int (zI z634), .int (zI z635), .int (zI fl), .ref 56, .int (zI z677)])), (56, .inl (0, 412, .inl (zA f678)))]) (ks := [54, 56, 54, 56]) [true, true, false, false] rfl (by decide +kernel) rfl ?_
                      refine J_pop dX5_plain_140 rfl ?_
                      refine J_iload_n dX5_plain_141 rfl rfl ?_
                      refine Z_if_eq (tgt := 153) dX5_plain_142 (by decide) (v_5f10a759cd i4_2 i4_3) (fun h684 => ?_) (fun h684 => ?_)
                      · refine Z_iconst (n := 1) dX5_plain_153 ?_
                        exact J_iret dX5_plain_154 rfl (jbn v_316afd7d0b v_bbcfac9b7d) (Nat.le_of_ble_eq_true rfl) (Nat.le_of_ble_eq_true rfl) (Or.inl ⟨z631, z632, z633, z634, z635, z677, f678, rfl, rfl, h638, h639, h640, h641, h642, h643, h644, h645, h646, h679, h680, h649, h683, (v_5848421b37 i4_2 i4_4 h428 g618 h625 h651 h682), (v_60a9ec55dc i4_2 i4_4 h429 g618 h625 h652)⟩)
                      · refine J_aload_n dX5_plain_145 rfl rfl ?_
                        refine Z_bipush (n := 9) dX5_plain_146 (by decide +kernel) ?_
                        refine Z_iconst (n := 0) dX5_plain_148 ?_
                        refine J_callV (st := []) dX5_plain_149 cv_X5_72 (d_emit 9 0 ln z631 z632 z633 z634 z635 fl z677 f678 v_00f9f00cc1 v_b17331891f h679 h680 h683 rfl rfl) rfl rfl rfl (Nat.le_of_ble_eq_true rfl) ⟨(Nat.le_of_ble_eq_true rfl), (Nat.le_of_ble_eq_true rfl)⟩ ⟨(Nat.le_of_ble_eq_true rfl), (Nat.le_of_ble_eq_true rfl)⟩ (fun r h9 hp => ?_)
                        obtain ⟨z685, f686, rfl, rfl, h687, h688, h689, h690, h691⟩ := hp
                        refine J_nf (nh2 := nh) (ck2 := 0) (sk2 := 0) (st2 := [.int (zI z677)]) rfl rfl rfl rfl ?_
                        refine J_app (L3 := [(54, .inr (5, [.ref 55, .int (zI ln), .int (zI z631), .int (zI z632), .int (zI z633), .int (zI z634), .int (zI z635), .int (zI fl), .ref 56, .int (zI z685)])), (56, .inl (0, 412, .inl (zA f686))), (54, .inr (5, [.ref 55, .int (zI ln), .int (zI z631), .int (zI z632), .int (zI z633), .int (zI z634), .int (zI z635), .int (zI fl), .ref 56, .int (zI z677)])), (56, .inl (0, 412, .inl (zA f678)))]) rfl ?_
                        refine J_mask (L2 := [(54, .inr (5, [.ref 55, .int (zI ln), .int (zI z631), .int (zI z632), .int (zI z633), .int (zI z634), .int (zI z635), .int (zI fl), .ref 56, .int (zI z685)])), (56, .inl (0, 412, .inl (zA f686)))]) (ks := [54, 56, 54, 56]) [true, true, false, false] rfl (by decide +kernel) rfl ?_
                        refine J_pop dX5_plain_152 rfl ?_
                        refine Z_iconst (n := 1) dX5_plain_153 ?_
                        exact J_iret dX5_plain_154 rfl (jbn v_316afd7d0b v_bbcfac9b7d) (Nat.le_of_ble_eq_true rfl) (Nat.le_of_ble_eq_true rfl) (Or.inl ⟨z631, z632, z633, z634, z635, z685, f686, rfl, rfl, h638, h639, h640, h641, h642, h643, h644, h645, h646, h687, h688, h649, h691, (v_1533bd4120 i4_2 i4_4 h428 g618 h625 h651 h682 h684 h690), (v_60a9ec55dc i4_2 i4_4 h429 g618 h625 h652)⟩)
                    · refine J_nf (nh2 := nh) (ck2 := 0) (sk2 := 0) (st2 := [.int (zI 0)]) rfl rfl rfl rfl ?_
                      refine J_app (L3 := [(54, .inr (5, [.ref 55, .int (zI ln), .int (zI z653), .int (zI z654), .int (zI z655), .int (zI z656), .int (zI z657), .int (zI z660), .ref 56, .int (zI z658)])), (56, .inl (0, 412, .inl (zA f659))), (54, .inr (5, [.ref 55, .int (zI ln), .int (zI z619), .int (zI z620), .int (zI z621), .int (zI z622), .int (zI z412), .int (zI fl), .ref 56, .int (zI z413)])), (56, .inl (0, 412, .inl (zA f414)))]) rfl ?_
                      refine J_mask (L2 := [(54, .inr (5, [.ref 55, .int (zI ln), .int (zI z653), .int (zI z654), .int (zI z655), .int (zI z656), .int (zI z657), .int (zI z660), .ref 56, .int (zI z658)])), (56, .inl (0, 412, .inl (zA f659)))]) (ks := [54, 56, 54, 56]) [true, true, false, false] rfl (by decide +kernel) rfl ?_
                      refine Z_if_ne (tgt := 134) dX5_plain_129 (by decide) v_b17331891f (fun h692 => absurd h692 (fun q => q v_2ca2bbca1f)) (fun h692 => ?_)
                      refine Z_iconst (n := 0) dX5_plain_132 ?_
                      exact J_iret dX5_plain_133 rfl (jbn v_939070ca3f v_316afd7d0b) (Nat.le_of_ble_eq_true rfl) (Nat.le_of_ble_eq_true rfl) (Or.inr ⟨z653, z654, z655, z656, z657, z658, f659, z660, rfl, rfl, h661, h662, h663, h664, h665, h666, h667, h668, h669, h670, h671, h672, h673, h674, h675⟩)
                  · refine J_nf (nh2 := nh) (ck2 := 0) (sk2 := 0) (st2 := [.int (zI 0)]) rfl rfl rfl rfl ?_
                    refine Z_if_ne (tgt := 120) dX5_plain_112 (by decide) v_b17331891f (fun h693 => absurd h693 (fun q => q v_2ca2bbca1f)) (fun h693 => ?_)
                    refine J_aload_n dX5_plain_115 rfl rfl ?_
                    refine J_callV (st := []) dX5_plain_116 cv_X5_54 (d_wrong ln z408 z409 z410 z411 z412 fl z413 h417 (v_1adcfdfee5 q1 h418 h419) rfl) rfl rfl rfl (Nat.le_of_ble_eq_true rfl) ⟨(Nat.le_of_ble_eq_true rfl), (Nat.le_of_ble_eq_true rfl)⟩ ⟨(Nat.le_of_ble_eq_true rfl), (Nat.le_of_ble_eq_true rfl)⟩ (fun r h9 hp => ?_)
                    obtain ⟨rfl, rfl⟩ := hp
                    refine J_nf (nh2 := nh) (ck2 := 0) (sk2 := 0) (st2 := [.int (zI 0)]) rfl rfl rfl rfl ?_
                    refine J_app (L3 := [(54, .inr (5, [.ref 55, .int (zI ln), .int (zI z408), .int (zI z409), .int (zI z410), .int (zI z411), .int (zI z412), .int (zI z409), .ref 56, .int (zI z413)])), (54, .inr (5, [.ref 55, .int (zI ln), .int (zI z408), .int (zI z409), .int (zI z410), .int (zI z411), .int (zI z412), .int (zI fl), .ref 56, .int (zI z413)])), (56, .inl (0, 412, .inl (zA f414)))]) rfl ?_
                    refine J_mask (L2 := [(54, .inr (5, [.ref 55, .int (zI ln), .int (zI z408), .int (zI z409), .int (zI z410), .int (zI z411), .int (zI z412), .int (zI z409), .ref 56, .int (zI z413)])), (56, .inl (0, 412, .inl (zA f414)))]) (ks := [54, 54, 56]) [true, false, true] rfl (by decide +kernel) rfl ?_
                    exact J_iret dX5_plain_119 rfl (jbn v_939070ca3f v_316afd7d0b) (Nat.le_of_ble_eq_true rfl) (Nat.le_of_ble_eq_true rfl) (Or.inr ⟨z408, z409, z410, z411, z412, z413, f414, z409, rfl, rfl, h415, h416, h417, h418, h419, h420, h421, h422, h423, h424, h425, h426, h427, h417, (v_1adcfdfee5 q1 h418 h419)⟩)
            · refine J_nf (nh2 := nh) (ck2 := 0) (sk2 := 0) (st2 := [.int (zI 0)]) rfl rfl rfl rfl ?_
              refine J_app (L3 := [(54, .inr (5, [.ref 55, .int (zI ln), .int (zI z430), .int (zI z431), .int (zI z432), .int (zI z433), .int (zI z434), .int (zI z437), .ref 56, .int (zI z435)])), (56, .inl (0, 412, .inl (zA f436))), (54, .inr (5, [.ref 55, .int (zI ln), .int (zI tx_4), .int (zI sx_4), .int (zI bx_4), .int (zI vx_4), .int (zI pa), .int (zI fl), .ref 56, .int (zI sz)]))]) rfl ?_
              refine J_mask (L2 := [(54, .inr (5, [.ref 55, .int (zI ln), .int (zI z430), .int (zI z431), .int (zI z432), .int (zI z433), .int (zI z434), .int (zI z437), .ref 56, .int (zI z435)])), (56, .inl (0, 412, .inl (zA f436)))]) (ks := [54, 56, 54]) [true, true, false] rfl (by decide +kernel) rfl ?_
              refine Z_if_ne (tgt := 69) dX5_plain_64 (by decide) v_b17331891f (fun h694 => absurd h694 (fun q => q v_2ca2bbca1f)) (fun h694 => ?_)
              refine Z_iconst (n := 0) dX5_plain_67 ?_
              exact J_iret dX5_plain_68 rfl (jbn v_939070ca3f v_316afd7d0b) (Nat.le_of_ble_eq_true rfl) (Nat.le_of_ble_eq_true rfl) (Or.inr ⟨z430, z431, z432, z433, z434, z435, f436, z437, rfl, rfl, h438, h439, h440, h441, h442, h443, h444, h445, h446, h447, h448, h449, h450, h451, h452⟩)
        · refine J_iload_n dX5_plain_20 rfl rfl ?_
          refine Z_if_ne (tgt := 28) dX5_plain_21 (by decide) (v_5f10a759cd i4_2 i4_3) (fun h695 => ?_) (fun h695 => ?_)
          · refine Z_iconst (n := 0) dX5_plain_28 ?_
            refine J_istore_n dX5_plain_29 rfl (Nat.le_of_ble_eq_true rfl) rfl ?_
            refine J_ls (ls2 := [some (.ref 54), some (.int (zI 8)), some (.int (zI 0)), some (.int (zI i_4))]) rfl ?_
            refine J_aload_n dX5_plain_30 rfl rfl ?_
            have g696 := TokL.lt i4_12 (v_3a5b2158d2 h348)
            refine J_callV (st := []) dX5_plain_31 cv_X5_43 (d_advance ln tx_4 sx_4 bx_4 vx_4 pa fl sz tp q0 q1 (v_d253cb2c59 i4_7 g696) i4_9 i4_10 i4_11 q15 rfl hk55) rfl rfl rfl (Nat.le_of_ble_eq_true rfl) ⟨(Nat.le_of_ble_eq_true rfl), (Nat.le_of_ble_eq_true rfl)⟩ ⟨(Nat.le_of_ble_eq_true rfl), (Nat.le_of_ble_eq_true rfl)⟩ (fun r h9 hp => ?_)
            obtain ⟨z697, z698, z699, z700, rfl, rfl, h701, h702, h703, h704, h705, h706, h707, h708⟩ := hp
            refine J_nf (nh2 := nh) (ck2 := 0) (sk2 := 0) (st2 := []) rfl rfl rfl rfl ?_
            refine J_app (L3 := [(54, .inr (5, [.ref 55, .int (zI ln), .int (zI z697), .int (zI z698), .int (zI z699), .int (zI z700), .int (zI pa), .int (zI fl), .ref 56, .int (zI sz)])), (54, .inr (5, [.ref 55, .int (zI ln), .int (zI tx_4), .int (zI sx_4), .int (zI bx_4), .int (zI vx_4), .int (zI pa), .int (zI fl), .ref 56, .int (zI sz)]))]) rfl ?_
            refine J_mask (L2 := [(54, .inr (5, [.ref 55, .int (zI ln), .int (zI z697), .int (zI z698), .int (zI z699), .int (zI z700), .int (zI pa), .int (zI fl), .ref 56, .int (zI sz)]))]) (ks := [54, 54]) [true, false] rfl (by decide +kernel) rfl ?_
            refine Z_iinc (c := i_4 + 1) (ls2 := [some (.ref 54), some (.int (zI 8)), some (.int (zI 0)), some (.int (zI (i_4 + 1)))]) dX5_plain_34 rfl (Nat.le_of_ble_eq_true rfl) rfl rfl rfl ?_
            refine J_goto (tgt := 4) dX5_plain_37 (by decide) ?_
            exact ih4 0 (i_4 + 1) z697 z698 z699 z700 (v_da458fa48a i4_0) (v_6924477667 h1) v_939070ca3f v_316afd7d0b (v_17f5bda46b i4_2 i4_4 g696 h703) h701 h702 (v_9b2e2070a2 i4_7 g696 h703) h704 h705 h706 h707 h708 (meas_lt v_ceb2ed6d2b (v_44ddc35e90 h1) hm4)
          · refine Z_iconst (n := 1) dX5_plain_24 ?_
            refine J_goto (tgt := 29) dX5_plain_25 (by decide) ?_
            refine J_istore_n dX5_plain_29 rfl (Nat.le_of_ble_eq_true rfl) rfl ?_
            refine J_ls (ls2 := [some (.ref 54), some (.int (zI 8)), some (.int (zI 1)), some (.int (zI i_4))]) rfl ?_
            refine J_aload_n dX5_plain_30 rfl rfl ?_
            have g709 := TokL.lt i4_12 (v_3a5b2158d2 h348)
            refine J_callV (st := []) dX5_plain_31 cv_X5_43 (d_advance ln tx_4 sx_4 bx_4 vx_4 pa fl sz tp q0 q1 (v_d253cb2c59 i4_7 g709) i4_9 i4_10 i4_11 q15 rfl hk55) rfl rfl rfl (Nat.le_of_ble_eq_true rfl) ⟨(Nat.le_of_ble_eq_true rfl), (Nat.le_of_ble_eq_true rfl)⟩ ⟨(Nat.le_of_ble_eq_true rfl), (Nat.le_of_ble_eq_true rfl)⟩ (fun r h9 hp => ?_)
            obtain ⟨z710, z711, z712, z713, rfl, rfl, h714, h715, h716, h717, h718, h719, h720, h721⟩ := hp
            refine J_nf (nh2 := nh) (ck2 := 0) (sk2 := 0) (st2 := []) rfl rfl rfl rfl ?_
            refine J_app (L3 := [(54, .inr (5, [.ref 55, .int (zI ln), .int (zI z710), .int (zI z711), .int (zI z712), .int (zI z713), .int (zI pa), .int (zI fl), .ref 56, .int (zI sz)])), (54, .inr (5, [.ref 55, .int (zI ln), .int (zI tx_4), .int (zI sx_4), .int (zI bx_4), .int (zI vx_4), .int (zI pa), .int (zI fl), .ref 56, .int (zI sz)]))]) rfl ?_
            refine J_mask (L2 := [(54, .inr (5, [.ref 55, .int (zI ln), .int (zI z710), .int (zI z711), .int (zI z712), .int (zI z713), .int (zI pa), .int (zI fl), .ref 56, .int (zI sz)]))]) (ks := [54, 54]) [true, false] rfl (by decide +kernel) rfl ?_
            refine Z_iinc (c := i_4 + 1) (ls2 := [some (.ref 54), some (.int (zI 8)), some (.int (zI 1)), some (.int (zI (i_4 + 1)))]) dX5_plain_34 rfl (Nat.le_of_ble_eq_true rfl) rfl rfl rfl ?_
            refine J_goto (tgt := 4) dX5_plain_37 (by decide) ?_
            exact ih4 1 (i_4 + 1) z710 z711 z712 z713 (v_da458fa48a i4_0) (v_6924477667 h1) v_316afd7d0b v_bbcfac9b7d (v_9fcadba328 i4_2 i4_4 g709 h716) h714 h715 (v_9b2e2070a2 i4_7 g709 h716) h717 h718 h719 h720 h721 (meas_lt v_ceb2ed6d2b (v_44ddc35e90 h1) hm4)
  exact lp4 _ 0 0 tk st bh va v_939070ca3f v_5ab96f7b5e v_939070ca3f v_316afd7d0b v_2776526004 q2 q3 q4 q5 q6 q7 q8 q14 (Nat.lt_succ_self _)
set_option maxHeartbeats 4000000 in
set_option maxRecDepth 100000 in
theorem d_both8 {l : Launch} {G : jG} {nh : Nat} {fh : Nat → Option va_E} (ln : Int) (tk : Int) (st : Int) (bh : Int) (va : Int) (pa : Int) (fl : Int) (sz : Int) (tp : Int → Int) (cd : Int → Int) (q0 : 0 ≤ ln) (q1 : ln ≤ 400) (q2 : 0 ≤ tk) (q3 : tk ≤ 355) (q4 : 0 ≤ st) (q5 : st ≤ bh) (q6 : bh ≤ ln) (q7 : 0 ≤ va) (q8 : va ≤ 1001) (q9 : 0 ≤ pa) (q10 : pa ≤ 50) (q11 : zr fl) (q12 : 0 ≤ sz) (q13 : sz ≤ 412) (q14 : TokL tk st bh) (q15 : Rg tp 400 0 255) (q16 : Rg cd 412 (-2147483648) 2147483647) (hk54 : fh 54 = some (.inr (5, [.ref 55, .int (zI ln), .int (zI tk), .int (zI st), .int (zI bh), .int (zI va), .int (zI pa), .int (zI fl), .ref 56, .int (zI sz)]))) (hk55 : fh 55 = some (.inl (0, 400, .inl (zA tp)))) (hk56 : fh 56 = some (.inl (0, 412, .inl (zA cd)))) : JM l G yX5_both MX5_both { frames := 10, cells := 0, slots := 0, locals := 222 } [.ref 54, .int (zI 8)] (nh, fh) (fun rr h9 => (∃ tk2 : Int, ∃ st2 : Int, ∃ bh2 : Int, ∃ va2 : Int, ∃ pa2 : Int, ∃ sz2 : Int, ∃ cd2 : Int → Int, rr = some (.int (zI 1)) ∧ h9 = (nh, hc fh [(54, .inr (5, [.ref 55, .int (zI ln), .int (zI tk2), .int (zI st2), .int (zI bh2), .int (zI va2), .int (zI pa2), .int (zI fl), .ref 56, .int (zI sz2)])), (56, .inl (0, 412, .inl (zA cd2)))]) ∧ (0 ≤ tk2) ∧ (tk2 ≤ 355) ∧ (0 ≤ st2) ∧ (st2 ≤ bh2) ∧ (bh2 ≤ ln) ∧ (0 ≤ va2) ∧ (va2 ≤ 1001) ∧ (0 ≤ pa2) ∧ (pa2 ≤ 50) ∧ (0 ≤ sz2) ∧ (sz2 ≤ 412) ∧ (TokL tk2 st2 bh2) ∧ (Rg cd2 412 (-2147483648) 2147483647) ∧ (sz2 + st ≤ sz + st2) ∧ (st ≤ st2)) ∨ (∃ tk2 : Int, ∃ st2 : Int, ∃ bh2 : Int, ∃ va2 : Int, ∃ pa2 : Int, ∃ sz2 : Int, ∃ cd2 : Int → Int, ∃ fl2 : Int, rr = some (.int (zI 0)) ∧ h9 = (nh, hc fh [(54, .inr (5, [.ref 55, .int (zI ln), .int (zI tk2), .int (zI st2), .int (zI bh2), .int (zI va2), .int (zI pa2), .int (zI fl2), .ref 56, .int (zI sz2)])), (56, .inl (0, 412, .inl (zA cd2)))]) ∧ (0 ≤ tk2) ∧ (tk2 ≤ 355) ∧ (0 ≤ st2) ∧ (st2 ≤ bh2) ∧ (bh2 ≤ ln) ∧ (0 ≤ va2) ∧ (va2 ≤ 1001) ∧ (0 ≤ pa2) ∧ (pa2 ≤ 50) ∧ (0 ≤ sz2) ∧ (sz2 ≤ 412) ∧ (TokL tk2 st2 bh2) ∧ (Rg cd2 412 (-2147483648) 2147483647) ∧ (0 ≤ fl2) ∧ (fl2 ≤ 400))) := by
  refine JM.of (by decide) rfl (fun h => by cases h) (Nat.le_of_ble_eq_true rfl) ⟨2, rfl⟩ ?_
  refine J_hc0 (J_ls (ls2 := [some (.ref 54), some (.int (zI 8)), none, none]) rfl ?_)
  refine J_aload_n dX5_both_0 rfl rfl ?_
  refine J_iload_n dX5_both_1 rfl rfl ?_
  refine J_callV (st := []) dX5_both_2 cv_X5_83 (d_plain8 ln tk st bh va pa fl sz tp cd q0 q1 q2 q3 q4 q5 q6 q7 q8 q9 q10 q11 q12 q13 q14 q15 q16 hk54 hk55 hk56) hk54 rfl rfl (Nat.le_of_ble_eq_true rfl) ⟨(Nat.le_of_ble_eq_true rfl), (Nat.le_of_ble_eq_true rfl)⟩ ⟨(Nat.le_of_ble_eq_true rfl), (Nat.le_of_ble_eq_true rfl)⟩ (fun r h9 hp => ?_)
  rcases hp with ⟨z1, z2, z3, z4, z5, z6, f7, rfl, rfl, h8, h9, h10, h11, h12, h13, h14, h15, h16, h17, h18, h19, h20, h21, h22⟩ | ⟨z23, z24, z25, z26, z27, z28, f29, z30, rfl, rfl, h31, h32, h33, h34, h35, h36, h37, h38, h39, h40, h41, h42, h43, h44, h45⟩
  · refine J_nf (nh2 := nh) (ck2 := 0) (sk2 := 0) (st2 := [.int (zI 1)]) rfl rfl rfl rfl ?_
    refine J_app (L3 := [(54, .inr (5, [.ref 55, .int (zI ln), .int (zI z1), .int (zI z2), .int (zI z3), .int (zI z4), .int (zI z5), .int (zI fl), .ref 56, .int (zI z6)])), (56, .inl (0, 412, .inl (zA f7)))]) rfl ?_
    refine Z_if_ne (tgt := 10) dX5_both_5 (by decide) v_4dcc24baa7 (fun h46 => ?_) (fun h46 => absurd h46 v_3a47bfd896)
    refine Z_iconst (n := 0) dX5_both_10 ?_
    refine J_istore_n dX5_both_11 rfl (Nat.le_of_ble_eq_true rfl) rfl ?_
    refine J_ls (ls2 := [some (.ref 54), some (.int (zI 8)), some (.int (zI 0)), none]) rfl ?_
    have lp12 : ∀ (N12 : Nat) (i_12 : Int) (tx_12 : Int) (sx_12 : Int) (bx_12 : Int) (vx_12 : Int) (px_12 : Int) (zx_12 : Int) (cx_12 : Int → Int), (0 ≤ i_12) → (i_12 ≤ 400) → (zx_12 + st ≤ sz + sx_12) → (st ≤ sx_12) → (0 ≤ tx_12) → (tx_12 ≤ 355) → (0 ≤ sx_12) → (sx_12 ≤ bx_12) → (bx_12 ≤ ln) → (0 ≤ vx_12) → (vx_12 ≤ 1001) → (TokL tx_12 sx_12 bx_12) → (Rg cx_12 412 (-2147483648) 2147483647) → (0 ≤ zx_12) → (zx_12 ≤ 412) → (0 ≤ px_12) → (px_12 ≤ 50) → (400 - i_12).toNat < N12 → J l G MX5_both { frames := 10, cells := 0, slots := 0, locals := 222 } jE (jMQ G { frames := 10, cells := 0, slots := 0, locals := 222 } (fun rr h9 => (∃ tk2 : Int, ∃ st2 : Int, ∃ bh2 : Int, ∃ va2 : Int, ∃ pa2 : Int, ∃ sz2 : Int, ∃ cd2 : Int → Int, rr = some (.int (zI 1)) ∧ h9 = (nh, hc fh [(54, .inr (5, [.ref 55, .int (zI ln), .int (zI tk2), .int (zI st2), .int (zI bh2), .int (zI va2), .int (zI pa2), .int (zI fl), .ref 56, .int (zI sz2)])), (56, .inl (0, 412, .inl (zA cd2)))]) ∧ (0 ≤ tk2) ∧ (tk2 ≤ 355) ∧ (0 ≤ st2) ∧ (st2 ≤ bh2) ∧ (bh2 ≤ ln) ∧ (0 ≤ va2) ∧ (va2 ≤ 1001) ∧ (0 ≤ pa2) ∧ (pa2 ≤ 50) ∧ (0 ≤ sz2) ∧ (sz2 ≤ 412) ∧ (TokL tk2 st2 bh2) ∧ (Rg cd2 412 (-2147483648) 2147483647) ∧ (sz2 + st ≤ sz + st2) ∧ (st ≤ st2)) ∨ (∃ tk2 : Int, ∃ st2 : Int, ∃ bh2 : Int, ∃ va2 : Int, ∃ pa2 : Int, ∃ sz2 : Int, ∃ cd2 : Int → Int, ∃ fl2 : Int, rr = some (.int (zI 0)) ∧ h9 = (nh, hc fh [(54, .inr (5, [.ref 55, .int (zI ln), .int (zI tk2), .int (zI st2), .int (zI bh2), .int (zI va2), .int (zI pa2), .int (zI fl2), .ref 56, .int (zI sz2)])), (56, .inl (0, 412, .inl (zA cd2)))]) ∧ (0 ≤ tk2) ∧ (tk2 ≤ 355) ∧ (0 ≤ st2) ∧ (st2 ≤ bh2) ∧ (bh2 ≤ ln) ∧ (0 ≤ va2) ∧ (va2 ≤ 1001) ∧ (0 ≤ pa2) ∧ (pa2 ≤ 50) ∧ (0 ≤ sz2) ∧ (sz2 ≤ 412) ∧ (TokL tk2 st2 bh2) ∧ (Rg cd2 412 (-2147483648) 2147483647) ∧ (0 ≤ fl2) ∧ (fl2 ≤ 400)))) (nh, hc fh [(54, .inr (5, [.ref 55, .int (zI ln), .int (zI tx_12), .int (zI sx_12), .int (zI bx_12), .int (zI vx_12), .int (zI px_12), .int (zI fl), .ref 56, .int (zI zx_12)])), (56, .inl (0, 412, .inl (zA cx_12)))]) 0 0 12 [some (.ref 54), some (.int (zI 8)), some (.int (zI i_12)), none] [] := by
      intro N12
      induction N12 with
      | zero => intro i_12 tx_12 sx_12 bx_12 vx_12 px_12 zx_12 cx_12 i12_0 i12_1 i12_2 i12_3 i12_4 i12_5 i12_6 i12_7 i12_8 i12_9 i12_10 i12_11 i12_12 i12_13 i12_14 i12_15 i12_16 hm; exact absurd hm (Nat.not_lt_zero _)
      | succ N12 ih12 =>
        intro i_12 tx_12 sx_12 bx_12 vx_12 px_12 zx_12 cx_12 i12_0 i12_1 i12_2 i12_3 i12_4 i12_5 i12_6 i12_7 i12_8 i12_9 i12_10 i12_11 i12_12 i12_13 i12_14 i12_15 i12_16 hm12
        refine J_iload_n dX5_both_12 rfl rfl ?_
        refine Z_sipush (n := 400) dX5_both_13 (by decide +kernel) ?_
        refine Z_icmp_ge (tgt := 60) dX5_both_16 (by decide) (v_d7389cde0f i12_0 i12_1) v_d8dcd4dd52 (fun h47 => ?_) (fun h47 => ?_)
        · refine Z_iconst (n := 1) dX5_both_60 ?_
          exact J_iret dX5_both_61 rfl (jbn v_316afd7d0b v_bbcfac9b7d) (Nat.le_of_ble_eq_true rfl) (Nat.le_of_ble_eq_true rfl) (Or.inl ⟨tx_12, sx_12, bx_12, vx_12, px_12, zx_12, cx_12, rfl, rfl, i12_4, i12_5, i12_6, i12_7, i12_8, i12_9, i12_10, i12_15, i12_16, i12_13, i12_14, i12_11, i12_12, i12_2, i12_3⟩)
        · refine J_aload_n dX5_both_19 rfl rfl ?_
          refine J_get (v := .int (zI tx_12)) dX5_both_20 fl_X5_19 rfl rfl ?_
          refine Z_iconst (n := 5) dX5_both_23 ?_
          refine Z_icmp_ne (tgt := 60) dX5_both_24 (by decide) (v_96bf6f782e i12_4 i12_5) v_3961fe0d0d (fun h48 => ?_) (fun h48 => ?_)
          · refine Z_iconst (n := 1) dX5_both_60 ?_
            exact J_iret dX5_both_61 rfl (jbn v_316afd7d0b v_bbcfac9b7d) (Nat.le_of_ble_eq_true rfl) (Nat.le_of_ble_eq_true rfl) (Or.inl ⟨tx_12, sx_12, bx_12, vx_12, px_12, zx_12, cx_12, rfl, rfl, i12_4, i12_5, i12_6, i12_7, i12_8, i12_9, i12_10, i12_15, i12_16, i12_13, i12_14, i12_11, i12_12, i12_2, i12_3⟩)
          · refine J_aload_n dX5_both_27 rfl rfl ?_
            have g49 := TokL.lt i12_11 (v_9ad38f4709 h48)
            refine J_callV (st := []) dX5_both_28 cv_X5_43 (d_advance ln tx_12 sx_12 bx_12 vx_12 px_12 fl zx_12 tp q0 q1 (v_d253cb2c59 i12_6 g49) i12_8 i12_9 i12_10 q15 rfl hk55) rfl rfl rfl (Nat.le_of_ble_eq_true rfl) ⟨(Nat.le_of_ble_eq_true rfl), (Nat.le_of_ble_eq_true rfl)⟩ ⟨(Nat.le_of_ble_eq_true rfl), (Nat.le_of_ble_eq_true rfl)⟩ (fun r h9 hp => ?_)
            obtain ⟨z50, z51, z52, z53, rfl, rfl, h54, h55, h56, h57, h58, h59, h60, h61⟩ := hp
            refine J_nf (nh2 := nh) (ck2 := 0) (sk2 := 0) (st2 := []) rfl rfl rfl rfl ?_
            refine J_app (L3 := [(54, .inr (5, [.ref 55, .int (zI ln), .int (zI z50), .int (zI z51), .int (zI z52), .int (zI z53), .int (zI px_12), .int (zI fl), .ref 56, .int (zI zx_12)])), (54, .inr (5, [.ref 55, .int (zI ln), .int (zI tx_12), .int (zI sx_12), .int (zI bx_12), .int (zI vx_12), .int (zI px_12), .int (zI fl), .ref 56, .int (zI zx_12)])), (56, .inl (0, 412, .inl (zA cx_12)))]) rfl ?_
            refine J_mask (L2 := [(54, .inr (5, [.ref 55, .int (zI ln), .int (zI z50), .int (zI z51), .int (zI z52), .int (zI z53), .int (zI px_12), .int (zI fl), .ref 56, .int (zI zx_12)])), (56, .inl (0, 412, .inl (zA cx_12)))]) (ks := [54, 54, 56]) [true, false, true] rfl (by decide +kernel) rfl ?_
            refine J_aload_n dX5_both_31 rfl rfl ?_
            refine Z_bipush (n := 11) dX5_both_32 (by decide +kernel) ?_
            refine Z_iconst (n := 0) dX5_both_34 ?_
            refine J_callV (st := []) dX5_both_35 cv_X5_72 (d_emit 11 0 ln z50 z51 z52 z53 px_12 fl zx_12 cx_12 v_d58e110b81 v_b17331891f i12_13 i12_14 i12_12 rfl rfl) rfl rfl rfl (Nat.le_of_ble_eq_true rfl) ⟨(Nat.le_of_ble_eq_true rfl), (Nat.le_of_ble_eq_true rfl)⟩ ⟨(Nat.le_of_ble_eq_true rfl), (Nat.le_of_ble_eq_true rfl)⟩ (fun r h9 hp => ?_)
            obtain ⟨z62, f63, rfl, rfl, h64, h65, h66, h67, h68⟩ := hp
            refine J_nf (nh2 := nh) (ck2 := 0) (sk2 := 0) (st2 := [.int (zI zx_12)]) rfl rfl rfl rfl ?_
            refine J_app (L3 := [(54, .inr (5, [.ref 55, .int (zI ln), .int (zI z50), .int (zI z51), .int (zI z52), .int (zI z53), .int (zI px_12), .int (zI fl), .ref 56, .int (zI z62)])), (56, .inl (0, 412, .inl (zA f63))), (54, .inr (5, [.ref 55, .int (zI ln), .int (zI z50), .int (zI z51), .int (zI z52), .int (zI z53), .int (zI px_12), .int (zI fl), .ref 56, .int (zI zx_12)])), (56, .inl (0, 412, .inl (zA cx_12)))]) rfl ?_
            refine J_mask (L2 := [(54, .inr (5, [.ref 55, .int (zI ln), .int (zI z50), .int (zI z51), .int (zI z52), .int (zI z53), .int (zI px_12), .int (zI fl), .ref 56, .int (zI z62)])), (56, .inl (0, 412, .inl (zA f63)))]) (ks := [54, 56, 54, 56]) [true, true, false, false] rfl (by decide +kernel) rfl ?_
            refine J_istore_n dX5_both_38 rfl (Nat.le_of_ble_eq_true rfl) rfl ?_
            refine J_ls (ls2 := [some (.ref 54), some (.int (zI 8)), some (.int (zI i_12)), some (.int (zI zx_12))]) rfl ?_
            refine J_aload_n dX5_both_39 rfl rfl ?_
            refine J_iload_n dX5_both_40 rfl rfl ?_
            refine J_callV (st := []) dX5_both_41 cv_X5_83 (d_plain8 ln z50 z51 z52 z53 px_12 fl z62 tp f63 q0 q1 h54 h55 (v_9b2e2070a2 i12_6 g49 h56) h57 h58 h59 h60 i12_15 i12_16 q11 h64 h65 h61 q15 h68 rfl hk55 rfl) rfl rfl rfl (Nat.le_of_ble_eq_true rfl) ⟨(Nat.le_of_ble_eq_true rfl), (Nat.le_of_ble_eq_true rfl)⟩ ⟨(Nat.le_of_ble_eq_true rfl), (Nat.le_of_ble_eq_true rfl)⟩ (fun r h9 hp => ?_)
            rcases hp with ⟨z69, z70, z71, z72, z73, z74, f75, rfl, rfl, h76, h77, h78, h79, h80, h81, h82, h83, h84, h85, h86, h87, h88, h89, h90⟩ | ⟨z91, z92, z93, z94, z95, z96, f97, z98, rfl, rfl, h99, h100, h101, h102, h103, h104, h105, h106, h107, h108, h109, h110, h111, h112, h113⟩
            · refine J_nf (nh2 := nh) (ck2 := 0) (sk2 := 0) (st2 := [.int (zI 1)]) rfl rfl rfl rfl ?_
              refine J_app (L3 := [(54, .inr (5, [.ref 55, .int (zI ln), .int (zI z69), .int (zI z70), .int (zI z71), .int (zI z72), .int (zI z73), .int (zI fl), .ref 56, .int (zI z74)])), (56, .inl (0, 412, .inl (zA f75))), (54, .inr (5, [.ref 55, .int (zI ln), .int (zI z50), .int (zI z51), .int (zI z52), .int (zI z53), .int (zI px_12), .int (zI fl), .ref 56, .int (zI z62)])), (56, .inl (0, 412, .inl (zA f63)))]) rfl ?_
              refine J_mask (L2 := [(54, .inr (5, [.ref 55, .int (zI ln), .int (zI z69), .int (zI z70), .int (zI z71), .int (zI z72), .int (zI z73), .int (zI fl), .ref 56, .int (zI z74)])), (56, .inl (0, 412, .inl (zA f75)))]) (ks := [54, 56, 54, 56]) [true, true, false, false] rfl (by decide +kernel) rfl ?_
              refine Z_if_ne (tgt := 49) dX5_both_44 (by decide) v_4dcc24baa7 (fun h114 => ?_) (fun h114 => absurd h114 v_3a47bfd896)
              refine J_aload_n dX5_both_49 rfl rfl ?_
              refine J_iload_n dX5_both_50 rfl rfl ?_
              refine J_callV (st := []) dX5_both_51 cv_X5_79 (d_aim zx_12 ln z69 z70 z71 z72 z73 fl z74 f75 (v_9099852440 i12_13 i12_14) h85 h86 h88 rfl rfl) rfl rfl rfl (Nat.le_of_ble_eq_true rfl) ⟨(Nat.le_of_ble_eq_true rfl), (Nat.le_of_ble_eq_true rfl)⟩ ⟨(Nat.le_of_ble_eq_true rfl), (Nat.le_of_ble_eq_true rfl)⟩ (fun r h9 hp => ?_)
              obtain ⟨f115, rfl, rfl, h116⟩ := hp
              refine J_nf (nh2 := nh) (ck2 := 0) (sk2 := 0) (st2 := []) rfl rfl rfl rfl ?_
              refine J_app (L3 := [(56, .inl (0, 412, .inl (zA f115))), (54, .inr (5, [.ref 55, .int (zI ln), .int (zI z69), .int (zI z70), .int (zI z71), .int (zI z72), .int (zI z73), .int (zI fl), .ref 56, .int (zI z74)])), (56, .inl (0, 412, .inl (zA f75)))]) rfl ?_
              refine J_mask (L2 := [(56, .inl (0, 412, .inl (zA f115))), (54, .inr (5, [.ref 55, .int (zI ln), .int (zI z69), .int (zI z70), .int (zI z71), .int (zI z72), .int (zI z73), .int (zI fl), .ref 56, .int (zI z74)]))]) (ks := [56, 54, 56]) [true, true, false] rfl (by decide +kernel) rfl ?_
              refine Z_iinc (c := i_12 + 1) (ls2 := [some (.ref 54), some (.int (zI 8)), some (.int (zI (i_12 + 1))), some (.int (zI zx_12))]) dX5_both_54 rfl (Nat.le_of_ble_eq_true rfl) rfl rfl rfl ?_
              refine J_goto (tgt := 12) dX5_both_57 (by decide) ?_
              refine J_touch (k := 56) (e := .inl (0, 412, .inl (zA f115))) rfl ?_
              refine J_touch (k := 54) (e := .inr (5, [.ref 55, .int (zI ln), .int (zI z69), .int (zI z70), .int (zI z71), .int (zI z72), .int (zI z73), .int (zI fl), .ref 56, .int (zI z74)])) rfl ?_
              refine J_mask (L2 := [(54, .inr (5, [.ref 55, .int (zI ln), .int (zI z69), .int (zI z70), .int (zI z71), .int (zI z72), .int (zI z73), .int (zI fl), .ref 56, .int (zI z74)])), (56, .inl (0, 412, .inl (zA f115)))]) (ks := [54, 56, 56, 54]) [true, true, false, false] rfl (by decide +kernel) rfl ?_
              refine J_drop (ls2 := [some (.ref 54), some (.int (zI 8)), some (.int (zI (i_12 + 1))), none]) [true, true, true, false] rfl ?_
              exact ih12 (i_12 + 1) z69 z70 z71 z72 z73 z74 f115 (v_da458fa48a i12_0) (v_6924477667 h47) (v_f82b1dc229 i12_2 g49 h56 h67 h89) (v_269579bf42 i12_3 g49 h56 h90) h76 h77 h78 h79 h80 h81 h82 h87 h116 h85 h86 h83 h84 (meas_lt v_ceb2ed6d2b (v_44ddc35e90 h47) hm12)
            · refine J_nf (nh2 := nh) (ck2 := 0) (sk2 := 0) (st2 := [.int (zI 0)]) rfl rfl rfl rfl ?_
              refine J_app (L3 := [(54, .inr (5, [.ref 55, .int (zI ln), .int (zI z91), .int (zI z92), .int (zI z93), .int (zI z94), .int (zI z95), .int (zI z98), .ref 56, .int (zI z96)])), (56, .inl (0, 412, .inl (zA f97))), (54, .inr (5, [.ref 55, .int (zI ln), .int (zI z50), .int (zI z51), .int (zI z52), .int (zI z53), .int (zI px_12), .int (zI fl), .ref 56, .int (zI z62)])), (56, .inl (0, 412, .inl (zA f63)))]) rfl ?_
              refine J_mask (L2 := [(54, .inr (5, [.ref 55, .int (zI ln), .int (zI z91), .int (zI z92), .int (zI z93), .int (zI z94), .int (zI z95), .int (zI z98), .ref 56, .int (zI z96)])), (56, .inl (0, 412, .inl (zA f97)))]) (ks := [54, 56, 54, 56]) [true, true, false, false] rfl (by decide +kernel) rfl ?_
              refine Z_if_ne (tgt := 49) dX5_both_44 (by decide) v_b17331891f (fun h117 => absurd h117 (fun q => q v_2ca2bbca1f)) (fun h117 => ?_)
              refine Z_iconst (n := 0) dX5_both_47 ?_
              exact J_iret dX5_both_48 rfl (jbn v_939070ca3f v_316afd7d0b) (Nat.le_of_ble_eq_true rfl) (Nat.le_of_ble_eq_true rfl) (Or.inr ⟨z91, z92, z93, z94, z95, z96, f97, z98, rfl, rfl, h99, h100, h101, h102, h103, h104, h105, h106, h107, h108, h109, h110, h111, h112, h113⟩)
    exact lp12 _ 0 z1 z2 z3 z4 z5 z6 f7 v_939070ca3f v_5ab96f7b5e h21 h22 h8 h9 h10 h11 h12 h13 h14 h19 h20 h17 h18 h15 h16 (Nat.lt_succ_self _)
  · refine J_nf (nh2 := nh) (ck2 := 0) (sk2 := 0) (st2 := [.int (zI 0)]) rfl rfl rfl rfl ?_
    refine J_app (L3 := [(54, .inr (5, [.ref 55, .int (zI ln), .int (zI z23), .int (zI z24), .int (zI z25), .int (zI z26), .int (zI z27), .int (zI z30), .ref 56, .int (zI z28)])), (56, .inl (0, 412, .inl (zA f29)))]) rfl ?_
    refine Z_if_ne (tgt := 10) dX5_both_5 (by decide) v_b17331891f (fun h118 => absurd h118 (fun q => q v_2ca2bbca1f)) (fun h118 => ?_)
    refine Z_iconst (n := 0) dX5_both_8 ?_
    exact J_iret dX5_both_9 rfl (jbn v_939070ca3f v_316afd7d0b) (Nat.le_of_ble_eq_true rfl) (Nat.le_of_ble_eq_true rfl) (Or.inr ⟨z23, z24, z25, z26, z27, z28, f29, z30, rfl, rfl, h31, h32, h33, h34, h35, h36, h37, h38, h39, h40, h41, h42, h43, h44, h45⟩)
set_option maxHeartbeats 4000000 in
set_option maxRecDepth 100000 in
theorem d_test8 {l : Launch} {G : jG} {nh : Nat} {fh : Nat → Option va_E} (ln : Int) (tk : Int) (st : Int) (bh : Int) (va : Int) (pa : Int) (fl : Int) (sz : Int) (tp : Int → Int) (cd : Int → Int) (q0 : 0 ≤ ln) (q1 : ln ≤ 400) (q2 : 0 ≤ tk) (q3 : tk ≤ 355) (q4 : 0 ≤ st) (q5 : st ≤ bh) (q6 : bh ≤ ln) (q7 : 0 ≤ va) (q8 : va ≤ 1001) (q9 : 0 ≤ pa) (q10 : pa ≤ 50) (q11 : zr fl) (q12 : 0 ≤ sz) (q13 : sz ≤ 412) (q14 : TokL tk st bh) (q15 : Rg tp 400 0 255) (q16 : Rg cd 412 (-2147483648) 2147483647) (hk54 : fh 54 = some (.inr (5, [.ref 55, .int (zI ln), .int (zI tk), .int (zI st), .int (zI bh), .int (zI va), .int (zI pa), .int (zI fl), .ref 56, .int (zI sz)]))) (hk55 : fh 55 = some (.inl (0, 400, .inl (zA tp)))) (hk56 : fh 56 = some (.inl (0, 412, .inl (zA cd)))) : JM l G yX5_test MX5_test { frames := 11, cells := 0, slots := 0, locals := 245 } [.ref 54, .int (zI 8)] (nh, fh) (fun rr h9 => (∃ tk2 : Int, ∃ st2 : Int, ∃ bh2 : Int, ∃ va2 : Int, ∃ pa2 : Int, ∃ sz2 : Int, ∃ cd2 : Int → Int, rr = some (.int (zI 1)) ∧ h9 = (nh, hc fh [(54, .inr (5, [.ref 55, .int (zI ln), .int (zI tk2), .int (zI st2), .int (zI bh2), .int (zI va2), .int (zI pa2), .int (zI fl), .ref 56, .int (zI sz2)])), (56, .inl (0, 412, .inl (zA cd2)))]) ∧ (0 ≤ tk2) ∧ (tk2 ≤ 355) ∧ (0 ≤ st2) ∧ (st2 ≤ bh2) ∧ (bh2 ≤ ln) ∧ (0 ≤ va2) ∧ (va2 ≤ 1001) ∧ (0 ≤ pa2) ∧ (pa2 ≤ 50) ∧ (0 ≤ sz2) ∧ (sz2 ≤ 412) ∧ (TokL tk2 st2 bh2) ∧ (Rg cd2 412 (-2147483648) 2147483647) ∧ (sz2 + st ≤ sz + st2) ∧ (st ≤ st2)) ∨ (∃ tk2 : Int, ∃ st2 : Int, ∃ bh2 : Int, ∃ va2 : Int, ∃ pa2 : Int, ∃ sz2 : Int, ∃ cd2 : Int → Int, ∃ fl2 : Int, rr = some (.int (zI 0)) ∧ h9 = (nh, hc fh [(54, .inr (5, [.ref 55, .int (zI ln), .int (zI tk2), .int (zI st2), .int (zI bh2), .int (zI va2), .int (zI pa2), .int (zI fl2), .ref 56, .int (zI sz2)])), (56, .inl (0, 412, .inl (zA cd2)))]) ∧ (0 ≤ tk2) ∧ (tk2 ≤ 355) ∧ (0 ≤ st2) ∧ (st2 ≤ bh2) ∧ (bh2 ≤ ln) ∧ (0 ≤ va2) ∧ (va2 ≤ 1001) ∧ (0 ≤ pa2) ∧ (pa2 ≤ 50) ∧ (0 ≤ sz2) ∧ (sz2 ≤ 412) ∧ (TokL tk2 st2 bh2) ∧ (Rg cd2 412 (-2147483648) 2147483647) ∧ (0 ≤ fl2) ∧ (fl2 ≤ 400))) := by
  refine JM.of (by decide) rfl (fun h => by cases h) (Nat.le_of_ble_eq_true rfl) ⟨2, rfl⟩ ?_
  refine J_hc0 (J_ls (ls2 := [some (.ref 54), some (.int (zI 8)), none, none]) rfl ?_)
  refine J_aload_n dX5_test_0 rfl rfl ?_
  refine J_iload_n dX5_test_1 rfl rfl ?_
  refine J_callV (st := []) dX5_test_2 cv_X5_76 (d_both8 ln tk st bh va pa fl sz tp cd q0 q1 q2 q3 q4 q5 q6 q7 q8 q9 q10 q11 q12 q13 q14 q15 q16 hk54 hk55 hk56) hk54 rfl rfl (Nat.le_of_ble_eq_true rfl) ⟨(Nat.le_of_ble_eq_true rfl), (Nat.le_of_ble_eq_true rfl)⟩ ⟨(Nat.le_of_ble_eq_true rfl), (Nat.le_of_ble_eq_true rfl)⟩ (fun r h9 hp => ?_)
  rcases hp with ⟨z1, z2, z3, z4, z5, z6, f7, rfl, rfl, h8, h9, h10, h11, h12, h13, h14, h15, h16, h17, h18, h19, h20, h21, h22⟩ | ⟨z23, z24, z25, z26, z27, z28, f29, z30, rfl, rfl, h31, h32, h33, h34, h35, h36, h37, h38, h39, h40, h41, h42, h43, h44, h45⟩
  · refine J_nf (nh2 := nh) (ck2 := 0) (sk2 := 0) (st2 := [.int (zI 1)]) rfl rfl rfl rfl ?_
    refine J_app (L3 := [(54, .inr (5, [.ref 55, .int (zI ln), .int (zI z1), .int (zI z2), .int (zI z3), .int (zI z4), .int (zI z5), .int (zI fl), .ref 56, .int (zI z6)])), (56, .inl (0, 412, .inl (zA f7)))]) rfl ?_
    refine Z_if_ne (tgt := 10) dX5_test_5 (by decide) v_4dcc24baa7 (fun h46 => ?_) (fun h46 => absurd h46 v_3a47bfd896)
    refine Z_iconst (n := 0) dX5_test_10 ?_
    refine J_istore_n dX5_test_11 rfl (Nat.le_of_ble_eq_true rfl) rfl ?_
    refine J_ls (ls2 := [some (.ref 54), some (.int (zI 8)), some (.int (zI 0)), none]) rfl ?_
    have lp12 : ∀ (N12 : Nat) (i_12 : Int) (tx_12 : Int) (sx_12 : Int) (bx_12 : Int) (vx_12 : Int) (px_12 : Int) (zx_12 : Int) (cx_12 : Int → Int), (0 ≤ i_12) → (i_12 ≤ 400) → (zx_12 + st ≤ sz + sx_12) → (st ≤ sx_12) → (0 ≤ tx_12) → (tx_12 ≤ 355) → (0 ≤ sx_12) → (sx_12 ≤ bx_12) → (bx_12 ≤ ln) → (0 ≤ vx_12) → (vx_12 ≤ 1001) → (TokL tx_12 sx_12 bx_12) → (Rg cx_12 412 (-2147483648) 2147483647) → (0 ≤ zx_12) → (zx_12 ≤ 412) → (0 ≤ px_12) → (px_12 ≤ 50) → (400 - i_12).toNat < N12 → J l G MX5_test { frames := 11, cells := 0, slots := 0, locals := 245 } jE (jMQ G { frames := 11, cells := 0, slots := 0, locals := 245 } (fun rr h9 => (∃ tk2 : Int, ∃ st2 : Int, ∃ bh2 : Int, ∃ va2 : Int, ∃ pa2 : Int, ∃ sz2 : Int, ∃ cd2 : Int → Int, rr = some (.int (zI 1)) ∧ h9 = (nh, hc fh [(54, .inr (5, [.ref 55, .int (zI ln), .int (zI tk2), .int (zI st2), .int (zI bh2), .int (zI va2), .int (zI pa2), .int (zI fl), .ref 56, .int (zI sz2)])), (56, .inl (0, 412, .inl (zA cd2)))]) ∧ (0 ≤ tk2) ∧ (tk2 ≤ 355) ∧ (0 ≤ st2) ∧ (st2 ≤ bh2) ∧ (bh2 ≤ ln) ∧ (0 ≤ va2) ∧ (va2 ≤ 1001) ∧ (0 ≤ pa2) ∧ (pa2 ≤ 50) ∧ (0 ≤ sz2) ∧ (sz2 ≤ 412) ∧ (TokL tk2 st2 bh2) ∧ (Rg cd2 412 (-2147483648) 2147483647) ∧ (sz2 + st ≤ sz + st2) ∧ (st ≤ st2)) ∨ (∃ tk2 : Int, ∃ st2 : Int, ∃ bh2 : Int, ∃ va2 : Int, ∃ pa2 : Int, ∃ sz2 : Int, ∃ cd2 : Int → Int, ∃ fl2 : Int, rr = some (.int (zI 0)) ∧ h9 = (nh, hc fh [(54, .inr (5, [.ref 55, .int (zI ln), .int (zI tk2), .int (zI st2), .int (zI bh2), .int (zI va2), .int (zI pa2), .int (zI fl2), .ref 56, .int (zI sz2)])), (56, .inl (0, 412, .inl (zA cd2)))]) ∧ (0 ≤ tk2) ∧ (tk2 ≤ 355) ∧ (0 ≤ st2) ∧ (st2 ≤ bh2) ∧ (bh2 ≤ ln) ∧ (0 ≤ va2) ∧ (va2 ≤ 1001) ∧ (0 ≤ pa2) ∧ (pa2 ≤ 50) ∧ (0 ≤ sz2) ∧ (sz2 ≤ 412) ∧ (TokL tk2 st2 bh2) ∧ (Rg cd2 412 (-2147483648) 2147483647) ∧ (0 ≤ fl2) ∧ (fl2 ≤ 400)))) (nh, hc fh [(54, .inr (5, [.ref 55, .int (zI ln), .int (zI tx_12), .int (zI sx_12), .int (zI bx_12), .int (zI vx_12), .int (zI px_12), .int (zI fl), .ref 56, .int (zI zx_12)])), (56, .inl (0, 412, .inl (zA cx_12)))]) 0 0 12 [some (.ref 54), some (.int (zI 8)), some (.int (zI i_12)), none] [] := by
      intro N12
      induction N12 with
      | zero => intro i_12 tx_12 sx_12 bx_12 vx_12 px_12 zx_12 cx_12 i12_0 i12_1 i12_2 i12_3 i12_4 i12_5 i12_6 i12_7 i12_8 i12_9 i12_10 i12_11 i12_12 i12_13 i12_14 i12_15 i12_16 hm; exact absurd hm (Nat.not_lt_zero _)
      | succ N12 ih12 =>
        intro i_12 tx_12 sx_12 bx_12 vx_12 px_12 zx_12 cx_12 i12_0 i12_1 i12_2 i12_3 i12_4 i12_5 i12_6 i12_7 i12_8 i12_9 i12_10 i12_11 i12_12 i12_13 i12_14 i12_15 i12_16 hm12
        refine J_iload_n dX5_test_12 rfl rfl ?_
        refine Z_sipush (n := 400) dX5_test_13 (by decide +kernel) ?_
        refine Z_icmp_ge (tgt := 60) dX5_test_16 (by decide) (v_d7389cde0f i12_0 i12_1) v_d8dcd4dd52 (fun h47 => ?_) (fun h47 => ?_)
        · refine Z_iconst (n := 1) dX5_test_60 ?_
          exact J_iret dX5_test_61 rfl (jbn v_316afd7d0b v_bbcfac9b7d) (Nat.le_of_ble_eq_true rfl) (Nat.le_of_ble_eq_true rfl) (Or.inl ⟨tx_12, sx_12, bx_12, vx_12, px_12, zx_12, cx_12, rfl, rfl, i12_4, i12_5, i12_6, i12_7, i12_8, i12_9, i12_10, i12_15, i12_16, i12_13, i12_14, i12_11, i12_12, i12_2, i12_3⟩)
        · refine J_aload_n dX5_test_19 rfl rfl ?_
          refine J_get (v := .int (zI tx_12)) dX5_test_20 fl_X5_19 rfl rfl ?_
          refine Z_iconst (n := 4) dX5_test_23 ?_
          refine Z_icmp_ne (tgt := 60) dX5_test_24 (by decide) (v_96bf6f782e i12_4 i12_5) v_ffb526fa28 (fun h48 => ?_) (fun h48 => ?_)
          · refine Z_iconst (n := 1) dX5_test_60 ?_
            exact J_iret dX5_test_61 rfl (jbn v_316afd7d0b v_bbcfac9b7d) (Nat.le_of_ble_eq_true rfl) (Nat.le_of_ble_eq_true rfl) (Or.inl ⟨tx_12, sx_12, bx_12, vx_12, px_12, zx_12, cx_12, rfl, rfl, i12_4, i12_5, i12_6, i12_7, i12_8, i12_9, i12_10, i12_15, i12_16, i12_13, i12_14, i12_11, i12_12, i12_2, i12_3⟩)
          · refine J_aload_n dX5_test_27 rfl rfl ?_
            have g49 := TokL.lt i12_11 (v_5ca91df03c h48)
            refine J_callV (st := []) dX5_test_28 cv_X5_43 (d_advance ln tx_12 sx_12 bx_12 vx_12 px_12 fl zx_12 tp q0 q1 (v_d253cb2c59 i12_6 g49) i12_8 i12_9 i12_10 q15 rfl hk55) rfl rfl rfl (Nat.le_of_ble_eq_true rfl) ⟨(Nat.le_of_ble_eq_true rfl), (Nat.le_of_ble_eq_true rfl)⟩ ⟨(Nat.le_of_ble_eq_true rfl), (Nat.le_of_ble_eq_true rfl)⟩ (fun r h9 hp => ?_)
            obtain ⟨z50, z51, z52, z53, rfl, rfl, h54, h55, h56, h57, h58, h59, h60, h61⟩ := hp
            refine J_nf (nh2 := nh) (ck2 := 0) (sk2 := 0) (st2 := []) rfl rfl rfl rfl ?_
            refine J_app (L3 := [(54, .inr (5, [.ref 55, .int (zI ln), .int (zI z50), .int (zI z51), .int (zI z52), .int (zI z53), .int (zI px_12), .int (zI fl), .ref 56, .int (zI zx_12)])), (54, .inr (5, [.ref 55, .int (zI ln), .int (zI tx_12), .int (zI sx_12), .int (zI bx_12), .int (zI vx_12), .int (zI px_12), .int (zI fl), .ref 56, .int (zI zx_12)])), (56, .inl (0, 412, .inl (zA cx_12)))]) rfl ?_
            refine J_mask (L2 := [(54, .inr (5, [.ref 55, .int (zI ln), .int (zI z50), .int (zI z51), .int (zI z52), .int (zI z53), .int (zI px_12), .int (zI fl), .ref 56, .int (zI zx_12)])), (56, .inl (0, 412, .inl (zA cx_12)))]) (ks := [54, 54, 56]) [true, false, true] rfl (by decide +kernel) rfl ?_
            refine J_aload_n dX5_test_31 rfl rfl ?_
            refine Z_bipush (n := 10) dX5_test_32 (by decide +kernel) ?_
            refine Z_iconst (n := 0) dX5_test_34 ?_
            refine J_callV (st := []) dX5_test_35 cv_X5_72 (d_emit 10 0 ln z50 z51 z52 z53 px_12 fl zx_12 cx_12 v_2388fd5833 v_b17331891f i12_13 i12_14 i12_12 rfl rfl) rfl rfl rfl (Nat.le_of_ble_eq_true rfl) ⟨(Nat.le_of_ble_eq_true rfl), (Nat.le_of_ble_eq_true rfl)⟩ ⟨(Nat.le_of_ble_eq_true rfl), (Nat.le_of_ble_eq_true rfl)⟩ (fun r h9 hp => ?_)
            obtain ⟨z62, f63, rfl, rfl, h64, h65, h66, h67, h68⟩ := hp
            refine J_nf (nh2 := nh) (ck2 := 0) (sk2 := 0) (st2 := [.int (zI zx_12)]) rfl rfl rfl rfl ?_
            refine J_app (L3 := [(54, .inr (5, [.ref 55, .int (zI ln), .int (zI z50), .int (zI z51), .int (zI z52), .int (zI z53), .int (zI px_12), .int (zI fl), .ref 56, .int (zI z62)])), (56, .inl (0, 412, .inl (zA f63))), (54, .inr (5, [.ref 55, .int (zI ln), .int (zI z50), .int (zI z51), .int (zI z52), .int (zI z53), .int (zI px_12), .int (zI fl), .ref 56, .int (zI zx_12)])), (56, .inl (0, 412, .inl (zA cx_12)))]) rfl ?_
            refine J_mask (L2 := [(54, .inr (5, [.ref 55, .int (zI ln), .int (zI z50), .int (zI z51), .int (zI z52), .int (zI z53), .int (zI px_12), .int (zI fl), .ref 56, .int (zI z62)])), (56, .inl (0, 412, .inl (zA f63)))]) (ks := [54, 56, 54, 56]) [true, true, false, false] rfl (by decide +kernel) rfl ?_
            refine J_istore_n dX5_test_38 rfl (Nat.le_of_ble_eq_true rfl) rfl ?_
            refine J_ls (ls2 := [some (.ref 54), some (.int (zI 8)), some (.int (zI i_12)), some (.int (zI zx_12))]) rfl ?_
            refine J_aload_n dX5_test_39 rfl rfl ?_
            refine J_iload_n dX5_test_40 rfl rfl ?_
            refine J_callV (st := []) dX5_test_41 cv_X5_76 (d_both8 ln z50 z51 z52 z53 px_12 fl z62 tp f63 q0 q1 h54 h55 (v_9b2e2070a2 i12_6 g49 h56) h57 h58 h59 h60 i12_15 i12_16 q11 h64 h65 h61 q15 h68 rfl hk55 rfl) rfl rfl rfl (Nat.le_of_ble_eq_true rfl) ⟨(Nat.le_of_ble_eq_true rfl), (Nat.le_of_ble_eq_true rfl)⟩ ⟨(Nat.le_of_ble_eq_true rfl), (Nat.le_of_ble_eq_true rfl)⟩ (fun r h9 hp => ?_)
            rcases hp with ⟨z69, z70, z71, z72, z73, z74, f75, rfl, rfl, h76, h77, h78, h79, h80, h81, h82, h83, h84, h85, h86, h87, h88, h89, h90⟩ | ⟨z91, z92, z93, z94, z95, z96, f97, z98, rfl, rfl, h99, h100, h101, h102, h103, h104, h105, h106, h107, h108, h109, h110, h111, h112, h113⟩
            · refine J_nf (nh2 := nh) (ck2 := 0) (sk2 := 0) (st2 := [.int (zI 1)]) rfl rfl rfl rfl ?_
              refine J_app (L3 := [(54, .inr (5, [.ref 55, .int (zI ln), .int (zI z69), .int (zI z70), .int (zI z71), .int (zI z72), .int (zI z73), .int (zI fl), .ref 56, .int (zI z74)])), (56, .inl (0, 412, .inl (zA f75))), (54, .inr (5, [.ref 55, .int (zI ln), .int (zI z50), .int (zI z51), .int (zI z52), .int (zI z53), .int (zI px_12), .int (zI fl), .ref 56, .int (zI z62)])), (56, .inl (0, 412, .inl (zA f63)))]) rfl ?_
              refine J_mask (L2 := [(54, .inr (5, [.ref 55, .int (zI ln), .int (zI z69), .int (zI z70), .int (zI z71), .int (zI z72), .int (zI z73), .int (zI fl), .ref 56, .int (zI z74)])), (56, .inl (0, 412, .inl (zA f75)))]) (ks := [54, 56, 54, 56]) [true, true, false, false] rfl (by decide +kernel) rfl ?_
              refine Z_if_ne (tgt := 49) dX5_test_44 (by decide) v_4dcc24baa7 (fun h114 => ?_) (fun h114 => absurd h114 v_3a47bfd896)
              refine J_aload_n dX5_test_49 rfl rfl ?_
              refine J_iload_n dX5_test_50 rfl rfl ?_
              refine J_callV (st := []) dX5_test_51 cv_X5_79 (d_aim zx_12 ln z69 z70 z71 z72 z73 fl z74 f75 (v_9099852440 i12_13 i12_14) h85 h86 h88 rfl rfl) rfl rfl rfl (Nat.le_of_ble_eq_true rfl) ⟨(Nat.le_of_ble_eq_true rfl), (Nat.le_of_ble_eq_true rfl)⟩ ⟨(Nat.le_of_ble_eq_true rfl), (Nat.le_of_ble_eq_true rfl)⟩ (fun r h9 hp => ?_)
              obtain ⟨f115, rfl, rfl, h116⟩ := hp
              refine J_nf (nh2 := nh) (ck2 := 0) (sk2 := 0) (st2 := []) rfl rfl rfl rfl ?_
              refine J_app (L3 := [(56, .inl (0, 412, .inl (zA f115))), (54, .inr (5, [.ref 55, .int (zI ln), .int (zI z69), .int (zI z70), .int (zI z71), .int (zI z72), .int (zI z73), .int (zI fl), .ref 56, .int (zI z74)])), (56, .inl (0, 412, .inl (zA f75)))]) rfl ?_
              refine J_mask (L2 := [(56, .inl (0, 412, .inl (zA f115))), (54, .inr (5, [.ref 55, .int (zI ln), .int (zI z69), .int (zI z70), .int (zI z71), .int (zI z72), .int (zI z73), .int (zI fl), .ref 56, .int (zI z74)]))]) (ks := [56, 54, 56]) [true, true, false] rfl (by decide +kernel) rfl ?_
              refine Z_iinc (c := i_12 + 1) (ls2 := [some (.ref 54), some (.int (zI 8)), some (.int (zI (i_12 + 1))), some (.int (zI zx_12))]) dX5_test_54 rfl (Nat.le_of_ble_eq_true rfl) rfl rfl rfl ?_
              refine J_goto (tgt := 12) dX5_test_57 (by decide) ?_
              refine J_touch (k := 56) (e := .inl (0, 412, .inl (zA f115))) rfl ?_
              refine J_touch (k := 54) (e := .inr (5, [.ref 55, .int (zI ln), .int (zI z69), .int (zI z70), .int (zI z71), .int (zI z72), .int (zI z73), .int (zI fl), .ref 56, .int (zI z74)])) rfl ?_
              refine J_mask (L2 := [(54, .inr (5, [.ref 55, .int (zI ln), .int (zI z69), .int (zI z70), .int (zI z71), .int (zI z72), .int (zI z73), .int (zI fl), .ref 56, .int (zI z74)])), (56, .inl (0, 412, .inl (zA f115)))]) (ks := [54, 56, 56, 54]) [true, true, false, false] rfl (by decide +kernel) rfl ?_
              refine J_drop (ls2 := [some (.ref 54), some (.int (zI 8)), some (.int (zI (i_12 + 1))), none]) [true, true, true, false] rfl ?_
              exact ih12 (i_12 + 1) z69 z70 z71 z72 z73 z74 f115 (v_da458fa48a i12_0) (v_6924477667 h47) (v_f82b1dc229 i12_2 g49 h56 h67 h89) (v_269579bf42 i12_3 g49 h56 h90) h76 h77 h78 h79 h80 h81 h82 h87 h116 h85 h86 h83 h84 (meas_lt v_ceb2ed6d2b (v_44ddc35e90 h47) hm12)
            · refine J_nf (nh2 := nh) (ck2 := 0) (sk2 := 0) (st2 := [.int (zI 0)]) rfl rfl rfl rfl ?_
              refine J_app (L3 := [(54, .inr (5, [.ref 55, .int (zI ln), .int (zI z91), .int (zI z92), .int (zI z93), .int (zI z94), .int (zI z95), .int (zI z98), .ref 56, .int (zI z96)])), (56, .inl (0, 412, .inl (zA f97))), (54, .inr (5, [.ref 55, .int (zI ln), .int (zI z50), .int (zI z51), .int (zI z52), .int (zI z53), .int (zI px_12), .int (zI fl), .ref 56, .int (zI z62)])), (56, .inl (0, 412, .inl (zA f63)))]) rfl ?_
              refine J_mask (L2 := [(54, .inr (5, [.ref 55, .int (zI ln), .int (zI z91), .int (zI z92), .int (zI z93), .int (zI z94), .int (zI z95), .int (zI z98), .ref 56, .int (zI z96)])), (56, .inl (0, 412, .inl (zA f97)))]) (ks := [54, 56, 54, 56]) [true, true, false, false] rfl (by decide +kernel) rfl ?_
              refine Z_if_ne (tgt := 49) dX5_test_44 (by decide) v_b17331891f (fun h117 => absurd h117 (fun q => q v_2ca2bbca1f)) (fun h117 => ?_)
              refine Z_iconst (n := 0) dX5_test_47 ?_
              exact J_iret dX5_test_48 rfl (jbn v_939070ca3f v_316afd7d0b) (Nat.le_of_ble_eq_true rfl) (Nat.le_of_ble_eq_true rfl) (Or.inr ⟨z91, z92, z93, z94, z95, z96, f97, z98, rfl, rfl, h99, h100, h101, h102, h103, h104, h105, h106, h107, h108, h109, h110, h111, h112, h113⟩)
    exact lp12 _ 0 z1 z2 z3 z4 z5 z6 f7 v_939070ca3f v_5ab96f7b5e h21 h22 h8 h9 h10 h11 h12 h13 h14 h19 h20 h17 h18 h15 h16 (Nat.lt_succ_self _)
  · refine J_nf (nh2 := nh) (ck2 := 0) (sk2 := 0) (st2 := [.int (zI 0)]) rfl rfl rfl rfl ?_
    refine J_app (L3 := [(54, .inr (5, [.ref 55, .int (zI ln), .int (zI z23), .int (zI z24), .int (zI z25), .int (zI z26), .int (zI z27), .int (zI z30), .ref 56, .int (zI z28)])), (56, .inl (0, 412, .inl (zA f29)))]) rfl ?_
    refine Z_if_ne (tgt := 10) dX5_test_5 (by decide) v_b17331891f (fun h118 => absurd h118 (fun q => q v_2ca2bbca1f)) (fun h118 => ?_)
    refine Z_iconst (n := 0) dX5_test_8 ?_
    exact J_iret dX5_test_9 rfl (jbn v_939070ca3f v_316afd7d0b) (Nat.le_of_ble_eq_true rfl) (Nat.le_of_ble_eq_true rfl) (Or.inr ⟨z23, z24, z25, z26, z27, z28, f29, z30, rfl, rfl, h31, h32, h33, h34, h35, h36, h37, h38, h39, h40, h41, h42, h43, h44, h45⟩)
set_option maxHeartbeats 4000000 in
set_option maxRecDepth 100000 in
theorem d_bracketedSum7 {l : Launch} {G : jG} {nh : Nat} {fh : Nat → Option va_E} (ln : Int) (tk : Int) (st : Int) (bh : Int) (va : Int) (pa : Int) (fl : Int) (sz : Int) (tp : Int → Int) (cd : Int → Int) (q0 : 0 ≤ ln) (q1 : ln ≤ 400) (q2 : 0 ≤ tk) (q3 : tk ≤ 355) (q4 : 0 ≤ st) (q5 : st ≤ bh) (q6 : bh ≤ ln) (q7 : 0 ≤ va) (q8 : va ≤ 1001) (q9 : 0 ≤ pa) (q10 : pa ≤ 50) (q11 : zr fl) (q12 : 0 ≤ sz) (q13 : sz ≤ 412) (q14 : TokL tk st bh) (q15 : Rg tp 400 0 255) (q16 : Rg cd 412 (-2147483648) 2147483647) (hk54 : fh 54 = some (.inr (5, [.ref 55, .int (zI ln), .int (zI tk), .int (zI st), .int (zI bh), .int (zI va), .int (zI pa), .int (zI fl), .ref 56, .int (zI sz)]))) (hk55 : fh 55 = some (.inl (0, 400, .inl (zA tp)))) (hk56 : fh 56 = some (.inl (0, 412, .inl (zA cd)))) : JM l G yX5_bracketedSum MX5_bracketedSum { frames := 9, cells := 0, slots := 0, locals := 199 } [.ref 54, .int (zI 7)] (nh, fh) (fun rr h9 => (∃ tk2 : Int, ∃ st2 : Int, ∃ bh2 : Int, ∃ va2 : Int, ∃ pa2 : Int, ∃ sz2 : Int, ∃ cd2 : Int → Int, rr = some (.int (zI 1)) ∧ h9 = (nh, hc fh [(54, .inr (5, [.ref 55, .int (zI ln), .int (zI tk2), .int (zI st2), .int (zI bh2), .int (zI va2), .int (zI pa2), .int (zI fl), .ref 56, .int (zI sz2)])), (56, .inl (0, 412, .inl (zA cd2)))]) ∧ (0 ≤ tk2) ∧ (tk2 ≤ 355) ∧ (0 ≤ st2) ∧ (st2 ≤ bh2) ∧ (bh2 ≤ ln) ∧ (0 ≤ va2) ∧ (va2 ≤ 1001) ∧ (0 ≤ pa2) ∧ (pa2 ≤ 50) ∧ (0 ≤ sz2) ∧ (sz2 ≤ 412) ∧ (TokL tk2 st2 bh2) ∧ (Rg cd2 412 (-2147483648) 2147483647) ∧ (sz2 + st ≤ sz + st2) ∧ (st ≤ st2)) ∨ (∃ tk2 : Int, ∃ st2 : Int, ∃ bh2 : Int, ∃ va2 : Int, ∃ pa2 : Int, ∃ sz2 : Int, ∃ cd2 : Int → Int, ∃ fl2 : Int, rr = some (.int (zI 0)) ∧ h9 = (nh, hc fh [(54, .inr (5, [.ref 55, .int (zI ln), .int (zI tk2), .int (zI st2), .int (zI bh2), .int (zI va2), .int (zI pa2), .int (zI fl2), .ref 56, .int (zI sz2)])), (56, .inl (0, 412, .inl (zA cd2)))]) ∧ (0 ≤ tk2) ∧ (tk2 ≤ 355) ∧ (0 ≤ st2) ∧ (st2 ≤ bh2) ∧ (bh2 ≤ ln) ∧ (0 ≤ va2) ∧ (va2 ≤ 1001) ∧ (0 ≤ pa2) ∧ (pa2 ≤ 50) ∧ (0 ≤ sz2) ∧ (sz2 ≤ 412) ∧ (TokL tk2 st2 bh2) ∧ (Rg cd2 412 (-2147483648) 2147483647) ∧ (0 ≤ fl2) ∧ (fl2 ≤ 400))) := by
  refine JM.of (by decide) rfl (fun h => by cases h) (Nat.le_of_ble_eq_true rfl) ⟨0, rfl⟩ ?_
  refine J_hc0 (J_ls (ls2 := [some (.ref 54), some (.int (zI 7))]) rfl ?_)
  refine J_iload_n dX5_bracketedSum_0 rfl rfl ?_
  refine Z_bipush (n := 8) dX5_bracketedSum_1 (by decide +kernel) ?_
  refine Z_icmp_lt (tgt := 11) dX5_bracketedSum_3 (by decide) v_c3fe1a091f v_665891e294 (fun h1 => ?_) (fun h1 => absurd h1 (fun q => q v_1f6d31d0c4))
  refine J_aload_n dX5_bracketedSum_11 rfl rfl ?_
  refine J_callV (st := []) dX5_bracketedSum_12 cv_X5_43 (d_advance ln tk st bh va pa fl sz tp q0 q1 (v_21976c7318 q4 q5) q6 q7 q8 q15 hk54 hk55) hk54 rfl rfl (Nat.le_of_ble_eq_true rfl) ⟨(Nat.le_of_ble_eq_true rfl), (Nat.le_of_ble_eq_true rfl)⟩ ⟨(Nat.le_of_ble_eq_true rfl), (Nat.le_of_ble_eq_true rfl)⟩ (fun r h9 hp => ?_)
  obtain ⟨z2, z3, z4, z5, rfl, rfl, h6, h7, h8, h9, h10, h11, h12, h13⟩ := hp
  refine J_nf (nh2 := nh) (ck2 := 0) (sk2 := 0) (st2 := []) rfl rfl rfl rfl ?_
  refine J_app (L3 := [(54, .inr (5, [.ref 55, .int (zI ln), .int (zI z2), .int (zI z3), .int (zI z4), .int (zI z5), .int (zI pa), .int (zI fl), .ref 56, .int (zI sz)]))]) rfl ?_
  refine J_aload_n dX5_bracketedSum_15 rfl rfl ?_
  refine J_iload_n dX5_bracketedSum_16 rfl rfl ?_
  refine Z_iconst (n := 1) dX5_bracketedSum_17 ?_
  refine Z_iadd (c := 8) dX5_bracketedSum_18 v_0f26919f92 ?_
  refine J_callV (st := []) dX5_bracketedSum_19 cv_X5_63 (d_sum8 ln z2 z3 z4 z5 pa fl sz tp cd q0 q1 h6 h7 (v_7eaccd6eb1 q4 q5 h8) h9 h10 h11 h12 q9 q10 q11 q12 q13 h13 q15 q16 rfl hk55 hk56) rfl rfl rfl (Nat.le_of_ble_eq_true rfl) ⟨(Nat.le_of_ble_eq_true rfl), (Nat.le_of_ble_eq_true rfl)⟩ ⟨(Nat.le_of_ble_eq_true rfl), (Nat.le_of_ble_eq_true rfl)⟩ (fun r h9 hp => ?_)
  rcases hp with ⟨z14, z15, z16, z17, z18, z19, f20, rfl, rfl, h21, h22, h23, h24, h25, h26, h27, h28, h29, h30, h31, h32, h33, h34, h35⟩ | ⟨z36, z37, z38, z39, z40, z41, f42, z43, rfl, rfl, h44, h45, h46, h47, h48, h49, h50, h51, h52, h53, h54, h55, h56, h57, h58⟩
  · refine J_nf (nh2 := nh) (ck2 := 0) (sk2 := 0) (st2 := [.int (zI 1)]) rfl rfl rfl rfl ?_
    refine J_app (L3 := [(54, .inr (5, [.ref 55, .int (zI ln), .int (zI z14), .int (zI z15), .int (zI z16), .int (zI z17), .int (zI z18), .int (zI fl), .ref 56, .int (zI z19)])), (56, .inl (0, 412, .inl (zA f20))), (54, .inr (5, [.ref 55, .int (zI ln), .int (zI z2), .int (zI z3), .int (zI z4), .int (zI z5), .int (zI pa), .int (zI fl), .ref 56, .int (zI sz)]))]) rfl ?_
    refine J_mask (L2 := [(54, .inr (5, [.ref 55, .int (zI ln), .int (zI z14), .int (zI z15), .int (zI z16), .int (zI z17), .int (zI z18), .int (zI fl), .ref 56, .int (zI z19)])), (56, .inl (0, 412, .inl (zA f20)))]) (ks := [54, 56, 54]) [true, true, false] rfl (by decide +kernel) rfl ?_
    refine Z_if_ne (tgt := 27) dX5_bracketedSum_22 (by decide) v_4dcc24baa7 (fun h59 => ?_) (fun h59 => absurd h59 v_3a47bfd896)
    refine J_aload_n dX5_bracketedSum_27 rfl rfl ?_
    refine Z_bipush (n := 93) dX5_bracketedSum_28 (by decide +kernel) ?_
    refine J_callV (st := []) dX5_bracketedSum_30 cv_X5_50 (d_isSign 93 ln z14 z15 z16 z17 z18 fl z19 v_57eea63119 v_eeebb5ff41 h21 h22 rfl) rfl rfl rfl (Nat.le_of_ble_eq_true rfl) ⟨(Nat.le_of_ble_eq_true rfl), (Nat.le_of_ble_eq_true rfl)⟩ ⟨(Nat.le_of_ble_eq_true rfl), (Nat.le_of_ble_eq_true rfl)⟩ (fun r h9 hp => ?_)
    rcases hp with ⟨rfl, rfl, h60⟩ | ⟨rfl, rfl, h61⟩
    · refine J_nf (nh2 := nh) (ck2 := 0) (sk2 := 0) (st2 := [.int (zI 1)]) rfl rfl rfl rfl ?_
      refine Z_if_ne (tgt := 41) dX5_bracketedSum_33 (by decide) v_4dcc24baa7 (fun h62 => ?_) (fun h62 => absurd h62 v_3a47bfd896)
      refine J_aload_n dX5_bracketedSum_41 rfl rfl ?_
      have g63 := TokL.lt h32 (v_0603afac7b h60)
      refine J_callV (st := []) dX5_bracketedSum_42 cv_X5_43 (d_advance ln z14 z15 z16 z17 z18 fl z19 tp q0 q1 (v_d253cb2c59 h23 g63) h25 h26 h27 q15 rfl hk55) rfl rfl rfl (Nat.le_of_ble_eq_true rfl) ⟨(Nat.le_of_ble_eq_true rfl), (Nat.le_of_ble_eq_true rfl)⟩ ⟨(Nat.le_of_ble_eq_true rfl), (Nat.le_of_ble_eq_true rfl)⟩ (fun r h9 hp => ?_)
      obtain ⟨z64, z65, z66, z67, rfl, rfl, h68, h69, h70, h71, h72, h73, h74, h75⟩ := hp
      refine J_nf (nh2 := nh) (ck2 := 0) (sk2 := 0) (st2 := []) rfl rfl rfl rfl ?_
      refine J_app (L3 := [(54, .inr (5, [.ref 55, .int (zI ln), .int (zI z64), .int (zI z65), .int (zI z66), .int (zI z67), .int (zI z18), .int (zI fl), .ref 56, .int (zI z19)])), (54, .inr (5, [.ref 55, .int (zI ln), .int (zI z14), .int (zI z15), .int (zI z16), .int (zI z17), .int (zI z18), .int (zI fl), .ref 56, .int (zI z19)])), (56, .inl (0, 412, .inl (zA f20)))]) rfl ?_
      refine J_mask (L2 := [(54, .inr (5, [.ref 55, .int (zI ln), .int (zI z64), .int (zI z65), .int (zI z66), .int (zI z67), .int (zI z18), .int (zI fl), .ref 56, .int (zI z19)])), (56, .inl (0, 412, .inl (zA f20)))]) (ks := [54, 54, 56]) [true, false, true] rfl (by decide +kernel) rfl ?_
      refine Z_iconst (n := 1) dX5_bracketedSum_45 ?_
      exact J_iret dX5_bracketedSum_46 rfl (jbn v_316afd7d0b v_bbcfac9b7d) (Nat.le_of_ble_eq_true rfl) (Nat.le_of_ble_eq_true rfl) (Or.inl ⟨z64, z65, z66, z67, z18, z19, f20, rfl, rfl, h68, h69, (v_9b2e2070a2 h23 g63 h70), h71, h72, h73, h74, h28, h29, h30, h31, h75, h33, (v_a156850946 q5 h8 h34 g63 h70), (v_b3d66fcd45 q5 h8 h35 g63 h70)⟩)
    · refine J_nf (nh2 := nh) (ck2 := 0) (sk2 := 0) (st2 := [.int (zI 0)]) rfl rfl rfl rfl ?_
      refine Z_if_ne (tgt := 41) dX5_bracketedSum_33 (by decide) v_b17331891f (fun h76 => absurd h76 (fun q => q v_2ca2bbca1f)) (fun h76 => ?_)
      refine J_aload_n dX5_bracketedSum_36 rfl rfl ?_
      refine J_callV (st := []) dX5_bracketedSum_37 cv_X5_54 (d_wrong ln z14 z15 z16 z17 z18 fl z19 h23 (v_1adcfdfee5 q1 h24 h25) rfl) rfl rfl rfl (Nat.le_of_ble_eq_true rfl) ⟨(Nat.le_of_ble_eq_true rfl), (Nat.le_of_ble_eq_true rfl)⟩ ⟨(Nat.le_of_ble_eq_true rfl), (Nat.le_of_ble_eq_true rfl)⟩ (fun r h9 hp => ?_)
      obtain ⟨rfl, rfl⟩ := hp
      refine J_nf (nh2 := nh) (ck2 := 0) (sk2 := 0) (st2 := [.int (zI 0)]) rfl rfl rfl rfl ?_
      refine J_app (L3 := [(54, .inr (5, [.ref 55, .int (zI ln), .int (zI z14), .int (zI z15), .int (zI z16), .int (zI z17), .int (zI z18), .int (zI z15), .ref 56, .int (zI z19)])), (54, .inr (5, [.ref 55, .int (zI ln), .int (zI z14), .int (zI z15), .int (zI z16), .int (zI z17), .int (zI z18), .int (zI fl), .ref 56, .int (zI z19)])), (56, .inl (0, 412, .inl (zA f20)))]) rfl ?_
      refine J_mask (L2 := [(54, .inr (5, [.ref 55, .int (zI ln), .int (zI z14), .int (zI z15), .int (zI z16), .int (zI z17), .int (zI z18), .int (zI z15), .ref 56, .int (zI z19)])), (56, .inl (0, 412, .inl (zA f20)))]) (ks := [54, 54, 56]) [true, false, true] rfl (by decide +kernel) rfl ?_
      exact J_iret dX5_bracketedSum_40 rfl (jbn v_939070ca3f v_316afd7d0b) (Nat.le_of_ble_eq_true rfl) (Nat.le_of_ble_eq_true rfl) (Or.inr ⟨z14, z15, z16, z17, z18, z19, f20, z15, rfl, rfl, h21, h22, h23, h24, h25, h26, h27, h28, h29, h30, h31, h32, h33, h23, (v_1adcfdfee5 q1 h24 h25)⟩)
  · refine J_nf (nh2 := nh) (ck2 := 0) (sk2 := 0) (st2 := [.int (zI 0)]) rfl rfl rfl rfl ?_
    refine J_app (L3 := [(54, .inr (5, [.ref 55, .int (zI ln), .int (zI z36), .int (zI z37), .int (zI z38), .int (zI z39), .int (zI z40), .int (zI z43), .ref 56, .int (zI z41)])), (56, .inl (0, 412, .inl (zA f42))), (54, .inr (5, [.ref 55, .int (zI ln), .int (zI z2), .int (zI z3), .int (zI z4), .int (zI z5), .int (zI pa), .int (zI fl), .ref 56, .int (zI sz)]))]) rfl ?_
    refine J_mask (L2 := [(54, .inr (5, [.ref 55, .int (zI ln), .int (zI z36), .int (zI z37), .int (zI z38), .int (zI z39), .int (zI z40), .int (zI z43), .ref 56, .int (zI z41)])), (56, .inl (0, 412, .inl (zA f42)))]) (ks := [54, 56, 54]) [true, true, false] rfl (by decide +kernel) rfl ?_
    refine Z_if_ne (tgt := 27) dX5_bracketedSum_22 (by decide) v_b17331891f (fun h77 => absurd h77 (fun q => q v_2ca2bbca1f)) (fun h77 => ?_)
    refine Z_iconst (n := 0) dX5_bracketedSum_25 ?_
    exact J_iret dX5_bracketedSum_26 rfl (jbn v_939070ca3f v_316afd7d0b) (Nat.le_of_ble_eq_true rfl) (Nat.le_of_ble_eq_true rfl) (Or.inr ⟨z36, z37, z38, z39, z40, z41, f42, z43, rfl, rfl, h44, h45, h46, h47, h48, h49, h50, h51, h52, h53, h54, h55, h56, h57, h58⟩)
set_option maxHeartbeats 4000000 in
set_option maxRecDepth 100000 in
theorem d_part7 {l : Launch} {G : jG} {nh : Nat} {fh : Nat → Option va_E} (ln : Int) (tk : Int) (st : Int) (bh : Int) (va : Int) (pa : Int) (fl : Int) (sz : Int) (tp : Int → Int) (cd : Int → Int) (q0 : 0 ≤ ln) (q1 : ln ≤ 400) (q2 : 0 ≤ tk) (q3 : tk ≤ 355) (q4 : 0 ≤ st) (q5 : st ≤ bh) (q6 : bh ≤ ln) (q7 : 0 ≤ va) (q8 : va ≤ 1001) (q9 : 0 ≤ pa) (q10 : pa ≤ 50) (q11 : zr fl) (q12 : 0 ≤ sz) (q13 : sz ≤ 412) (q14 : TokL tk st bh) (q15 : Rg tp 400 0 255) (q16 : Rg cd 412 (-2147483648) 2147483647) (hk54 : fh 54 = some (.inr (5, [.ref 55, .int (zI ln), .int (zI tk), .int (zI st), .int (zI bh), .int (zI va), .int (zI pa), .int (zI fl), .ref 56, .int (zI sz)]))) (hk55 : fh 55 = some (.inl (0, 400, .inl (zA tp)))) (hk56 : fh 56 = some (.inl (0, 412, .inl (zA cd)))) : JM l G yX5_part MX5_part { frames := 10, cells := 0, slots := 0, locals := 220 } [.ref 54, .int (zI 7)] (nh, fh) (fun rr h9 => (∃ tk2 : Int, ∃ st2 : Int, ∃ bh2 : Int, ∃ va2 : Int, ∃ pa2 : Int, ∃ sz2 : Int, ∃ cd2 : Int → Int, rr = some (.int (zI 1)) ∧ h9 = (nh, hc fh [(54, .inr (5, [.ref 55, .int (zI ln), .int (zI tk2), .int (zI st2), .int (zI bh2), .int (zI va2), .int (zI pa2), .int (zI fl), .ref 56, .int (zI sz2)])), (56, .inl (0, 412, .inl (zA cd2)))]) ∧ (0 ≤ tk2) ∧ (tk2 ≤ 355) ∧ (0 ≤ st2) ∧ (st2 ≤ bh2) ∧ (bh2 ≤ ln) ∧ (0 ≤ va2) ∧ (va2 ≤ 1001) ∧ (0 ≤ pa2) ∧ (pa2 ≤ 50) ∧ (0 ≤ sz2) ∧ (sz2 ≤ 412) ∧ (TokL tk2 st2 bh2) ∧ (Rg cd2 412 (-2147483648) 2147483647) ∧ (sz2 + st ≤ sz + st2) ∧ (st ≤ st2)) ∨ (∃ tk2 : Int, ∃ st2 : Int, ∃ bh2 : Int, ∃ va2 : Int, ∃ pa2 : Int, ∃ sz2 : Int, ∃ cd2 : Int → Int, ∃ fl2 : Int, rr = some (.int (zI 0)) ∧ h9 = (nh, hc fh [(54, .inr (5, [.ref 55, .int (zI ln), .int (zI tk2), .int (zI st2), .int (zI bh2), .int (zI va2), .int (zI pa2), .int (zI fl2), .ref 56, .int (zI sz2)])), (56, .inl (0, 412, .inl (zA cd2)))]) ∧ (0 ≤ tk2) ∧ (tk2 ≤ 355) ∧ (0 ≤ st2) ∧ (st2 ≤ bh2) ∧ (bh2 ≤ ln) ∧ (0 ≤ va2) ∧ (va2 ≤ 1001) ∧ (0 ≤ pa2) ∧ (pa2 ≤ 50) ∧ (0 ≤ sz2) ∧ (sz2 ≤ 412) ∧ (TokL tk2 st2 bh2) ∧ (Rg cd2 412 (-2147483648) 2147483647) ∧ (0 ≤ fl2) ∧ (fl2 ≤ 400))) := by
  refine JM.of (by decide) rfl (fun h => by cases h) (Nat.le_of_ble_eq_true rfl) ⟨2, rfl⟩ ?_
  refine J_hc0 (J_ls (ls2 := [some (.ref 54), some (.int (zI 7)), none, none]) rfl ?_)
  refine J_aload_n dX5_part_0 rfl rfl ?_
  refine Z_bipush (n := 91) dX5_part_1 (by decide +kernel) ?_
  refine J_callV (st := []) dX5_part_3 cv_X5_50 (d_isSign 91 ln tk st bh va pa fl sz v_df2cb83190 v_d563f19a9d q2 q3 hk54) hk54 rfl rfl (Nat.le_of_ble_eq_true rfl) ⟨(Nat.le_of_ble_eq_true rfl), (Nat.le_of_ble_eq_true rfl)⟩ ⟨(Nat.le_of_ble_eq_true rfl), (Nat.le_of_ble_eq_true rfl)⟩ (fun r h9 hp => ?_)
  rcases hp with ⟨rfl, rfl, h1⟩ | ⟨rfl, rfl, h2⟩
  · refine J_nf (nh2 := nh) (ck2 := 0) (sk2 := 0) (st2 := [.int (zI 1)]) rfl rfl rfl rfl ?_
    refine Z_if_eq (tgt := 15) dX5_part_6 (by decide) v_4dcc24baa7 (fun h3 => absurd h3 v_3a47bfd896) (fun h3 => ?_)
    refine J_aload_n dX5_part_9 rfl rfl ?_
    refine J_iload_n dX5_part_10 rfl rfl ?_
    refine J_callV (st := []) dX5_part_11 cv_X5_95 (d_bracketedSum7 ln tk st bh va pa fl sz tp cd q0 q1 q2 q3 q4 q5 q6 q7 q8 q9 q10 q11 q12 q13 q14 q15 q16 hk54 hk55 hk56) hk54 rfl rfl (Nat.le_of_ble_eq_true rfl) ⟨(Nat.le_of_ble_eq_true rfl), (Nat.le_of_ble_eq_true rfl)⟩ ⟨(Nat.le_of_ble_eq_true rfl), (Nat.le_of_ble_eq_true rfl)⟩ (fun r h9 hp => ?_)
    rcases hp with ⟨z4, z5, z6, z7, z8, z9, f10, rfl, rfl, h11, h12, h13, h14, h15, h16, h17, h18, h19, h20, h21, h22, h23, h24, h25⟩ | ⟨z26, z27, z28, z29, z30, z31, f32, z33, rfl, rfl, h34, h35, h36, h37, h38, h39, h40, h41, h42, h43, h44, h45, h46, h47, h48⟩
    · refine J_nf (nh2 := nh) (ck2 := 0) (sk2 := 0) (st2 := [.int (zI 1)]) rfl rfl rfl rfl ?_
      refine J_app (L3 := [(54, .inr (5, [.ref 55, .int (zI ln), .int (zI z4), .int (zI z5), .int (zI z6), .int (zI z7), .int (zI z8), .int (zI fl), .ref 56, .int (zI z9)])), (56, .inl (0, 412, .inl (zA f10)))]) rfl ?_
      exact J_iret dX5_part_14 rfl (jbn v_316afd7d0b v_bbcfac9b7d) (Nat.le_of_ble_eq_true rfl) (Nat.le_of_ble_eq_true rfl) (Or.inl ⟨z4, z5, z6, z7, z8, z9, f10, rfl, rfl, h11, h12, h13, h14, h15, h16, h17, h18, h19, h20, h21, h22, h23, h24, h25⟩)
    · refine J_nf (nh2 := nh) (ck2 := 0) (sk2 := 0) (st2 := [.int (zI 0)]) rfl rfl rfl rfl ?_
      refine J_app (L3 := [(54, .inr (5, [.ref 55, .int (zI ln), .int (zI z26), .int (zI z27), .int (zI z28), .int (zI z29), .int (zI z30), .int (zI z33), .ref 56, .int (zI z31)])), (56, .inl (0, 412, .inl (zA f32)))]) rfl ?_
      exact J_iret dX5_part_14 rfl (jbn v_939070ca3f v_316afd7d0b) (Nat.le_of_ble_eq_true rfl) (Nat.le_of_ble_eq_true rfl) (Or.inr ⟨z26, z27, z28, z29, z30, z31, f32, z33, rfl, rfl, h34, h35, h36, h37, h38, h39, h40, h41, h42, h43, h44, h45, h46, h47, h48⟩)
  · refine J_nf (nh2 := nh) (ck2 := 0) (sk2 := 0) (st2 := [.int (zI 0)]) rfl rfl rfl rfl ?_
    refine Z_if_eq (tgt := 15) dX5_part_6 (by decide) v_b17331891f (fun h49 => ?_) (fun h49 => absurd h49 (fun q => q v_2ca2bbca1f))
    refine J_aload_n dX5_part_15 rfl rfl ?_
    refine J_get (v := .int (zI tk)) dX5_part_16 fl_X5_19 hk54 rfl ?_
    refine Z_bipush (n := 16) dX5_part_19 (by decide +kernel) ?_
    refine Z_icmp_ne (tgt := 38) dX5_part_21 (by decide) (v_96bf6f782e q2 q3) v_1b6115d470 (fun h50 => ?_) (fun h50 => ?_)
    · refine Z_iconst (n := 0) dX5_part_38 ?_
      refine J_istore_n dX5_part_39 rfl (Nat.le_of_ble_eq_true rfl) rfl ?_
      refine J_ls (ls2 := [some (.ref 54), some (.int (zI 7)), some (.int (zI 0)), none]) rfl ?_
      refine J_aload_n dX5_part_40 rfl rfl ?_
      refine J_get (v := .int (zI tk)) dX5_part_41 fl_X5_19 hk54 rfl ?_
      refine Z_bipush (n := 7) dX5_part_44 (by decide +kernel) ?_
      refine Z_icmp_lt (tgt := 62) dX5_part_46 (by decide) (v_96bf6f782e q2 q3) v_c3fe1a091f (fun h51 => ?_) (fun h51 => ?_)
      · refine Z_iconst (n := 0) dX5_part_62 ?_
        refine J_istore_n dX5_part_63 rfl (Nat.le_of_ble_eq_true rfl) rfl ?_
        refine J_ls (ls2 := [some (.ref 54), some (.int (zI 7)), some (.int (zI 0)), some (.int (zI 0))]) rfl ?_
        refine J_iload_n dX5_part_64 rfl rfl ?_
        refine Z_if_ne (tgt := 72) dX5_part_65 (by decide) v_b17331891f (fun h52 => absurd h52 (fun q => q v_2ca2bbca1f)) (fun h52 => ?_)
        refine J_iload_n dX5_part_68 rfl rfl ?_
        refine Z_if_eq (tgt := 81) dX5_part_69 (by decide) v_b17331891f (fun h53 => ?_) (fun h53 => absurd h53 (fun q => q v_2ca2bbca1f))
        refine J_aload_n dX5_part_81 rfl rfl ?_
        refine J_callV (st := []) dX5_part_82 cv_X5_54 (d_wrong ln tk st bh va pa fl sz q4 (v_1adcfdfee5 q1 q5 q6) hk54) hk54 rfl rfl (Nat.le_of_ble_eq_true rfl) ⟨(Nat.le_of_ble_eq_true rfl), (Nat.le_of_ble_eq_true rfl)⟩ ⟨(Nat.le_of_ble_eq_true rfl), (Nat.le_of_ble_eq_true rfl)⟩ (fun r h9 hp => ?_)
        obtain ⟨rfl, rfl⟩ := hp
        refine J_nf (nh2 := nh) (ck2 := 0) (sk2 := 0) (st2 := [.int (zI 0)]) rfl rfl rfl rfl ?_
        refine J_app (L3 := [(54, .inr (5, [.ref 55, .int (zI ln), .int (zI tk), .int (zI st), .int (zI bh), .int (zI va), .int (zI pa), .int (zI st), .ref 56, .int (zI sz)]))]) rfl ?_
        refine J_touch (k := 56) (e := .inl (0, 412, .inl (zA cd))) hk56 ?_
        refine J_touch (k := 54) (e := .inr (5, [.ref 55, .int (zI ln), .int (zI tk), .int (zI st), .int (zI bh), .int (zI va), .int (zI pa), .int (zI st), .ref 56, .int (zI sz)])) rfl ?_
        refine J_mask (L2 := [(54, .inr (5, [.ref 55, .int (zI ln), .int (zI tk), .int (zI st), .int (zI bh), .int (zI va), .int (zI pa), .int (zI st), .ref 56, .int (zI sz)])), (56, .inl (0, 412, .inl (zA cd)))]) (ks := [54, 56, 54]) [true, true, false] rfl (by decide +kernel) rfl ?_
        exact J_iret dX5_part_85 rfl (jbn v_939070ca3f v_316afd7d0b) (Nat.le_of_ble_eq_true rfl) (Nat.le_of_ble_eq_true rfl) (Or.inr ⟨tk, st, bh, va, pa, sz, cd, st, rfl, rfl, q2, q3, q4, q5, q6, q7, q8, q9, q10, q12, q13, q14, q16, q4, (v_1adcfdfee5 q1 q5 q6)⟩)
      · refine J_aload_n dX5_part_49 rfl rfl ?_
        refine J_get (v := .int (zI tk)) dX5_part_50 fl_X5_19 hk54 rfl ?_
        refine Z_bipush (n := 14) dX5_part_53 (by decide +kernel) ?_
        refine Z_icmp_gt (tgt := 62) dX5_part_55 (by decide) (v_e33259c014 q3 h51) v_2a4719925a (fun h54 => ?_) (fun h54 => ?_)
        · refine Z_iconst (n := 0) dX5_part_62 ?_
          refine J_istore_n dX5_part_63 rfl (Nat.le_of_ble_eq_true rfl) rfl ?_
          refine J_ls (ls2 := [some (.ref 54), some (.int (zI 7)), some (.int (zI 0)), some (.int (zI 0))]) rfl ?_
          refine J_iload_n dX5_part_64 rfl rfl ?_
          refine Z_if_ne (tgt := 72) dX5_part_65 (by decide) v_b17331891f (fun h55 => absurd h55 (fun q => q v_2ca2bbca1f)) (fun h55 => ?_)
          refine J_iload_n dX5_part_68 rfl rfl ?_
          refine Z_if_eq (tgt := 81) dX5_part_69 (by decide) v_b17331891f (fun h56 => ?_) (fun h56 => absurd h56 (fun q => q v_2ca2bbca1f))
          refine J_aload_n dX5_part_81 rfl rfl ?_
          refine J_callV (st := []) dX5_part_82 cv_X5_54 (d_wrong ln tk st bh va pa fl sz q4 (v_1adcfdfee5 q1 q5 q6) hk54) hk54 rfl rfl (Nat.le_of_ble_eq_true rfl) ⟨(Nat.le_of_ble_eq_true rfl), (Nat.le_of_ble_eq_true rfl)⟩ ⟨(Nat.le_of_ble_eq_true rfl), (Nat.le_of_ble_eq_true rfl)⟩ (fun r h9 hp => ?_)
          obtain ⟨rfl, rfl⟩ := hp
          refine J_nf (nh2 := nh) (ck2 := 0) (sk2 := 0) (st2 := [.int (zI 0)]) rfl rfl rfl rfl ?_
          refine J_app (L3 := [(54, .inr (5, [.ref 55, .int (zI ln), .int (zI tk), .int (zI st), .int (zI bh), .int (zI va), .int (zI pa), .int (zI st), .ref 56, .int (zI sz)]))]) rfl ?_
          refine J_touch (k := 56) (e := .inl (0, 412, .inl (zA cd))) hk56 ?_
          refine J_touch (k := 54) (e := .inr (5, [.ref 55, .int (zI ln), .int (zI tk), .int (zI st), .int (zI bh), .int (zI va), .int (zI pa), .int (zI st), .ref 56, .int (zI sz)])) rfl ?_
          refine J_mask (L2 := [(54, .inr (5, [.ref 55, .int (zI ln), .int (zI tk), .int (zI st), .int (zI bh), .int (zI va), .int (zI pa), .int (zI st), .ref 56, .int (zI sz)])), (56, .inl (0, 412, .inl (zA cd)))]) (ks := [54, 56, 54]) [true, true, false] rfl (by decide +kernel) rfl ?_
          exact J_iret dX5_part_85 rfl (jbn v_939070ca3f v_316afd7d0b) (Nat.le_of_ble_eq_true rfl) (Nat.le_of_ble_eq_true rfl) (Or.inr ⟨tk, st, bh, va, pa, sz, cd, st, rfl, rfl, q2, q3, q4, q5, q6, q7, q8, q9, q10, q12, q13, q14, q16, q4, (v_1adcfdfee5 q1 q5 q6)⟩)
        · refine Z_iconst (n := 1) dX5_part_58 ?_
          refine J_goto (tgt := 63) dX5_part_59 (by decide) ?_
          refine J_istore_n dX5_part_63 rfl (Nat.le_of_ble_eq_true rfl) rfl ?_
          refine J_ls (ls2 := [some (.ref 54), some (.int (zI 7)), some (.int (zI 0)), some (.int (zI 1))]) rfl ?_
          refine J_iload_n dX5_part_64 rfl rfl ?_
          refine Z_if_ne (tgt := 72) dX5_part_65 (by decide) v_b17331891f (fun h57 => absurd h57 (fun q => q v_2ca2bbca1f)) (fun h57 => ?_)
          refine J_iload_n dX5_part_68 rfl rfl ?_
          refine Z_if_eq (tgt := 81) dX5_part_69 (by decide) v_4dcc24baa7 (fun h58 => absurd h58 v_3a47bfd896) (fun h58 => ?_)
          refine J_aload_n dX5_part_72 rfl rfl ?_
          refine J_get (v := .int (zI pa)) dX5_part_73 fl_X5_31 hk54 rfl ?_
          refine Z_bipush (n := 50) dX5_part_76 (by decide +kernel) ?_
          refine Z_icmp_lt (tgt := 86) dX5_part_78 (by decide) (v_196348439e q9 q10) v_e1e0ea2c24 (fun h59 => ?_) (fun h59 => ?_)
          · refine J_aload_n dX5_part_86 rfl rfl ?_
            refine J_dup dX5_part_87 rfl ?_
            refine J_get (v := .int (zI pa)) dX5_part_88 fl_X5_31 hk54 rfl ?_
            refine Z_iconst (n := 1) dX5_part_91 ?_
            refine Z_iadd (c := pa + 1) dX5_part_92 rfl ?_
            refine K_put (fs2 := [.ref 55, .int (zI ln), .int (zI tk), .int (zI st), .int (zI bh), .int (zI va), .int (zI (pa + 1)), .int (zI fl), .ref 56, .int (zI sz)]) dX5_part_93 fw_X5_31 hk54 (Nat.le_of_ble_eq_true rfl) (fun _ => ⟨rfl, rfl⟩) rfl ?_
            refine J_iload_n dX5_part_96 rfl rfl ?_
            refine Z_if_eq (tgt := 113) dX5_part_97 (by decide) v_b17331891f (fun h60 => ?_) (fun h60 => absurd h60 (fun q => q v_2ca2bbca1f))
            refine J_aload_n dX5_part_113 rfl rfl ?_
            refine Z_iconst (n := 1) dX5_part_114 ?_
            refine J_aload_n dX5_part_115 rfl rfl ?_
            refine J_get (v := .int (zI tk)) dX5_part_116 fl_X5_19 rfl rfl ?_
            refine Z_bipush (n := 7) dX5_part_119 (by decide +kernel) ?_
            refine Z_isub (c := tk - 7) dX5_part_121 rfl ?_
            refine J_callV (st := []) dX5_part_122 cv_X5_72 (d_emit 1 (tk - 7) ln tk st bh va (pa + 1) fl sz cd v_4dcc24baa7 (v_2b807321aa h51 h54) q12 q13 q16 rfl hk56) rfl rfl rfl (Nat.le_of_ble_eq_true rfl) ⟨(Nat.le_of_ble_eq_true rfl), (Nat.le_of_ble_eq_true rfl)⟩ ⟨(Nat.le_of_ble_eq_true rfl), (Nat.le_of_ble_eq_true rfl)⟩ (fun r h9 hp => ?_)
            obtain ⟨z61, f62, rfl, rfl, h63, h64, h65, h66, h67⟩ := hp
            refine J_nf (nh2 := nh) (ck2 := 0) (sk2 := 0) (st2 := [.int (zI sz)]) rfl rfl rfl rfl ?_
            refine J_app (L3 := [(54, .inr (5, [.ref 55, .int (zI ln), .int (zI tk), .int (zI st), .int (zI bh), .int (zI va), .int (zI (pa + 1)), .int (zI fl), .ref 56, .int (zI z61)])), (56, .inl (0, 412, .inl (zA f62))), (54, .inr (5, [.ref 55, .int (zI ln), .int (zI tk), .int (zI st), .int (zI bh), .int (zI va), .int (zI (pa + 1)), .int (zI fl), .ref 56, .int (zI sz)]))]) rfl ?_
            refine J_mask (L2 := [(54, .inr (5, [.ref 55, .int (zI ln), .int (zI tk), .int (zI st), .int (zI bh), .int (zI va), .int (zI (pa + 1)), .int (zI fl), .ref 56, .int (zI z61)])), (56, .inl (0, 412, .inl (zA f62)))]) (ks := [54, 56, 54]) [true, true, false] rfl (by decide +kernel) rfl ?_
            refine J_pop dX5_part_125 rfl ?_
            refine J_aload_n dX5_part_126 rfl rfl ?_
            have g68 := TokL.lt q14 (v_b0bfd58e62 h54)
            refine J_callV (st := []) dX5_part_127 cv_X5_43 (d_advance ln tk st bh va (pa + 1) fl z61 tp q0 q1 (v_d253cb2c59 q4 g68) q6 q7 q8 q15 rfl hk55) rfl rfl rfl (Nat.le_of_ble_eq_true rfl) ⟨(Nat.le_of_ble_eq_true rfl), (Nat.le_of_ble_eq_true rfl)⟩ ⟨(Nat.le_of_ble_eq_true rfl), (Nat.le_of_ble_eq_true rfl)⟩ (fun r h9 hp => ?_)
            obtain ⟨z69, z70, z71, z72, rfl, rfl, h73, h74, h75, h76, h77, h78, h79, h80⟩ := hp
            refine J_nf (nh2 := nh) (ck2 := 0) (sk2 := 0) (st2 := []) rfl rfl rfl rfl ?_
            refine J_app (L3 := [(54, .inr (5, [.ref 55, .int (zI ln), .int (zI z69), .int (zI z70), .int (zI z71), .int (zI z72), .int (zI (pa + 1)), .int (zI fl), .ref 56, .int (zI z61)])), (54, .inr (5, [.ref 55, .int (zI ln), .int (zI tk), .int (zI st), .int (zI bh), .int (zI va), .int (zI (pa + 1)), .int (zI fl), .ref 56, .int (zI z61)])), (56, .inl (0, 412, .inl (zA f62)))]) rfl ?_
            refine J_mask (L2 := [(54, .inr (5, [.ref 55, .int (zI ln), .int (zI z69), .int (zI z70), .int (zI z71), .int (zI z72), .int (zI (pa + 1)), .int (zI fl), .ref 56, .int (zI z61)])), (56, .inl (0, 412, .inl (zA f62)))]) (ks := [54, 54, 56]) [true, false, true] rfl (by decide +kernel) rfl ?_
            refine Z_iconst (n := 1) dX5_part_130 ?_
            exact J_iret dX5_part_131 rfl (jbn v_316afd7d0b v_bbcfac9b7d) (Nat.le_of_ble_eq_true rfl) (Nat.le_of_ble_eq_true rfl) (Or.inl ⟨z69, z70, z71, z72, (pa + 1), z61, f62, rfl, rfl, h73, h74, (v_9b2e2070a2 q4 g68 h75), h76, h77, h78, h79, (v_da458fa48a q9), (v_dc0d6dc503 h59), h63, h64, h80, h67, (v_37ad0bc16a h66 g68 h75), (v_016485883e g68 h75)⟩)
          · refine J_aload_n dX5_part_81 rfl rfl ?_
            refine J_callV (st := []) dX5_part_82 cv_X5_54 (d_wrong ln tk st bh va pa fl sz q4 (v_1adcfdfee5 q1 q5 q6) hk54) hk54 rfl rfl (Nat.le_of_ble_eq_true rfl) ⟨(Nat.le_of_ble_eq_true rfl), (Nat.le_of_ble_eq_true rfl)⟩ ⟨(Nat.le_of_ble_eq_true rfl), (Nat.le_of_ble_eq_true rfl)⟩ (fun r h9 hp => ?_)
            obtain ⟨rfl, rfl⟩ := hp
            refine J_nf (nh2 := nh) (ck2 := 0) (sk2 := 0) (st2 := [.int (zI 0)]) rfl rfl rfl rfl ?_
            refine J_app (L3 := [(54, .inr (5, [.ref 55, .int (zI ln), .int (zI tk), .int (zI st), .int (zI bh), .int (zI va), .int (zI pa), .int (zI st), .ref 56, .int (zI sz)]))]) rfl ?_
            refine J_touch (k := 56) (e := .inl (0, 412, .inl (zA cd))) hk56 ?_
            refine J_touch (k := 54) (e := .inr (5, [.ref 55, .int (zI ln), .int (zI tk), .int (zI st), .int (zI bh), .int (zI va), .int (zI pa), .int (zI st), .ref 56, .int (zI sz)])) rfl ?_
            refine J_mask (L2 := [(54, .inr (5, [.ref 55, .int (zI ln), .int (zI tk), .int (zI st), .int (zI bh), .int (zI va), .int (zI pa), .int (zI st), .ref 56, .int (zI sz)])), (56, .inl (0, 412, .inl (zA cd)))]) (ks := [54, 56, 54]) [true, true, false] rfl (by decide +kernel) rfl ?_
            exact J_iret dX5_part_85 rfl (jbn v_939070ca3f v_316afd7d0b) (Nat.le_of_ble_eq_true rfl) (Nat.le_of_ble_eq_true rfl) (Or.inr ⟨tk, st, bh, va, pa, sz, cd, st, rfl, rfl, q2, q3, q4, q5, q6, q7, q8, q9, q10, q12, q13, q14, q16, q4, (v_1adcfdfee5 q1 q5 q6)⟩)
    · refine J_aload_n dX5_part_24 rfl rfl ?_
      refine J_get (v := .int (zI va)) dX5_part_25 fl_X5_28 hk54 rfl ?_
      refine Z_sipush (n := 1000) dX5_part_28 (by decide +kernel) ?_
      refine Z_icmp_gt (tgt := 38) dX5_part_31 (by decide) (v_c986789e97 q7 q8) v_822edaa202 (fun h81 => ?_) (fun h81 => ?_)
      · refine Z_iconst (n := 0) dX5_part_38 ?_
        refine J_istore_n dX5_part_39 rfl (Nat.le_of_ble_eq_true rfl) rfl ?_
        refine J_ls (ls2 := [some (.ref 54), some (.int (zI 7)), some (.int (zI 0)), none]) rfl ?_
        refine J_aload_n dX5_part_40 rfl rfl ?_
        refine J_get (v := .int (zI tk)) dX5_part_41 fl_X5_19 hk54 rfl ?_
        refine Z_bipush (n := 7) dX5_part_44 (by decide +kernel) ?_
        refine Z_icmp_lt (tgt := 62) dX5_part_46 (by decide) (v_87f911991b h50) v_c3fe1a091f (fun h82 => absurd h82 (v_a610ec54f4 h50)) (fun h82 => ?_)
        refine J_aload_n dX5_part_49 rfl rfl ?_
        refine J_get (v := .int (zI tk)) dX5_part_50 fl_X5_19 hk54 rfl ?_
        refine Z_bipush (n := 14) dX5_part_53 (by decide +kernel) ?_
        refine Z_icmp_gt (tgt := 62) dX5_part_55 (by decide) (v_87f911991b h50) v_2a4719925a (fun h83 => ?_) (fun h83 => absurd h83 (fun q => q (v_8a408c96ed h50)))
        refine Z_iconst (n := 0) dX5_part_62 ?_
        refine J_istore_n dX5_part_63 rfl (Nat.le_of_ble_eq_true rfl) rfl ?_
        refine J_ls (ls2 := [some (.ref 54), some (.int (zI 7)), some (.int (zI 0)), some (.int (zI 0))]) rfl ?_
        refine J_iload_n dX5_part_64 rfl rfl ?_
        refine Z_if_ne (tgt := 72) dX5_part_65 (by decide) v_b17331891f (fun h84 => absurd h84 (fun q => q v_2ca2bbca1f)) (fun h84 => ?_)
        refine J_iload_n dX5_part_68 rfl rfl ?_
        refine Z_if_eq (tgt := 81) dX5_part_69 (by decide) v_b17331891f (fun h85 => ?_) (fun h85 => absurd h85 (fun q => q v_2ca2bbca1f))
        refine J_aload_n dX5_part_81 rfl rfl ?_
        refine J_callV (st := []) dX5_part_82 cv_X5_54 (d_wrong ln tk st bh va pa fl sz q4 (v_1adcfdfee5 q1 q5 q6) hk54) hk54 rfl rfl (Nat.le_of_ble_eq_true rfl) ⟨(Nat.le_of_ble_eq_true rfl), (Nat.le_of_ble_eq_true rfl)⟩ ⟨(Nat.le_of_ble_eq_true rfl), (Nat.le_of_ble_eq_true rfl)⟩ (fun r h9 hp => ?_)
        obtain ⟨rfl, rfl⟩ := hp
        refine J_nf (nh2 := nh) (ck2 := 0) (sk2 := 0) (st2 := [.int (zI 0)]) rfl rfl rfl rfl ?_
        refine J_app (L3 := [(54, .inr (5, [.ref 55, .int (zI ln), .int (zI tk), .int (zI st), .int (zI bh), .int (zI va), .int (zI pa), .int (zI st), .ref 56, .int (zI sz)]))]) rfl ?_
        refine J_touch (k := 56) (e := .inl (0, 412, .inl (zA cd))) hk56 ?_
        refine J_touch (k := 54) (e := .inr (5, [.ref 55, .int (zI ln), .int (zI tk), .int (zI st), .int (zI bh), .int (zI va), .int (zI pa), .int (zI st), .ref 56, .int (zI sz)])) rfl ?_
        refine J_mask (L2 := [(54, .inr (5, [.ref 55, .int (zI ln), .int (zI tk), .int (zI st), .int (zI bh), .int (zI va), .int (zI pa), .int (zI st), .ref 56, .int (zI sz)])), (56, .inl (0, 412, .inl (zA cd)))]) (ks := [54, 56, 54]) [true, true, false] rfl (by decide +kernel) rfl ?_
        exact J_iret dX5_part_85 rfl (jbn v_939070ca3f v_316afd7d0b) (Nat.le_of_ble_eq_true rfl) (Nat.le_of_ble_eq_true rfl) (Or.inr ⟨tk, st, bh, va, pa, sz, cd, st, rfl, rfl, q2, q3, q4, q5, q6, q7, q8, q9, q10, q12, q13, q14, q16, q4, (v_1adcfdfee5 q1 q5 q6)⟩)
      · refine Z_iconst (n := 1) dX5_part_34 ?_
        refine J_goto (tgt := 39) dX5_part_35 (by decide) ?_
        refine J_istore_n dX5_part_39 rfl (Nat.le_of_ble_eq_true rfl) rfl ?_
        refine J_ls (ls2 := [some (.ref 54), some (.int (zI 7)), some (.int (zI 1)), none]) rfl ?_
        refine J_aload_n dX5_part_40 rfl rfl ?_
        refine J_get (v := .int (zI tk)) dX5_part_41 fl_X5_19 hk54 rfl ?_
        refine Z_bipush (n := 7) dX5_part_44 (by decide +kernel) ?_
        refine Z_icmp_lt (tgt := 62) dX5_part_46 (by decide) (v_87f911991b h50) v_c3fe1a091f (fun h86 => absurd h86 (v_a610ec54f4 h50)) (fun h86 => ?_)
        refine J_aload_n dX5_part_49 rfl rfl ?_
        refine J_get (v := .int (zI tk)) dX5_part_50 fl_X5_19 hk54 rfl ?_
        refine Z_bipush (n := 14) dX5_part_53 (by decide +kernel) ?_
        refine Z_icmp_gt (tgt := 62) dX5_part_55 (by decide) (v_87f911991b h50) v_2a4719925a (fun h87 => ?_) (fun h87 => absurd h87 (fun q => q (v_8a408c96ed h50)))
        refine Z_iconst (n := 0) dX5_part_62 ?_
        refine J_istore_n dX5_part_63 rfl (Nat.le_of_ble_eq_true rfl) rfl ?_
        refine J_ls (ls2 := [some (.ref 54), some (.int (zI 7)), some (.int (zI 1)), some (.int (zI 0))]) rfl ?_
        refine J_iload_n dX5_part_64 rfl rfl ?_
        refine Z_if_ne (tgt := 72) dX5_part_65 (by decide) v_4dcc24baa7 (fun h88 => ?_) (fun h88 => absurd h88 v_3a47bfd896)
        refine J_aload_n dX5_part_72 rfl rfl ?_
        refine J_get (v := .int (zI pa)) dX5_part_73 fl_X5_31 hk54 rfl ?_
        refine Z_bipush (n := 50) dX5_part_76 (by decide +kernel) ?_
        refine Z_icmp_lt (tgt := 86) dX5_part_78 (by decide) (v_196348439e q9 q10) v_e1e0ea2c24 (fun h89 => ?_) (fun h89 => ?_)
        · refine J_aload_n dX5_part_86 rfl rfl ?_
          refine J_dup dX5_part_87 rfl ?_
          refine J_get (v := .int (zI pa)) dX5_part_88 fl_X5_31 hk54 rfl ?_
          refine Z_iconst (n := 1) dX5_part_91 ?_
          refine Z_iadd (c := pa + 1) dX5_part_92 rfl ?_
          refine K_put (fs2 := [.ref 55, .int (zI ln), .int (zI tk), .int (zI st), .int (zI bh), .int (zI va), .int (zI (pa + 1)), .int (zI fl), .ref 56, .int (zI sz)]) dX5_part_93 fw_X5_31 hk54 (Nat.le_of_ble_eq_true rfl) (fun _ => ⟨rfl, rfl⟩) rfl ?_
          refine J_iload_n dX5_part_96 rfl rfl ?_
          refine Z_if_eq (tgt := 113) dX5_part_97 (by decide) v_4dcc24baa7 (fun h90 => absurd h90 v_3a47bfd896) (fun h90 => ?_)
          refine J_aload_n dX5_part_100 rfl rfl ?_
          refine Z_iconst (n := 0) dX5_part_101 ?_
          refine J_aload_n dX5_part_102 rfl rfl ?_
          refine J_get (v := .int (zI va)) dX5_part_103 fl_X5_28 rfl rfl ?_
          refine J_callV (st := []) dX5_part_106 cv_X5_72 (d_emit 0 va ln tk st bh va (pa + 1) fl sz cd v_b17331891f (v_3f1e82a223 q7 h81) q12 q13 q16 rfl hk56) rfl rfl rfl (Nat.le_of_ble_eq_true rfl) ⟨(Nat.le_of_ble_eq_true rfl), (Nat.le_of_ble_eq_true rfl)⟩ ⟨(Nat.le_of_ble_eq_true rfl), (Nat.le_of_ble_eq_true rfl)⟩ (fun r h9 hp => ?_)
          obtain ⟨z91, f92, rfl, rfl, h93, h94, h95, h96, h97⟩ := hp
          refine J_nf (nh2 := nh) (ck2 := 0) (sk2 := 0) (st2 := [.int (zI sz)]) rfl rfl rfl rfl ?_
          refine J_app (L3 := [(54, .inr (5, [.ref 55, .int (zI ln), .int (zI tk), .int (zI st), .int (zI bh), .int (zI va), .int (zI (pa + 1)), .int (zI fl), .ref 56, .int (zI z91)])), (56, .inl (0, 412, .inl (zA f92))), (54, .inr (5, [.ref 55, .int (zI ln), .int (zI tk), .int (zI st), .int (zI bh), .int (zI va), .int (zI (pa + 1)), .int (zI fl), .ref 56, .int (zI sz)]))]) rfl ?_
          refine J_mask (L2 := [(54, .inr (5, [.ref 55, .int (zI ln), .int (zI tk), .int (zI st), .int (zI bh), .int (zI va), .int (zI (pa + 1)), .int (zI fl), .ref 56, .int (zI z91)])), (56, .inl (0, 412, .inl (zA f92)))]) (ks := [54, 56, 54]) [true, true, false] rfl (by decide +kernel) rfl ?_
          refine J_pop dX5_part_109 rfl ?_
          refine J_goto (tgt := 126) dX5_part_110 (by decide) ?_
          refine J_aload_n dX5_part_126 rfl rfl ?_
          have g98 := TokL.lt q14 (v_842fc1ac99 h50)
          refine J_callV (st := []) dX5_part_127 cv_X5_43 (d_advance ln tk st bh va (pa + 1) fl z91 tp q0 q1 (v_d253cb2c59 q4 g98) q6 q7 q8 q15 rfl hk55) rfl rfl rfl (Nat.le_of_ble_eq_true rfl) ⟨(Nat.le_of_ble_eq_true rfl), (Nat.le_of_ble_eq_true rfl)⟩ ⟨(Nat.le_of_ble_eq_true rfl), (Nat.le_of_ble_eq_true rfl)⟩ (fun r h9 hp => ?_)
          obtain ⟨z99, z100, z101, z102, rfl, rfl, h103, h104, h105, h106, h107, h108, h109, h110⟩ := hp
          refine J_nf (nh2 := nh) (ck2 := 0) (sk2 := 0) (st2 := []) rfl rfl rfl rfl ?_
          refine J_app (L3 := [(54, .inr (5, [.ref 55, .int (zI ln), .int (zI z99), .int (zI z100), .int (zI z101), .int (zI z102), .int (zI (pa + 1)), .int (zI fl), .ref 56, .int (zI z91)])), (54, .inr (5, [.ref 55, .int (zI ln), .int (zI tk), .int (zI st), .int (zI bh), .int (zI va), .int (zI (pa + 1)), .int (zI fl), .ref 56, .int (zI z91)])), (56, .inl (0, 412, .inl (zA f92)))]) rfl ?_
          refine J_mask (L2 := [(54, .inr (5, [.ref 55, .int (zI ln), .int (zI z99), .int (zI z100), .int (zI z101), .int (zI z102), .int (zI (pa + 1)), .int (zI fl), .ref 56, .int (zI z91)])), (56, .inl (0, 412, .inl (zA f92)))]) (ks := [54, 54, 56]) [true, false, true] rfl (by decide +kernel) rfl ?_
          refine Z_iconst (n := 1) dX5_part_130 ?_
          exact J_iret dX5_part_131 rfl (jbn v_316afd7d0b v_bbcfac9b7d) (Nat.le_of_ble_eq_true rfl) (Nat.le_of_ble_eq_true rfl) (Or.inl ⟨z99, z100, z101, z102, (pa + 1), z91, f92, rfl, rfl, h103, h104, (v_9b2e2070a2 q4 g98 h105), h106, h107, h108, h109, (v_da458fa48a q9), (v_dc0d6dc503 h89), h93, h94, h110, h97, (v_37ad0bc16a h96 g98 h105), (v_016485883e g98 h105)⟩)
        · refine J_aload_n dX5_part_81 rfl rfl ?_
          refine J_callV (st := []) dX5_part_82 cv_X5_54 (d_wrong ln tk st bh va pa fl sz q4 (v_1adcfdfee5 q1 q5 q6) hk54) hk54 rfl rfl (Nat.le_of_ble_eq_true rfl) ⟨(Nat.le_of_ble_eq_true rfl), (Nat.le_of_ble_eq_true rfl)⟩ ⟨(Nat.le_of_ble_eq_true rfl), (Nat.le_of_ble_eq_true rfl)⟩ (fun r h9 hp => ?_)
          obtain ⟨rfl, rfl⟩ := hp
          refine J_nf (nh2 := nh) (ck2 := 0) (sk2 := 0) (st2 := [.int (zI 0)]) rfl rfl rfl rfl ?_
          refine J_app (L3 := [(54, .inr (5, [.ref 55, .int (zI ln), .int (zI tk), .int (zI st), .int (zI bh), .int (zI va), .int (zI pa), .int (zI st), .ref 56, .int (zI sz)]))]) rfl ?_
          refine J_touch (k := 56) (e := .inl (0, 412, .inl (zA cd))) hk56 ?_
          refine J_touch (k := 54) (e := .inr (5, [.ref 55, .int (zI ln), .int (zI tk), .int (zI st), .int (zI bh), .int (zI va), .int (zI pa), .int (zI st), .ref 56, .int (zI sz)])) rfl ?_
          refine J_mask (L2 := [(54, .inr (5, [.ref 55, .int (zI ln), .int (zI tk), .int (zI st), .int (zI bh), .int (zI va), .int (zI pa), .int (zI st), .ref 56, .int (zI sz)])), (56, .inl (0, 412, .inl (zA cd)))]) (ks := [54, 56, 54]) [true, true, false] rfl (by decide +kernel) rfl ?_
          exact J_iret dX5_part_85 rfl (jbn v_939070ca3f v_316afd7d0b) (Nat.le_of_ble_eq_true rfl) (Nat.le_of_ble_eq_true rfl) (Or.inr ⟨tk, st, bh, va, pa, sz, cd, st, rfl, rfl, q2, q3, q4, q5, q6, q7, q8, q9, q10, q12, q13, q14, q16, q4, (v_1adcfdfee5 q1 q5 q6)⟩)
set_option maxHeartbeats 4000000 in
set_option maxRecDepth 100000 in
theorem d_term7 {l : Launch} {G : jG} {nh : Nat} {fh : Nat → Option va_E} (ln : Int) (tk : Int) (st : Int) (bh : Int) (va : Int) (pa : Int) (fl : Int) (sz : Int) (tp : Int → Int) (cd : Int → Int) (q0 : 0 ≤ ln) (q1 : ln ≤ 400) (q2 : 0 ≤ tk) (q3 : tk ≤ 355) (q4 : 0 ≤ st) (q5 : st ≤ bh) (q6 : bh ≤ ln) (q7 : 0 ≤ va) (q8 : va ≤ 1001) (q9 : 0 ≤ pa) (q10 : pa ≤ 50) (q11 : zr fl) (q12 : 0 ≤ sz) (q13 : sz ≤ 412) (q14 : TokL tk st bh) (q15 : Rg tp 400 0 255) (q16 : Rg cd 412 (-2147483648) 2147483647) (hk54 : fh 54 = some (.inr (5, [.ref 55, .int (zI ln), .int (zI tk), .int (zI st), .int (zI bh), .int (zI va), .int (zI pa), .int (zI fl), .ref 56, .int (zI sz)]))) (hk55 : fh 55 = some (.inl (0, 400, .inl (zA tp)))) (hk56 : fh 56 = some (.inl (0, 412, .inl (zA cd)))) : JM l G yX5_term MX5_term { frames := 11, cells := 0, slots := 0, locals := 243 } [.ref 54, .int (zI 7)] (nh, fh) (fun rr h9 => (∃ tk2 : Int, ∃ st2 : Int, ∃ bh2 : Int, ∃ va2 : Int, ∃ pa2 : Int, ∃ sz2 : Int, ∃ cd2 : Int → Int, rr = some (.int (zI 1)) ∧ h9 = (nh, hc fh [(54, .inr (5, [.ref 55, .int (zI ln), .int (zI tk2), .int (zI st2), .int (zI bh2), .int (zI va2), .int (zI pa2), .int (zI fl), .ref 56, .int (zI sz2)])), (56, .inl (0, 412, .inl (zA cd2)))]) ∧ (0 ≤ tk2) ∧ (tk2 ≤ 355) ∧ (0 ≤ st2) ∧ (st2 ≤ bh2) ∧ (bh2 ≤ ln) ∧ (0 ≤ va2) ∧ (va2 ≤ 1001) ∧ (0 ≤ pa2) ∧ (pa2 ≤ 50) ∧ (0 ≤ sz2) ∧ (sz2 ≤ 412) ∧ (TokL tk2 st2 bh2) ∧ (Rg cd2 412 (-2147483648) 2147483647) ∧ (sz2 + st ≤ sz + st2) ∧ (st ≤ st2)) ∨ (∃ tk2 : Int, ∃ st2 : Int, ∃ bh2 : Int, ∃ va2 : Int, ∃ pa2 : Int, ∃ sz2 : Int, ∃ cd2 : Int → Int, ∃ fl2 : Int, rr = some (.int (zI 0)) ∧ h9 = (nh, hc fh [(54, .inr (5, [.ref 55, .int (zI ln), .int (zI tk2), .int (zI st2), .int (zI bh2), .int (zI va2), .int (zI pa2), .int (zI fl2), .ref 56, .int (zI sz2)])), (56, .inl (0, 412, .inl (zA cd2)))]) ∧ (0 ≤ tk2) ∧ (tk2 ≤ 355) ∧ (0 ≤ st2) ∧ (st2 ≤ bh2) ∧ (bh2 ≤ ln) ∧ (0 ≤ va2) ∧ (va2 ≤ 1001) ∧ (0 ≤ pa2) ∧ (pa2 ≤ 50) ∧ (0 ≤ sz2) ∧ (sz2 ≤ 412) ∧ (TokL tk2 st2 bh2) ∧ (Rg cd2 412 (-2147483648) 2147483647) ∧ (0 ≤ fl2) ∧ (fl2 ≤ 400))) := by
  refine JM.of (by decide) rfl (fun h => by cases h) (Nat.le_of_ble_eq_true rfl) ⟨2, rfl⟩ ?_
  refine J_hc0 (J_ls (ls2 := [some (.ref 54), some (.int (zI 7)), none, none]) rfl ?_)
  refine J_aload_n dX5_term_0 rfl rfl ?_
  refine J_iload_n dX5_term_1 rfl rfl ?_
  refine J_callV (st := []) dX5_term_2 cv_X5_92 (d_part7 ln tk st bh va pa fl sz tp cd q0 q1 q2 q3 q4 q5 q6 q7 q8 q9 q10 q11 q12 q13 q14 q15 q16 hk54 hk55 hk56) hk54 rfl rfl (Nat.le_of_ble_eq_true rfl) ⟨(Nat.le_of_ble_eq_true rfl), (Nat.le_of_ble_eq_true rfl)⟩ ⟨(Nat.le_of_ble_eq_true rfl), (Nat.le_of_ble_eq_true rfl)⟩ (fun r h9 hp => ?_)
  rcases hp with ⟨z1, z2, z3, z4, z5, z6, f7, rfl, rfl, h8, h9, h10, h11, h12, h13, h14, h15, h16, h17, h18, h19, h20, h21, h22⟩ | ⟨z23, z24, z25, z26, z27, z28, f29, z30, rfl, rfl, h31, h32, h33, h34, h35, h36, h37, h38, h39, h40, h41, h42, h43, h44, h45⟩
  · refine J_nf (nh2 := nh) (ck2 := 0) (sk2 := 0) (st2 := [.int (zI 1)]) rfl rfl rfl rfl ?_
    refine J_app (L3 := [(54, .inr (5, [.ref 55, .int (zI ln), .int (zI z1), .int (zI z2), .int (zI z3), .int (zI z4), .int (zI z5), .int (zI fl), .ref 56, .int (zI z6)])), (56, .inl (0, 412, .inl (zA f7)))]) rfl ?_
    refine Z_if_ne (tgt := 10) dX5_term_5 (by decide) v_4dcc24baa7 (fun h46 => ?_) (fun h46 => absurd h46 v_3a47bfd896)
    refine Z_iconst (n := 0) dX5_term_10 ?_
    refine J_istore_n dX5_term_11 rfl (Nat.le_of_ble_eq_true rfl) rfl ?_
    refine J_ls (ls2 := [some (.ref 54), some (.int (zI 7)), some (.int (zI 0)), none]) rfl ?_
    have lp12 : ∀ (N12 : Nat) (i_12 : Int) (tx_12 : Int) (sx_12 : Int) (bx_12 : Int) (vx_12 : Int) (px_12 : Int) (zx_12 : Int) (cx_12 : Int → Int), (0 ≤ i_12) → (i_12 ≤ 400) → (zx_12 + st ≤ sz + sx_12) → (st ≤ sx_12) → (0 ≤ tx_12) → (tx_12 ≤ 355) → (0 ≤ sx_12) → (sx_12 ≤ bx_12) → (bx_12 ≤ ln) → (0 ≤ vx_12) → (vx_12 ≤ 1001) → (TokL tx_12 sx_12 bx_12) → (Rg cx_12 412 (-2147483648) 2147483647) → (0 ≤ zx_12) → (zx_12 ≤ 412) → (0 ≤ px_12) → (px_12 ≤ 50) → (400 - i_12).toNat < N12 → J l G MX5_term { frames := 11, cells := 0, slots := 0, locals := 243 } jE (jMQ G { frames := 11, cells := 0, slots := 0, locals := 243 } (fun rr h9 => (∃ tk2 : Int, ∃ st2 : Int, ∃ bh2 : Int, ∃ va2 : Int, ∃ pa2 : Int, ∃ sz2 : Int, ∃ cd2 : Int → Int, rr = some (.int (zI 1)) ∧ h9 = (nh, hc fh [(54, .inr (5, [.ref 55, .int (zI ln), .int (zI tk2), .int (zI st2), .int (zI bh2), .int (zI va2), .int (zI pa2), .int (zI fl), .ref 56, .int (zI sz2)])), (56, .inl (0, 412, .inl (zA cd2)))]) ∧ (0 ≤ tk2) ∧ (tk2 ≤ 355) ∧ (0 ≤ st2) ∧ (st2 ≤ bh2) ∧ (bh2 ≤ ln) ∧ (0 ≤ va2) ∧ (va2 ≤ 1001) ∧ (0 ≤ pa2) ∧ (pa2 ≤ 50) ∧ (0 ≤ sz2) ∧ (sz2 ≤ 412) ∧ (TokL tk2 st2 bh2) ∧ (Rg cd2 412 (-2147483648) 2147483647) ∧ (sz2 + st ≤ sz + st2) ∧ (st ≤ st2)) ∨ (∃ tk2 : Int, ∃ st2 : Int, ∃ bh2 : Int, ∃ va2 : Int, ∃ pa2 : Int, ∃ sz2 : Int, ∃ cd2 : Int → Int, ∃ fl2 : Int, rr = some (.int (zI 0)) ∧ h9 = (nh, hc fh [(54, .inr (5, [.ref 55, .int (zI ln), .int (zI tk2), .int (zI st2), .int (zI bh2), .int (zI va2), .int (zI pa2), .int (zI fl2), .ref 56, .int (zI sz2)])), (56, .inl (0, 412, .inl (zA cd2)))]) ∧ (0 ≤ tk2) ∧ (tk2 ≤ 355) ∧ (0 ≤ st2) ∧ (st2 ≤ bh2) ∧ (bh2 ≤ ln) ∧ (0 ≤ va2) ∧ (va2 ≤ 1001) ∧ (0 ≤ pa2) ∧ (pa2 ≤ 50) ∧ (0 ≤ sz2) ∧ (sz2 ≤ 412) ∧ (TokL tk2 st2 bh2) ∧ (Rg cd2 412 (-2147483648) 2147483647) ∧ (0 ≤ fl2) ∧ (fl2 ≤ 400)))) (nh, hc fh [(54, .inr (5, [.ref 55, .int (zI ln), .int (zI tx_12), .int (zI sx_12), .int (zI bx_12), .int (zI vx_12), .int (zI px_12), .int (zI fl), .ref 56, .int (zI zx_12)])), (56, .inl (0, 412, .inl (zA cx_12)))]) 0 0 12 [some (.ref 54), some (.int (zI 7)), some (.int (zI i_12)), none] [] := by
      intro N12
      induction N12 with
      | zero => intro i_12 tx_12 sx_12 bx_12 vx_12 px_12 zx_12 cx_12 i12_0 i12_1 i12_2 i12_3 i12_4 i12_5 i12_6 i12_7 i12_8 i12_9 i12_10 i12_11 i12_12 i12_13 i12_14 i12_15 i12_16 hm; exact absurd hm (Nat.not_lt_zero _)
      | succ N12 ih12 =>
        intro i_12 tx_12 sx_12 bx_12 vx_12 px_12 zx_12 cx_12 i12_0 i12_1 i12_2 i12_3 i12_4 i12_5 i12_6 i12_7 i12_8 i12_9 i12_10 i12_11 i12_12 i12_13 i12_14 i12_15 i12_16 hm12
        refine J_iload_n dX5_term_12 rfl rfl ?_
        refine Z_sipush (n := 400) dX5_term_13 (by decide +kernel) ?_
        refine Z_icmp_ge (tgt := 79) dX5_term_16 (by decide) (v_d7389cde0f i12_0 i12_1) v_d8dcd4dd52 (fun h47 => ?_) (fun h47 => ?_)
        · refine Z_iconst (n := 1) dX5_term_79 ?_
          exact J_iret dX5_term_80 rfl (jbn v_316afd7d0b v_bbcfac9b7d) (Nat.le_of_ble_eq_true rfl) (Nat.le_of_ble_eq_true rfl) (Or.inl ⟨tx_12, sx_12, bx_12, vx_12, px_12, zx_12, cx_12, rfl, rfl, i12_4, i12_5, i12_6, i12_7, i12_8, i12_9, i12_10, i12_15, i12_16, i12_13, i12_14, i12_11, i12_12, i12_2, i12_3⟩)
        · refine J_aload_n dX5_term_19 rfl rfl ?_
          refine Z_bipush (n := 42) dX5_term_20 (by decide +kernel) ?_
          refine J_callV (st := []) dX5_term_22 cv_X5_50 (d_isSign 42 ln tx_12 sx_12 bx_12 vx_12 px_12 fl zx_12 v_19b0ad2cd1 v_1f79c0c2c4 i12_4 i12_5 rfl) rfl rfl rfl (Nat.le_of_ble_eq_true rfl) ⟨(Nat.le_of_ble_eq_true rfl), (Nat.le_of_ble_eq_true rfl)⟩ ⟨(Nat.le_of_ble_eq_true rfl), (Nat.le_of_ble_eq_true rfl)⟩ (fun r h9 hp => ?_)
          rcases hp with ⟨rfl, rfl, h48⟩ | ⟨rfl, rfl, h49⟩
          · refine J_nf (nh2 := nh) (ck2 := 0) (sk2 := 0) (st2 := [.int (zI 1)]) rfl rfl rfl rfl ?_
            refine Z_if_ne (tgt := 37) dX5_term_25 (by decide) v_4dcc24baa7 (fun h50 => ?_) (fun h50 => absurd h50 v_3a47bfd896)
            refine J_aload_n dX5_term_37 rfl rfl ?_
            refine Z_bipush (n := 42) dX5_term_38 (by decide +kernel) ?_
            refine J_callV (st := []) dX5_term_40 cv_X5_50 (d_isSign 42 ln tx_12 sx_12 bx_12 vx_12 px_12 fl zx_12 v_19b0ad2cd1 v_1f79c0c2c4 i12_4 i12_5 rfl) rfl rfl rfl (Nat.le_of_ble_eq_true rfl) ⟨(Nat.le_of_ble_eq_true rfl), (Nat.le_of_ble_eq_true rfl)⟩ ⟨(Nat.le_of_ble_eq_true rfl), (Nat.le_of_ble_eq_true rfl)⟩ (fun r h9 hp => ?_)
            rcases hp with ⟨rfl, rfl, h51⟩ | ⟨rfl, rfl, h52⟩
            · refine J_nf (nh2 := nh) (ck2 := 0) (sk2 := 0) (st2 := [.int (zI 1)]) rfl rfl rfl rfl ?_
              refine Z_if_eq (tgt := 50) dX5_term_43 (by decide) v_4dcc24baa7 (fun h53 => absurd h53 v_3a47bfd896) (fun h53 => ?_)
              refine Z_iconst (n := 4) dX5_term_46 ?_
              refine J_goto (tgt := 51) dX5_term_47 (by decide) ?_
              refine J_istore_n dX5_term_51 rfl (Nat.le_of_ble_eq_true rfl) rfl ?_
              refine J_ls (ls2 := [some (.ref 54), some (.int (zI 7)), some (.int (zI i_12)), some (.int (zI 4))]) rfl ?_
              refine J_aload_n dX5_term_52 rfl rfl ?_
              have g54 := TokL.lt i12_11 (v_4a9f236eb2 h48)
              refine J_callV (st := []) dX5_term_53 cv_X5_43 (d_advance ln tx_12 sx_12 bx_12 vx_12 px_12 fl zx_12 tp q0 q1 (v_d253cb2c59 i12_6 g54) i12_8 i12_9 i12_10 q15 rfl hk55) rfl rfl rfl (Nat.le_of_ble_eq_true rfl) ⟨(Nat.le_of_ble_eq_true rfl), (Nat.le_of_ble_eq_true rfl)⟩ ⟨(Nat.le_of_ble_eq_true rfl), (Nat.le_of_ble_eq_true rfl)⟩ (fun r h9 hp => ?_)
              obtain ⟨z55, z56, z57, z58, rfl, rfl, h59, h60, h61, h62, h63, h64, h65, h66⟩ := hp
              refine J_nf (nh2 := nh) (ck2 := 0) (sk2 := 0) (st2 := []) rfl rfl rfl rfl ?_
              refine J_app (L3 := [(54, .inr (5, [.ref 55, .int (zI ln), .int (zI z55), .int (zI z56), .int (zI z57), .int (zI z58), .int (zI px_12), .int (zI fl), .ref 56, .int (zI zx_12)])), (54, .inr (5, [.ref 55, .int (zI ln), .int (zI tx_12), .int (zI sx_12), .int (zI bx_12), .int (zI vx_12), .int (zI px_12), .int (zI fl), .ref 56, .int (zI zx_12)])), (56, .inl (0, 412, .inl (zA cx_12)))]) rfl ?_
              refine J_mask (L2 := [(54, .inr (5, [.ref 55, .int (zI ln), .int (zI z55), .int (zI z56), .int (zI z57), .int (zI z58), .int (zI px_12), .int (zI fl), .ref 56, .int (zI zx_12)])), (56, .inl (0, 412, .inl (zA cx_12)))]) (ks := [54, 54, 56]) [true, false, true] rfl (by decide +kernel) rfl ?_
              refine J_aload_n dX5_term_56 rfl rfl ?_
              refine J_iload_n dX5_term_57 rfl rfl ?_
              refine J_callV (st := []) dX5_term_58 cv_X5_92 (d_part7 ln z55 z56 z57 z58 px_12 fl zx_12 tp cx_12 q0 q1 h59 h60 (v_9b2e2070a2 i12_6 g54 h61) h62 h63 h64 h65 i12_15 i12_16 q11 i12_13 i12_14 h66 q15 i12_12 rfl hk55 rfl) rfl rfl rfl (Nat.le_of_ble_eq_true rfl) ⟨(Nat.le_of_ble_eq_true rfl), (Nat.le_of_ble_eq_true rfl)⟩ ⟨(Nat.le_of_ble_eq_true rfl), (Nat.le_of_ble_eq_true rfl)⟩ (fun r h9 hp => ?_)
              rcases hp with ⟨z67, z68, z69, z70, z71, z72, f73, rfl, rfl, h74, h75, h76, h77, h78, h79, h80, h81, h82, h83, h84, h85, h86, h87, h88⟩ | ⟨z89, z90, z91, z92, z93, z94, f95, z96, rfl, rfl, h97, h98, h99, h100, h101, h102, h103, h104, h105, h106, h107, h108, h109, h110, h111⟩
              · refine J_nf (nh2 := nh) (ck2 := 0) (sk2 := 0) (st2 := [.int (zI 1)]) rfl rfl rfl rfl ?_
                refine J_app (L3 := [(54, .inr (5, [.ref 55, .int (zI ln), .int (zI z67), .int (zI z68), .int (zI z69), .int (zI z70), .int (zI z71), .int (zI fl), .ref 56, .int (zI z72)])), (56, .inl (0, 412, .inl (zA f73))), (54, .inr (5, [.ref 55, .int (zI ln), .int (zI z55), .int (zI z56), .int (zI z57), .int (zI z58), .int (zI px_12), .int (zI fl), .ref 56, .int (zI zx_12)])), (56, .inl (0, 412, .inl (zA cx_12)))]) rfl ?_
                refine J_mask (L2 := [(54, .inr (5, [.ref 55, .int (zI ln), .int (zI z67), .int (zI z68), .int (zI z69), .int (zI z70), .int (zI z71), .int (zI fl), .ref 56, .int (zI z72)])), (56, .inl (0, 412, .inl (zA f73)))]) (ks := [54, 56, 54, 56]) [true, true, false, false] rfl (by decide +kernel) rfl ?_
                refine Z_if_ne (tgt := 66) dX5_term_61 (by decide) v_4dcc24baa7 (fun h112 => ?_) (fun h112 => absurd h112 v_3a47bfd896)
                refine J_aload_n dX5_term_66 rfl rfl ?_
                refine J_iload_n dX5_term_67 rfl rfl ?_
                refine Z_iconst (n := 0) dX5_term_68 ?_
                refine J_callV (st := []) dX5_term_69 cv_X5_72 (d_emit 4 0 ln z67 z68 z69 z70 z71 fl z72 f73 v_ffb526fa28 v_b17331891f h83 h84 h86 rfl rfl) rfl rfl rfl (Nat.le_of_ble_eq_true rfl) ⟨(Nat.le_of_ble_eq_true rfl), (Nat.le_of_ble_eq_true rfl)⟩ ⟨(Nat.le_of_ble_eq_true rfl), (Nat.le_of_ble_eq_true rfl)⟩ (fun r h9 hp => ?_)
                obtain ⟨z113, f114, rfl, rfl, h115, h116, h117, h118, h119⟩ := hp
                refine J_nf (nh2 := nh) (ck2 := 0) (sk2 := 0) (st2 := [.int (zI z72)]) rfl rfl rfl rfl ?_
                refine J_app (L3 := [(54, .inr (5, [.ref 55, .int (zI ln), .int (zI z67), .int (zI z68), .int (zI z69), .int (zI z70), .int (zI z71), .int (zI fl), .ref 56, .int (zI z113)])), (56, .inl (0, 412, .inl (zA f114))), (54, .inr (5, [.ref 55, .int (zI ln), .int (zI z67), .int (zI z68), .int (zI z69), .int (zI z70), .int (zI z71), .int (zI fl), .ref 56, .int (zI z72)])), (56, .inl (0, 412, .inl (zA f73)))]) rfl ?_
                refine J_mask (L2 := [(54, .inr (5, [.ref 55, .int (zI ln), .int (zI z67), .int (zI z68), .int (zI z69), .int (zI z70), .int (zI z71), .int (zI fl), .ref 56, .int (zI z113)])), (56, .inl (0, 412, .inl (zA f114)))]) (ks := [54, 56, 54, 56]) [true, true, false, false] rfl (by decide +kernel) rfl ?_
                refine J_pop dX5_term_72 rfl ?_
                refine Z_iinc (c := i_12 + 1) (ls2 := [some (.ref 54), some (.int (zI 7)), some (.int (zI (i_12 + 1))), some (.int (zI 4))]) dX5_term_73 rfl (Nat.le_of_ble_eq_true rfl) rfl rfl rfl ?_
                refine J_goto (tgt := 12) dX5_term_76 (by decide) ?_
                refine J_drop (ls2 := [some (.ref 54), some (.int (zI 7)), some (.int (zI (i_12 + 1))), none]) [true, true, true, false] rfl ?_
                exact ih12 (i_12 + 1) z67 z68 z69 z70 z71 z113 f114 (v_da458fa48a i12_0) (v_6924477667 h47) (v_5af1455273 i12_2 g54 h61 h87 h118) (v_269579bf42 i12_3 g54 h61 h88) h74 h75 h76 h77 h78 h79 h80 h85 h119 h115 h116 h81 h82 (meas_lt v_ceb2ed6d2b (v_44ddc35e90 h47) hm12)
              · refine J_nf (nh2 := nh) (ck2 := 0) (sk2 := 0) (st2 := [.int (zI 0)]) rfl rfl rfl rfl ?_
                refine J_app (L3 := [(54, .inr (5, [.ref 55, .int (zI ln), .int (zI z89), .int (zI z90), .int (zI z91), .int (zI z92), .int (zI z93), .int (zI z96), .ref 56, .int (zI z94)])), (56, .inl (0, 412, .inl (zA f95))), (54, .inr (5, [.ref 55, .int (zI ln), .int (zI z55), .int (zI z56), .int (zI z57), .int (zI z58), .int (zI px_12), .int (zI fl), .ref 56, .int (zI zx_12)])), (56, .inl (0, 412, .inl (zA cx_12)))]) rfl ?_
                refine J_mask (L2 := [(54, .inr (5, [.ref 55, .int (zI ln), .int (zI z89), .int (zI z90), .int (zI z91), .int (zI z92), .int (zI z93), .int (zI z96), .ref 56, .int (zI z94)])), (56, .inl (0, 412, .inl (zA f95)))]) (ks := [54, 56, 54, 56]) [true, true, false, false] rfl (by decide +kernel) rfl ?_
                refine Z_if_ne (tgt := 66) dX5_term_61 (by decide) v_b17331891f (fun h120 => absurd h120 (fun q => q v_2ca2bbca1f)) (fun h120 => ?_)
                refine Z_iconst (n := 0) dX5_term_64 ?_
                exact J_iret dX5_term_65 rfl (jbn v_939070ca3f v_316afd7d0b) (Nat.le_of_ble_eq_true rfl) (Nat.le_of_ble_eq_true rfl) (Or.inr ⟨z89, z90, z91, z92, z93, z94, f95, z96, rfl, rfl, h97, h98, h99, h100, h101, h102, h103, h104, h105, h106, h107, h108, h109, h110, h111⟩)
            · exact False.elim (v_dc1247e06b h48 h52)
          · refine J_nf (nh2 := nh) (ck2 := 0) (sk2 := 0) (st2 := [.int (zI 0)]) rfl rfl rfl rfl ?_
            refine Z_if_ne (tgt := 37) dX5_term_25 (by decide) v_b17331891f (fun h121 => absurd h121 (fun q => q v_2ca2bbca1f)) (fun h121 => ?_)
            refine J_aload_n dX5_term_28 rfl rfl ?_
            refine Z_bipush (n := 47) dX5_term_29 (by decide +kernel) ?_
            refine J_callV (st := []) dX5_term_31 cv_X5_50 (d_isSign 47 ln tx_12 sx_12 bx_12 vx_12 px_12 fl zx_12 v_a2835897db v_8710bb8462 i12_4 i12_5 rfl) rfl rfl rfl (Nat.le_of_ble_eq_true rfl) ⟨(Nat.le_of_ble_eq_true rfl), (Nat.le_of_ble_eq_true rfl)⟩ ⟨(Nat.le_of_ble_eq_true rfl), (Nat.le_of_ble_eq_true rfl)⟩ (fun r h9 hp => ?_)
            rcases hp with ⟨rfl, rfl, h122⟩ | ⟨rfl, rfl, h123⟩
            · refine J_nf (nh2 := nh) (ck2 := 0) (sk2 := 0) (st2 := [.int (zI 1)]) rfl rfl rfl rfl ?_
              refine Z_if_eq (tgt := 79) dX5_term_34 (by decide) v_4dcc24baa7 (fun h124 => absurd h124 v_3a47bfd896) (fun h124 => ?_)
              refine J_aload_n dX5_term_37 rfl rfl ?_
              refine Z_bipush (n := 42) dX5_term_38 (by decide +kernel) ?_
              refine J_callV (st := []) dX5_term_40 cv_X5_50 (d_isSign 42 ln tx_12 sx_12 bx_12 vx_12 px_12 fl zx_12 v_19b0ad2cd1 v_1f79c0c2c4 i12_4 i12_5 rfl) rfl rfl rfl (Nat.le_of_ble_eq_true rfl) ⟨(Nat.le_of_ble_eq_true rfl), (Nat.le_of_ble_eq_true rfl)⟩ ⟨(Nat.le_of_ble_eq_true rfl), (Nat.le_of_ble_eq_true rfl)⟩ (fun r h9 hp => ?_)
              rcases hp with ⟨rfl, rfl, h125⟩ | ⟨rfl, rfl, h126⟩
              · exact False.elim (v_4c7f0d169f h122 h125)
              · refine J_nf (nh2 := nh) (ck2 := 0) (sk2 := 0) (st2 := [.int (zI 0)]) rfl rfl rfl rfl ?_
                refine Z_if_eq (tgt := 50) dX5_term_43 (by decide) v_b17331891f (fun h127 => ?_) (fun h127 => absurd h127 (fun q => q v_2ca2bbca1f))
                refine Z_iconst (n := 5) dX5_term_50 ?_
                refine J_istore_n dX5_term_51 rfl (Nat.le_of_ble_eq_true rfl) rfl ?_
                refine J_ls (ls2 := [some (.ref 54), some (.int (zI 7)), some (.int (zI i_12)), some (.int (zI 5))]) rfl ?_
                refine J_aload_n dX5_term_52 rfl rfl ?_
                have g128 := TokL.lt i12_11 (v_6abada17c7 h122)
                refine J_callV (st := []) dX5_term_53 cv_X5_43 (d_advance ln tx_12 sx_12 bx_12 vx_12 px_12 fl zx_12 tp q0 q1 (v_d253cb2c59 i12_6 g128) i12_8 i12_9 i12_10 q15 rfl hk55) rfl rfl rfl (Nat.le_of_ble_eq_true rfl) ⟨(Nat.le_of_ble_eq_true rfl), (Nat.le_of_ble_eq_true rfl)⟩ ⟨(Nat.le_of_ble_eq_true rfl), (Nat.le_of_ble_eq_true rfl)⟩ (fun r h9 hp => ?_)
                obtain ⟨z129, z130, z131, z132, rfl, rfl, h133, h134, h135, h136, h137, h138, h139, h140⟩ := hp
                refine J_nf (nh2 := nh) (ck2 := 0) (sk2 := 0) (st2 := []) rfl rfl rfl rfl ?_
                refine J_app (L3 := [(54, .inr (5, [.ref 55, .int (zI ln), .int (zI z129), .int (zI z130), .int (zI z131), .int (zI z132), .int (zI px_12), .int (zI fl), .ref 56, .int (zI zx_12)])), (54, .inr (5, [.ref 55, .int (zI ln), .int (zI tx_12), .int (zI sx_12), .int (zI bx_12), .int (zI vx_12), .int (zI px_12), .int (zI fl), .ref 56, .int (zI zx_12)])), (56, .inl (0, 412, .inl (zA cx_12)))]) rfl ?_
                refine J_mask (L2 := [(54, .inr (5, [.ref 55, .int (zI ln), .int (zI z129), .int (zI z130), .int (zI z131), .int (zI z132), .int (zI px_12), .int (zI fl), .ref 56, .int (zI zx_12)])), (56, .inl (0, 412, .inl (zA cx_12)))]) (ks := [54, 54, 56]) [true, false, true] rfl (by decide +kernel) rfl ?_
                refine J_aload_n dX5_term_56 rfl rfl ?_
                refine J_iload_n dX5_term_57 rfl rfl ?_
                refine J_callV (st := []) dX5_term_58 cv_X5_92 (d_part7 ln z129 z130 z131 z132 px_12 fl zx_12 tp cx_12 q0 q1 h133 h134 (v_9b2e2070a2 i12_6 g128 h135) h136 h137 h138 h139 i12_15 i12_16 q11 i12_13 i12_14 h140 q15 i12_12 rfl hk55 rfl) rfl rfl rfl (Nat.le_of_ble_eq_true rfl) ⟨(Nat.le_of_ble_eq_true rfl), (Nat.le_of_ble_eq_true rfl)⟩ ⟨(Nat.le_of_ble_eq_true rfl), (Nat.le_of_ble_eq_true rfl)⟩ (fun r h9 hp => ?_)
                rcases hp with ⟨z141, z142, z143, z144, z145, z146, f147, rfl, rfl, h148, h149, h150, h151, h152, h153, h154, h155, h156, h157, h158, h159, h160, h161, h162⟩ | ⟨z163, z164, z165, z166, z167, z168, f169, z170, rfl, rfl, h171, h172, h173, h174, h175, h176, h177, h178, h179, h180, h181, h182, h183, h184, h185⟩
                · refine J_nf (nh2 := nh) (ck2 := 0) (sk2 := 0) (st2 := [.int (zI 1)]) rfl rfl rfl rfl ?_
                  refine J_app (L3 := [(54, .inr (5, [.ref 55, .int (zI ln), .int (zI z141), .int (zI z142), .int (zI z143), .int (zI z144), .int (zI z145), .int (zI fl), .ref 56, .int (zI z146)])), (56, .inl (0, 412, .inl (zA f147))), (54, .inr (5, [.ref 55, .int (zI ln), .int (zI z129), .int (zI z130), .int (zI z131), .int (zI z132), .int (zI px_12), .int (zI fl), .ref 56, .int (zI zx_12)])), (56, .inl (0, 412, .inl (zA cx_12)))]) rfl ?_
                  refine J_mask (L2 := [(54, .inr (5, [.ref 55, .int (zI ln), .int (zI z141), .int (zI z142), .int (zI z143), .int (zI z144), .int (zI z145), .int (zI fl), .ref 56, .int (zI z146)])), (56, .inl (0, 412, .inl (zA f147)))]) (ks := [54, 56, 54, 56]) [true, true, false, false] rfl (by decide +kernel) rfl ?_
                  refine Z_if_ne (tgt := 66) dX5_term_61 (by decide) v_4dcc24baa7 (fun h186 => ?_) (fun h186 => absurd h186 v_3a47bfd896)
                  refine J_aload_n dX5_term_66 rfl rfl ?_
                  refine J_iload_n dX5_term_67 rfl rfl ?_
                  refine Z_iconst (n := 0) dX5_term_68 ?_
                  refine J_callV (st := []) dX5_term_69 cv_X5_72 (d_emit 5 0 ln z141 z142 z143 z144 z145 fl z146 f147 v_3961fe0d0d v_b17331891f h157 h158 h160 rfl rfl) rfl rfl rfl (Nat.le_of_ble_eq_true rfl) ⟨(Nat.le_of_ble_eq_true rfl), (Nat.le_of_ble_eq_true rfl)⟩ ⟨(Nat.le_of_ble_eq_true rfl), (Nat.le_of_ble_eq_true rfl)⟩ (fun r h9 hp => ?_)
                  obtain ⟨z187, f188, rfl, rfl, h189, h190, h191, h192, h193⟩ := hp
                  refine J_nf (nh2 := nh) (ck2 := 0) (sk2 := 0) (st2 := [.int (zI z146)]) rfl rfl rfl rfl ?_
                  refine J_app (L3 := [(54, .inr (5, [.ref 55, .int (zI ln), .int (zI z141), .int (zI z142), .int (zI z143), .int (zI z144), .int (zI z145), .int (zI fl), .ref 56, .int (zI z187)])), (56, .inl (0, 412, .inl (zA f188))), (54, .inr (5, [.ref 55, .int (zI ln), .int (zI z141), .int (zI z142), .int (zI z143), .int (zI z144), .int (zI z145), .int (zI fl), .ref 56, .int (zI z146)])), (56, .inl (0, 412, .inl (zA f147)))]) rfl ?_
                  refine J_mask (L2 := [(54, .inr (5, [.ref 55, .int (zI ln), .int (zI z141), .int (zI z142), .int (zI z143), .int (zI z144), .int (zI z145), .int (zI fl), .ref 56, .int (zI z187)])), (56, .inl (0, 412, .inl (zA f188)))]) (ks := [54, 56, 54, 56]) [true, true, false, false] rfl (by decide +kernel) rfl ?_
                  refine J_pop dX5_term_72 rfl ?_
                  refine Z_iinc (c := i_12 + 1) (ls2 := [some (.ref 54), some (.int (zI 7)), some (.int (zI (i_12 + 1))), some (.int (zI 5))]) dX5_term_73 rfl (Nat.le_of_ble_eq_true rfl) rfl rfl rfl ?_
                  refine J_goto (tgt := 12) dX5_term_76 (by decide) ?_
                  refine J_drop (ls2 := [some (.ref 54), some (.int (zI 7)), some (.int (zI (i_12 + 1))), none]) [true, true, true, false] rfl ?_
                  exact ih12 (i_12 + 1) z141 z142 z143 z144 z145 z187 f188 (v_da458fa48a i12_0) (v_6924477667 h47) (v_5af1455273 i12_2 g128 h135 h161 h192) (v_269579bf42 i12_3 g128 h135 h162) h148 h149 h150 h151 h152 h153 h154 h159 h193 h189 h190 h155 h156 (meas_lt v_ceb2ed6d2b (v_44ddc35e90 h47) hm12)
                · refine J_nf (nh2 := nh) (ck2 := 0) (sk2 := 0) (st2 := [.int (zI 0)]) rfl rfl rfl rfl ?_
                  refine J_app (L3 := [(54, .inr (5, [.ref 55, .int (zI ln), .int (zI z163), .int (zI z164), .int (zI z165), .int (zI z166), .int (zI z167), .int (zI z170), .ref 56, .int (zI z168)])), (56, .inl (0, 412, .inl (zA f169))), (54, .inr (5, [.ref 55, .int (zI ln), .int (zI z129), .int (zI z130), .int (zI z131), .int (zI z132), .int (zI px_12), .int (zI fl), .ref 56, .int (zI zx_12)])), (56, .inl (0, 412, .inl (zA cx_12)))]) rfl ?_
                  refine J_mask (L2 := [(54, .inr (5, [.ref 55, .int (zI ln), .int (zI z163), .int (zI z164), .int (zI z165), .int (zI z166), .int (zI z167), .int (zI z170), .ref 56, .int (zI z168)])), (56, .inl (0, 412, .inl (zA f169)))]) (ks := [54, 56, 54, 56]) [true, true, false, false] rfl (by decide +kernel) rfl ?_
                  refine Z_if_ne (tgt := 66) dX5_term_61 (by decide) v_b17331891f (fun h194 => absurd h194 (fun q => q v_2ca2bbca1f)) (fun h194 => ?_)
                  refine Z_iconst (n := 0) dX5_term_64 ?_
                  exact J_iret dX5_term_65 rfl (jbn v_939070ca3f v_316afd7d0b) (Nat.le_of_ble_eq_true rfl) (Nat.le_of_ble_eq_true rfl) (Or.inr ⟨z163, z164, z165, z166, z167, z168, f169, z170, rfl, rfl, h171, h172, h173, h174, h175, h176, h177, h178, h179, h180, h181, h182, h183, h184, h185⟩)
            · refine J_nf (nh2 := nh) (ck2 := 0) (sk2 := 0) (st2 := [.int (zI 0)]) rfl rfl rfl rfl ?_
              refine Z_if_eq (tgt := 79) dX5_term_34 (by decide) v_b17331891f (fun h195 => ?_) (fun h195 => absurd h195 (fun q => q v_2ca2bbca1f))
              refine Z_iconst (n := 1) dX5_term_79 ?_
              exact J_iret dX5_term_80 rfl (jbn v_316afd7d0b v_bbcfac9b7d) (Nat.le_of_ble_eq_true rfl) (Nat.le_of_ble_eq_true rfl) (Or.inl ⟨tx_12, sx_12, bx_12, vx_12, px_12, zx_12, cx_12, rfl, rfl, i12_4, i12_5, i12_6, i12_7, i12_8, i12_9, i12_10, i12_15, i12_16, i12_13, i12_14, i12_11, i12_12, i12_2, i12_3⟩)
    exact lp12 _ 0 z1 z2 z3 z4 z5 z6 f7 v_939070ca3f v_5ab96f7b5e h21 h22 h8 h9 h10 h11 h12 h13 h14 h19 h20 h17 h18 h15 h16 (Nat.lt_succ_self _)
  · refine J_nf (nh2 := nh) (ck2 := 0) (sk2 := 0) (st2 := [.int (zI 0)]) rfl rfl rfl rfl ?_
    refine J_app (L3 := [(54, .inr (5, [.ref 55, .int (zI ln), .int (zI z23), .int (zI z24), .int (zI z25), .int (zI z26), .int (zI z27), .int (zI z30), .ref 56, .int (zI z28)])), (56, .inl (0, 412, .inl (zA f29)))]) rfl ?_
    refine Z_if_ne (tgt := 10) dX5_term_5 (by decide) v_b17331891f (fun h196 => absurd h196 (fun q => q v_2ca2bbca1f)) (fun h196 => ?_)
    refine Z_iconst (n := 0) dX5_term_8 ?_
    exact J_iret dX5_term_9 rfl (jbn v_939070ca3f v_316afd7d0b) (Nat.le_of_ble_eq_true rfl) (Nat.le_of_ble_eq_true rfl) (Or.inr ⟨z23, z24, z25, z26, z27, z28, f29, z30, rfl, rfl, h31, h32, h33, h34, h35, h36, h37, h38, h39, h40, h41, h42, h43, h44, h45⟩)
