abbrev MX5_length : jM := (RX5, cX5_length, 1, some .int, false)
set_option maxRecDepth 20000 in
theorem iX5_at : ∀ k : Nat, k < 10 → u_lay RX5 TX5 k ∈ jtb
  | 0, _ => jt1 136 rfl rfl
  | 1, _ => jt1 138 rfl rfl
  | 2, _ => jt1 140 rfl rfl
  | 3, _ => jt1 142 rfl rfl
  | 4, _ => jt1 144 rfl rfl
  | 5, _ => jt1 146 rfl rfl
  | 6, _ => jt1 148 rfl rfl
  | 7, _ => jt1 150 rfl rfl
  | 8, _ => jt1 152 rfl rfl
  | 9, _ => jt1 154 rfl rfl
  | (n + 10), h => absurd h (by omega)
theorem iX5 : ∀ w ∈ u_ws RX5 TX5 10, w ∈ jtb := fun w hw => by
  obtain ⟨k, hk, rfl⟩ := List.mem_map.mp hw
  exact iX5_at k (List.mem_range.mp hk)
theorem fl_X5_15 : jFL RX5 15 5 1 := ⟨_, _, _, rfl, iX5, by decide, Or.inl (jt1 127 rfl rfl)⟩
abbrev MX5_at : jM := (RX5, cX5_at, 2, some .int, false)
theorem fl_X5_11 : jFL RX5 11 5 0 := ⟨_, _, _, rfl, iX5, by decide, Or.inl (jt1 126 rfl rfl)⟩
abbrev MX5_hasRoom : jM := (RX5, cX5_hasRoom, 2, some .boolean, false)
abbrev MX5_take : jM := (RX5, cX5_take, 3, none, false)
theorem fw_X5_15 : jFW RX5 15 5 1 (.int) false := ⟨_, _, _, tyX5, rfl, iX5, tyX5_ok, nmX5, by decide, rfl, rfl, (fun h => by cases h), Or.inl (jt1 127 rfl rfl)⟩
abbrev MX5_cut : jM := (RX5, cX5_cut, 2, some .boolean, false)
abbrev MX5_holdsColours : jM := (RX5, cX5_holdsColours, 2, some .boolean, false)
abbrev MX5_isLetter : jM := (RX5, cX5_isLetter, 1, some .boolean, false)
abbrev MX5_isDigit : jM := (RX5, cX5_isDigit, 1, some .boolean, false)
abbrev MX5_isSign : jM := (RX5, cX5_isSign, 2, some .boolean, false)
theorem fl_X5_19 : jFL RX5 19 5 2 := ⟨_, _, _, rfl, iX5, by decide, Or.inl (jt1 128 rfl rfl)⟩
abbrev MX5_wrong : jM := (RX5, cX5_wrong, 1, some .boolean, false)
theorem fl_X5_22 : jFL RX5 22 5 3 := ⟨_, _, _, rfl, iX5, by decide, Or.inl (jt1 129 rfl rfl)⟩
theorem fw_X5_34 : jFW RX5 34 5 7 (.int) false := ⟨_, _, _, tyX5, rfl, iX5, tyX5_ok, nmX5, by decide, rfl, rfl, (fun h => by cases h), Or.inl (jt1 133 rfl rfl)⟩
abbrev MX5_emit : jM := (RX5, cX5_emit, 4, some .int, false)
theorem fl_X5_40 : jFL RX5 40 5 9 := ⟨_, _, _, rfl, iX5, by decide, Or.inl (jt1 135 rfl rfl)⟩
theorem fl_X5_37 : jFL RX5 37 5 8 := ⟨_, _, _, rfl, iX5, by decide, Or.inl (jt1 134 rfl rfl)⟩
theorem fw_X5_40 : jFW RX5 40 5 9 (.int) false := ⟨_, _, _, tyX5, rfl, iX5, tyX5_ok, nmX5, by decide, rfl, rfl, (fun h => by cases h), Or.inl (jt1 135 rfl rfl)⟩
abbrev MX5_aim : jM := (RX5, cX5_aim, 2, none, false)
abbrev MX5_wordNumber : jM := (RX5, cX5_wordNumber, 6, some .int, false)
theorem fl_X5_25 : jFL RX5 25 5 4 := ⟨_, _, _, rfl, iX5, by decide, Or.inl (jt1 130 rfl rfl)⟩
abbrev MX5_advance : jM := (RX5, cX5_advance, 1, none, false)
theorem fw_X5_22 : jFW RX5 22 5 3 (.int) false := ⟨_, _, _, tyX5, rfl, iX5, tyX5_ok, nmX5, by decide, rfl, rfl, (fun h => by cases h), Or.inl (jt1 129 rfl rfl)⟩
theorem fw_X5_25 : jFW RX5 25 5 4 (.int) false := ⟨_, _, _, tyX5, rfl, iX5, tyX5_ok, nmX5, by decide, rfl, rfl, (fun h => by cases h), Or.inl (jt1 130 rfl rfl)⟩
theorem fw_X5_19 : jFW RX5 19 5 2 (.int) false := ⟨_, _, _, tyX5, rfl, iX5, tyX5_ok, nmX5, by decide, rfl, rfl, (fun h => by cases h), Or.inl (jt1 128 rfl rfl)⟩
theorem cs_X5_98 : jCS RX5 98 yX5_isLetter MX5_isLetter 1 := ⟨(jt3 164 rfl rfl), (jt3 163 rfl rfl), (jt1 4 rfl rfl), ⟨by decide, by decide, by decide +kernel⟩, Or.inl (jt3 162 rfl rfl)⟩
theorem cv_X5_101 : jCV RX5 101 5 yX5_wordNumber MX5_wordNumber 0 := ⟨_, _, rfl, (jt3 168 rfl rfl), (jt3 167 rfl rfl), (jtp (q := (⟨"BeanStreet$Reader", "wordNumber", "()I"⟩, 10)) (List.mem_of_getElem? (i := 7) rfl)), (jt1 4 rfl rfl), ⟨by decide, by decide, by decide +kernel⟩, Or.inl (jt3 165 rfl rfl)⟩
theorem cs_X5_105 : jCS RX5 105 yX5_isDigit MX5_isDigit 1 := ⟨(jt3 220 rfl rfl), (jt3 219 rfl rfl), (jt1 4 rfl rfl), ⟨by decide, by decide, by decide +kernel⟩, Or.inl (jt3 218 rfl rfl)⟩
theorem fw_X5_28 : jFW RX5 28 5 5 (.int) false := ⟨_, _, _, tyX5, rfl, iX5, tyX5_ok, nmX5, by decide, rfl, rfl, (fun h => by cases h), Or.inl (jt1 131 rfl rfl)⟩
theorem fl_X5_28 : jFL RX5 28 5 5 := ⟨_, _, _, rfl, iX5, by decide, Or.inl (jt1 131 rfl rfl)⟩
abbrev MX5_bracketedSum : jM := (RX5, cX5_bracketedSum, 2, some .boolean, false)
theorem cv_X5_54 : jCV RX5 54 5 yX5_wrong MX5_wrong 0 := ⟨_, _, rfl, (jt3 231 rfl rfl), (jt3 230 rfl rfl), (jtp (q := (⟨"BeanStreet$Reader", "wrong", "()Z"⟩, 10)) (List.mem_of_getElem? (i := 9) rfl)), (jt1 4 rfl rfl), ⟨by decide, by decide, by decide +kernel⟩, Or.inl (jt3 228 rfl rfl)⟩
abbrev MX5_part : jM := (RX5, cX5_part, 4, some .boolean, false)
theorem cv_X5_50 : jCV RX5 50 5 yX5_isSign MX5_isSign 1 := ⟨_, _, rfl, (jt4 7 rfl rfl), (jt4 6 rfl rfl), (jtp (q := (⟨"BeanStreet$Reader", "isSign", "(C)Z"⟩, 10)) (List.mem_of_getElem? (i := 13) rfl)), (jt1 4 rfl rfl), ⟨by decide, by decide, by decide +kernel⟩, Or.inl (jt4 4 rfl rfl)⟩
theorem cv_X5_95 : jCV RX5 95 5 yX5_bracketedSum MX5_bracketedSum 1 := ⟨_, _, rfl, (jt4 11 rfl rfl), (jt4 10 rfl rfl), (jtp (q := (⟨"BeanStreet$Reader", "bracketedSum", "(I)Z"⟩, 10)) (List.mem_of_getElem? (i := 14) rfl)), (jt1 4 rfl rfl), ⟨by decide, by decide, by decide +kernel⟩, Or.inl (jt4 8 rfl rfl)⟩
theorem fl_X5_31 : jFL RX5 31 5 6 := ⟨_, _, _, rfl, iX5, by decide, Or.inl (jt1 132 rfl rfl)⟩
theorem fw_X5_31 : jFW RX5 31 5 6 (.int) false := ⟨_, _, _, tyX5, rfl, iX5, tyX5_ok, nmX5, by decide, rfl, rfl, (fun h => by cases h), Or.inl (jt1 132 rfl rfl)⟩
theorem cv_X5_72 : jCV RX5 72 5 yX5_emit MX5_emit 2 := ⟨_, _, rfl, (jt4 15 rfl rfl), (jt4 14 rfl rfl), (jtp (q := (⟨"BeanStreet$Reader", "emit", "(II)I"⟩, 10)) (List.mem_of_getElem? (i := 15) rfl)), (jt1 4 rfl rfl), ⟨by decide, by decide, by decide +kernel⟩, Or.inl (jt4 12 rfl rfl)⟩
theorem cv_X5_43 : jCV RX5 43 5 yX5_advance MX5_advance 0 := ⟨_, _, rfl, (jt3 161 rfl rfl), (jt3 160 rfl rfl), (jtp (q := (⟨"BeanStreet$Reader", "advance", "()V"⟩, 10)) (List.mem_of_getElem? (i := 6) rfl)), (jt1 4 rfl rfl), ⟨by decide, by decide, by decide +kernel⟩, Or.inl (jt3 158 rfl rfl)⟩
abbrev MX5_term : jM := (RX5, cX5_term, 4, some .boolean, false)
theorem cv_X5_92 : jCV RX5 92 5 yX5_part MX5_part 1 := ⟨_, _, rfl, (jt4 3 rfl rfl), (jt4 2 rfl rfl), (jtp (q := (⟨"BeanStreet$Reader", "part", "(I)Z"⟩, 10)) (List.mem_of_getElem? (i := 12) rfl)), (jt1 4 rfl rfl), ⟨by decide, by decide, by decide +kernel⟩, Or.inl (jt4 0 rfl rfl)⟩
abbrev MX5_sum : jM := (RX5, cX5_sum, 4, some .boolean, false)
theorem cv_X5_89 : jCV RX5 89 5 yX5_term MX5_term 1 := ⟨_, _, rfl, (jt3 239 rfl rfl), (jt3 238 rfl rfl), (jtp (q := (⟨"BeanStreet$Reader", "term", "(I)Z"⟩, 10)) (List.mem_of_getElem? (i := 11) rfl)), (jt1 4 rfl rfl), ⟨by decide, by decide, by decide +kernel⟩, Or.inl (jt3 236 rfl rfl)⟩
abbrev MX5_bracketedTest : jM := (RX5, cX5_bracketedTest, 2, some .boolean, false)
abbrev MX5_plain : jM := (RX5, cX5_plain, 4, some .boolean, false)
theorem cv_X5_63 : jCV RX5 63 5 yX5_sum MX5_sum 1 := ⟨_, _, rfl, (jt3 235 rfl rfl), (jt3 234 rfl rfl), (jtp (q := (⟨"BeanStreet$Reader", "sum", "(I)Z"⟩, 10)) (List.mem_of_getElem? (i := 10) rfl)), (jt1 4 rfl rfl), ⟨by decide, by decide, by decide +kernel⟩, Or.inl (jt3 232 rfl rfl)⟩
theorem cv_X5_86 : jCV RX5 86 5 yX5_bracketedTest MX5_bracketedTest 1 := ⟨_, _, rfl, (jt4 31 rfl rfl), (jt4 30 rfl rfl), (jtp (q := (⟨"BeanStreet$Reader", "bracketedTest", "(I)Z"⟩, 10)) (List.mem_of_getElem? (i := 19) rfl)), (jt1 4 rfl rfl), ⟨by decide, by decide, by decide +kernel⟩, Or.inl (jt4 28 rfl rfl)⟩
abbrev MX5_both : jM := (RX5, cX5_both, 4, some .boolean, false)
theorem cv_X5_83 : jCV RX5 83 5 yX5_plain MX5_plain 1 := ⟨_, _, rfl, (jt4 27 rfl rfl), (jt4 26 rfl rfl), (jtp (q := (⟨"BeanStreet$Reader", "plain", "(I)Z"⟩, 10)) (List.mem_of_getElem? (i := 18) rfl)), (jt1 4 rfl rfl), ⟨by decide, by decide, by decide +kernel⟩, Or.inl (jt4 24 rfl rfl)⟩
theorem cv_X5_79 : jCV RX5 79 5 yX5_aim MX5_aim 1 := ⟨_, _, rfl, (jt4 35 rfl rfl), (jt4 34 rfl rfl), (jtp (q := (⟨"BeanStreet$Reader", "aim", "(I)V"⟩, 10)) (List.mem_of_getElem? (i := 20) rfl)), (jt1 4 rfl rfl), ⟨by decide, by decide, by decide +kernel⟩, Or.inl (jt4 32 rfl rfl)⟩
abbrev MX5_test : jM := (RX5, cX5_test, 4, some .boolean, false)
theorem cv_X5_76 : jCV RX5 76 5 yX5_both MX5_both 1 := ⟨_, _, rfl, (jt4 23 rfl rfl), (jt4 22 rfl rfl), (jtp (q := (⟨"BeanStreet$Reader", "both", "(I)Z"⟩, 10)) (List.mem_of_getElem? (i := 17) rfl)), (jt1 4 rfl rfl), ⟨by decide, by decide, by decide +kernel⟩, Or.inl (jt4 20 rfl rfl)⟩
theorem cv_X5_67 : jCV RX5 67 5 yX5_test MX5_test 1 := ⟨_, _, rfl, (jt4 19 rfl rfl), (jt4 18 rfl rfl), (jtp (q := (⟨"BeanStreet$Reader", "test", "(I)Z"⟩, 10)) (List.mem_of_getElem? (i := 16) rfl)), (jt1 4 rfl rfl), ⟨by decide, by decide, by decide +kernel⟩, Or.inl (jt4 16 rfl rfl)⟩
abbrev MX5_clause : jM := (RX5, cX5_clause, 2, some .boolean, false)
abbrev MX5_compile : jM := (RX5, cX5_compile, 3, some .int, false)
theorem cv_X5_46 : jCV RX5 46 5 yX5_clause MX5_clause 0 := ⟨_, _, rfl, (jt3 227 rfl rfl), (jt3 226 rfl rfl), (jtp (q := (⟨"BeanStreet$Reader", "clause", "()Z"⟩, 10)) (List.mem_of_getElem? (i := 8) rfl)), (jt1 4 rfl rfl), ⟨by decide, by decide, by decide +kernel⟩, Or.inl (jt3 224 rfl rfl)⟩
theorem fl_X5_34 : jFL RX5 34 5 7 := ⟨_, _, _, rfl, iX5, by decide, Or.inl (jt1 133 rfl rfl)⟩
theorem dX5_length_0 : decode cX5_length 0 = .ok (.aload_n 0, 1) := by decide +kernel
theorem dX5_length_1 : decode cX5_length 1 = .ok (.getfield 15, 3) := by decide +kernel
theorem dX5_length_4 : decode cX5_length 4 = .ok (.ireturn, 1) := by decide +kernel
theorem dX5_at_0 : decode cX5_at 0 = .ok (.iload_n 1, 1) := by decide +kernel
theorem dX5_at_1 : decode cX5_at 1 = .ok (.ifCond .lt 20, 3) := by decide +kernel
theorem dX5_at_21 : decode cX5_at 21 = .ok (.iconst (-1), 1) := by decide +kernel
theorem dX5_at_22 : decode cX5_at 22 = .ok (.ireturn, 1) := by decide +kernel
theorem dX5_at_4 : decode cX5_at 4 = .ok (.iload_n 1, 1) := by decide +kernel
theorem dX5_at_5 : decode cX5_at 5 = .ok (.aload_n 0, 1) := by decide +kernel
theorem dX5_at_6 : decode cX5_at 6 = .ok (.getfield 15, 3) := by decide +kernel
theorem dX5_at_9 : decode cX5_at 9 = .ok (.if_icmp .ge 12, 3) := by decide +kernel
theorem dX5_at_12 : decode cX5_at 12 = .ok (.aload_n 0, 1) := by decide +kernel
theorem dX5_at_13 : decode cX5_at 13 = .ok (.getfield 11, 3) := by decide +kernel
theorem dX5_at_16 : decode cX5_at 16 = .ok (.iload_n 1, 1) := by decide +kernel
theorem dX5_at_17 : decode cX5_at 17 = .ok (.iaload, 1) := by decide +kernel
theorem dX5_at_18 : decode cX5_at 18 = .ok (.goto 4, 3) := by decide +kernel
theorem dX5_hasRoom_0 : decode cX5_hasRoom 0 = .ok (.aload_n 0, 1) := by decide +kernel
theorem dX5_hasRoom_1 : decode cX5_hasRoom 1 = .ok (.getfield 15, 3) := by decide +kernel
theorem dX5_hasRoom_4 : decode cX5_hasRoom 4 = .ok (.iload_n 1, 1) := by decide +kernel
theorem dX5_hasRoom_5 : decode cX5_hasRoom 5 = .ok (.iadd, 1) := by decide +kernel
theorem dX5_hasRoom_6 : decode cX5_hasRoom 6 = .ok (.sipush 400, 3) := by decide +kernel
theorem dX5_hasRoom_9 : decode cX5_hasRoom 9 = .ok (.if_icmp .gt 7, 3) := by decide +kernel
theorem dX5_hasRoom_16 : decode cX5_hasRoom 16 = .ok (.iconst 0, 1) := by decide +kernel
theorem dX5_hasRoom_17 : decode cX5_hasRoom 17 = .ok (.ireturn, 1) := by decide +kernel
theorem dX5_hasRoom_12 : decode cX5_hasRoom 12 = .ok (.iconst 1, 1) := by decide +kernel
theorem dX5_hasRoom_13 : decode cX5_hasRoom 13 = .ok (.goto 4, 3) := by decide +kernel
theorem dX5_take_0 : decode cX5_take 0 = .ok (.bipush 24, 2) := by decide +kernel
theorem dX5_take_2 : decode cX5_take 2 = .ok (.istore_n 2, 1) := by decide +kernel
theorem dX5_take_3 : decode cX5_take 3 = .ok (.iload_n 2, 1) := by decide +kernel
theorem dX5_take_4 : decode cX5_take 4 = .ok (.ifCond .lt 45, 3) := by decide +kernel
theorem dX5_take_49 : decode cX5_take 49 = .ok (.return_, 1) := by decide +kernel
theorem dX5_take_7 : decode cX5_take 7 = .ok (.aload_n 0, 1) := by decide +kernel
theorem dX5_take_8 : decode cX5_take 8 = .ok (.getfield 15, 3) := by decide +kernel
theorem dX5_take_11 : decode cX5_take 11 = .ok (.sipush 400, 3) := by decide +kernel
theorem dX5_take_14 : decode cX5_take 14 = .ok (.if_icmp .ge 35, 3) := by decide +kernel
theorem dX5_take_17 : decode cX5_take 17 = .ok (.aload_n 0, 1) := by decide +kernel
theorem dX5_take_18 : decode cX5_take 18 = .ok (.getfield 11, 3) := by decide +kernel
theorem dX5_take_21 : decode cX5_take 21 = .ok (.aload_n 0, 1) := by decide +kernel
theorem dX5_take_22 : decode cX5_take 22 = .ok (.getfield 15, 3) := by decide +kernel
theorem dX5_take_25 : decode cX5_take 25 = .ok (.iload_n 1, 1) := by decide +kernel
theorem dX5_take_26 : decode cX5_take 26 = .ok (.iload_n 2, 1) := by decide +kernel
theorem dX5_take_27 : decode cX5_take 27 = .ok (.ishr, 1) := by decide +kernel
theorem dX5_take_28 : decode cX5_take 28 = .ok (.sipush 255, 3) := by decide +kernel
theorem dX5_take_31 : decode cX5_take 31 = .ok (.iand, 1) := by decide +kernel
theorem dX5_take_32 : decode cX5_take 32 = .ok (.iastore, 1) := by decide +kernel
theorem dX5_take_33 : decode cX5_take 33 = .ok (.aload_n 0, 1) := by decide +kernel
theorem dX5_take_34 : decode cX5_take 34 = .ok (.dup, 1) := by decide +kernel
theorem dX5_take_35 : decode cX5_take 35 = .ok (.getfield 15, 3) := by decide +kernel
theorem dX5_take_38 : decode cX5_take 38 = .ok (.iconst 1, 1) := by decide +kernel
theorem dX5_take_39 : decode cX5_take 39 = .ok (.iadd, 1) := by decide +kernel
theorem dX5_take_40 : decode cX5_take 40 = .ok (.putfield 15, 3) := by decide +kernel
theorem dX5_take_43 : decode cX5_take 43 = .ok (.iinc 2 (-8), 3) := by decide +kernel
theorem dX5_take_46 : decode cX5_take 46 = .ok (.goto (-43), 3) := by decide +kernel
theorem dX5_cut_0 : decode cX5_cut 0 = .ok (.iload_n 1, 1) := by decide +kernel
theorem dX5_cut_1 : decode cX5_cut 1 = .ok (.ifCond .lt 11, 3) := by decide +kernel
theorem dX5_cut_12 : decode cX5_cut 12 = .ok (.iconst 0, 1) := by decide +kernel
theorem dX5_cut_13 : decode cX5_cut 13 = .ok (.ireturn, 1) := by decide +kernel
theorem dX5_cut_4 : decode cX5_cut 4 = .ok (.iload_n 1, 1) := by decide +kernel
theorem dX5_cut_5 : decode cX5_cut 5 = .ok (.aload_n 0, 1) := by decide +kernel
theorem dX5_cut_6 : decode cX5_cut 6 = .ok (.getfield 15, 3) := by decide +kernel
theorem dX5_cut_9 : decode cX5_cut 9 = .ok (.if_icmp .le 5, 3) := by decide +kernel
theorem dX5_cut_14 : decode cX5_cut 14 = .ok (.aload_n 0, 1) := by decide +kernel
theorem dX5_cut_15 : decode cX5_cut 15 = .ok (.iload_n 1, 1) := by decide +kernel
theorem dX5_cut_16 : decode cX5_cut 16 = .ok (.putfield 15, 3) := by decide +kernel
theorem dX5_cut_19 : decode cX5_cut 19 = .ok (.iconst 1, 1) := by decide +kernel
theorem dX5_cut_20 : decode cX5_cut 20 = .ok (.ireturn, 1) := by decide +kernel
theorem dX5_holdsColours_0 : decode cX5_holdsColours 0 = .ok (.aload_n 0, 1) := by decide +kernel
theorem dX5_holdsColours_1 : decode cX5_holdsColours 1 = .ok (.getfield 15, 3) := by decide +kernel
theorem dX5_holdsColours_4 : decode cX5_holdsColours 4 = .ok (.iconst 1, 1) := by decide +kernel
theorem dX5_holdsColours_5 : decode cX5_holdsColours 5 = .ok (.if_icmp .lt 12, 3) := by decide +kernel
theorem dX5_holdsColours_17 : decode cX5_holdsColours 17 = .ok (.iconst 0, 1) := by decide +kernel
theorem dX5_holdsColours_18 : decode cX5_holdsColours 18 = .ok (.ireturn, 1) := by decide +kernel
theorem dX5_holdsColours_8 : decode cX5_holdsColours 8 = .ok (.aload_n 0, 1) := by decide +kernel
theorem dX5_holdsColours_9 : decode cX5_holdsColours 9 = .ok (.getfield 15, 3) := by decide +kernel
theorem dX5_holdsColours_12 : decode cX5_holdsColours 12 = .ok (.bipush 7, 2) := by decide +kernel
theorem dX5_holdsColours_14 : decode cX5_holdsColours 14 = .ok (.if_icmp .le 5, 3) := by decide +kernel
theorem dX5_holdsColours_19 : decode cX5_holdsColours 19 = .ok (.iconst 0, 1) := by decide +kernel
theorem dX5_holdsColours_20 : decode cX5_holdsColours 20 = .ok (.istore_n 1, 1) := by decide +kernel
theorem dX5_holdsColours_21 : decode cX5_holdsColours 21 = .ok (.iload_n 1, 1) := by decide +kernel
theorem dX5_holdsColours_22 : decode cX5_holdsColours 22 = .ok (.aload_n 0, 1) := by decide +kernel
theorem dX5_holdsColours_23 : decode cX5_holdsColours 23 = .ok (.getfield 15, 3) := by decide +kernel
theorem dX5_holdsColours_26 : decode cX5_holdsColours 26 = .ok (.if_icmp .ge 21, 3) := by decide +kernel
theorem dX5_holdsColours_47 : decode cX5_holdsColours 47 = .ok (.iconst 1, 1) := by decide +kernel
theorem dX5_holdsColours_48 : decode cX5_holdsColours 48 = .ok (.ireturn, 1) := by decide +kernel
theorem dX5_holdsColours_29 : decode cX5_holdsColours 29 = .ok (.aload_n 0, 1) := by decide +kernel
theorem dX5_holdsColours_30 : decode cX5_holdsColours 30 = .ok (.getfield 11, 3) := by decide +kernel
theorem dX5_holdsColours_33 : decode cX5_holdsColours 33 = .ok (.iload_n 1, 1) := by decide +kernel
theorem dX5_holdsColours_34 : decode cX5_holdsColours 34 = .ok (.iaload, 1) := by decide +kernel
theorem dX5_holdsColours_35 : decode cX5_holdsColours 35 = .ok (.iconst 5, 1) := by decide +kernel
theorem dX5_holdsColours_36 : decode cX5_holdsColours 36 = .ok (.if_icmp .lt 5, 3) := by decide +kernel
theorem dX5_holdsColours_41 : decode cX5_holdsColours 41 = .ok (.iinc 1 1, 3) := by decide +kernel
theorem dX5_holdsColours_44 : decode cX5_holdsColours 44 = .ok (.goto (-23), 3) := by decide +kernel
theorem dX5_holdsColours_39 : decode cX5_holdsColours 39 = .ok (.iconst 0, 1) := by decide +kernel
theorem dX5_holdsColours_40 : decode cX5_holdsColours 40 = .ok (.ireturn, 1) := by decide +kernel
theorem dX5_isLetter_0 : decode cX5_isLetter 0 = .ok (.iload_n 0, 1) := by decide +kernel
theorem dX5_isLetter_1 : decode cX5_isLetter 1 = .ok (.bipush 97, 2) := by decide +kernel
theorem dX5_isLetter_3 : decode cX5_isLetter 3 = .ok (.if_icmp .lt 13, 3) := by decide +kernel
theorem dX5_isLetter_16 : decode cX5_isLetter 16 = .ok (.iconst 0, 1) := by decide +kernel
theorem dX5_isLetter_17 : decode cX5_isLetter 17 = .ok (.ireturn, 1) := by decide +kernel
theorem dX5_isLetter_6 : decode cX5_isLetter 6 = .ok (.iload_n 0, 1) := by decide +kernel
theorem dX5_isLetter_7 : decode cX5_isLetter 7 = .ok (.bipush 122, 2) := by decide +kernel
theorem dX5_isLetter_9 : decode cX5_isLetter 9 = .ok (.if_icmp .gt 7, 3) := by decide +kernel
theorem dX5_isLetter_12 : decode cX5_isLetter 12 = .ok (.iconst 1, 1) := by decide +kernel
theorem dX5_isLetter_13 : decode cX5_isLetter 13 = .ok (.goto 4, 3) := by decide +kernel
theorem dX5_isDigit_0 : decode cX5_isDigit 0 = .ok (.iload_n 0, 1) := by decide +kernel
theorem dX5_isDigit_1 : decode cX5_isDigit 1 = .ok (.bipush 48, 2) := by decide +kernel
theorem dX5_isDigit_3 : decode cX5_isDigit 3 = .ok (.if_icmp .lt 13, 3) := by decide +kernel
theorem dX5_isDigit_16 : decode cX5_isDigit 16 = .ok (.iconst 0, 1) := by decide +kernel
theorem dX5_isDigit_17 : decode cX5_isDigit 17 = .ok (.ireturn, 1) := by decide +kernel
theorem dX5_isDigit_6 : decode cX5_isDigit 6 = .ok (.iload_n 0, 1) := by decide +kernel
theorem dX5_isDigit_7 : decode cX5_isDigit 7 = .ok (.bipush 57, 2) := by decide +kernel
theorem dX5_isDigit_9 : decode cX5_isDigit 9 = .ok (.if_icmp .gt 7, 3) := by decide +kernel
theorem dX5_isDigit_12 : decode cX5_isDigit 12 = .ok (.iconst 1, 1) := by decide +kernel
theorem dX5_isDigit_13 : decode cX5_isDigit 13 = .ok (.goto 4, 3) := by decide +kernel
theorem dX5_isSign_0 : decode cX5_isSign 0 = .ok (.aload_n 0, 1) := by decide +kernel
theorem dX5_isSign_1 : decode cX5_isSign 1 = .ok (.getfield 19, 3) := by decide +kernel
theorem dX5_isSign_4 : decode cX5_isSign 4 = .ok (.bipush 100, 2) := by decide +kernel
theorem dX5_isSign_6 : decode cX5_isSign 6 = .ok (.iload_n 1, 1) := by decide +kernel
theorem dX5_isSign_7 : decode cX5_isSign 7 = .ok (.iadd, 1) := by decide +kernel
theorem dX5_isSign_8 : decode cX5_isSign 8 = .ok (.if_icmp .ne 7, 3) := by decide +kernel
theorem dX5_isSign_15 : decode cX5_isSign 15 = .ok (.iconst 0, 1) := by decide +kernel
theorem dX5_isSign_16 : decode cX5_isSign 16 = .ok (.ireturn, 1) := by decide +kernel
theorem dX5_isSign_11 : decode cX5_isSign 11 = .ok (.iconst 1, 1) := by decide +kernel
theorem dX5_isSign_12 : decode cX5_isSign 12 = .ok (.goto 4, 3) := by decide +kernel
theorem dX5_wrong_0 : decode cX5_wrong 0 = .ok (.aload_n 0, 1) := by decide +kernel
theorem dX5_wrong_1 : decode cX5_wrong 1 = .ok (.aload_n 0, 1) := by decide +kernel
theorem dX5_wrong_2 : decode cX5_wrong 2 = .ok (.getfield 22, 3) := by decide +kernel
theorem dX5_wrong_5 : decode cX5_wrong 5 = .ok (.putfield 34, 3) := by decide +kernel
theorem dX5_wrong_8 : decode cX5_wrong 8 = .ok (.iconst 0, 1) := by decide +kernel
theorem dX5_wrong_9 : decode cX5_wrong 9 = .ok (.ireturn, 1) := by decide +kernel
theorem dX5_emit_0 : decode cX5_emit 0 = .ok (.aload_n 0, 1) := by decide +kernel
theorem dX5_emit_1 : decode cX5_emit 1 = .ok (.getfield 40, 3) := by decide +kernel
theorem dX5_emit_4 : decode cX5_emit 4 = .ok (.istore_n 3, 1) := by decide +kernel
theorem dX5_emit_5 : decode cX5_emit 5 = .ok (.aload_n 0, 1) := by decide +kernel
theorem dX5_emit_6 : decode cX5_emit 6 = .ok (.getfield 40, 3) := by decide +kernel
theorem dX5_emit_9 : decode cX5_emit 9 = .ok (.aload_n 0, 1) := by decide +kernel
theorem dX5_emit_10 : decode cX5_emit 10 = .ok (.getfield 37, 3) := by decide +kernel
theorem dX5_emit_13 : decode cX5_emit 13 = .ok (.arraylength, 1) := by decide +kernel
theorem dX5_emit_14 : decode cX5_emit 14 = .ok (.if_icmp .ge 27, 3) := by decide +kernel
theorem dX5_emit_17 : decode cX5_emit 17 = .ok (.aload_n 0, 1) := by decide +kernel
theorem dX5_emit_18 : decode cX5_emit 18 = .ok (.getfield 37, 3) := by decide +kernel
theorem dX5_emit_21 : decode cX5_emit 21 = .ok (.aload_n 0, 1) := by decide +kernel
theorem dX5_emit_22 : decode cX5_emit 22 = .ok (.getfield 40, 3) := by decide +kernel
theorem dX5_emit_25 : decode cX5_emit 25 = .ok (.iload_n 1, 1) := by decide +kernel
theorem dX5_emit_26 : decode cX5_emit 26 = .ok (.iload_n 2, 1) := by decide +kernel
theorem dX5_emit_27 : decode cX5_emit 27 = .ok (.iconst 5, 1) := by decide +kernel
theorem dX5_emit_28 : decode cX5_emit 28 = .ok (.ishl, 1) := by decide +kernel
theorem dX5_emit_29 : decode cX5_emit 29 = .ok (.ior, 1) := by decide +kernel
theorem dX5_emit_30 : decode cX5_emit 30 = .ok (.iastore, 1) := by decide +kernel
theorem dX5_emit_31 : decode cX5_emit 31 = .ok (.aload_n 0, 1) := by decide +kernel
theorem dX5_emit_32 : decode cX5_emit 32 = .ok (.dup, 1) := by decide +kernel
theorem dX5_emit_33 : decode cX5_emit 33 = .ok (.getfield 40, 3) := by decide +kernel
theorem dX5_emit_36 : decode cX5_emit 36 = .ok (.iconst 1, 1) := by decide +kernel
theorem dX5_emit_37 : decode cX5_emit 37 = .ok (.iadd, 1) := by decide +kernel
theorem dX5_emit_38 : decode cX5_emit 38 = .ok (.putfield 40, 3) := by decide +kernel
theorem dX5_emit_41 : decode cX5_emit 41 = .ok (.iload_n 3, 1) := by decide +kernel
theorem dX5_emit_42 : decode cX5_emit 42 = .ok (.ireturn, 1) := by decide +kernel
theorem dX5_aim_0 : decode cX5_aim 0 = .ok (.iload_n 1, 1) := by decide +kernel
theorem dX5_aim_1 : decode cX5_aim 1 = .ok (.ifCond .lt 26, 3) := by decide +kernel
theorem dX5_aim_4 : decode cX5_aim 4 = .ok (.iload_n 1, 1) := by decide +kernel
theorem dX5_aim_5 : decode cX5_aim 5 = .ok (.aload_n 0, 1) := by decide +kernel
theorem dX5_aim_6 : decode cX5_aim 6 = .ok (.getfield 40, 3) := by decide +kernel
theorem dX5_aim_9 : decode cX5_aim 9 = .ok (.if_icmp .ge 18, 3) := by decide +kernel
theorem dX5_aim_12 : decode cX5_aim 12 = .ok (.aload_n 0, 1) := by decide +kernel
theorem dX5_aim_13 : decode cX5_aim 13 = .ok (.getfield 37, 3) := by decide +kernel
theorem dX5_aim_16 : decode cX5_aim 16 = .ok (.iload_n 1, 1) := by decide +kernel
theorem dX5_aim_17 : decode cX5_aim 17 = .ok (.dup2, 1) := by decide +kernel
theorem dX5_aim_18 : decode cX5_aim 18 = .ok (.iaload, 1) := by decide +kernel
theorem dX5_aim_19 : decode cX5_aim 19 = .ok (.aload_n 0, 1) := by decide +kernel
theorem dX5_aim_20 : decode cX5_aim 20 = .ok (.getfield 40, 3) := by decide +kernel
theorem dX5_aim_23 : decode cX5_aim 23 = .ok (.iconst 5, 1) := by decide +kernel
theorem dX5_aim_24 : decode cX5_aim 24 = .ok (.ishl, 1) := by decide +kernel
theorem dX5_aim_25 : decode cX5_aim 25 = .ok (.ior, 1) := by decide +kernel
theorem dX5_aim_26 : decode cX5_aim 26 = .ok (.iastore, 1) := by decide +kernel
theorem dX5_aim_27 : decode cX5_aim 27 = .ok (.return_, 1) := by decide +kernel
theorem dX5_wordNumber_0 : decode cX5_wordNumber 0 = .ok (.iconst 0, 1) := by decide +kernel
theorem dX5_wordNumber_1 : decode cX5_wordNumber 1 = .ok (.istore_n 1, 1) := by decide +kernel
theorem dX5_wordNumber_2 : decode cX5_wordNumber 2 = .ok (.aload_n 0, 1) := by decide +kernel
theorem dX5_wordNumber_3 : decode cX5_wordNumber 3 = .ok (.getfield 22, 3) := by decide +kernel
theorem dX5_wordNumber_6 : decode cX5_wordNumber 6 = .ok (.istore_n 2, 1) := by decide +kernel
theorem dX5_wordNumber_7 : decode cX5_wordNumber 7 = .ok (.iconst 1, 1) := by decide +kernel
theorem dX5_wordNumber_8 : decode cX5_wordNumber 8 = .ok (.istore_n 3, 1) := by decide +kernel
theorem dX5_wordNumber_9 : decode cX5_wordNumber 9 = .ok (.iconst 0, 1) := by decide +kernel
theorem dX5_wordNumber_10 : decode cX5_wordNumber 10 = .ok (.istore 4, 2) := by decide +kernel
theorem dX5_wordNumber_12 : decode cX5_wordNumber 12 = .ok (.iload 4, 2) := by decide +kernel
theorem dX5_wordNumber_14 : decode cX5_wordNumber 14 = .ok (.ldc 113, 2) := by decide +kernel
theorem dX5_wordNumber_16 : decode cX5_wordNumber 16 = .ok (.invokevirtual 115, 3) := by decide +kernel
theorem dX5_wordNumber_19 : decode cX5_wordNumber 19 = .ok (.if_icmp .ge 84, 3) := by decide +kernel
theorem dX5_wordNumber_103 : decode cX5_wordNumber 103 = .ok (.bipush 15, 2) := by decide +kernel
theorem dX5_wordNumber_105 : decode cX5_wordNumber 105 = .ok (.ireturn, 1) := by decide +kernel
theorem dX5_wordNumber_22 : decode cX5_wordNumber 22 = .ok (.ldc 113, 2) := by decide +kernel
theorem dX5_wordNumber_24 : decode cX5_wordNumber 24 = .ok (.iload 4, 2) := by decide +kernel
theorem dX5_wordNumber_26 : decode cX5_wordNumber 26 = .ok (.invokevirtual 119, 3) := by decide +kernel
theorem dX5_wordNumber_29 : decode cX5_wordNumber 29 = .ok (.istore 5, 2) := by decide +kernel
theorem dX5_wordNumber_31 : decode cX5_wordNumber 31 = .ok (.iload 5, 2) := by decide +kernel
theorem dX5_wordNumber_33 : decode cX5_wordNumber 33 = .ok (.bipush 32, 2) := by decide +kernel
theorem dX5_wordNumber_35 : decode cX5_wordNumber 35 = .ok (.if_icmp .ne 30, 3) := by decide +kernel
theorem dX5_wordNumber_65 : decode cX5_wordNumber 65 = .ok (.iload_n 3, 1) := by decide +kernel
theorem dX5_wordNumber_66 : decode cX5_wordNumber 66 = .ok (.ifCond .eq 26, 3) := by decide +kernel
theorem dX5_wordNumber_92 : decode cX5_wordNumber 92 = .ok (.iconst 0, 1) := by decide +kernel
theorem dX5_wordNumber_93 : decode cX5_wordNumber 93 = .ok (.istore_n 3, 1) := by decide +kernel
theorem dX5_wordNumber_94 : decode cX5_wordNumber 94 = .ok (.iinc 2 1, 3) := by decide +kernel
theorem dX5_wordNumber_97 : decode cX5_wordNumber 97 = .ok (.iinc 4 1, 3) := by decide +kernel
theorem dX5_wordNumber_100 : decode cX5_wordNumber 100 = .ok (.goto (-88), 3) := by decide +kernel
theorem dX5_wordNumber_69 : decode cX5_wordNumber 69 = .ok (.iload_n 2, 1) := by decide +kernel
theorem dX5_wordNumber_70 : decode cX5_wordNumber 70 = .ok (.aload_n 0, 1) := by decide +kernel
theorem dX5_wordNumber_71 : decode cX5_wordNumber 71 = .ok (.getfield 25, 3) := by decide +kernel
theorem dX5_wordNumber_74 : decode cX5_wordNumber 74 = .ok (.if_icmp .ge 18, 3) := by decide +kernel
theorem dX5_wordNumber_77 : decode cX5_wordNumber 77 = .ok (.aload_n 0, 1) := by decide +kernel
theorem dX5_wordNumber_78 : decode cX5_wordNumber 78 = .ok (.getfield 11, 3) := by decide +kernel
theorem dX5_wordNumber_81 : decode cX5_wordNumber 81 = .ok (.iload_n 2, 1) := by decide +kernel
theorem dX5_wordNumber_82 : decode cX5_wordNumber 82 = .ok (.iaload, 1) := by decide +kernel
theorem dX5_wordNumber_83 : decode cX5_wordNumber 83 = .ok (.iload 5, 2) := by decide +kernel
theorem dX5_wordNumber_85 : decode cX5_wordNumber 85 = .ok (.if_icmp .ne 7, 3) := by decide +kernel
theorem dX5_wordNumber_88 : decode cX5_wordNumber 88 = .ok (.iconst 1, 1) := by decide +kernel
theorem dX5_wordNumber_89 : decode cX5_wordNumber 89 = .ok (.goto 4, 3) := by decide +kernel
theorem dX5_wordNumber_38 : decode cX5_wordNumber 38 = .ok (.iload_n 3, 1) := by decide +kernel
theorem dX5_wordNumber_39 : decode cX5_wordNumber 39 = .ok (.ifCond .eq 13, 3) := by decide +kernel
theorem dX5_wordNumber_52 : decode cX5_wordNumber 52 = .ok (.iinc 1 1, 3) := by decide +kernel
theorem dX5_wordNumber_55 : decode cX5_wordNumber 55 = .ok (.aload_n 0, 1) := by decide +kernel
theorem dX5_wordNumber_56 : decode cX5_wordNumber 56 = .ok (.getfield 22, 3) := by decide +kernel
theorem dX5_wordNumber_59 : decode cX5_wordNumber 59 = .ok (.istore_n 2, 1) := by decide +kernel
theorem dX5_wordNumber_60 : decode cX5_wordNumber 60 = .ok (.iconst 1, 1) := by decide +kernel
theorem dX5_wordNumber_61 : decode cX5_wordNumber 61 = .ok (.istore_n 3, 1) := by decide +kernel
theorem dX5_wordNumber_62 : decode cX5_wordNumber 62 = .ok (.goto 35, 3) := by decide +kernel
theorem dX5_wordNumber_42 : decode cX5_wordNumber 42 = .ok (.iload_n 2, 1) := by decide +kernel
theorem dX5_wordNumber_43 : decode cX5_wordNumber 43 = .ok (.aload_n 0, 1) := by decide +kernel
theorem dX5_wordNumber_44 : decode cX5_wordNumber 44 = .ok (.getfield 25, 3) := by decide +kernel
theorem dX5_wordNumber_47 : decode cX5_wordNumber 47 = .ok (.if_icmp .ne 5, 3) := by decide +kernel
theorem dX5_wordNumber_50 : decode cX5_wordNumber 50 = .ok (.iload_n 1, 1) := by decide +kernel
theorem dX5_wordNumber_51 : decode cX5_wordNumber 51 = .ok (.ireturn, 1) := by decide +kernel
theorem dX5_advance_0 : decode cX5_advance 0 = .ok (.aload_n 0, 1) := by decide +kernel
theorem dX5_advance_1 : decode cX5_advance 1 = .ok (.aload_n 0, 1) := by decide +kernel
theorem dX5_advance_2 : decode cX5_advance 2 = .ok (.getfield 25, 3) := by decide +kernel
theorem dX5_advance_5 : decode cX5_advance 5 = .ok (.putfield 22, 3) := by decide +kernel
theorem dX5_advance_8 : decode cX5_advance 8 = .ok (.aload_n 0, 1) := by decide +kernel
theorem dX5_advance_9 : decode cX5_advance 9 = .ok (.getfield 22, 3) := by decide +kernel
theorem dX5_advance_12 : decode cX5_advance 12 = .ok (.aload_n 0, 1) := by decide +kernel
theorem dX5_advance_13 : decode cX5_advance 13 = .ok (.getfield 15, 3) := by decide +kernel
theorem dX5_advance_16 : decode cX5_advance 16 = .ok (.if_icmp .ge 30, 3) := by decide +kernel
theorem dX5_advance_46 : decode cX5_advance 46 = .ok (.aload_n 0, 1) := by decide +kernel
theorem dX5_advance_47 : decode cX5_advance 47 = .ok (.aload_n 0, 1) := by decide +kernel
theorem dX5_advance_48 : decode cX5_advance 48 = .ok (.getfield 22, 3) := by decide +kernel
theorem dX5_advance_51 : decode cX5_advance 51 = .ok (.putfield 25, 3) := by decide +kernel
theorem dX5_advance_54 : decode cX5_advance 54 = .ok (.aload_n 0, 1) := by decide +kernel
theorem dX5_advance_55 : decode cX5_advance 55 = .ok (.getfield 22, 3) := by decide +kernel
theorem dX5_advance_58 : decode cX5_advance 58 = .ok (.aload_n 0, 1) := by decide +kernel
theorem dX5_advance_59 : decode cX5_advance 59 = .ok (.getfield 15, 3) := by decide +kernel
theorem dX5_advance_62 : decode cX5_advance 62 = .ok (.if_icmp .lt 12, 3) := by decide +kernel
theorem dX5_advance_65 : decode cX5_advance 65 = .ok (.aload_n 0, 1) := by decide +kernel
theorem dX5_advance_66 : decode cX5_advance 66 = .ok (.bipush 17, 2) := by decide +kernel
theorem dX5_advance_68 : decode cX5_advance 68 = .ok (.putfield 19, 3) := by decide +kernel
theorem dX5_advance_71 : decode cX5_advance 71 = .ok (.goto 192, 3) := by decide +kernel
theorem dX5_advance_263 : decode cX5_advance 263 = .ok (.return_, 1) := by decide +kernel
theorem dX5_advance_19 : decode cX5_advance 19 = .ok (.aload_n 0, 1) := by decide +kernel
theorem dX5_advance_20 : decode cX5_advance 20 = .ok (.getfield 11, 3) := by decide +kernel
theorem dX5_advance_23 : decode cX5_advance 23 = .ok (.aload_n 0, 1) := by decide +kernel
theorem dX5_advance_24 : decode cX5_advance 24 = .ok (.getfield 22, 3) := by decide +kernel
theorem dX5_advance_27 : decode cX5_advance 27 = .ok (.iaload, 1) := by decide +kernel
theorem dX5_advance_28 : decode cX5_advance 28 = .ok (.bipush 32, 2) := by decide +kernel
theorem dX5_advance_30 : decode cX5_advance 30 = .ok (.if_icmp .ne 16, 3) := by decide +kernel
theorem dX5_advance_74 : decode cX5_advance 74 = .ok (.aload_n 0, 1) := by decide +kernel
theorem dX5_advance_75 : decode cX5_advance 75 = .ok (.getfield 11, 3) := by decide +kernel
theorem dX5_advance_78 : decode cX5_advance 78 = .ok (.aload_n 0, 1) := by decide +kernel
theorem dX5_advance_79 : decode cX5_advance 79 = .ok (.getfield 22, 3) := by decide +kernel
theorem dX5_advance_82 : decode cX5_advance 82 = .ok (.iaload, 1) := by decide +kernel
theorem dX5_advance_83 : decode cX5_advance 83 = .ok (.invokestatic 98, 3) := by decide +kernel
theorem dX5_advance_86 : decode cX5_advance 86 = .ok (.ifCond .eq 53, 3) := by decide +kernel
theorem dX5_advance_89 : decode cX5_advance 89 = .ok (.aload_n 0, 1) := by decide +kernel
theorem dX5_advance_90 : decode cX5_advance 90 = .ok (.getfield 25, 3) := by decide +kernel
theorem dX5_advance_93 : decode cX5_advance 93 = .ok (.aload_n 0, 1) := by decide +kernel
theorem dX5_advance_94 : decode cX5_advance 94 = .ok (.getfield 15, 3) := by decide +kernel
theorem dX5_advance_97 : decode cX5_advance 97 = .ok (.if_icmp .ge 31, 3) := by decide +kernel
theorem dX5_advance_128 : decode cX5_advance 128 = .ok (.aload_n 0, 1) := by decide +kernel
theorem dX5_advance_129 : decode cX5_advance 129 = .ok (.aload_n 0, 1) := by decide +kernel
theorem dX5_advance_130 : decode cX5_advance 130 = .ok (.invokevirtual 101, 3) := by decide +kernel
theorem dX5_advance_133 : decode cX5_advance 133 = .ok (.putfield 19, 3) := by decide +kernel
theorem dX5_advance_136 : decode cX5_advance 136 = .ok (.goto 127, 3) := by decide +kernel
theorem dX5_advance_100 : decode cX5_advance 100 = .ok (.aload_n 0, 1) := by decide +kernel
theorem dX5_advance_101 : decode cX5_advance 101 = .ok (.getfield 11, 3) := by decide +kernel
theorem dX5_advance_104 : decode cX5_advance 104 = .ok (.aload_n 0, 1) := by decide +kernel
theorem dX5_advance_105 : decode cX5_advance 105 = .ok (.getfield 25, 3) := by decide +kernel
theorem dX5_advance_108 : decode cX5_advance 108 = .ok (.iaload, 1) := by decide +kernel
theorem dX5_advance_109 : decode cX5_advance 109 = .ok (.invokestatic 98, 3) := by decide +kernel
theorem dX5_advance_112 : decode cX5_advance 112 = .ok (.ifCond .eq 16, 3) := by decide +kernel
theorem dX5_advance_115 : decode cX5_advance 115 = .ok (.aload_n 0, 1) := by decide +kernel
theorem dX5_advance_116 : decode cX5_advance 116 = .ok (.dup, 1) := by decide +kernel
theorem dX5_advance_117 : decode cX5_advance 117 = .ok (.getfield 25, 3) := by decide +kernel
theorem dX5_advance_120 : decode cX5_advance 120 = .ok (.iconst 1, 1) := by decide +kernel
theorem dX5_advance_121 : decode cX5_advance 121 = .ok (.iadd, 1) := by decide +kernel
theorem dX5_advance_122 : decode cX5_advance 122 = .ok (.putfield 25, 3) := by decide +kernel
theorem dX5_advance_125 : decode cX5_advance 125 = .ok (.goto (-36), 3) := by decide +kernel
theorem dX5_advance_139 : decode cX5_advance 139 = .ok (.aload_n 0, 1) := by decide +kernel
theorem dX5_advance_140 : decode cX5_advance 140 = .ok (.getfield 11, 3) := by decide +kernel
theorem dX5_advance_143 : decode cX5_advance 143 = .ok (.aload_n 0, 1) := by decide +kernel
theorem dX5_advance_144 : decode cX5_advance 144 = .ok (.getfield 22, 3) := by decide +kernel
theorem dX5_advance_147 : decode cX5_advance 147 = .ok (.iaload, 1) := by decide +kernel
theorem dX5_advance_148 : decode cX5_advance 148 = .ok (.invokestatic 105, 3) := by decide +kernel
theorem dX5_advance_151 : decode cX5_advance 151 = .ok (.ifCond .eq 86, 3) := by decide +kernel
theorem dX5_advance_154 : decode cX5_advance 154 = .ok (.aload_n 0, 1) := by decide +kernel
theorem dX5_advance_155 : decode cX5_advance 155 = .ok (.iconst 0, 1) := by decide +kernel
theorem dX5_advance_156 : decode cX5_advance 156 = .ok (.putfield 28, 3) := by decide +kernel
theorem dX5_advance_159 : decode cX5_advance 159 = .ok (.aload_n 0, 1) := by decide +kernel
theorem dX5_advance_160 : decode cX5_advance 160 = .ok (.getfield 25, 3) := by decide +kernel
theorem dX5_advance_163 : decode cX5_advance 163 = .ok (.aload_n 0, 1) := by decide +kernel
theorem dX5_advance_164 : decode cX5_advance 164 = .ok (.getfield 15, 3) := by decide +kernel
theorem dX5_advance_167 : decode cX5_advance 167 = .ok (.if_icmp .ge 61, 3) := by decide +kernel
theorem dX5_advance_228 : decode cX5_advance 228 = .ok (.aload_n 0, 1) := by decide +kernel
theorem dX5_advance_229 : decode cX5_advance 229 = .ok (.bipush 16, 2) := by decide +kernel
theorem dX5_advance_231 : decode cX5_advance 231 = .ok (.putfield 19, 3) := by decide +kernel
theorem dX5_advance_234 : decode cX5_advance 234 = .ok (.goto 29, 3) := by decide +kernel
theorem dX5_advance_170 : decode cX5_advance 170 = .ok (.aload_n 0, 1) := by decide +kernel
theorem dX5_advance_171 : decode cX5_advance 171 = .ok (.getfield 11, 3) := by decide +kernel
theorem dX5_advance_174 : decode cX5_advance 174 = .ok (.aload_n 0, 1) := by decide +kernel
theorem dX5_advance_175 : decode cX5_advance 175 = .ok (.getfield 25, 3) := by decide +kernel
theorem dX5_advance_178 : decode cX5_advance 178 = .ok (.iaload, 1) := by decide +kernel
theorem dX5_advance_179 : decode cX5_advance 179 = .ok (.invokestatic 105, 3) := by decide +kernel
theorem dX5_advance_182 : decode cX5_advance 182 = .ok (.ifCond .eq 46, 3) := by decide +kernel
theorem dX5_advance_185 : decode cX5_advance 185 = .ok (.aload_n 0, 1) := by decide +kernel
theorem dX5_advance_186 : decode cX5_advance 186 = .ok (.sipush 1001, 3) := by decide +kernel
theorem dX5_advance_189 : decode cX5_advance 189 = .ok (.aload_n 0, 1) := by decide +kernel
theorem dX5_advance_190 : decode cX5_advance 190 = .ok (.getfield 28, 3) := by decide +kernel
theorem dX5_advance_193 : decode cX5_advance 193 = .ok (.bipush 10, 2) := by decide +kernel
theorem dX5_advance_195 : decode cX5_advance 195 = .ok (.imul, 1) := by decide +kernel
theorem dX5_advance_196 : decode cX5_advance 196 = .ok (.aload_n 0, 1) := by decide +kernel
theorem dX5_advance_197 : decode cX5_advance 197 = .ok (.getfield 11, 3) := by decide +kernel
theorem dX5_advance_200 : decode cX5_advance 200 = .ok (.aload_n 0, 1) := by decide +kernel
theorem dX5_advance_201 : decode cX5_advance 201 = .ok (.getfield 25, 3) := by decide +kernel
theorem dX5_advance_204 : decode cX5_advance 204 = .ok (.iaload, 1) := by decide +kernel
theorem dX5_advance_205 : decode cX5_advance 205 = .ok (.iadd, 1) := by decide +kernel
theorem dX5_advance_206 : decode cX5_advance 206 = .ok (.bipush 48, 2) := by decide +kernel
theorem dX5_advance_208 : decode cX5_advance 208 = .ok (.isub, 1) := by decide +kernel
theorem dX5_advance_209 : decode cX5_advance 209 = .ok (.invokestatic 108, 3) := by decide +kernel
theorem dX5_advance_212 : decode cX5_advance 212 = .ok (.putfield 28, 3) := by decide +kernel
theorem dX5_advance_215 : decode cX5_advance 215 = .ok (.aload_n 0, 1) := by decide +kernel
theorem dX5_advance_216 : decode cX5_advance 216 = .ok (.dup, 1) := by decide +kernel
theorem dX5_advance_217 : decode cX5_advance 217 = .ok (.getfield 25, 3) := by decide +kernel
theorem dX5_advance_220 : decode cX5_advance 220 = .ok (.iconst 1, 1) := by decide +kernel
theorem dX5_advance_221 : decode cX5_advance 221 = .ok (.iadd, 1) := by decide +kernel
theorem dX5_advance_222 : decode cX5_advance 222 = .ok (.putfield 25, 3) := by decide +kernel
theorem dX5_advance_225 : decode cX5_advance 225 = .ok (.goto (-66), 3) := by decide +kernel
theorem dX5_advance_237 : decode cX5_advance 237 = .ok (.aload_n 0, 1) := by decide +kernel
theorem dX5_advance_238 : decode cX5_advance 238 = .ok (.bipush 100, 2) := by decide +kernel
theorem dX5_advance_240 : decode cX5_advance 240 = .ok (.aload_n 0, 1) := by decide +kernel
theorem dX5_advance_241 : decode cX5_advance 241 = .ok (.getfield 11, 3) := by decide +kernel
theorem dX5_advance_244 : decode cX5_advance 244 = .ok (.aload_n 0, 1) := by decide +kernel
theorem dX5_advance_245 : decode cX5_advance 245 = .ok (.getfield 22, 3) := by decide +kernel
theorem dX5_advance_248 : decode cX5_advance 248 = .ok (.iaload, 1) := by decide +kernel
theorem dX5_advance_249 : decode cX5_advance 249 = .ok (.iadd, 1) := by decide +kernel
theorem dX5_advance_250 : decode cX5_advance 250 = .ok (.putfield 19, 3) := by decide +kernel
theorem dX5_advance_253 : decode cX5_advance 253 = .ok (.aload_n 0, 1) := by decide +kernel
theorem dX5_advance_254 : decode cX5_advance 254 = .ok (.dup, 1) := by decide +kernel
theorem dX5_advance_255 : decode cX5_advance 255 = .ok (.getfield 25, 3) := by decide +kernel
theorem dX5_advance_258 : decode cX5_advance 258 = .ok (.iconst 1, 1) := by decide +kernel
theorem dX5_advance_259 : decode cX5_advance 259 = .ok (.iadd, 1) := by decide +kernel
theorem dX5_advance_260 : decode cX5_advance 260 = .ok (.putfield 25, 3) := by decide +kernel
theorem dX5_advance_33 : decode cX5_advance 33 = .ok (.aload_n 0, 1) := by decide +kernel
theorem dX5_advance_34 : decode cX5_advance 34 = .ok (.dup, 1) := by decide +kernel
theorem dX5_advance_35 : decode cX5_advance 35 = .ok (.getfield 22, 3) := by decide +kernel
theorem dX5_advance_38 : decode cX5_advance 38 = .ok (.iconst 1, 1) := by decide +kernel
theorem dX5_advance_39 : decode cX5_advance 39 = .ok (.iadd, 1) := by decide +kernel
theorem dX5_advance_40 : decode cX5_advance 40 = .ok (.putfield 22, 3) := by decide +kernel
theorem dX5_advance_43 : decode cX5_advance 43 = .ok (.goto (-35), 3) := by decide +kernel
theorem dX5_bracketedSum_0 : decode cX5_bracketedSum 0 = .ok (.iload_n 1, 1) := by decide +kernel
theorem dX5_bracketedSum_1 : decode cX5_bracketedSum 1 = .ok (.bipush 8, 2) := by decide +kernel
theorem dX5_bracketedSum_3 : decode cX5_bracketedSum 3 = .ok (.if_icmp .lt 8, 3) := by decide +kernel
theorem dX5_bracketedSum_6 : decode cX5_bracketedSum 6 = .ok (.aload_n 0, 1) := by decide +kernel
theorem dX5_bracketedSum_7 : decode cX5_bracketedSum 7 = .ok (.invokevirtual 54, 3) := by decide +kernel
theorem dX5_bracketedSum_10 : decode cX5_bracketedSum 10 = .ok (.ireturn, 1) := by decide +kernel
theorem dX5_part_0 : decode cX5_part 0 = .ok (.aload_n 0, 1) := by decide +kernel
theorem dX5_part_1 : decode cX5_part 1 = .ok (.bipush 91, 2) := by decide +kernel
theorem dX5_part_3 : decode cX5_part 3 = .ok (.invokevirtual 50, 3) := by decide +kernel
theorem dX5_part_6 : decode cX5_part 6 = .ok (.ifCond .eq 9, 3) := by decide +kernel
theorem dX5_part_9 : decode cX5_part 9 = .ok (.aload_n 0, 1) := by decide +kernel
theorem dX5_part_10 : decode cX5_part 10 = .ok (.iload_n 1, 1) := by decide +kernel
theorem dX5_part_11 : decode cX5_part 11 = .ok (.invokevirtual 95, 3) := by decide +kernel
theorem dX5_part_14 : decode cX5_part 14 = .ok (.ireturn, 1) := by decide +kernel
theorem dX5_part_15 : decode cX5_part 15 = .ok (.aload_n 0, 1) := by decide +kernel
theorem dX5_part_16 : decode cX5_part 16 = .ok (.getfield 19, 3) := by decide +kernel
theorem dX5_part_19 : decode cX5_part 19 = .ok (.bipush 16, 2) := by decide +kernel
theorem dX5_part_21 : decode cX5_part 21 = .ok (.if_icmp .ne 17, 3) := by decide +kernel
theorem dX5_part_38 : decode cX5_part 38 = .ok (.iconst 0, 1) := by decide +kernel
theorem dX5_part_39 : decode cX5_part 39 = .ok (.istore_n 2, 1) := by decide +kernel
theorem dX5_part_40 : decode cX5_part 40 = .ok (.aload_n 0, 1) := by decide +kernel
theorem dX5_part_41 : decode cX5_part 41 = .ok (.getfield 19, 3) := by decide +kernel
theorem dX5_part_44 : decode cX5_part 44 = .ok (.bipush 7, 2) := by decide +kernel
theorem dX5_part_46 : decode cX5_part 46 = .ok (.if_icmp .lt 16, 3) := by decide +kernel
theorem dX5_part_62 : decode cX5_part 62 = .ok (.iconst 0, 1) := by decide +kernel
theorem dX5_part_63 : decode cX5_part 63 = .ok (.istore_n 3, 1) := by decide +kernel
theorem dX5_part_64 : decode cX5_part 64 = .ok (.iload_n 2, 1) := by decide +kernel
theorem dX5_part_65 : decode cX5_part 65 = .ok (.ifCond .ne 7, 3) := by decide +kernel
theorem dX5_part_68 : decode cX5_part 68 = .ok (.iload_n 3, 1) := by decide +kernel
theorem dX5_part_69 : decode cX5_part 69 = .ok (.ifCond .eq 12, 3) := by decide +kernel
theorem dX5_part_81 : decode cX5_part 81 = .ok (.aload_n 0, 1) := by decide +kernel
theorem dX5_part_82 : decode cX5_part 82 = .ok (.invokevirtual 54, 3) := by decide +kernel
theorem dX5_part_85 : decode cX5_part 85 = .ok (.ireturn, 1) := by decide +kernel
theorem dX5_part_49 : decode cX5_part 49 = .ok (.aload_n 0, 1) := by decide +kernel
theorem dX5_part_50 : decode cX5_part 50 = .ok (.getfield 19, 3) := by decide +kernel
theorem dX5_part_53 : decode cX5_part 53 = .ok (.bipush 14, 2) := by decide +kernel
theorem dX5_part_55 : decode cX5_part 55 = .ok (.if_icmp .gt 7, 3) := by decide +kernel
theorem dX5_part_58 : decode cX5_part 58 = .ok (.iconst 1, 1) := by decide +kernel
theorem dX5_part_59 : decode cX5_part 59 = .ok (.goto 4, 3) := by decide +kernel
theorem dX5_part_72 : decode cX5_part 72 = .ok (.aload_n 0, 1) := by decide +kernel
theorem dX5_part_73 : decode cX5_part 73 = .ok (.getfield 31, 3) := by decide +kernel
theorem dX5_part_76 : decode cX5_part 76 = .ok (.bipush 50, 2) := by decide +kernel
theorem dX5_part_78 : decode cX5_part 78 = .ok (.if_icmp .lt 8, 3) := by decide +kernel
theorem dX5_part_86 : decode cX5_part 86 = .ok (.aload_n 0, 1) := by decide +kernel
theorem dX5_part_87 : decode cX5_part 87 = .ok (.dup, 1) := by decide +kernel
theorem dX5_part_88 : decode cX5_part 88 = .ok (.getfield 31, 3) := by decide +kernel
theorem dX5_part_91 : decode cX5_part 91 = .ok (.iconst 1, 1) := by decide +kernel
theorem dX5_part_92 : decode cX5_part 92 = .ok (.iadd, 1) := by decide +kernel
theorem dX5_part_93 : decode cX5_part 93 = .ok (.putfield 31, 3) := by decide +kernel
theorem dX5_part_96 : decode cX5_part 96 = .ok (.iload_n 2, 1) := by decide +kernel
theorem dX5_part_97 : decode cX5_part 97 = .ok (.ifCond .eq 16, 3) := by decide +kernel
theorem dX5_part_113 : decode cX5_part 113 = .ok (.aload_n 0, 1) := by decide +kernel
theorem dX5_part_114 : decode cX5_part 114 = .ok (.iconst 1, 1) := by decide +kernel
theorem dX5_part_115 : decode cX5_part 115 = .ok (.aload_n 0, 1) := by decide +kernel
theorem dX5_part_116 : decode cX5_part 116 = .ok (.getfield 19, 3) := by decide +kernel
theorem dX5_part_119 : decode cX5_part 119 = .ok (.bipush 7, 2) := by decide +kernel
theorem dX5_part_121 : decode cX5_part 121 = .ok (.isub, 1) := by decide +kernel
theorem dX5_part_122 : decode cX5_part 122 = .ok (.invokevirtual 72, 3) := by decide +kernel
theorem dX5_part_125 : decode cX5_part 125 = .ok (.pop, 1) := by decide +kernel
theorem dX5_part_126 : decode cX5_part 126 = .ok (.aload_n 0, 1) := by decide +kernel
theorem dX5_part_127 : decode cX5_part 127 = .ok (.invokevirtual 43, 3) := by decide +kernel
theorem dX5_part_130 : decode cX5_part 130 = .ok (.iconst 1, 1) := by decide +kernel
theorem dX5_part_131 : decode cX5_part 131 = .ok (.ireturn, 1) := by decide +kernel
theorem dX5_part_24 : decode cX5_part 24 = .ok (.aload_n 0, 1) := by decide +kernel
theorem dX5_part_25 : decode cX5_part 25 = .ok (.getfield 28, 3) := by decide +kernel
theorem dX5_part_28 : decode cX5_part 28 = .ok (.sipush 1000, 3) := by decide +kernel
theorem dX5_part_31 : decode cX5_part 31 = .ok (.if_icmp .gt 7, 3) := by decide +kernel
theorem dX5_part_34 : decode cX5_part 34 = .ok (.iconst 1, 1) := by decide +kernel
theorem dX5_part_35 : decode cX5_part 35 = .ok (.goto 4, 3) := by decide +kernel
theorem dX5_part_100 : decode cX5_part 100 = .ok (.aload_n 0, 1) := by decide +kernel
theorem dX5_part_101 : decode cX5_part 101 = .ok (.iconst 0, 1) := by decide +kernel
theorem dX5_part_102 : decode cX5_part 102 = .ok (.aload_n 0, 1) := by decide +kernel
theorem dX5_part_103 : decode cX5_part 103 = .ok (.getfield 28, 3) := by decide +kernel
theorem dX5_part_106 : decode cX5_part 106 = .ok (.invokevirtual 72, 3) := by decide +kernel
theorem dX5_part_109 : decode cX5_part 109 = .ok (.pop, 1) := by decide +kernel
theorem dX5_part_110 : decode cX5_part 110 = .ok (.goto 16, 3) := by decide +kernel
theorem dX5_term_0 : decode cX5_term 0 = .ok (.aload_n 0, 1) := by decide +kernel
theorem dX5_term_1 : decode cX5_term 1 = .ok (.iload_n 1, 1) := by decide +kernel
theorem dX5_term_2 : decode cX5_term 2 = .ok (.invokevirtual 92, 3) := by decide +kernel
theorem dX5_term_5 : decode cX5_term 5 = .ok (.ifCond .ne 5, 3) := by decide +kernel
theorem dX5_term_10 : decode cX5_term 10 = .ok (.iconst 0, 1) := by decide +kernel
theorem dX5_term_11 : decode cX5_term 11 = .ok (.istore_n 2, 1) := by decide +kernel
theorem dX5_term_12 : decode cX5_term 12 = .ok (.iload_n 2, 1) := by decide +kernel
theorem dX5_term_13 : decode cX5_term 13 = .ok (.sipush 400, 3) := by decide +kernel
theorem dX5_term_16 : decode cX5_term 16 = .ok (.if_icmp .ge 63, 3) := by decide +kernel
theorem dX5_term_79 : decode cX5_term 79 = .ok (.iconst 1, 1) := by decide +kernel
theorem dX5_term_80 : decode cX5_term 80 = .ok (.ireturn, 1) := by decide +kernel
theorem dX5_term_19 : decode cX5_term 19 = .ok (.aload_n 0, 1) := by decide +kernel
theorem dX5_term_20 : decode cX5_term 20 = .ok (.bipush 42, 2) := by decide +kernel
theorem dX5_term_22 : decode cX5_term 22 = .ok (.invokevirtual 50, 3) := by decide +kernel
theorem dX5_term_25 : decode cX5_term 25 = .ok (.ifCond .ne 12, 3) := by decide +kernel
theorem dX5_term_37 : decode cX5_term 37 = .ok (.aload_n 0, 1) := by decide +kernel
theorem dX5_term_38 : decode cX5_term 38 = .ok (.bipush 42, 2) := by decide +kernel
theorem dX5_term_40 : decode cX5_term 40 = .ok (.invokevirtual 50, 3) := by decide +kernel
theorem dX5_term_43 : decode cX5_term 43 = .ok (.ifCond .eq 7, 3) := by decide +kernel
theorem dX5_term_46 : decode cX5_term 46 = .ok (.iconst 4, 1) := by decide +kernel
theorem dX5_term_47 : decode cX5_term 47 = .ok (.goto 4, 3) := by decide +kernel
theorem dX5_term_51 : decode cX5_term 51 = .ok (.istore_n 3, 1) := by decide +kernel
theorem dX5_term_52 : decode cX5_term 52 = .ok (.aload_n 0, 1) := by decide +kernel
theorem dX5_term_53 : decode cX5_term 53 = .ok (.invokevirtual 43, 3) := by decide +kernel
theorem dX5_term_56 : decode cX5_term 56 = .ok (.aload_n 0, 1) := by decide +kernel
theorem dX5_term_57 : decode cX5_term 57 = .ok (.iload_n 1, 1) := by decide +kernel
theorem dX5_term_58 : decode cX5_term 58 = .ok (.invokevirtual 92, 3) := by decide +kernel
theorem dX5_term_61 : decode cX5_term 61 = .ok (.ifCond .ne 5, 3) := by decide +kernel
theorem dX5_term_66 : decode cX5_term 66 = .ok (.aload_n 0, 1) := by decide +kernel
theorem dX5_term_67 : decode cX5_term 67 = .ok (.iload_n 3, 1) := by decide +kernel
theorem dX5_term_68 : decode cX5_term 68 = .ok (.iconst 0, 1) := by decide +kernel
theorem dX5_term_69 : decode cX5_term 69 = .ok (.invokevirtual 72, 3) := by decide +kernel
theorem dX5_term_72 : decode cX5_term 72 = .ok (.pop, 1) := by decide +kernel
theorem dX5_term_73 : decode cX5_term 73 = .ok (.iinc 2 1, 3) := by decide +kernel
theorem dX5_term_76 : decode cX5_term 76 = .ok (.goto (-64), 3) := by decide +kernel
theorem dX5_term_64 : decode cX5_term 64 = .ok (.iconst 0, 1) := by decide +kernel
theorem dX5_term_65 : decode cX5_term 65 = .ok (.ireturn, 1) := by decide +kernel
theorem dX5_term_28 : decode cX5_term 28 = .ok (.aload_n 0, 1) := by decide +kernel
theorem dX5_term_29 : decode cX5_term 29 = .ok (.bipush 47, 2) := by decide +kernel
theorem dX5_term_31 : decode cX5_term 31 = .ok (.invokevirtual 50, 3) := by decide +kernel
theorem dX5_term_34 : decode cX5_term 34 = .ok (.ifCond .eq 45, 3) := by decide +kernel
theorem dX5_term_50 : decode cX5_term 50 = .ok (.iconst 5, 1) := by decide +kernel
theorem dX5_term_8 : decode cX5_term 8 = .ok (.iconst 0, 1) := by decide +kernel
theorem dX5_term_9 : decode cX5_term 9 = .ok (.ireturn, 1) := by decide +kernel
theorem dX5_sum_0 : decode cX5_sum 0 = .ok (.aload_n 0, 1) := by decide +kernel
theorem dX5_sum_1 : decode cX5_sum 1 = .ok (.iload_n 1, 1) := by decide +kernel
theorem dX5_sum_2 : decode cX5_sum 2 = .ok (.invokevirtual 89, 3) := by decide +kernel
theorem dX5_sum_5 : decode cX5_sum 5 = .ok (.ifCond .ne 5, 3) := by decide +kernel
theorem dX5_sum_10 : decode cX5_sum 10 = .ok (.iconst 0, 1) := by decide +kernel
theorem dX5_sum_11 : decode cX5_sum 11 = .ok (.istore_n 2, 1) := by decide +kernel
theorem dX5_sum_12 : decode cX5_sum 12 = .ok (.iload_n 2, 1) := by decide +kernel
theorem dX5_sum_13 : decode cX5_sum 13 = .ok (.sipush 400, 3) := by decide +kernel
theorem dX5_sum_16 : decode cX5_sum 16 = .ok (.if_icmp .ge 63, 3) := by decide +kernel
theorem dX5_sum_79 : decode cX5_sum 79 = .ok (.iconst 1, 1) := by decide +kernel
theorem dX5_sum_80 : decode cX5_sum 80 = .ok (.ireturn, 1) := by decide +kernel
theorem dX5_sum_19 : decode cX5_sum 19 = .ok (.aload_n 0, 1) := by decide +kernel
theorem dX5_sum_20 : decode cX5_sum 20 = .ok (.bipush 43, 2) := by decide +kernel
theorem dX5_sum_22 : decode cX5_sum 22 = .ok (.invokevirtual 50, 3) := by decide +kernel
theorem dX5_sum_25 : decode cX5_sum 25 = .ok (.ifCond .ne 12, 3) := by decide +kernel
theorem dX5_sum_37 : decode cX5_sum 37 = .ok (.aload_n 0, 1) := by decide +kernel
theorem dX5_sum_38 : decode cX5_sum 38 = .ok (.bipush 43, 2) := by decide +kernel
theorem dX5_sum_40 : decode cX5_sum 40 = .ok (.invokevirtual 50, 3) := by decide +kernel
theorem dX5_sum_43 : decode cX5_sum 43 = .ok (.ifCond .eq 7, 3) := by decide +kernel
theorem dX5_sum_46 : decode cX5_sum 46 = .ok (.iconst 2, 1) := by decide +kernel
theorem dX5_sum_47 : decode cX5_sum 47 = .ok (.goto 4, 3) := by decide +kernel
theorem dX5_sum_51 : decode cX5_sum 51 = .ok (.istore_n 3, 1) := by decide +kernel
theorem dX5_sum_52 : decode cX5_sum 52 = .ok (.aload_n 0, 1) := by decide +kernel
theorem dX5_sum_53 : decode cX5_sum 53 = .ok (.invokevirtual 43, 3) := by decide +kernel
theorem dX5_sum_56 : decode cX5_sum 56 = .ok (.aload_n 0, 1) := by decide +kernel
theorem dX5_sum_57 : decode cX5_sum 57 = .ok (.iload_n 1, 1) := by decide +kernel
theorem dX5_sum_58 : decode cX5_sum 58 = .ok (.invokevirtual 89, 3) := by decide +kernel
theorem dX5_sum_61 : decode cX5_sum 61 = .ok (.ifCond .ne 5, 3) := by decide +kernel
theorem dX5_sum_66 : decode cX5_sum 66 = .ok (.aload_n 0, 1) := by decide +kernel
theorem dX5_sum_67 : decode cX5_sum 67 = .ok (.iload_n 3, 1) := by decide +kernel
theorem dX5_sum_68 : decode cX5_sum 68 = .ok (.iconst 0, 1) := by decide +kernel
theorem dX5_sum_69 : decode cX5_sum 69 = .ok (.invokevirtual 72, 3) := by decide +kernel
theorem dX5_sum_72 : decode cX5_sum 72 = .ok (.pop, 1) := by decide +kernel
theorem dX5_sum_73 : decode cX5_sum 73 = .ok (.iinc 2 1, 3) := by decide +kernel
theorem dX5_sum_76 : decode cX5_sum 76 = .ok (.goto (-64), 3) := by decide +kernel
theorem dX5_sum_64 : decode cX5_sum 64 = .ok (.iconst 0, 1) := by decide +kernel
theorem dX5_sum_65 : decode cX5_sum 65 = .ok (.ireturn, 1) := by decide +kernel
theorem dX5_sum_28 : decode cX5_sum 28 = .ok (.aload_n 0, 1) := by decide +kernel
theorem dX5_sum_29 : decode cX5_sum 29 = .ok (.bipush 45, 2) := by decide +kernel
theorem dX5_sum_31 : decode cX5_sum 31 = .ok (.invokevirtual 50, 3) := by decide +kernel
theorem dX5_sum_34 : decode cX5_sum 34 = .ok (.ifCond .eq 45, 3) := by decide +kernel
theorem dX5_sum_50 : decode cX5_sum 50 = .ok (.iconst 3, 1) := by decide +kernel
theorem dX5_sum_8 : decode cX5_sum 8 = .ok (.iconst 0, 1) := by decide +kernel
theorem dX5_sum_9 : decode cX5_sum 9 = .ok (.ireturn, 1) := by decide +kernel
theorem dX5_bracketedTest_0 : decode cX5_bracketedTest 0 = .ok (.iload_n 1, 1) := by decide +kernel
theorem dX5_bracketedTest_1 : decode cX5_bracketedTest 1 = .ok (.bipush 8, 2) := by decide +kernel
theorem dX5_bracketedTest_3 : decode cX5_bracketedTest 3 = .ok (.if_icmp .lt 8, 3) := by decide +kernel
theorem dX5_bracketedTest_6 : decode cX5_bracketedTest 6 = .ok (.aload_n 0, 1) := by decide +kernel
theorem dX5_bracketedTest_7 : decode cX5_bracketedTest 7 = .ok (.invokevirtual 54, 3) := by decide +kernel
theorem dX5_bracketedTest_10 : decode cX5_bracketedTest 10 = .ok (.ireturn, 1) := by decide +kernel
theorem dX5_plain_0 : decode cX5_plain 0 = .ok (.iconst 0, 1) := by decide +kernel
theorem dX5_plain_1 : decode cX5_plain 1 = .ok (.istore_n 2, 1) := by decide +kernel
theorem dX5_plain_2 : decode cX5_plain 2 = .ok (.iconst 0, 1) := by decide +kernel
theorem dX5_plain_3 : decode cX5_plain 3 = .ok (.istore_n 3, 1) := by decide +kernel
theorem dX5_plain_4 : decode cX5_plain 4 = .ok (.iload_n 3, 1) := by decide +kernel
theorem dX5_plain_5 : decode cX5_plain 5 = .ok (.sipush 400, 3) := by decide +kernel
theorem dX5_plain_8 : decode cX5_plain 8 = .ok (.if_icmp .ge 32, 3) := by decide +kernel
theorem dX5_plain_40 : decode cX5_plain 40 = .ok (.aload_n 0, 1) := by decide +kernel
theorem dX5_plain_41 : decode cX5_plain 41 = .ok (.bipush 40, 2) := by decide +kernel
theorem dX5_plain_43 : decode cX5_plain 43 = .ok (.invokevirtual 50, 3) := by decide +kernel
theorem dX5_plain_46 : decode cX5_plain 46 = .ok (.ifCond .eq 13, 3) := by decide +kernel
theorem dX5_plain_59 : decode cX5_plain 59 = .ok (.aload_n 0, 1) := by decide +kernel
theorem dX5_plain_60 : decode cX5_plain 60 = .ok (.iload_n 1, 1) := by decide +kernel
theorem dX5_plain_61 : decode cX5_plain 61 = .ok (.invokevirtual 63, 3) := by decide +kernel
theorem dX5_plain_64 : decode cX5_plain 64 = .ok (.ifCond .ne 5, 3) := by decide +kernel
theorem dX5_plain_69 : decode cX5_plain 69 = .ok (.aload_n 0, 1) := by decide +kernel
theorem dX5_plain_70 : decode cX5_plain 70 = .ok (.bipush 60, 2) := by decide +kernel
theorem dX5_plain_72 : decode cX5_plain 72 = .ok (.invokevirtual 50, 3) := by decide +kernel
theorem dX5_plain_75 : decode cX5_plain 75 = .ok (.ifCond .eq 8, 3) := by decide +kernel
theorem dX5_plain_78 : decode cX5_plain 78 = .ok (.bipush 6, 2) := by decide +kernel
theorem dX5_plain_80 : decode cX5_plain 80 = .ok (.goto 19, 3) := by decide +kernel
theorem dX5_plain_99 : decode cX5_plain 99 = .ok (.istore_n 3, 1) := by decide +kernel
theorem dX5_plain_100 : decode cX5_plain 100 = .ok (.iload_n 3, 1) := by decide +kernel
theorem dX5_plain_101 : decode cX5_plain 101 = .ok (.bipush 8, 2) := by decide +kernel
theorem dX5_plain_103 : decode cX5_plain 103 = .ok (.if_icmp .ne 17, 3) := by decide +kernel
theorem dX5_plain_120 : decode cX5_plain 120 = .ok (.aload_n 0, 1) := by decide +kernel
theorem dX5_plain_121 : decode cX5_plain 121 = .ok (.invokevirtual 43, 3) := by decide +kernel
theorem dX5_plain_124 : decode cX5_plain 124 = .ok (.aload_n 0, 1) := by decide +kernel
theorem dX5_plain_125 : decode cX5_plain 125 = .ok (.iload_n 1, 1) := by decide +kernel
theorem dX5_plain_126 : decode cX5_plain 126 = .ok (.invokevirtual 63, 3) := by decide +kernel
theorem dX5_plain_83 : decode cX5_plain 83 = .ok (.aload_n 0, 1) := by decide +kernel
theorem dX5_plain_84 : decode cX5_plain 84 = .ok (.bipush 62, 2) := by decide +kernel
theorem dX5_plain_86 : decode cX5_plain 86 = .ok (.invokevirtual 50, 3) := by decide +kernel
theorem dX5_plain_89 : decode cX5_plain 89 = .ok (.ifCond .eq 8, 3) := by decide +kernel
theorem dX5_plain_92 : decode cX5_plain 92 = .ok (.bipush 7, 2) := by decide +kernel
theorem dX5_plain_94 : decode cX5_plain 94 = .ok (.goto 5, 3) := by decide +kernel
theorem dX5_plain_97 : decode cX5_plain 97 = .ok (.bipush 8, 2) := by decide +kernel
theorem dX5_plain_106 : decode cX5_plain 106 = .ok (.aload_n 0, 1) := by decide +kernel
theorem dX5_plain_107 : decode cX5_plain 107 = .ok (.bipush 61, 2) := by decide +kernel
theorem dX5_plain_109 : decode cX5_plain 109 = .ok (.invokevirtual 50, 3) := by decide +kernel
theorem dX5_plain_112 : decode cX5_plain 112 = .ok (.ifCond .ne 8, 3) := by decide +kernel
theorem dX5_plain_115 : decode cX5_plain 115 = .ok (.aload_n 0, 1) := by decide +kernel
theorem dX5_plain_116 : decode cX5_plain 116 = .ok (.invokevirtual 54, 3) := by decide +kernel
theorem dX5_plain_119 : decode cX5_plain 119 = .ok (.ireturn, 1) := by decide +kernel
theorem dX5_plain_67 : decode cX5_plain 67 = .ok (.iconst 0, 1) := by decide +kernel
theorem dX5_plain_68 : decode cX5_plain 68 = .ok (.ireturn, 1) := by decide +kernel
theorem dX5_plain_11 : decode cX5_plain 11 = .ok (.aload_n 0, 1) := by decide +kernel
theorem dX5_plain_12 : decode cX5_plain 12 = .ok (.getfield 19, 3) := by decide +kernel
theorem dX5_plain_15 : decode cX5_plain 15 = .ok (.bipush 6, 2) := by decide +kernel
theorem dX5_plain_17 : decode cX5_plain 17 = .ok (.if_icmp .ne 23, 3) := by decide +kernel
theorem dX5_plain_49 : decode cX5_plain 49 = .ok (.aload_n 0, 1) := by decide +kernel
theorem dX5_plain_50 : decode cX5_plain 50 = .ok (.iload_n 1, 1) := by decide +kernel
theorem dX5_plain_51 : decode cX5_plain 51 = .ok (.invokevirtual 86, 3) := by decide +kernel
theorem dX5_plain_54 : decode cX5_plain 54 = .ok (.ifCond .ne 87, 3) := by decide +kernel
theorem dX5_plain_141 : decode cX5_plain 141 = .ok (.iload_n 2, 1) := by decide +kernel
theorem dX5_plain_142 : decode cX5_plain 142 = .ok (.ifCond .eq 11, 3) := by decide +kernel
theorem dX5_plain_153 : decode cX5_plain 153 = .ok (.iconst 1, 1) := by decide +kernel
theorem dX5_plain_154 : decode cX5_plain 154 = .ok (.ireturn, 1) := by decide +kernel
theorem dX5_plain_145 : decode cX5_plain 145 = .ok (.aload_n 0, 1) := by decide +kernel
theorem dX5_plain_146 : decode cX5_plain 146 = .ok (.bipush 9, 2) := by decide +kernel
theorem dX5_plain_148 : decode cX5_plain 148 = .ok (.iconst 0, 1) := by decide +kernel
theorem dX5_plain_149 : decode cX5_plain 149 = .ok (.invokevirtual 72, 3) := by decide +kernel
theorem dX5_plain_152 : decode cX5_plain 152 = .ok (.pop, 1) := by decide +kernel
theorem dX5_plain_57 : decode cX5_plain 57 = .ok (.iconst 0, 1) := by decide +kernel
theorem dX5_plain_58 : decode cX5_plain 58 = .ok (.ireturn, 1) := by decide +kernel
theorem dX5_plain_129 : decode cX5_plain 129 = .ok (.ifCond .ne 5, 3) := by decide +kernel
theorem dX5_plain_134 : decode cX5_plain 134 = .ok (.aload_n 0, 1) := by decide +kernel
theorem dX5_plain_135 : decode cX5_plain 135 = .ok (.iload_n 3, 1) := by decide +kernel
theorem dX5_plain_136 : decode cX5_plain 136 = .ok (.iconst 0, 1) := by decide +kernel
theorem dX5_plain_137 : decode cX5_plain 137 = .ok (.invokevirtual 72, 3) := by decide +kernel
theorem dX5_plain_140 : decode cX5_plain 140 = .ok (.pop, 1) := by decide +kernel
theorem dX5_plain_132 : decode cX5_plain 132 = .ok (.iconst 0, 1) := by decide +kernel
theorem dX5_plain_133 : decode cX5_plain 133 = .ok (.ireturn, 1) := by decide +kernel
theorem dX5_plain_20 : decode cX5_plain 20 = .ok (.iload_n 2, 1) := by decide +kernel
theorem dX5_plain_21 : decode cX5_plain 21 = .ok (.ifCond .ne 7, 3) := by decide +kernel
theorem dX5_plain_28 : decode cX5_plain 28 = .ok (.iconst 0, 1) := by decide +kernel
theorem dX5_plain_29 : decode cX5_plain 29 = .ok (.istore_n 2, 1) := by decide +kernel
theorem dX5_plain_30 : decode cX5_plain 30 = .ok (.aload_n 0, 1) := by decide +kernel
theorem dX5_plain_31 : decode cX5_plain 31 = .ok (.invokevirtual 43, 3) := by decide +kernel
theorem dX5_plain_34 : decode cX5_plain 34 = .ok (.iinc 3 1, 3) := by decide +kernel
theorem dX5_plain_37 : decode cX5_plain 37 = .ok (.goto (-33), 3) := by decide +kernel
theorem dX5_plain_24 : decode cX5_plain 24 = .ok (.iconst 1, 1) := by decide +kernel
theorem dX5_plain_25 : decode cX5_plain 25 = .ok (.goto 4, 3) := by decide +kernel
theorem dX5_both_0 : decode cX5_both 0 = .ok (.aload_n 0, 1) := by decide +kernel
theorem dX5_both_1 : decode cX5_both 1 = .ok (.iload_n 1, 1) := by decide +kernel
theorem dX5_both_2 : decode cX5_both 2 = .ok (.invokevirtual 83, 3) := by decide +kernel
theorem dX5_both_5 : decode cX5_both 5 = .ok (.ifCond .ne 5, 3) := by decide +kernel
theorem dX5_both_10 : decode cX5_both 10 = .ok (.iconst 0, 1) := by decide +kernel
theorem dX5_both_11 : decode cX5_both 11 = .ok (.istore_n 2, 1) := by decide +kernel
theorem dX5_both_12 : decode cX5_both 12 = .ok (.iload_n 2, 1) := by decide +kernel
theorem dX5_both_13 : decode cX5_both 13 = .ok (.sipush 400, 3) := by decide +kernel
theorem dX5_both_16 : decode cX5_both 16 = .ok (.if_icmp .ge 44, 3) := by decide +kernel
theorem dX5_both_60 : decode cX5_both 60 = .ok (.iconst 1, 1) := by decide +kernel
theorem dX5_both_61 : decode cX5_both 61 = .ok (.ireturn, 1) := by decide +kernel
theorem dX5_both_19 : decode cX5_both 19 = .ok (.aload_n 0, 1) := by decide +kernel
theorem dX5_both_20 : decode cX5_both 20 = .ok (.getfield 19, 3) := by decide +kernel
theorem dX5_both_23 : decode cX5_both 23 = .ok (.iconst 5, 1) := by decide +kernel
theorem dX5_both_24 : decode cX5_both 24 = .ok (.if_icmp .ne 36, 3) := by decide +kernel
theorem dX5_both_27 : decode cX5_both 27 = .ok (.aload_n 0, 1) := by decide +kernel
theorem dX5_both_28 : decode cX5_both 28 = .ok (.invokevirtual 43, 3) := by decide +kernel
theorem dX5_both_31 : decode cX5_both 31 = .ok (.aload_n 0, 1) := by decide +kernel
theorem dX5_both_32 : decode cX5_both 32 = .ok (.bipush 11, 2) := by decide +kernel
theorem dX5_both_34 : decode cX5_both 34 = .ok (.iconst 0, 1) := by decide +kernel
theorem dX5_both_35 : decode cX5_both 35 = .ok (.invokevirtual 72, 3) := by decide +kernel
theorem dX5_both_38 : decode cX5_both 38 = .ok (.istore_n 3, 1) := by decide +kernel
theorem dX5_both_39 : decode cX5_both 39 = .ok (.aload_n 0, 1) := by decide +kernel
theorem dX5_both_40 : decode cX5_both 40 = .ok (.iload_n 1, 1) := by decide +kernel
theorem dX5_both_41 : decode cX5_both 41 = .ok (.invokevirtual 83, 3) := by decide +kernel
theorem dX5_both_44 : decode cX5_both 44 = .ok (.ifCond .ne 5, 3) := by decide +kernel
theorem dX5_both_49 : decode cX5_both 49 = .ok (.aload_n 0, 1) := by decide +kernel
theorem dX5_both_50 : decode cX5_both 50 = .ok (.iload_n 3, 1) := by decide +kernel
theorem dX5_both_51 : decode cX5_both 51 = .ok (.invokevirtual 79, 3) := by decide +kernel
theorem dX5_both_54 : decode cX5_both 54 = .ok (.iinc 2 1, 3) := by decide +kernel
theorem dX5_both_57 : decode cX5_both 57 = .ok (.goto (-45), 3) := by decide +kernel
theorem dX5_both_47 : decode cX5_both 47 = .ok (.iconst 0, 1) := by decide +kernel
theorem dX5_both_48 : decode cX5_both 48 = .ok (.ireturn, 1) := by decide +kernel
theorem dX5_both_8 : decode cX5_both 8 = .ok (.iconst 0, 1) := by decide +kernel
theorem dX5_both_9 : decode cX5_both 9 = .ok (.ireturn, 1) := by decide +kernel
theorem dX5_test_0 : decode cX5_test 0 = .ok (.aload_n 0, 1) := by decide +kernel
theorem dX5_test_1 : decode cX5_test 1 = .ok (.iload_n 1, 1) := by decide +kernel
theorem dX5_test_2 : decode cX5_test 2 = .ok (.invokevirtual 76, 3) := by decide +kernel
theorem dX5_test_5 : decode cX5_test 5 = .ok (.ifCond .ne 5, 3) := by decide +kernel
theorem dX5_test_10 : decode cX5_test 10 = .ok (.iconst 0, 1) := by decide +kernel
theorem dX5_test_11 : decode cX5_test 11 = .ok (.istore_n 2, 1) := by decide +kernel
theorem dX5_test_12 : decode cX5_test 12 = .ok (.iload_n 2, 1) := by decide +kernel
theorem dX5_test_13 : decode cX5_test 13 = .ok (.sipush 400, 3) := by decide +kernel
theorem dX5_test_16 : decode cX5_test 16 = .ok (.if_icmp .ge 44, 3) := by decide +kernel
theorem dX5_test_60 : decode cX5_test 60 = .ok (.iconst 1, 1) := by decide +kernel
theorem dX5_test_61 : decode cX5_test 61 = .ok (.ireturn, 1) := by decide +kernel
theorem dX5_test_19 : decode cX5_test 19 = .ok (.aload_n 0, 1) := by decide +kernel
theorem dX5_test_20 : decode cX5_test 20 = .ok (.getfield 19, 3) := by decide +kernel
theorem dX5_test_23 : decode cX5_test 23 = .ok (.iconst 4, 1) := by decide +kernel
theorem dX5_test_24 : decode cX5_test 24 = .ok (.if_icmp .ne 36, 3) := by decide +kernel
theorem dX5_test_27 : decode cX5_test 27 = .ok (.aload_n 0, 1) := by decide +kernel
theorem dX5_test_28 : decode cX5_test 28 = .ok (.invokevirtual 43, 3) := by decide +kernel
theorem dX5_test_31 : decode cX5_test 31 = .ok (.aload_n 0, 1) := by decide +kernel
theorem dX5_test_32 : decode cX5_test 32 = .ok (.bipush 10, 2) := by decide +kernel
theorem dX5_test_34 : decode cX5_test 34 = .ok (.iconst 0, 1) := by decide +kernel
theorem dX5_test_35 : decode cX5_test 35 = .ok (.invokevirtual 72, 3) := by decide +kernel
theorem dX5_test_38 : decode cX5_test 38 = .ok (.istore_n 3, 1) := by decide +kernel
theorem dX5_test_39 : decode cX5_test 39 = .ok (.aload_n 0, 1) := by decide +kernel
theorem dX5_test_40 : decode cX5_test 40 = .ok (.iload_n 1, 1) := by decide +kernel
theorem dX5_test_41 : decode cX5_test 41 = .ok (.invokevirtual 76, 3) := by decide +kernel
theorem dX5_test_44 : decode cX5_test 44 = .ok (.ifCond .ne 5, 3) := by decide +kernel
theorem dX5_test_49 : decode cX5_test 49 = .ok (.aload_n 0, 1) := by decide +kernel
theorem dX5_test_50 : decode cX5_test 50 = .ok (.iload_n 3, 1) := by decide +kernel
theorem dX5_test_51 : decode cX5_test 51 = .ok (.invokevirtual 79, 3) := by decide +kernel
theorem dX5_test_54 : decode cX5_test 54 = .ok (.iinc 2 1, 3) := by decide +kernel
theorem dX5_test_57 : decode cX5_test 57 = .ok (.goto (-45), 3) := by decide +kernel
theorem dX5_test_47 : decode cX5_test 47 = .ok (.iconst 0, 1) := by decide +kernel
theorem dX5_test_48 : decode cX5_test 48 = .ok (.ireturn, 1) := by decide +kernel
theorem dX5_test_8 : decode cX5_test 8 = .ok (.iconst 0, 1) := by decide +kernel
theorem dX5_test_9 : decode cX5_test 9 = .ok (.ireturn, 1) := by decide +kernel
theorem dX5_bracketedSum_11 : decode cX5_bracketedSum 11 = .ok (.aload_n 0, 1) := by decide +kernel
theorem dX5_bracketedSum_12 : decode cX5_bracketedSum 12 = .ok (.invokevirtual 43, 3) := by decide +kernel
theorem dX5_bracketedSum_15 : decode cX5_bracketedSum 15 = .ok (.aload_n 0, 1) := by decide +kernel
theorem dX5_bracketedSum_16 : decode cX5_bracketedSum 16 = .ok (.iload_n 1, 1) := by decide +kernel
theorem dX5_bracketedSum_17 : decode cX5_bracketedSum 17 = .ok (.iconst 1, 1) := by decide +kernel
theorem dX5_bracketedSum_18 : decode cX5_bracketedSum 18 = .ok (.iadd, 1) := by decide +kernel
theorem dX5_bracketedSum_19 : decode cX5_bracketedSum 19 = .ok (.invokevirtual 63, 3) := by decide +kernel
theorem dX5_bracketedSum_22 : decode cX5_bracketedSum 22 = .ok (.ifCond .ne 5, 3) := by decide +kernel
theorem dX5_bracketedSum_27 : decode cX5_bracketedSum 27 = .ok (.aload_n 0, 1) := by decide +kernel
theorem dX5_bracketedSum_28 : decode cX5_bracketedSum 28 = .ok (.bipush 93, 2) := by decide +kernel
theorem dX5_bracketedSum_30 : decode cX5_bracketedSum 30 = .ok (.invokevirtual 50, 3) := by decide +kernel
theorem dX5_bracketedSum_33 : decode cX5_bracketedSum 33 = .ok (.ifCond .ne 8, 3) := by decide +kernel
theorem dX5_bracketedSum_41 : decode cX5_bracketedSum 41 = .ok (.aload_n 0, 1) := by decide +kernel
theorem dX5_bracketedSum_42 : decode cX5_bracketedSum 42 = .ok (.invokevirtual 43, 3) := by decide +kernel
theorem dX5_bracketedSum_45 : decode cX5_bracketedSum 45 = .ok (.iconst 1, 1) := by decide +kernel
theorem dX5_bracketedSum_46 : decode cX5_bracketedSum 46 = .ok (.ireturn, 1) := by decide +kernel
theorem dX5_bracketedSum_36 : decode cX5_bracketedSum 36 = .ok (.aload_n 0, 1) := by decide +kernel
theorem dX5_bracketedSum_37 : decode cX5_bracketedSum 37 = .ok (.invokevirtual 54, 3) := by decide +kernel
theorem dX5_bracketedSum_40 : decode cX5_bracketedSum 40 = .ok (.ireturn, 1) := by decide +kernel
theorem dX5_bracketedSum_25 : decode cX5_bracketedSum 25 = .ok (.iconst 0, 1) := by decide +kernel
theorem dX5_bracketedSum_26 : decode cX5_bracketedSum 26 = .ok (.ireturn, 1) := by decide +kernel
theorem dX5_bracketedTest_11 : decode cX5_bracketedTest 11 = .ok (.aload_n 0, 1) := by decide +kernel
theorem dX5_bracketedTest_12 : decode cX5_bracketedTest 12 = .ok (.invokevirtual 43, 3) := by decide +kernel
theorem dX5_bracketedTest_15 : decode cX5_bracketedTest 15 = .ok (.aload_n 0, 1) := by decide +kernel
theorem dX5_bracketedTest_16 : decode cX5_bracketedTest 16 = .ok (.iload_n 1, 1) := by decide +kernel
theorem dX5_bracketedTest_17 : decode cX5_bracketedTest 17 = .ok (.iconst 1, 1) := by decide +kernel
theorem dX5_bracketedTest_18 : decode cX5_bracketedTest 18 = .ok (.iadd, 1) := by decide +kernel
theorem dX5_bracketedTest_19 : decode cX5_bracketedTest 19 = .ok (.invokevirtual 67, 3) := by decide +kernel
theorem dX5_bracketedTest_22 : decode cX5_bracketedTest 22 = .ok (.ifCond .ne 5, 3) := by decide +kernel
theorem dX5_bracketedTest_27 : decode cX5_bracketedTest 27 = .ok (.aload_n 0, 1) := by decide +kernel
theorem dX5_bracketedTest_28 : decode cX5_bracketedTest 28 = .ok (.bipush 41, 2) := by decide +kernel
theorem dX5_bracketedTest_30 : decode cX5_bracketedTest 30 = .ok (.invokevirtual 50, 3) := by decide +kernel
theorem dX5_bracketedTest_33 : decode cX5_bracketedTest 33 = .ok (.ifCond .ne 8, 3) := by decide +kernel
theorem dX5_bracketedTest_41 : decode cX5_bracketedTest 41 = .ok (.aload_n 0, 1) := by decide +kernel
theorem dX5_bracketedTest_42 : decode cX5_bracketedTest 42 = .ok (.invokevirtual 43, 3) := by decide +kernel
theorem dX5_bracketedTest_45 : decode cX5_bracketedTest 45 = .ok (.iconst 1, 1) := by decide +kernel
theorem dX5_bracketedTest_46 : decode cX5_bracketedTest 46 = .ok (.ireturn, 1) := by decide +kernel
theorem dX5_bracketedTest_36 : decode cX5_bracketedTest 36 = .ok (.aload_n 0, 1) := by decide +kernel
theorem dX5_bracketedTest_37 : decode cX5_bracketedTest 37 = .ok (.invokevirtual 54, 3) := by decide +kernel
theorem dX5_bracketedTest_40 : decode cX5_bracketedTest 40 = .ok (.ireturn, 1) := by decide +kernel
theorem dX5_bracketedTest_25 : decode cX5_bracketedTest 25 = .ok (.iconst 0, 1) := by decide +kernel
theorem dX5_bracketedTest_26 : decode cX5_bracketedTest 26 = .ok (.ireturn, 1) := by decide +kernel
theorem dX5_clause_0 : decode cX5_clause 0 = .ok (.aload_n 0, 1) := by decide +kernel
theorem dX5_clause_1 : decode cX5_clause 1 = .ok (.getfield 19, 3) := by decide +kernel
theorem dX5_clause_4 : decode cX5_clause 4 = .ok (.istore_n 1, 1) := by decide +kernel
theorem dX5_clause_5 : decode cX5_clause 5 = .ok (.iload_n 1, 1) := by decide +kernel
theorem dX5_clause_6 : decode cX5_clause 6 = .ok (.ifCond .eq 18, 3) := by decide +kernel
theorem dX5_clause_24 : decode cX5_clause 24 = .ok (.aload_n 0, 1) := by decide +kernel
theorem dX5_clause_25 : decode cX5_clause 25 = .ok (.invokevirtual 43, 3) := by decide +kernel
theorem dX5_clause_28 : decode cX5_clause 28 = .ok (.iload_n 1, 1) := by decide +kernel
theorem dX5_clause_29 : decode cX5_clause 29 = .ok (.ifCond .ne 13, 3) := by decide +kernel
theorem dX5_clause_32 : decode cX5_clause 32 = .ok (.aload_n 0, 1) := by decide +kernel
theorem dX5_clause_33 : decode cX5_clause 33 = .ok (.iconst 0, 1) := by decide +kernel
theorem dX5_clause_34 : decode cX5_clause 34 = .ok (.invokevirtual 63, 3) := by decide +kernel
theorem dX5_clause_37 : decode cX5_clause 37 = .ok (.ifCond .ne 5, 3) := by decide +kernel
theorem dX5_clause_42 : decode cX5_clause 42 = .ok (.aload_n 0, 1) := by decide +kernel
theorem dX5_clause_43 : decode cX5_clause 43 = .ok (.getfield 19, 3) := by decide +kernel
theorem dX5_clause_46 : decode cX5_clause 46 = .ok (.iconst 3, 1) := by decide +kernel
theorem dX5_clause_47 : decode cX5_clause 47 = .ok (.if_icmp .ne 17, 3) := by decide +kernel
theorem dX5_clause_64 : decode cX5_clause 64 = .ok (.aload_n 0, 1) := by decide +kernel
theorem dX5_clause_65 : decode cX5_clause 65 = .ok (.iconst 0, 1) := by decide +kernel
theorem dX5_clause_66 : decode cX5_clause 66 = .ok (.iconst 1, 1) := by decide +kernel
theorem dX5_clause_67 : decode cX5_clause 67 = .ok (.invokevirtual 72, 3) := by decide +kernel
theorem dX5_clause_70 : decode cX5_clause 70 = .ok (.pop, 1) := by decide +kernel
theorem dX5_clause_71 : decode cX5_clause 71 = .ok (.aload_n 0, 1) := by decide +kernel
theorem dX5_clause_72 : decode cX5_clause 72 = .ok (.iload_n 1, 1) := by decide +kernel
theorem dX5_clause_73 : decode cX5_clause 73 = .ok (.ifCond .ne 8, 3) := by decide +kernel
theorem dX5_clause_76 : decode cX5_clause 76 = .ok (.bipush 12, 2) := by decide +kernel
theorem dX5_clause_78 : decode cX5_clause 78 = .ok (.goto 15, 3) := by decide +kernel
theorem dX5_clause_93 : decode cX5_clause 93 = .ok (.iconst 0, 1) := by decide +kernel
theorem dX5_clause_94 : decode cX5_clause 94 = .ok (.invokevirtual 72, 3) := by decide +kernel
theorem dX5_clause_97 : decode cX5_clause 97 = .ok (.pop, 1) := by decide +kernel
theorem dX5_clause_98 : decode cX5_clause 98 = .ok (.iconst 1, 1) := by decide +kernel
theorem dX5_clause_99 : decode cX5_clause 99 = .ok (.ireturn, 1) := by decide +kernel
theorem dX5_clause_50 : decode cX5_clause 50 = .ok (.aload_n 0, 1) := by decide +kernel
theorem dX5_clause_51 : decode cX5_clause 51 = .ok (.invokevirtual 43, 3) := by decide +kernel
theorem dX5_clause_54 : decode cX5_clause 54 = .ok (.aload_n 0, 1) := by decide +kernel
theorem dX5_clause_55 : decode cX5_clause 55 = .ok (.iconst 0, 1) := by decide +kernel
theorem dX5_clause_56 : decode cX5_clause 56 = .ok (.invokevirtual 67, 3) := by decide +kernel
theorem dX5_clause_59 : decode cX5_clause 59 = .ok (.ifCond .ne 12, 3) := by decide +kernel
theorem dX5_clause_62 : decode cX5_clause 62 = .ok (.iconst 0, 1) := by decide +kernel
theorem dX5_clause_63 : decode cX5_clause 63 = .ok (.ireturn, 1) := by decide +kernel
theorem dX5_clause_40 : decode cX5_clause 40 = .ok (.iconst 0, 1) := by decide +kernel
theorem dX5_clause_41 : decode cX5_clause 41 = .ok (.ireturn, 1) := by decide +kernel
theorem dX5_clause_9 : decode cX5_clause 9 = .ok (.iload_n 1, 1) := by decide +kernel
theorem dX5_clause_10 : decode cX5_clause 10 = .ok (.iconst 1, 1) := by decide +kernel
theorem dX5_clause_11 : decode cX5_clause 11 = .ok (.if_icmp .eq 13, 3) := by decide +kernel
theorem dX5_clause_81 : decode cX5_clause 81 = .ok (.iload_n 1, 1) := by decide +kernel
theorem dX5_clause_82 : decode cX5_clause 82 = .ok (.iconst 1, 1) := by decide +kernel
theorem dX5_clause_83 : decode cX5_clause 83 = .ok (.if_icmp .ne 8, 3) := by decide +kernel
theorem dX5_clause_86 : decode cX5_clause 86 = .ok (.bipush 13, 2) := by decide +kernel
theorem dX5_clause_88 : decode cX5_clause 88 = .ok (.goto 5, 3) := by decide +kernel
theorem dX5_clause_14 : decode cX5_clause 14 = .ok (.iload_n 1, 1) := by decide +kernel
theorem dX5_clause_15 : decode cX5_clause 15 = .ok (.iconst 2, 1) := by decide +kernel
theorem dX5_clause_16 : decode cX5_clause 16 = .ok (.if_icmp .eq 8, 3) := by decide +kernel
theorem dX5_clause_91 : decode cX5_clause 91 = .ok (.bipush 14, 2) := by decide +kernel
theorem dX5_clause_19 : decode cX5_clause 19 = .ok (.aload_n 0, 1) := by decide +kernel
theorem dX5_clause_20 : decode cX5_clause 20 = .ok (.invokevirtual 54, 3) := by decide +kernel
theorem dX5_clause_23 : decode cX5_clause 23 = .ok (.ireturn, 1) := by decide +kernel
theorem dX5_compile_0 : decode cX5_compile 0 = .ok (.aload_n 0, 1) := by decide +kernel
theorem dX5_compile_1 : decode cX5_compile 1 = .ok (.iconst 0, 1) := by decide +kernel
theorem dX5_compile_2 : decode cX5_compile 2 = .ok (.putfield 25, 3) := by decide +kernel
theorem dX5_compile_5 : decode cX5_compile 5 = .ok (.aload_n 0, 1) := by decide +kernel
theorem dX5_compile_6 : decode cX5_compile 6 = .ok (.iconst 0, 1) := by decide +kernel
theorem dX5_compile_7 : decode cX5_compile 7 = .ok (.putfield 31, 3) := by decide +kernel
theorem dX5_compile_10 : decode cX5_compile 10 = .ok (.aload_n 0, 1) := by decide +kernel
theorem dX5_compile_11 : decode cX5_compile 11 = .ok (.iconst 0, 1) := by decide +kernel
theorem dX5_compile_12 : decode cX5_compile 12 = .ok (.putfield 40, 3) := by decide +kernel
theorem dX5_compile_15 : decode cX5_compile 15 = .ok (.aload_n 0, 1) := by decide +kernel
theorem dX5_compile_16 : decode cX5_compile 16 = .ok (.iconst (-1), 1) := by decide +kernel
theorem dX5_compile_17 : decode cX5_compile 17 = .ok (.putfield 34, 3) := by decide +kernel
theorem dX5_compile_20 : decode cX5_compile 20 = .ok (.aload_n 0, 1) := by decide +kernel
theorem dX5_compile_21 : decode cX5_compile 21 = .ok (.invokevirtual 43, 3) := by decide +kernel
theorem dX5_compile_24 : decode cX5_compile 24 = .ok (.aload_n 0, 1) := by decide +kernel
theorem dX5_compile_25 : decode cX5_compile 25 = .ok (.invokevirtual 46, 3) := by decide +kernel
theorem dX5_compile_28 : decode cX5_compile 28 = .ok (.istore_n 1, 1) := by decide +kernel
theorem dX5_compile_29 : decode cX5_compile 29 = .ok (.iconst 1, 1) := by decide +kernel
theorem dX5_compile_30 : decode cX5_compile 30 = .ok (.istore_n 2, 1) := by decide +kernel
theorem dX5_compile_31 : decode cX5_compile 31 = .ok (.iload_n 2, 1) := by decide +kernel
theorem dX5_compile_32 : decode cX5_compile 32 = .ok (.bipush 12, 2) := by decide +kernel
theorem dX5_compile_34 : decode cX5_compile 34 = .ok (.if_icmp .gt 44, 3) := by decide +kernel
theorem dX5_compile_78 : decode cX5_compile 78 = .ok (.iload_n 1, 1) := by decide +kernel
theorem dX5_compile_79 : decode cX5_compile 79 = .ok (.ifCond .eq 17, 3) := by decide +kernel
theorem dX5_compile_96 : decode cX5_compile 96 = .ok (.aload_n 0, 1) := by decide +kernel
theorem dX5_compile_97 : decode cX5_compile 97 = .ok (.getfield 34, 3) := by decide +kernel
theorem dX5_compile_100 : decode cX5_compile 100 = .ok (.ireturn, 1) := by decide +kernel
theorem dX5_compile_82 : decode cX5_compile 82 = .ok (.aload_n 0, 1) := by decide +kernel
theorem dX5_compile_83 : decode cX5_compile 83 = .ok (.getfield 19, 3) := by decide +kernel
theorem dX5_compile_86 : decode cX5_compile 86 = .ok (.bipush 17, 2) := by decide +kernel
theorem dX5_compile_88 : decode cX5_compile 88 = .ok (.if_icmp .eq 8, 3) := by decide +kernel
theorem dX5_compile_91 : decode cX5_compile 91 = .ok (.aload_n 0, 1) := by decide +kernel
theorem dX5_compile_92 : decode cX5_compile 92 = .ok (.invokevirtual 54, 3) := by decide +kernel
theorem dX5_compile_95 : decode cX5_compile 95 = .ok (.pop, 1) := by decide +kernel
theorem dX5_compile_37 : decode cX5_compile 37 = .ok (.iload_n 1, 1) := by decide +kernel
theorem dX5_compile_38 : decode cX5_compile 38 = .ok (.ifCond .eq 40, 3) := by decide +kernel
theorem dX5_compile_41 : decode cX5_compile 41 = .ok (.aload_n 0, 1) := by decide +kernel
theorem dX5_compile_42 : decode cX5_compile 42 = .ok (.bipush 59, 2) := by decide +kernel
theorem dX5_compile_44 : decode cX5_compile 44 = .ok (.invokevirtual 50, 3) := by decide +kernel
theorem dX5_compile_47 : decode cX5_compile 47 = .ok (.ifCond .eq 31, 3) := by decide +kernel
theorem dX5_compile_50 : decode cX5_compile 50 = .ok (.aload_n 0, 1) := by decide +kernel
theorem dX5_compile_51 : decode cX5_compile 51 = .ok (.invokevirtual 43, 3) := by decide +kernel
theorem dX5_compile_54 : decode cX5_compile 54 = .ok (.iload_n 2, 1) := by decide +kernel
theorem dX5_compile_55 : decode cX5_compile 55 = .ok (.bipush 12, 2) := by decide +kernel
theorem dX5_compile_57 : decode cX5_compile 57 = .ok (.if_icmp .ge 10, 3) := by decide +kernel
theorem dX5_compile_67 : decode cX5_compile 67 = .ok (.aload_n 0, 1) := by decide +kernel
theorem dX5_compile_68 : decode cX5_compile 68 = .ok (.invokevirtual 54, 3) := by decide +kernel
theorem dX5_compile_71 : decode cX5_compile 71 = .ok (.istore_n 1, 1) := by decide +kernel
theorem dX5_compile_72 : decode cX5_compile 72 = .ok (.iinc 2 1, 3) := by decide +kernel
theorem dX5_compile_75 : decode cX5_compile 75 = .ok (.goto (-44), 3) := by decide +kernel
theorem dX5_compile_60 : decode cX5_compile 60 = .ok (.aload_n 0, 1) := by decide +kernel
theorem dX5_compile_61 : decode cX5_compile 61 = .ok (.invokevirtual 46, 3) := by decide +kernel
theorem dX5_compile_64 : decode cX5_compile 64 = .ok (.goto 7, 3) := by decide +kernel
theorem v_d169d0bfa8 : (-(1 : Int)) ≤ 255 := by omega
theorem v_d7389cde0f {a0 : Int} (h0 : 0 ≤ a0) (h1 : a0 ≤ 400) : zr a0 := by omega
theorem v_5d8e28db30 {a0 a1 : Int} (h0 : a0 ≤ 400) (h1 : ¬ a0 ≤ a1) : a1 < 400 := by omega
theorem v_ae320c9b25 {a0 a1 : Int} (h0 : 0 ≤ a0) (h1 : a0 ≤ 100) (h2 : 0 ≤ a1) (h3 : a1 ≤ 400) : zr ((a1 + a0)) := by omega
theorem v_d8dcd4dd52 : zr 400 := by omega
theorem v_6a464b420f {a0 a1 : Int} (h0 : ¬ 400 < a0 + a1) : a0 + a1 ≤ 400 := by omega
theorem v_d416bcbf49 : -(8 : Int) ≤ 24 := by omega
theorem v_dfa2d5efb9 : (24 : Int) ≤ 24 := by omega
theorem v_b1368e81cc {a0 : Int} (h0 : a0 ≤ 396) : a0 ≤ 400 := by omega
theorem v_48d8540466 {a0 : Int} : 8 * a0 + 24 = 8 * a0 + 24 := by omega
theorem v_f3427b8b53 {a0 : Int} (h0 : -8 ≤ a0) (h1 : a0 ≤ 24) : zr a0 := by omega
theorem v_ac889d0a66 {a0 a1 a2 : Int} (h0 : a0 ≤ 396) (h1 : 8 * a1 + a2 = 8 * a0 + 24) (h2 : ¬ a2 < 0) : ¬ 400 ≤ a1 := by omega
theorem v_2eb09acee2 {a0 : Int} (h0 : ¬ 400 ≤ a0) : a0 < 400 := by omega
theorem v_d5210584ec {a0 : Int} (h0 : a0 ≤ 255) : a0 ≤ 255 := by omega
theorem v_b88acebfbc {a0 : Int} : a0 + (-8) = a0 - 8 := by omega
theorem v_2cdc0924e2 {a0 : Int} (h0 : ¬ a0 < 0) : -8 ≤ (a0 - 8) := by omega
theorem v_e27e42dedb {a0 : Int} (h0 : a0 ≤ 24) : (a0 - 8) ≤ 24 := by omega
theorem v_6924477667 {a0 : Int} (h0 : ¬ 400 ≤ a0) : (a0 + 1) ≤ 400 := by omega
theorem v_3b424409fc {a0 a1 a2 : Int} (h0 : 8 * a0 + a1 = 8 * a2 + 24) : 8 * (a0 + 1) + (a1 - 8) = 8 * a2 + 24 := by omega
theorem v_5ed851111b {a0 a1 a2 : Int} (h0 : a0 ≤ 24) (h1 : 8 * a1 + a0 = 8 * a2 + 24) : 0 ≤ a1 - a2 := by omega
theorem v_0cb60ec4e6 {a0 a1 : Int} : a0 = a1 + (a0 - a1) := by omega
theorem v_10209a891a {a0 a1 a2 : Int} (h0 : 8 * a0 + a1 = 8 * a2 + 24) : a1 = 24 - 8 * (a0 - a2) := by omega
theorem v_96e57bfaa2 {a0 a1 : Int} : a0 + 1 - a1 = a0 - a1 + 1 := by omega
theorem v_035cfcbd1f {a0 : Int} : (a0 - 8) + 8 < (a0 + 8) := by omega
theorem v_3d697e6f4a {a0 : Int} (h0 : ¬ a0 < 0) : 0 < a0 + 8 := by omega
theorem v_663a05fb09 {a0 : Int} (h0 : a0 < 1) : a0 < 1 := by omega
theorem v_66a0c9ccf8 {a0 : Int} (h0 : a0 ≤ 400) (h1 : ¬ a0 < 1) : zr a0 := by omega
theorem v_901f0126f2 {a0 : Int} (h0 : ¬ a0 < 1) (h1 : a0 ≤ 7) : zr a0 := by omega
theorem v_ce6a6f00b7 {a0 : Int} (h0 : ¬ a0 < 1) : 1 ≤ a0 := by omega
theorem v_13cb52b44b : (4 : Int) ≤ 4 := by omega
theorem v_6aef9b5ec0 {a0 a1 : Int} (h0 : a0 ≤ 7) (h1 : ¬ a0 ≤ a1) : a1 < 400 := by omega
theorem v_7675438551 {a0 : Int} (h0 : 0 ≤ a0) (h1 : a0 ≤ 255) : zr a0 := by omega
theorem v_087600a23e {a0 : Int} (h0 : a0 < 5) : a0 ≤ 4 := by omega
theorem v_cac29cb1c5 {a0 : Int} (h0 : ¬ a0 < 5) : 5 ≤ a0 := by omega
theorem v_1f1f6a172b {a0 : Int} (h0 : ¬ a0 ≤ 7) : 7 < a0 := by omega
theorem v_120e9ced03 : zr 97 := by omega
theorem v_29fc54b483 {a0 : Int} (h0 : zr a0) (h1 : ¬ a0 < 97) : zr a0 := by omega
theorem v_86c2371aa4 : zr 122 := by omega
theorem v_c88ab225c0 {a0 : Int} (h0 : ¬ a0 < 97) : 97 ≤ a0 := by omega
theorem v_90f692b398 {a0 : Int} (h0 : ¬ 122 < a0) : a0 ≤ 122 := by omega
theorem v_5d2538b988 : zr 48 := by omega
theorem v_1f678a7e63 {a0 : Int} (h0 : zr a0) (h1 : ¬ a0 < 48) : zr a0 := by omega
theorem v_9633cf9c93 : zr 57 := by omega
theorem v_68553276b5 {a0 : Int} (h0 : ¬ a0 < 48) : 48 ≤ a0 := by omega
theorem v_e5b730cf9c {a0 : Int} (h0 : ¬ 57 < a0) : a0 ≤ 57 := by omega
theorem v_2706a00d49 {a0 : Int} : 100 + a0 = a0 + 100 := by omega
theorem v_96bf6f782e {a0 : Int} (h0 : 0 ≤ a0) (h1 : a0 ≤ 355) : zr a0 := by omega
theorem v_7e0549880a {a0 : Int} (h0 : 0 ≤ a0) (h1 : a0 ≤ 255) : zr ((a0 + 100)) := by omega
theorem v_8d6dd9c5d3 {a0 : Int} (h0 : 0 ≤ a0) (h1 : a0 ≤ 411) : zr a0 := by omega
theorem v_27e7d13956 : zr 412 := by omega
theorem v_d21fce5d88 {a0 : Int} (h0 : a0 ≤ 411) : ¬ 412 ≤ a0 := by omega
theorem v_c0176fb2f0 {a0 : Int} (h0 : a0 ≤ 411) : a0 < 412 := by omega
theorem v_98fd74cfdf {a0 : Int} (h0 : a0 < 32) : a0 < 32 := by omega
theorem v_b65dca059b {a0 : Int} (h0 : a0 < 1000000) : a0 < 1000000 := by omega
theorem v_e33502de53 {a0 : Int} (h0 : zr a0) (h1 : 0 ≤ a0) : zr a0 := by omega
theorem v_9099852440 {a0 : Int} (h0 : 0 ≤ a0) (h1 : a0 ≤ 412) : zr a0 := by omega
theorem v_9ccfe8ee31 {a0 a1 : Int} (h0 : a0 < a1) (h1 : a1 ≤ 412) : a0 < 412 := by omega
theorem v_e9a235a323 {a0 a1 a2 : Int} (h0 : a0 = a1) (h1 : a0 = a2) : a2 = a1 := by omega
theorem v_4fdd924ecd {a0 : Int} (h0 : a0 ≤ 412) : a0 < 1000000 := by omega
theorem v_63fe78b188 : (0 : Int) ≤ 73 := by omega
theorem v_d0bfa3a8cd {a0 : Int} : a0 ≤ a0 + 0 := by omega
theorem v_94d443f0e8 {a0 : Int} (h0 : 0 ≤ a0) (h1 : a0 ≤ 73) : zr a0 := by omega
theorem v_30b0c4d114 : zr 73 := by omega
theorem v_316d906358 : (0 : Int) ≤ 15 := by omega
theorem v_acae2ba8c8 : (15 : Int) ≤ 15 := by omega
theorem v_550035c983 {a0 : Int} (h0 : 73 ≤ a0) : 73 ≤ a0 := by omega
theorem v_5067095eb0 {a0 : Int} (h0 : ¬ 73 ≤ a0) : a0 < 73 := by omega
theorem v_720a29103c {a0 : Int} (h0 : 32 ≤ a0) (h1 : a0 ≤ 122) : zr a0 := by omega
theorem v_27308ff615 : zr 32 := by omega
theorem v_893826a06d {a0 : Int} (h0 : ¬ 73 ≤ a0) : (a0 + 1) ≤ 73 := by omega
theorem v_b1a81de18e {a0 a1 a2 : Int} (h0 : a0 ≤ a1 + a2) : (a0 + 1) ≤ a1 + (a2 + 1) := by omega
theorem v_314a301a88 {a0 : Int} (h0 : 32 ≤ a0) (h1 : ¬ a0 = 32) : ¬ a0 = 32 := by omega
theorem v_d9af624d78 {a0 : Int} : 73 - (a0 + 1) < (73 - a0) := by omega
theorem v_55b44453db {a0 : Int} (h0 : ¬ 73 ≤ a0) : 0 < 73 - a0 := by omega
theorem v_b3aa5f4b1f {a0 a1 a2 a3 a4 : Int} (h0 : a0 ≤ 400) (h1 : 0 ≤ a1) (h2 : a1 ≤ a2) (h3 : a2 ≤ a0) (h4 : a1 ≤ a3) (h5 : a3 ≤ a1 + a4) (h6 : ¬ 73 ≤ a4) : zr a3 := by omega
theorem v_0bec36d083 {a0 a1 a2 : Int} (h0 : a0 ≤ 400) (h1 : 0 ≤ a1) (h2 : a1 ≤ a2) (h3 : a2 ≤ a0) : zr a2 := by omega
theorem v_cba26b68a5 {a0 a1 a2 : Int} (h0 : a0 ≤ 400) (h1 : a1 ≤ a0) (h2 : ¬ a1 ≤ a2) : a2 < 400 := by omega
theorem v_2a86628443 {a0 : Int} (h0 : 32 ≤ a0) (h1 : a0 = 32) : a0 = 32 := by omega
theorem v_670c5cf6c2 {a0 a1 : Int} (h0 : 0 ≤ a0) : a1 ≤ a1 + (a0 + 1) := by omega
theorem v_d5f9afb2ea : (0 : Int) ≤ 17 := by omega
theorem v_4e528d6cd5 : (17 : Int) ≤ 355 := by omega
theorem v_a6a45631f7 : (17 : Int) = 17 := by omega
theorem v_43cd7fe7e1 {a0 : Int} (h0 : ¬ a0 = 32) : ¬ a0 = 32 := by omega
theorem v_4539af1419 {a0 a1 : Int} (h0 : ¬ a0 ≤ a1) : a1 ≤ a0 := by omega
theorem v_a9a43f8862 {a0 a1 a2 : Int} (h0 : a0 ≤ 400) (h1 : 0 ≤ a1) (h2 : a1 ≤ a2) (h3 : ¬ a0 ≤ a2) : zr a2 := by omega
theorem v_e297e1497d {a0 a1 a2 a3 : Int} (h0 : a0 ≤ 400) (h1 : 0 ≤ a1) (h2 : a1 ≤ a2) (h3 : a2 ≤ a3) (h4 : a3 ≤ a0) : zr a3 := by omega
theorem v_8e3f912402 {a0 a1 a2 : Int} (h0 : ¬ a0 ≤ a1) (h1 : a0 ≤ a2) : a1 ≤ a2 := by omega
theorem v_243b24de7d {a0 : Int} (h0 : a0 ≤ 15) : a0 ≤ 355 := by omega
theorem v_7fb2d88da4 {a0 a1 a2 : Int} (h0 : ¬ a0 ≤ a1) (h1 : a0 ≤ a2) : a1 + 1 ≤ a2 := by omega
theorem v_bac6ad734e {a0 : Int} (h0 : 97 ≤ a0) : 97 ≤ a0 := by omega
theorem v_979471f816 {a0 : Int} (h0 : a0 ≤ 122) : a0 ≤ 122 := by omega
theorem v_7eaccd6eb1 {a0 a1 a2 : Int} (h0 : 0 ≤ a0) (h1 : a0 ≤ a1) (h2 : a1 ≤ a2) : 0 ≤ a2 := by omega
theorem v_3455bb6af9 {a0 : Int} (h0 : a0 < 97) : a0 < 97 := by omega
theorem v_c159493e72 {a0 a1 : Int} (h0 : 97 ≤ a0) (h1 : a1 < 97) : ¬ a0 = a1 := by omega
theorem v_f1b1fe6ea3 {a0 : Int} (h0 : 122 < a0) : 122 < a0 := by omega
theorem v_8a071c42cc {a0 a1 : Int} (h0 : a0 ≤ 122) (h1 : 122 < a1) : ¬ a0 = a1 := by omega
theorem v_a9b52e2056 {a0 : Int} (h0 : 0 ≤ a0) (h1 : a0 < 97) : zr a0 := by omega
theorem v_7f788d9343 : (0 : Int) ≤ 1001 := by omega
theorem v_479b56dbea : (0 : Int) ≤ 16 := by omega
theorem v_e969a4d572 : (16 : Int) ≤ 355 := by omega
theorem v_569e948605 {a0 : Int} (h0 : 48 ≤ a0) : 48 ≤ a0 := by omega
theorem v_d373c32a4e {a0 : Int} (h0 : a0 ≤ 57) : a0 ≤ 57 := by omega
theorem v_0701810ab8 {a0 : Int} : a0 * 10 = 10 * a0 := by omega
theorem v_0eb3c069c9 : zr 1001 := by omega
theorem v_fbf291c56e {a0 a1 : Int} (h0 : 0 ≤ a0) (h1 : a0 ≤ 1001) (h2 : 48 ≤ a1) (h3 : a1 ≤ 57) : zr ((10 * a0 + a1 - 48)) := by omega
theorem v_809e38115e {a0 : Int} (h0 : a0 < 48) : a0 < 48 := by omega
theorem v_bff012c994 {a0 a1 : Int} (h0 : 48 ≤ a0) (h1 : a1 < 48) : ¬ a0 = a1 := by omega
theorem v_ba552dee01 {a0 : Int} (h0 : 57 < a0) : 57 < a0 := by omega
theorem v_98c147a587 {a0 a1 : Int} (h0 : a0 ≤ 57) (h1 : 57 < a1) : ¬ a0 = a1 := by omega
theorem v_168f970488 {a0 : Int} (h0 : 0 ≤ a0) : 0 ≤ (a0 + 100) := by omega
theorem v_964874f55d {a0 : Int} (h0 : a0 < 48) : (a0 + 100) ≤ 355 := by omega
theorem v_a2d9cbcde8 {a0 : Int} (h0 : a0 < 48) : a0 < 97 := by omega
theorem v_182e22d160 {a0 : Int} : (a0 + 100) = a0 + 100 := by omega
theorem v_3e3d35cd3f {a0 : Int} (h0 : 57 < a0) : 0 ≤ (a0 + 100) := by omega
theorem v_d205086e28 {a0 : Int} (h0 : a0 < 97) : (a0 + 100) ≤ 355 := by omega
theorem v_7ba52db5aa {a0 : Int} (h0 : 57 < a0) : 0 ≤ a0 := by omega
theorem v_eab840f878 {a0 : Int} (h0 : a0 ≤ 255) (h1 : 122 < a0) : zr a0 := by omega
theorem v_d55b1f7223 {a0 : Int} (h0 : 122 < a0) (h1 : a0 ≤ 57) : False := by omega
theorem v_09cbf12418 {a0 : Int} (h0 : 122 < a0) (h1 : a0 < 48) : False := by omega
theorem v_d48ed1b1ad {a0 : Int} (h0 : 122 < a0) : 0 ≤ (a0 + 100) := by omega
theorem v_dc622ca575 {a0 : Int} (h0 : a0 ≤ 255) : (a0 + 100) ≤ 355 := by omega
theorem v_776c3dc436 {a0 : Int} (h0 : 122 < a0) : 57 < a0 := by omega
theorem v_14e13f75e2 {a0 : Int} (h0 : 122 < a0) : 0 ≤ a0 := by omega
theorem v_d62940cce3 {a0 : Int} (h0 : a0 = 32) : a0 = 32 := by omega
theorem v_0041fc7102 : ¬ (8 : Int) < 8 := by omega
theorem v_1adcfdfee5 {a0 a1 a2 : Int} (h0 : a0 ≤ 400) (h1 : a1 ≤ a2) (h2 : a2 ≤ a0) : a1 ≤ 400 := by omega
theorem v_df2cb83190 : (0 : Int) ≤ 91 := by omega
theorem v_d563f19a9d : (91 : Int) ≤ 255 := by omega
theorem v_eae1bbf095 {a0 : Int} (h0 : a0 = 91 + 100) : a0 = 191 := by omega
theorem v_1b6115d470 : zr 16 := by omega
theorem v_2e180fcab9 {a0 : Int} (h0 : a0 < 7) : ¬ a0 = 191 := by omega
theorem v_e33259c014 {a0 : Int} (h0 : a0 ≤ 355) (h1 : ¬ a0 < 7) : zr a0 := by omega
theorem v_9327ef7f5d {a0 : Int} (h0 : ¬ a0 = 91 + 100) : ¬ a0 = 191 := by omega
theorem v_196348439e {a0 : Int} (h0 : 0 ≤ a0) (h1 : a0 ≤ 50) : zr a0 := by omega
theorem v_e1e0ea2c24 : zr 50 := by omega
theorem v_2b807321aa {a0 : Int} (h0 : ¬ a0 < 7) (h1 : ¬ 14 < a0) : zr ((a0 - 7)) := by omega
theorem v_d7156942e4 : (1 : Int) < 32 := by omega
theorem v_708afb58d7 {a0 : Int} (h0 : ¬ a0 < 7) : 0 ≤ (a0 - 7) := by omega
theorem v_16f8dd37ad {a0 : Int} (h0 : ¬ 14 < a0) : (a0 - 7) < 1000000 := by omega
theorem v_f2b062d3d4 {a0 a1 a2 a3 : Int} (h0 : a0 ≤ 400) (h1 : a1 ≤ a2) (h2 : a2 ≤ a0) (h3 : a3 ≤ a1 + 1) : a3 ≤ 411 := by omega
theorem v_b0bfd58e62 {a0 : Int} (h0 : ¬ 14 < a0) : ¬ a0 = 17 := by omega
theorem v_9b2e2070a2 {a0 a1 a2 : Int} (h0 : 0 ≤ a0) (h1 : a0 + 1 ≤ a1) (h2 : a1 ≤ a2) : 0 ≤ a2 := by omega
theorem v_dc0d6dc503 {a0 : Int} (h0 : a0 < 50) : (a0 + 1) ≤ 50 := by omega
theorem v_efdc60f808 {a0 a1 a2 a3 : Int} (h0 : a0 ≤ 400) (h1 : a1 ≤ a0) (h2 : a2 ≤ a3 + 1) (h3 : a3 + 1 ≤ a1) : (a2 + 1) ≤ 412 := by omega
theorem v_3a52fbe90f {a0 a1 a2 a3 : Int} (h0 : a0 + 1 ≤ a1) (h1 : a1 ≤ a2) : (a3 + 1) + a0 ≤ a3 + a2 := by omega
theorem v_016485883e {a0 a1 a2 : Int} (h0 : a0 + 1 ≤ a1) (h1 : a1 ≤ a2) : a0 ≤ a2 := by omega
theorem v_9d80ef7c91 {a0 : Int} (h0 : ¬ 14 < a0) : ¬ a0 = 191 := by omega
theorem v_14fb5ed6b5 {a0 : Int} (h0 : ¬ a0 < 7) : 7 ≤ a0 := by omega
theorem v_ba201db0a2 {a0 : Int} (h0 : a0 < 50) : a0 < 50 := by omega
theorem v_ec0ac2e815 {a0 : Int} (h0 : ¬ a0 < 7) : 0 ≤ a0 := by omega
theorem v_ec2a4dea25 {a0 : Int} (h0 : ¬ a0 < 7) : 8 ≤ a0 + 1 := by omega
theorem v_bec5aa9605 {a0 : Int} (h0 : ¬ 14 < a0) : a0 + 1 ≤ 15 := by omega
theorem v_22037acd2e {a0 : Int} : a0 - 7 = a0 + 1 - 8 := by omega
theorem v_6f05a3a39a {a0 : Int} (h0 : ¬ a0 < 50) : ¬ a0 < 50 := by omega
theorem v_c986789e97 {a0 : Int} (h0 : 0 ≤ a0) (h1 : a0 ≤ 1001) : zr a0 := by omega
theorem v_822edaa202 : zr 1000 := by omega
theorem v_87f911991b {a0 : Int} (h0 : a0 = 16) : zr a0 := by omega
theorem v_a610ec54f4 {a0 : Int} (h0 : a0 = 16) : ¬ a0 < 7 := by omega
theorem v_8a408c96ed {a0 : Int} (h0 : a0 = 16) : 14 < a0 := by omega
theorem v_ba43a80476 {a0 : Int} (h0 : a0 = 16) : ¬ a0 = 191 := by omega
theorem v_3f1e82a223 {a0 : Int} (h0 : 0 ≤ a0) (h1 : ¬ 1000 < a0) : zr a0 := by omega
theorem v_d71a1868af : (0 : Int) < 32 := by omega
theorem v_50f9918ec4 {a0 : Int} (h0 : ¬ 1000 < a0) : a0 < 1000000 := by omega
theorem v_842fc1ac99 {a0 : Int} (h0 : a0 = 16) : ¬ a0 = 17 := by omega
theorem v_c5b5cc5484 {a0 : Int} (h0 : a0 = 16) : a0 = 16 := by omega
theorem v_34f25c0213 {a0 : Int} (h0 : ¬ 1000 < a0) : a0 ≤ 1000 := by omega
theorem v_5ab96f7b5e : (0 : Int) ≤ 400 := by omega
theorem v_3c1faf939c {a0 a1 : Int} (h0 : a0 ≤ a1) : a0 + 0 ≤ a1 := by omega
theorem v_96ef693267 {a0 a1 a2 a3 a4 : Int} (h0 : a0 ≤ 400) (h1 : 0 ≤ a1) (h2 : a2 ≤ a3) (h3 : a3 ≤ a0) (h4 : a1 + a4 ≤ a2) (h5 : 400 ≤ a4) : a2 = a0 := by omega
theorem v_d9c44388fb {a0 : Int} (h0 : a0 = 17) : ¬ a0 = 142 := by omega
theorem v_33dade03bd {a0 : Int} (h0 : a0 = 17) : ¬ a0 = 147 := by omega
theorem v_19b0ad2cd1 : (0 : Int) ≤ 42 := by omega
theorem v_1f79c0c2c4 : (42 : Int) ≤ 255 := by omega
theorem v_4a9f236eb2 {a0 : Int} (h0 : a0 = 42 + 100) : ¬ a0 = 17 := by omega
theorem v_af03d664b0 {a0 a1 a2 a3 a4 a5 : Int} (h0 : a0 ≤ a1 + 1) (h1 : a2 + a1 ≤ a0 + a3) (h2 : a3 + 1 ≤ a4) (h3 : a4 ≤ a5) : a2 ≤ a5 + 1 := by omega
theorem v_ffb526fa28 : zr 4 := by omega
theorem v_16ac910ca9 : (4 : Int) < 32 := by omega
theorem v_e30af74f14 : (0 : Int) < 1000000 := by omega
theorem v_5f3cf32d7f {a0 a1 a2 a3 a4 a5 a6 a7 a8 a9 : Int} (h0 : a0 ≤ 400) (h1 : a1 ≤ a2 + 1) (h2 : a3 + a2 ≤ a1 + a4) (h3 : a4 + 1 ≤ a5) (h4 : a5 ≤ a6) (h5 : a7 ≤ a8) (h6 : a8 ≤ a0) (h7 : a9 + a6 ≤ a3 + a7) : a9 ≤ 411 := by omega
theorem v_1510084784 {a0 a1 a2 a3 a4 a5 a6 a7 : Int} (h0 : a0 + a1 ≤ a2 + a3) (h1 : a3 + 1 ≤ a4) (h2 : a4 ≤ a5) (h3 : a6 + a5 ≤ a0 + a7) : (a6 + 1) + a1 ≤ a2 + a7 := by omega
theorem v_269579bf42 {a0 a1 a2 a3 a4 : Int} (h0 : a0 ≤ a1) (h1 : a1 + 1 ≤ a2) (h2 : a2 ≤ a3) (h3 : a3 ≤ a4) : a0 ≤ a4 := by omega
theorem v_59a7519d35 {a0 a1 a2 a3 a4 a5 a6 a7 a8 a9 : Int} (h0 : a0 ≤ 400) (h1 : a1 ≤ a2 + 1) (h2 : a3 + a2 ≤ a1 + a4) (h3 : a4 + 1 ≤ a5) (h4 : a5 ≤ a6) (h5 : a7 ≤ a8) (h6 : a8 ≤ a0) (h7 : a9 + a6 ≤ a3 + a7) : (a9 + 1) ≤ 412 := by omega
theorem v_974edc800f {a0 a1 a2 a3 a4 a5 : Int} (h0 : a0 + a1 ≤ a2) (h1 : a2 + 1 ≤ a3) (h2 : a3 ≤ a4) (h3 : a4 ≤ a5) : a0 + (a1 + 1) ≤ a5 := by omega
theorem v_1500549be1 {a0 : Int} (h0 : a0 = 42 + 100) : a0 = 142 := by omega
theorem v_ceb2ed6d2b {a0 : Int} : 400 - (a0 + 1) < (400 - a0) := by omega
theorem v_44ddc35e90 {a0 : Int} (h0 : ¬ 400 ≤ a0) : 0 < 400 - a0 := by omega
theorem v_dc1247e06b {a0 : Int} (h0 : a0 = 42 + 100) (h1 : ¬ a0 = 42 + 100) : False := by omega
theorem v_a2835897db : (0 : Int) ≤ 47 := by omega
theorem v_8710bb8462 : (47 : Int) ≤ 255 := by omega
theorem v_4c7f0d169f {a0 : Int} (h0 : a0 = 47 + 100) (h1 : a0 = 42 + 100) : False := by omega
theorem v_6abada17c7 {a0 : Int} (h0 : a0 = 47 + 100) : ¬ a0 = 17 := by omega
theorem v_7b748cefa3 : (5 : Int) < 32 := by omega
theorem v_963e78d969 {a0 : Int} (h0 : a0 = 47 + 100) : a0 = 147 := by omega
theorem v_bfc3241138 {a0 : Int} (h0 : ¬ a0 = 42 + 100) : ¬ a0 = 142 := by omega
theorem v_446b74d554 {a0 : Int} (h0 : ¬ a0 = 47 + 100) : ¬ a0 = 147 := by omega
theorem v_01b9cf9fa7 {a0 : Int} (h0 : a0 = 17) : ¬ a0 = 143 := by omega
theorem v_03a7f166d3 {a0 : Int} (h0 : a0 = 17) : ¬ a0 = 145 := by omega
theorem v_8b70ad274a : (0 : Int) ≤ 43 := by omega
theorem v_ff10987188 : (43 : Int) ≤ 255 := by omega
theorem v_7a588369ee {a0 : Int} (h0 : a0 = 43 + 100) : ¬ a0 = 17 := by omega
theorem v_35568a42ac : (2 : Int) < 32 := by omega
theorem v_b4c0db470d {a0 : Int} (h0 : a0 = 43 + 100) : a0 = 143 := by omega
theorem v_a48d9a0d20 {a0 : Int} (h0 : a0 = 43 + 100) (h1 : ¬ a0 = 43 + 100) : False := by omega
theorem v_8bc5410605 : (0 : Int) ≤ 45 := by omega
theorem v_46bbb1acae : (45 : Int) ≤ 255 := by omega
theorem v_1d6e974349 {a0 : Int} (h0 : a0 = 45 + 100) (h1 : a0 = 43 + 100) : False := by omega
theorem v_1c70dbbeab {a0 : Int} (h0 : a0 = 45 + 100) : ¬ a0 = 17 := by omega
theorem v_1cc5223c3a : zr 3 := by omega
theorem v_1895c44eeb : (3 : Int) < 32 := by omega
theorem v_7912200c83 {a0 : Int} (h0 : a0 = 45 + 100) : a0 = 145 := by omega
theorem v_4e9b5acef3 {a0 : Int} (h0 : ¬ a0 = 43 + 100) : ¬ a0 = 143 := by omega
theorem v_fa17f015bb {a0 : Int} (h0 : ¬ a0 = 45 + 100) : ¬ a0 = 145 := by omega
theorem v_2776526004 {a0 : Int} : a0 + 0 ≤ a0 := by omega
theorem v_af0392b8e9 {a0 a1 a2 a3 a4 : Int} (h0 : a0 ≤ 400) (h1 : 0 ≤ a1) (h2 : a1 + a2 ≤ a3) (h3 : a3 ≤ a4) (h4 : a4 ≤ a0) (h5 : 400 ≤ a2) : a3 = a0 := by omega
theorem v_3958fe4c87 : (0 : Int) ≤ 40 := by omega
theorem v_fdd2493dbb : (40 : Int) ≤ 255 := by omega
theorem v_ba9b7c0e8b {a0 : Int} (h0 : a0 = 17) (h1 : a0 = 40 + 100) : False := by omega
theorem v_b7a18d1e2c {a0 a1 a2 a3 : Int} (h0 : a0 ≤ a1 + 1) (h1 : a1 + a2 ≤ a3) (h2 : 400 ≤ a2) : a0 ≤ a3 + 1 := by omega
theorem v_eb2f5e1e3a : (0 : Int) ≤ 60 := by omega
theorem v_382af52349 : (60 : Int) ≤ 255 := by omega
theorem v_ada6685030 : ¬ (6 : Int) = 8 := by omega
theorem v_f5333b39e4 {a0 : Int} (h0 : a0 = 60 + 100) : ¬ a0 = 17 := by omega
theorem v_3514f20a56 {a0 a1 a2 a3 a4 a5 a6 a7 : Int} (h0 : a0 ≤ a1 + 1) (h1 : a1 + a2 ≤ a3) (h2 : 400 ≤ a2) (h3 : a4 + a3 ≤ a0 + a5) (h4 : a5 + 1 ≤ a6) (h5 : a6 ≤ a7) : a4 ≤ a7 + 1 := by omega
theorem v_a6bcc94d33 {a0 a1 a2 a3 a4 a5 : Int} (h0 : a0 ≤ 400) (h1 : 0 ≤ a1) (h2 : a1 + a2 ≤ a3) (h3 : 400 ≤ a2) (h4 : a4 ≤ a0) (h5 : a3 ≤ a5) (h6 : a5 + 1 ≤ a4) : False := by omega
theorem v_722c6b3941 : (0 : Int) ≤ 62 := by omega
theorem v_3996c1d9a8 : (62 : Int) ≤ 255 := by omega
theorem v_d62b89f05c : ¬ (7 : Int) = 8 := by omega
theorem v_3ec9e003c7 {a0 : Int} (h0 : a0 = 62 + 100) : ¬ a0 = 17 := by omega
theorem v_c1b8243509 : (8 : Int) = 8 := by omega
theorem v_b92a3c53b8 : (0 : Int) ≤ 61 := by omega
theorem v_7b9730a51b : (61 : Int) ≤ 255 := by omega
theorem v_23eeeea057 {a0 : Int} (h0 : a0 = 61 + 100) : ¬ a0 = 17 := by omega
theorem v_bd75728820 {a0 : Int} (h0 : a0 = 17) : ¬ a0 = 6 := by omega
theorem v_c9b196b50c {a0 : Int} (h0 : a0 = 17) : ¬ a0 = 140 := by omega
theorem v_62784191f6 {a0 : Int} (h0 : ¬ a0 = 60 + 100) : ¬ a0 = 160 := by omega
theorem v_e6bfb52c99 {a0 : Int} (h0 : ¬ a0 = 61 + 100) : ¬ a0 = 161 := by omega
theorem v_b61acea494 {a0 : Int} (h0 : ¬ a0 = 62 + 100) : ¬ a0 = 162 := by omega
theorem v_d57ed2d6e4 {a0 a1 a2 a3 : Int} (h0 : a0 ≤ a1 + 1) (h1 : 0 ≤ a2) (h2 : a1 + a2 ≤ a3) : a0 ≤ a3 + 1 := by omega
theorem v_f7907ed2b5 {a0 a1 a2 a3 a4 a5 : Int} (h0 : 0 ≤ a0) (h1 : a1 + a0 ≤ a2) (h2 : a3 + a2 ≤ a4 + a5) : a3 + a1 ≤ a4 + a5 := by omega
theorem v_4790cfd5f0 {a0 a1 a2 a3 : Int} (h0 : 0 ≤ a0) (h1 : a1 + a0 ≤ a2) (h2 : a2 ≤ a3) : a1 ≤ a3 := by omega
theorem v_e35e61c023 {a0 : Int} (h0 : a0 = 40 + 100) : ¬ a0 = 6 := by omega
theorem v_b392e93b1e {a0 : Int} (h0 : a0 = 40 + 100) : a0 = 140 := by omega
theorem v_4501955220 : (0 : Int) ≤ 9 := by omega
theorem v_960328259c : (9 : Int) < 32 := by omega
theorem v_867fdb0733 {a0 a1 a2 a3 a4 a5 a6 a7 : Int} (h0 : a0 ≤ 400) (h1 : a1 ≤ a2 + 1) (h2 : 0 ≤ a3) (h3 : a2 + a3 ≤ a4) (h4 : a5 ≤ a6) (h5 : a6 ≤ a0) (h6 : a7 + a4 ≤ a1 + a5) : a7 ≤ 411 := by omega
theorem v_79fa70ca55 {a0 a1 a2 a3 a4 a5 a6 a7 : Int} (h0 : a0 ≤ 400) (h1 : a1 ≤ a2 + 1) (h2 : 0 ≤ a3) (h3 : a2 + a3 ≤ a4) (h4 : a5 ≤ a6) (h5 : a6 ≤ a0) (h6 : a7 + a4 ≤ a1 + a5) : (a7 + 1) ≤ 412 := by omega
theorem v_5cdd30d860 {a0 a1 a2 a3 a4 a5 : Int} (h0 : 0 ≤ a0) (h1 : a1 + a0 ≤ a2) (h2 : a3 + a2 ≤ a4 + a5) (h3 : ¬ a0 = 0) : (a3 + 1) + a1 ≤ a4 + a5 := by omega
theorem v_51cfff4e03 {a0 a1 a2 a3 a4 a5 a6 a7 : Int} (h0 : a0 ≤ a1 + 1) (h1 : 0 ≤ a2) (h2 : a1 + a2 ≤ a3) (h3 : a4 + a3 ≤ a0 + a5) (h4 : a5 + 1 ≤ a6) (h5 : a6 ≤ a7) : a4 ≤ a7 + 1 := by omega
theorem v_a2567dbcda : (6 : Int) < 32 := by omega
theorem v_c01cc1f565 {a0 a1 a2 a3 a4 a5 a6 a7 a8 a9 a10 a11 : Int} (h0 : a0 ≤ 400) (h1 : a1 ≤ a2 + 1) (h2 : 0 ≤ a3) (h3 : a2 + a3 ≤ a4) (h4 : a5 + a4 ≤ a1 + a6) (h5 : a6 + 1 ≤ a7) (h6 : a7 ≤ a8) (h7 : a9 ≤ a10) (h8 : a10 ≤ a0) (h9 : a11 + a8 ≤ a5 + a9) : a11 ≤ 411 := by omega
theorem v_78dfab290b {a0 a1 a2 a3 a4 a5 a6 a7 a8 a9 a10 a11 : Int} (h0 : a0 ≤ 400) (h1 : a1 ≤ a2 + 1) (h2 : 0 ≤ a3) (h3 : a2 + a3 ≤ a4) (h4 : a5 + a4 ≤ a1 + a6) (h5 : a6 + 1 ≤ a7) (h6 : a7 ≤ a8) (h7 : a9 ≤ a10) (h8 : a10 ≤ a0) (h9 : a11 + a8 ≤ a5 + a9) : (a11 + 1) ≤ 412 := by omega
theorem v_b291f931a4 {a0 a1 a2 a3 a4 a5 a6 a7 a8 a9 : Int} (h0 : 0 ≤ a0) (h1 : a1 + a0 ≤ a2) (h2 : a3 + a2 ≤ a4 + a5) (h3 : a5 + 1 ≤ a6) (h4 : a6 ≤ a7) (h5 : a8 + a7 ≤ a3 + a9) : (a8 + 1) + a1 ≤ a4 + a9 := by omega
theorem v_60a9ec55dc {a0 a1 a2 a3 a4 a5 a6 : Int} (h0 : 0 ≤ a0) (h1 : a1 + a0 ≤ a2) (h2 : a2 ≤ a3) (h3 : a3 + 1 ≤ a4) (h4 : a4 ≤ a5) (h5 : a5 ≤ a6) : a1 ≤ a6 := by omega
theorem v_ce976e4d7c {a0 : Int} (h0 : ¬ a0 = 40 + 100) : ¬ a0 = 140 := by omega
theorem v_53d1657b4a {a0 : Int} (h0 : a0 = 60 + 100) : a0 = 160 := by omega
theorem v_705c53b45f {a0 a1 a2 a3 a4 a5 a6 a7 a8 a9 a10 a11 : Int} (h0 : a0 ≤ 400) (h1 : a1 ≤ a2 + 1) (h2 : 0 ≤ a3) (h3 : a2 + a3 ≤ a4) (h4 : a5 + a4 ≤ a1 + a6) (h5 : a6 + 1 ≤ a7) (h6 : a7 ≤ a8) (h7 : a9 ≤ a10) (h8 : a10 ≤ a0) (h9 : a11 + a8 ≤ a5 + a9) : (a11 + 1) ≤ 411 := by omega
theorem v_a06cdc8c67 {a0 : Int} (h0 : 0 ≤ a0) : 0 ≤ (a0 + 2) := by omega
theorem v_e292f2a4a3 {a0 a1 a2 a3 a4 a5 a6 a7 a8 a9 a10 a11 : Int} (h0 : a0 ≤ 400) (h1 : a1 ≤ a2 + 1) (h2 : 0 ≤ a3) (h3 : a2 + a3 ≤ a4) (h4 : a5 + a4 ≤ a1 + a6) (h5 : a6 + 1 ≤ a7) (h6 : a7 ≤ a8) (h7 : a9 ≤ a10) (h8 : a10 ≤ a0) (h9 : a11 + a8 ≤ a5 + a9) : (a11 + 2) ≤ 412 := by omega
theorem v_6c98fceb63 {a0 a1 a2 a3 a4 a5 a6 a7 a8 a9 : Int} (h0 : 0 ≤ a0) (h1 : a1 + a0 ≤ a2) (h2 : a3 + a2 ≤ a4 + a5) (h3 : a5 + 1 ≤ a6) (h4 : a6 ≤ a7) (h5 : a8 + a7 ≤ a3 + a9) (h6 : ¬ a0 = 0) : (a8 + 2) + a1 ≤ a4 + a9 := by omega
theorem v_7868b8729c : (7 : Int) < 32 := by omega
theorem v_99c0172699 {a0 : Int} (h0 : a0 = 62 + 100) : a0 = 162 := by omega
theorem v_09118c4f05 : (0 : Int) ≤ 8 := by omega
theorem v_6dded3bc40 : (8 : Int) < 32 := by omega
theorem v_1bfbc8b266 {a0 : Int} (h0 : a0 = 61 + 100) : a0 = 161 := by omega
theorem v_3a5b2158d2 {a0 : Int} (h0 : a0 = 6) : ¬ a0 = 17 := by omega
theorem v_17f5bda46b {a0 a1 a2 a3 a4 : Int} (h0 : 0 ≤ a0) (h1 : a1 + a0 ≤ a2) (h2 : a2 + 1 ≤ a3) (h3 : a3 ≤ a4) : a1 + 0 ≤ a4 := by omega
theorem v_ad4cf07083 {a0 a1 a2 a3 a4 : Int} (h0 : a0 + a1 ≤ a2) (h1 : a2 + 1 ≤ a3) (h2 : a3 ≤ a4) : a0 + (a1 + 1) ≤ a4 := by omega
theorem v_9fcadba328 {a0 a1 a2 a3 a4 : Int} (h0 : 0 ≤ a0) (h1 : a1 + a0 ≤ a2) (h2 : a2 + 1 ≤ a3) (h3 : a3 ≤ a4) : a1 + 1 ≤ a4 := by omega
theorem v_ffc4fbfbcd {a0 : Int} (h0 : a0 = 17) : ¬ a0 = 5 := by omega
theorem v_9ad38f4709 {a0 : Int} (h0 : a0 = 5) : ¬ a0 = 17 := by omega
theorem v_86fcb050e7 : (0 : Int) ≤ 11 := by omega
theorem v_ce8cdb034b : (11 : Int) < 32 := by omega
theorem v_d175cef4e1 {a0 a1 a2 a3 a4 a5 : Int} (h0 : a0 ≤ 400) (h1 : a1 ≤ a2 + 1) (h2 : a3 + a2 ≤ a1 + a4) (h3 : a5 ≤ a0) (h4 : a4 + 1 ≤ a5) : a3 ≤ 411 := by omega
theorem v_be245ba567 {a0 a1 a2 a3 a4 a5 : Int} (h0 : a0 ≤ 400) (h1 : a1 ≤ a2 + 1) (h2 : a3 + a2 ≤ a1 + a4) (h3 : a5 ≤ a0) (h4 : a4 + 1 ≤ a5) : (a3 + 1) ≤ 412 := by omega
theorem v_e47300f8f6 {a0 a1 a2 a3 a4 a5 : Int} (h0 : a0 ≤ a1 + 1) (h1 : a2 + a1 ≤ a0 + a3) (h2 : a3 + 1 ≤ a4) (h3 : a4 ≤ a5) : (a2 + 1) ≤ a5 + 1 := by omega
theorem v_e3be02b6c6 {a0 a1 a2 a3 a4 a5 a6 a7 : Int} (h0 : a0 + a1 ≤ a2 + a3) (h1 : a3 + 1 ≤ a4) (h2 : a4 ≤ a5) (h3 : a6 + a5 ≤ (a0 + 1) + a7) : a6 + a1 ≤ a2 + a7 := by omega
theorem v_6cdd333bcc {a0 : Int} (h0 : a0 = 17) : ¬ a0 = 4 := by omega
theorem v_5ca91df03c {a0 : Int} (h0 : a0 = 4) : ¬ a0 = 17 := by omega
theorem v_e624b9b685 : (0 : Int) ≤ 10 := by omega
theorem v_35f6a207fd : (10 : Int) < 32 := by omega
theorem v_0f26919f92 : (7 : Int) + 1 = 8 := by omega
theorem v_42e933a8b3 {a0 a1 a2 a3 : Int} (h0 : a0 ≤ a1) (h1 : a2 ≤ a0 + 1) (h2 : a1 ≤ a3) : a2 ≤ a3 + 1 := by omega
theorem v_57eea63119 : (0 : Int) ≤ 93 := by omega
theorem v_eeebb5ff41 : (93 : Int) ≤ 255 := by omega
theorem v_0603afac7b {a0 : Int} (h0 : a0 = 93 + 100) : ¬ a0 = 17 := by omega
theorem v_a156850946 {a0 a1 a2 a3 a4 a5 a6 a7 : Int} (h0 : a0 ≤ a1) (h1 : a1 ≤ a2) (h2 : a3 + a2 ≤ a4 + a5) (h3 : a5 + 1 ≤ a6) (h4 : a6 ≤ a7) : a3 + a0 ≤ a4 + a7 := by omega
theorem v_b3d66fcd45 {a0 a1 a2 a3 a4 a5 : Int} (h0 : a0 ≤ a1) (h1 : a1 ≤ a2) (h2 : a2 ≤ a3) (h3 : a3 + 1 ≤ a4) (h4 : a4 ≤ a5) : a0 ≤ a5 := by omega
theorem v_878a2e7c0a {a0 : Int} (h0 : a0 = 93 + 100) : a0 = 193 := by omega
theorem v_ce1099fe70 {a0 : Int} (h0 : ¬ a0 = 93 + 100) : ¬ a0 = 193 := by omega
theorem v_eff0eb06dc : (0 : Int) ≤ 41 := by omega
theorem v_d0aa1234d6 : (41 : Int) ≤ 255 := by omega
theorem v_5f6578b310 {a0 : Int} (h0 : a0 = 41 + 100) : ¬ a0 = 17 := by omega
theorem v_1cbafa89df {a0 : Int} (h0 : a0 = 41 + 100) : a0 = 141 := by omega
theorem v_b624d93a99 {a0 : Int} (h0 : ¬ a0 = 41 + 100) : ¬ a0 = 141 := by omega
theorem v_fbe2095f63 : (6 : Int) + 1 = 7 := by omega
theorem v_93e4dd8c33 : (5 : Int) + 1 = 6 := by omega
theorem v_33b28fcfc0 : (4 : Int) + 1 = 5 := by omega
theorem v_c793779b3d : (3 : Int) + 1 = 4 := by omega
theorem v_accc64abdf : (2 : Int) + 1 = 3 := by omega
theorem v_3afe9cbc68 : (1 : Int) + 1 = 2 := by omega
theorem v_a8511d4785 : (0 : Int) + 1 = 1 := by omega
theorem v_9e3e808914 {a0 : Int} (h0 : a0 = 0) : ¬ a0 = 17 := by omega
theorem v_1bb2bfd6ba {a0 : Int} (h0 : 0 ≤ a0) (h1 : a0 = 0) : zr a0 := by omega
theorem v_9de943f0f8 {a0 a1 a2 a3 : Int} (h0 : a0 ≤ a1 + 1) (h1 : a1 + 1 ≤ a2) (h2 : a2 ≤ a3) : a0 ≤ a3 + 1 := by omega
theorem v_cd31ae4445 : (1 : Int) < 1000000 := by omega
theorem v_5e33a299a0 {a0 a1 a2 a3 a4 a5 a6 a7 : Int} (h0 : a0 ≤ 400) (h1 : a1 ≤ a2 + 1) (h2 : a2 + 1 ≤ a3) (h3 : a3 ≤ a4) (h4 : a5 ≤ a6) (h5 : a6 ≤ a0) (h6 : a7 + a4 ≤ a1 + a5) : a7 ≤ 411 := by omega
theorem v_cadf61df7b : (0 : Int) ≤ 12 := by omega
theorem v_146c9febc8 : (12 : Int) < 32 := by omega
theorem v_b2b38114a4 {a0 a1 a2 a3 a4 a5 a6 a7 : Int} (h0 : a0 ≤ 400) (h1 : a1 ≤ a2 + 1) (h2 : a2 + 1 ≤ a3) (h3 : a3 ≤ a4) (h4 : a5 ≤ a6) (h5 : a6 ≤ a0) (h6 : a7 + a4 ≤ a1 + a5) : (a7 + 1) ≤ 411 := by omega
theorem v_32930837f0 {a0 a1 a2 a3 a4 a5 a6 a7 : Int} (h0 : a0 ≤ 400) (h1 : a1 ≤ a2 + 1) (h2 : a2 + 1 ≤ a3) (h3 : a3 ≤ a4) (h4 : a5 ≤ a6) (h5 : a6 ≤ a0) (h6 : a7 + a4 ≤ a1 + a5) : (a7 + 2) ≤ 412 := by omega
theorem v_1f93ec3282 {a0 a1 a2 a3 a4 a5 : Int} (h0 : a0 + 1 ≤ a1) (h1 : a1 ≤ a2) (h2 : a3 + a2 ≤ a4 + a5) : (a3 + 2) + a0 ≤ a4 + a5 + 1 := by omega
theorem v_f86ed2c715 {a0 a1 a2 a3 : Int} (h0 : a0 + 1 ≤ a1) (h1 : a1 ≤ a2) (h2 : a2 ≤ a3) : a0 ≤ a3 := by omega
theorem v_fc3cb3818f {a0 : Int} (h0 : a0 ≤ 50) : a0 + 1 ≤ 51 := by omega
theorem v_4578a667d7 {a0 : Int} (h0 : a0 ≤ 50) : a0 ≤ 50 := by omega
theorem v_e24a142995 {a0 : Int} (h0 : a0 = 3) : ¬ a0 = 17 := by omega
theorem v_02a0050630 {a0 a1 a2 a3 a4 a5 a6 a7 : Int} (h0 : a0 ≤ a1 + 1) (h1 : a1 + 1 ≤ a2) (h2 : a2 ≤ a3) (h3 : a4 + a3 ≤ a0 + a5) (h4 : a5 + 1 ≤ a6) (h5 : a6 ≤ a7) : a4 ≤ a7 + 1 := by omega
theorem v_02605b0e7e {a0 a1 a2 a3 a4 a5 a6 a7 a8 a9 a10 a11 : Int} (h0 : a0 ≤ 400) (h1 : a1 ≤ a2 + 1) (h2 : a2 + 1 ≤ a3) (h3 : a3 ≤ a4) (h4 : a5 + a4 ≤ a1 + a6) (h5 : a6 + 1 ≤ a7) (h6 : a7 ≤ a8) (h7 : a9 ≤ a10) (h8 : a10 ≤ a0) (h9 : a11 + a8 ≤ a5 + a9) : a11 ≤ 411 := by omega
theorem v_067ca7e9b1 {a0 a1 a2 a3 a4 a5 a6 a7 a8 a9 a10 a11 : Int} (h0 : a0 ≤ 400) (h1 : a1 ≤ a2 + 1) (h2 : a2 + 1 ≤ a3) (h3 : a3 ≤ a4) (h4 : a5 + a4 ≤ a1 + a6) (h5 : a6 + 1 ≤ a7) (h6 : a7 ≤ a8) (h7 : a9 ≤ a10) (h8 : a10 ≤ a0) (h9 : a11 + a8 ≤ a5 + a9) : (a11 + 1) ≤ 412 := by omega
theorem v_6f91067a49 {a0 a1 a2 a3 a4 a5 a6 a7 a8 a9 : Int} (h0 : a0 + 1 ≤ a1) (h1 : a1 ≤ a2) (h2 : a3 + a2 ≤ a4 + a5) (h3 : a5 + 1 ≤ a6) (h4 : a6 ≤ a7) (h5 : a8 + a7 ≤ a3 + a9) : (a8 + 1) + a0 ≤ a4 + a9 + 1 := by omega
theorem v_04b81f21f8 {a0 a1 a2 a3 a4 a5 a6 : Int} (h0 : a0 + 1 ≤ a1) (h1 : a1 ≤ a2) (h2 : a2 ≤ a3) (h3 : a3 + 1 ≤ a4) (h4 : a4 ≤ a5) (h5 : a5 ≤ a6) : a0 ≤ a6 := by omega
theorem v_e3aece3978 {a0 : Int} (h0 : a0 ≤ 50) : a0 ≤ 51 := by omega
theorem v_0735d96bf3 {a0 : Int} (h0 : a0 = 1) : ¬ a0 = 17 := by omega
theorem v_1a3a51a3ac {a0 : Int} (h0 : a0 = 1) : zr a0 := by omega
theorem v_e0bf6d6e6a {a0 : Int} (h0 : a0 = 1) : ¬ a0 = 0 := by omega
theorem v_df82142079 {a0 a1 a2 a3 : Int} (h0 : a0 ≤ 400) (h1 : a1 ≤ a0) (h2 : a2 ≤ a3 + 1) (h3 : a3 + 1 ≤ a1) : a2 ≤ 411 := by omega
theorem v_d8d90b209a : (0 : Int) ≤ 13 := by omega
theorem v_73b9a4490b : (13 : Int) < 32 := by omega
theorem v_075fac27dc {a0 a1 a2 a3 : Int} (h0 : a0 ≤ 400) (h1 : a1 ≤ a0) (h2 : a2 ≤ a3 + 1) (h3 : a3 + 1 ≤ a1) : (a2 + 1) ≤ 411 := by omega
theorem v_23f4ed02f9 {a0 a1 a2 a3 : Int} (h0 : a0 ≤ 400) (h1 : a1 ≤ a0) (h2 : a2 ≤ a3 + 1) (h3 : a3 + 1 ≤ a1) : (a2 + 2) ≤ 412 := by omega
theorem v_6d34abb227 {a0 a1 a2 a3 : Int} (h0 : a0 + 1 ≤ a1) (h1 : a1 ≤ a2) : (a3 + 2) + a0 ≤ a3 + a2 + 1 := by omega
theorem v_845a44a026 {a0 a1 a2 a3 : Int} (h0 : 0 ≤ a0) (h1 : a0 + 1 ≤ a1) (h2 : a1 ≤ a2) (h3 : a2 + 1 ≤ a3) : 0 ≤ a3 := by omega
theorem v_69db46a620 {a0 a1 a2 a3 a4 : Int} (h0 : 0 ≤ a0) (h1 : a0 + 1 ≤ a1) (h2 : a1 ≤ a2) (h3 : a2 + 1 ≤ a3) (h4 : a3 ≤ a4) : 0 ≤ a4 := by omega
theorem v_1cceeae39c {a0 a1 a2 a3 a4 a5 : Int} (h0 : a0 ≤ a1 + 1) (h1 : a1 + 1 ≤ a2) (h2 : a2 ≤ a3) (h3 : a3 + 1 ≤ a4) (h4 : a4 ≤ a5) : a0 ≤ a5 + 1 := by omega
theorem v_c73e40a939 {a0 a1 a2 a3 a4 a5 a6 a7 a8 a9 : Int} (h0 : a0 ≤ 400) (h1 : a1 ≤ a2 + 1) (h2 : a2 + 1 ≤ a3) (h3 : a3 ≤ a4) (h4 : a4 + 1 ≤ a5) (h5 : a5 ≤ a6) (h6 : a7 ≤ a8) (h7 : a8 ≤ a0) (h8 : a9 + a6 ≤ a1 + a7) : a9 ≤ 411 := by omega
theorem v_988b6e63a0 {a0 a1 a2 a3 a4 a5 a6 a7 a8 a9 : Int} (h0 : a0 ≤ 400) (h1 : a1 ≤ a2 + 1) (h2 : a2 + 1 ≤ a3) (h3 : a3 ≤ a4) (h4 : a4 + 1 ≤ a5) (h5 : a5 ≤ a6) (h6 : a7 ≤ a8) (h7 : a8 ≤ a0) (h8 : a9 + a6 ≤ a1 + a7) : (a9 + 1) ≤ 412 := by omega
theorem v_b2f31bf279 {a0 a1 a2 a3 a4 a5 a6 a7 : Int} (h0 : a0 + 1 ≤ a1) (h1 : a1 ≤ a2) (h2 : a2 + 1 ≤ a3) (h3 : a3 ≤ a4) (h4 : a5 + a4 ≤ a6 + a7) : (a5 + 1) + a0 ≤ a6 + a7 + 1 := by omega
theorem v_5a3a613fae {a0 a1 a2 a3 a4 a5 : Int} (h0 : a0 + 1 ≤ a1) (h1 : a1 ≤ a2) (h2 : a2 + 1 ≤ a3) (h3 : a3 ≤ a4) (h4 : a4 ≤ a5) : a0 ≤ a5 := by omega
theorem v_e357b15c27 {a0 : Int} (h0 : a0 = 2) : ¬ a0 = 17 := by omega
theorem v_968939783c {a0 : Int} (h0 : a0 = 2) : zr a0 := by omega
theorem v_aa452c7951 {a0 : Int} (h0 : a0 = 2) : ¬ a0 = 0 := by omega
theorem v_bce346d883 {a0 : Int} (h0 : a0 = 2) : ¬ a0 = 1 := by omega
theorem v_cf0a767ec6 : (0 : Int) ≤ 14 := by omega
theorem v_dbe147bc8a : (14 : Int) < 32 := by omega
theorem v_724316b824 : (0 : Int) ≤ 50 := by omega
theorem v_178ac4adec : (0 : Int) ≤ 412 := by omega
theorem v_128fe8cba7 : (1 : Int) ≤ 13 := by omega
theorem v_ac332776b7 : (-(1 : Int)) + 1 ≤ 401 * (1 - 1) := by omega
theorem v_66b657ba6d {a0 a1 a2 : Int} (h0 : 0 ≤ a0) (h1 : a1 + a0 ≤ 0 + a2 + 1) : a1 ≤ a2 + 1 + 412 * (1 - 1) := by omega
theorem v_a34c27d11e {a0 : Int} (h0 : 1 ≤ a0) (h1 : a0 ≤ 13) : zr a0 := by omega
theorem v_0305cee7fe {a0 a1 : Int} (h0 : -a0 ≤ a1) (h1 : a0 = 0) : 0 ≤ a1 := by omega
theorem v_5d2348a0fa {a0 a1 : Int} (h0 : 0 ≤ a0) (h1 : a1 + 1 ≤ 401 * (1 - a0)) : a1 ≤ 400 := by omega
theorem v_55f4e57ae7 : zr 17 := by omega
theorem v_2204f4773d {a0 a1 : Int} (h0 : 0 ≤ a0) (h1 : a1 + 1 ≤ 401 * (1 - a0)) (h2 : -a0 ≤ a1) (h3 : ¬ a0 = 0) : a1 = -1 := by omega
theorem v_dd586289c5 {a0 : Int} (h0 : 12 < a0) : 12 < a0 := by omega
theorem v_b5b75bc3fa {a0 : Int} (h0 : a0 = 17) : a0 = 17 := by omega
theorem v_f0d9d901dd {a0 a1 a2 a3 a4 : Int} (h0 : a0 ≤ 400) (h1 : 0 ≤ a1) (h2 : a2 ≤ a3 + 1 + 412 * (1 - a1)) (h3 : a3 ≤ a4) (h4 : a4 ≤ a0) (h5 : ¬ a1 = 0) : a2 ≤ 402 := by omega
theorem v_9e4019cbe3 {a0 : Int} (h0 : ¬ a0 = 17) : ¬ a0 = 17 := by omega
theorem v_891b05d1c3 : (0 : Int) ≤ 59 := by omega
theorem v_a8513e8773 : (59 : Int) ≤ 255 := by omega
theorem v_ab9b015ba3 {a0 : Int} (h0 : a0 = 59 + 100) : ¬ a0 = 17 := by omega
theorem v_136dea8776 {a0 : Int} (h0 : 1 ≤ a0) (h1 : ¬ 12 < a0) : zr a0 := by omega
theorem v_d5c0b6f86d {a0 : Int} (h0 : 12 ≤ a0) : 1 ≤ (a0 + 1) := by omega
theorem v_88b14b6dbe {a0 : Int} (h0 : ¬ 12 < a0) : (a0 + 1) ≤ 13 := by omega
theorem v_9e5bb7733d {a0 a1 a2 : Int} (h0 : a0 ≤ 400) (h1 : a1 ≤ a2) (h2 : a2 ≤ a0) : a1 + 1 ≤ 401 * (1 - 0) := by omega
theorem v_01585510fa {a0 a1 a2 : Int} (h0 : 0 ≤ a0) (h1 : a0 + 1 ≤ a1) (h2 : a1 ≤ a2) : -0 ≤ a2 := by omega
theorem v_e28c14db79 {a0 a1 a2 a3 a4 : Int} (h0 : 0 ≤ a0) (h1 : a1 ≤ a2 + 1 + 412 * (1 - a0)) (h2 : a2 + 1 ≤ a3) (h3 : a3 ≤ a4) : a1 ≤ a4 + 1 + 412 * (1 - 0) := by omega
theorem v_1def112a18 {a0 : Int} (h0 : a0 = 59 + 100) : a0 = 159 := by omega
theorem v_2b4319fb0c {a0 : Int} (h0 : 12 ≤ a0) : 12 ≤ a0 := by omega
theorem v_bcd0abe930 {a0 : Int} : 13 - (a0 + 1) < (13 - a0) := by omega
theorem v_c2e07689da {a0 : Int} (h0 : ¬ 12 < a0) : 0 < 13 - a0 := by omega
theorem v_5d41d20438 {a0 a1 : Int} (h0 : 0 ≤ a0) (h1 : a1 + 1 ≤ 401 * (1 - a0)) (h2 : -a0 ≤ a1) : zr a1 := by omega
theorem v_f3ef702bca {a0 a1 a2 a3 a4 : Int} (h0 : 0 ≤ a0) (h1 : a1 ≤ a2 + 1 + 412 * (1 - a0)) (h2 : ¬ a0 = 0) (h3 : a2 + 1 ≤ a3) (h4 : a3 ≤ a4) : a1 ≤ a4 + 1 := by omega
theorem v_57473e1536 {a0 : Int} (h0 : ¬ 12 ≤ a0) : (a0 + 1) ≤ 13 := by omega
theorem v_838545eb26 {a0 a1 : Int} (h0 : 0 ≤ a0) (h1 : a1 + 1 ≤ 401 * (1 - a0)) (h2 : ¬ a0 = 0) : a1 + 1 ≤ 401 * (1 - 1) := by omega
theorem v_1e02a2c5cb {a0 a1 : Int} (h0 : a0 + 1 ≤ 401 * (1 - a1)) (h1 : -a1 ≤ a0) : -1 ≤ a0 := by omega
theorem v_b38bc9c89f {a0 a1 a2 a3 a4 a5 a6 : Int} (h0 : 0 ≤ a0) (h1 : a1 ≤ a2 + 1 + 412 * (1 - a0)) (h2 : ¬ a0 = 0) (h3 : a2 + 1 ≤ a3) (h4 : a3 ≤ a4) (h5 : a5 + a4 ≤ a1 + a6 + 1) : a5 ≤ a6 + 1 + 412 * (1 - 1) := by omega
theorem v_03a236858c {a0 : Int} (h0 : ¬ 12 ≤ a0) : 0 < 13 - a0 := by omega
theorem v_1ab801cc12 {a0 : Int} (h0 : a0 ≤ 400) : a0 + 1 ≤ 401 * (1 - 0) := by omega
theorem v_c6d35956d5 {a0 : Int} (h0 : 0 ≤ a0) : -0 ≤ a0 := by omega
theorem v_d2556409d8 {a0 a1 : Int} (h0 : 0 ≤ a0) (h1 : a1 ≤ 412) : a1 ≤ a0 + 1 + 412 * (1 - 0) := by omega
theorem v_0a5c225759 {a0 : Int} (h0 : a0 = 17) : ¬ a0 = 159 := by omega
theorem v_0b3537cfb9 {a0 : Int} (h0 : ¬ a0 = 59 + 100) : ¬ a0 = 159 := by omega
set_option maxHeartbeats 4000000 in
set_option maxRecDepth 100000 in
theorem d_length {l : Launch} {G : jG} {nh : Nat} {fh : Nat → Option va_E} (ln : Int) (tk : Int) (st : Int) (bh : Int) (va : Int) (pa : Int) (fl : Int) (sz : Int) (hk54 : fh 54 = some (.inr (5, [.ref 55, .int (zI ln), .int (zI tk), .int (zI st), .int (zI bh), .int (zI va), .int (zI pa), .int (zI fl), .ref 56, .int (zI sz)]))) : JM l G yX5_length MX5_length { frames := 0, cells := 0, slots := 0, locals := 0 } [.ref 54] (nh, fh) (fun rr h9 => rr = some (.int (zI ln)) ∧ h9 = (nh, fh)) := by
  refine JM.of (by decide) rfl (fun h => by cases h) (Nat.le_of_ble_eq_true rfl) ⟨0, rfl⟩ ?_
  refine J_hc0 (J_ls (ls2 := [some (.ref 54)]) rfl ?_)
  refine J_aload_n dX5_length_0 rfl rfl ?_
  refine J_get (v := .int (zI ln)) dX5_length_1 fl_X5_15 hk54 rfl ?_
  exact J_iret dX5_length_4 rfl rfl (Nat.le_of_ble_eq_true rfl) (Nat.le_of_ble_eq_true rfl) ⟨rfl, rfl⟩
set_option maxHeartbeats 4000000 in
set_option maxRecDepth 100000 in
theorem d_at {l : Launch} {G : jG} {nh : Nat} {fh : Nat → Option va_E} (x : Int) (ln : Int) (tk : Int) (st : Int) (bh : Int) (va : Int) (pa : Int) (fl : Int) (sz : Int) (tp : Int → Int) (q0 : zr x) (q1 : 0 ≤ ln) (q2 : ln ≤ 400) (q3 : Rg tp 400 0 255) (hk54 : fh 54 = some (.inr (5, [.ref 55, .int (zI ln), .int (zI tk), .int (zI st), .int (zI bh), .int (zI va), .int (zI pa), .int (zI fl), .ref 56, .int (zI sz)]))) (hk55 : fh 55 = some (.inl (0, 400, .inl (zA tp)))) : JM l G yX5_at MX5_at { frames := 0, cells := 0, slots := 0, locals := 0 } [.ref 54, .int (zI x)] (nh, fh) (fun rr h9 => (∃ r : Int, rr = some (.int (zI r)) ∧ h9 = (nh, fh) ∧ (-1 ≤ r) ∧ (r ≤ 255) ∧ (0 ≤ x) ∧ (x < ln) ∧ (tp x = r)) ∨ (rr = some (.int (zI (-1))) ∧ h9 = (nh, fh) ∧ (x < 0)) ∨ (rr = some (.int (zI (-1))) ∧ h9 = (nh, fh) ∧ (ln ≤ x))) := by
  refine JM.of (by decide) rfl (fun h => by cases h) (Nat.le_of_ble_eq_true rfl) ⟨0, rfl⟩ ?_
  refine J_hc0 (J_ls (ls2 := [some (.ref 54), some (.int (zI x))]) rfl ?_)
  refine J_iload_n dX5_at_0 rfl rfl ?_
  refine Z_if_lt (tgt := 21) dX5_at_1 (by decide) (v_b25fa51a85 q0) (fun h1 => ?_) (fun h1 => ?_)
  · refine Z_iconst (n := -1) dX5_at_21 ?_
    exact J_iret dX5_at_22 rfl rfl (Nat.le_of_ble_eq_true rfl) (Nat.le_of_ble_eq_true rfl) (Or.inr (Or.inl ⟨rfl, rfl, h1⟩))
  · refine J_iload_n dX5_at_4 rfl rfl ?_
    refine J_aload_n dX5_at_5 rfl rfl ?_
    refine J_get (v := .int (zI ln)) dX5_at_6 fl_X5_15 hk54 rfl ?_
    refine Z_icmp_ge (tgt := 21) dX5_at_9 (by decide) (v_edc92e96e6 q0 h1) (v_d7389cde0f q1 q2) (fun h2 => ?_) (fun h2 => ?_)
    · refine Z_iconst (n := -1) dX5_at_21 ?_
      exact J_iret dX5_at_22 rfl rfl (Nat.le_of_ble_eq_true rfl) (Nat.le_of_ble_eq_true rfl) (Or.inr (Or.inr ⟨rfl, rfl, h2⟩))
    · refine J_aload_n dX5_at_12 rfl rfl ?_
      refine J_get (v := .ref 55) dX5_at_13 fl_X5_11 hk54 rfl ?_
      refine J_iload_n dX5_at_16 rfl rfl ?_
      obtain ⟨z3, ez3⟩ : ∃ z : Int, tp x = z := ⟨_, rfl⟩
      have h4 := Rg.at q3 (v_b2d8922659 h1) (v_5d8e28db30 q2 h2) ez3
      refine Y_iald (z := z3) 400 dX5_at_17 hk55 rfl (by decide) (v_b2d8922659 h1) (v_5d8e28db30 q2 h2) ez3 ?_
      refine J_goto (tgt := 22) dX5_at_18 (by decide) ?_
      exact J_iret dX5_at_22 rfl rfl (Nat.le_of_ble_eq_true rfl) (Nat.le_of_ble_eq_true rfl) (Or.inl ⟨z3, rfl, rfl, (v_576129c2e8 h4.1), h4.2, (v_b2d8922659 h1), (v_fe9ea41faa h2), ez3⟩)
set_option maxHeartbeats 4000000 in
set_option maxRecDepth 100000 in
theorem d_hasRoom {l : Launch} {G : jG} {nh : Nat} {fh : Nat → Option va_E} (x : Int) (ln : Int) (tk : Int) (st : Int) (bh : Int) (va : Int) (pa : Int) (fl : Int) (sz : Int) (q0 : 0 ≤ x) (q1 : x ≤ 100) (q2 : 0 ≤ ln) (q3 : ln ≤ 400) (hk54 : fh 54 = some (.inr (5, [.ref 55, .int (zI ln), .int (zI tk), .int (zI st), .int (zI bh), .int (zI va), .int (zI pa), .int (zI fl), .ref 56, .int (zI sz)]))) : JM l G yX5_hasRoom MX5_hasRoom { frames := 0, cells := 0, slots := 0, locals := 0 } [.ref 54, .int (zI x)] (nh, fh) (fun rr h9 => (rr = some (.int (zI 1)) ∧ h9 = (nh, fh) ∧ (ln + x ≤ 400)) ∨ (rr = some (.int (zI 0)) ∧ h9 = (nh, fh) ∧ (400 < ln + x))) := by
  refine JM.of (by decide) rfl (fun h => by cases h) (Nat.le_of_ble_eq_true rfl) ⟨0, rfl⟩ ?_
  refine J_hc0 (J_ls (ls2 := [some (.ref 54), some (.int (zI x))]) rfl ?_)
  refine J_aload_n dX5_hasRoom_0 rfl rfl ?_
  refine J_get (v := .int (zI ln)) dX5_hasRoom_1 fl_X5_15 hk54 rfl ?_
  refine J_iload_n dX5_hasRoom_4 rfl rfl ?_
  refine Z_iadd (c := ln + x) dX5_hasRoom_5 rfl ?_
  refine Z_sipush (n := 400) dX5_hasRoom_6 (by decide +kernel) ?_
  refine Z_icmp_gt (tgt := 16) dX5_hasRoom_9 (by decide) (v_ae320c9b25 q0 q1 q2 q3) v_d8dcd4dd52 (fun h1 => ?_) (fun h1 => ?_)
  · refine Z_iconst (n := 0) dX5_hasRoom_16 ?_
    exact J_iret dX5_hasRoom_17 rfl (jbn v_939070ca3f v_316afd7d0b) (Nat.le_of_ble_eq_true rfl) (Nat.le_of_ble_eq_true rfl) (Or.inr ⟨rfl, rfl, h1⟩)
  · refine Z_iconst (n := 1) dX5_hasRoom_12 ?_
    refine J_goto (tgt := 17) dX5_hasRoom_13 (by decide) ?_
    exact J_iret dX5_hasRoom_17 rfl (jbn v_316afd7d0b v_bbcfac9b7d) (Nat.le_of_ble_eq_true rfl) (Nat.le_of_ble_eq_true rfl) (Or.inl ⟨rfl, rfl, (v_6a464b420f h1)⟩)
set_option maxHeartbeats 4000000 in
set_option maxRecDepth 100000 in
theorem d_take {l : Launch} {G : jG} {nh : Nat} {fh : Nat → Option va_E} (x : Int) (ln : Int) (tk : Int) (st : Int) (bh : Int) (va : Int) (pa : Int) (fl : Int) (sz : Int) (tp : Int → Int) (q0 : zr x) (q1 : 0 ≤ ln) (q2 : ln ≤ 396) (q3 : Rg tp 400 0 255) (hk54 : fh 54 = some (.inr (5, [.ref 55, .int (zI ln), .int (zI tk), .int (zI st), .int (zI bh), .int (zI va), .int (zI pa), .int (zI fl), .ref 56, .int (zI sz)]))) (hk55 : fh 55 = some (.inl (0, 400, .inl (zA tp)))) : JM l G yX5_take MX5_take { frames := 0, cells := 0, slots := 0, locals := 0 } [.ref 54, .int (zI x)] (nh, fh) (fun rr h9 => ∃ ln2 : Int, ∃ tp2 : Int → Int, rr = none ∧ h9 = (nh, hc fh [(54, .inr (5, [.ref 55, .int (zI ln2), .int (zI tk), .int (zI st), .int (zI bh), .int (zI va), .int (zI pa), .int (zI fl), .ref 56, .int (zI sz)])), (55, .inl (0, 400, .inl (zA tp2)))]) ∧ (0 ≤ ln2) ∧ (ln2 ≤ 400) ∧ (Rg tp2 400 0 255) ∧ (ln2 = ln + 4) ∧ (TkE tp2 tp ln x 4)) := by
  refine JM.of (by decide) rfl (fun h => by cases h) (Nat.le_of_ble_eq_true rfl) ⟨1, rfl⟩ ?_
  refine J_hc0 (J_ls (ls2 := [some (.ref 54), some (.int (zI x)), none]) rfl ?_)
  refine Z_bipush (n := 24) dX5_take_0 (by decide +kernel) ?_
  refine J_istore_n dX5_take_2 rfl (Nat.le_of_ble_eq_true rfl) rfl ?_
  refine J_ls (ls2 := [some (.ref 54), some (.int (zI x)), some (.int (zI 24))]) rfl ?_
  refine J_touch (k := 54) (e := .inr (5, [.ref 55, .int (zI ln), .int (zI tk), .int (zI st), .int (zI bh), .int (zI va), .int (zI pa), .int (zI fl), .ref 56, .int (zI sz)])) hk54 ?_
  refine J_touch (k := 55) (e := .inl (0, 400, .inl (zA tp))) hk55 ?_
  have lp3 : ∀ (N3 : Nat) (s_3 : Int) (n_3 : Int) (t_3 : Int → Int), (-8 ≤ s_3) → (s_3 ≤ 24) → (0 ≤ n_3) → (n_3 ≤ 400) → (Rg t_3 400 0 255) → (8 * n_3 + s_3 = 8 * ln + 24) → (TkE t_3 tp ln x (n_3 - ln)) → (s_3 + 8).toNat < N3 → J l G MX5_take { frames := 0, cells := 0, slots := 0, locals := 0 } jE (jMQ G { frames := 0, cells := 0, slots := 0, locals := 0 } (fun rr h9 => ∃ ln2 : Int, ∃ tp2 : Int → Int, rr = none ∧ h9 = (nh, hc fh [(54, .inr (5, [.ref 55, .int (zI ln2), .int (zI tk), .int (zI st), .int (zI bh), .int (zI va), .int (zI pa), .int (zI fl), .ref 56, .int (zI sz)])), (55, .inl (0, 400, .inl (zA tp2)))]) ∧ (0 ≤ ln2) ∧ (ln2 ≤ 400) ∧ (Rg tp2 400 0 255) ∧ (ln2 = ln + 4) ∧ (TkE tp2 tp ln x 4))) (nh, hc fh [(55, .inl (0, 400, .inl (zA t_3))), (54, .inr (5, [.ref 55, .int (zI n_3), .int (zI tk), .int (zI st), .int (zI bh), .int (zI va), .int (zI pa), .int (zI fl), .ref 56, .int (zI sz)]))]) 0 0 3 [some (.ref 54), some (.int (zI x)), some (.int (zI s_3))] [] := by
    intro N3
    induction N3 with
    | zero => intro s_3 n_3 t_3 i3_0 i3_1 i3_2 i3_3 i3_4 i3_5 i3_6 hm; exact absurd hm (Nat.not_lt_zero _)
    | succ N3 ih3 =>
      intro s_3 n_3 t_3 i3_0 i3_1 i3_2 i3_3 i3_4 i3_5 i3_6 hm3
      refine J_iload_n dX5_take_3 rfl rfl ?_
      refine Z_if_lt (tgt := 49) dX5_take_4 (by decide) (v_f3427b8b53 i3_0 i3_1) (fun h1 => ?_) (fun h1 => ?_)
      · refine J_touch (k := 55) (e := .inl (0, 400, .inl (zA t_3))) rfl ?_
        refine J_touch (k := 54) (e := .inr (5, [.ref 55, .int (zI n_3), .int (zI tk), .int (zI st), .int (zI bh), .int (zI va), .int (zI pa), .int (zI fl), .ref 56, .int (zI sz)])) rfl ?_
        refine J_mask (L2 := [(54, .inr (5, [.ref 55, .int (zI n_3), .int (zI tk), .int (zI st), .int (zI bh), .int (zI va), .int (zI pa), .int (zI fl), .ref 56, .int (zI sz)])), (55, .inl (0, 400, .inl (zA t_3)))]) (ks := [54, 55, 55, 54]) [true, true, false, false] rfl (by decide +kernel) rfl ?_
        exact J_vret dX5_take_49 rfl (Nat.le_of_ble_eq_true rfl) (Nat.le_of_ble_eq_true rfl) ⟨n_3, t_3, rfl, rfl, i3_2, i3_3, i3_4, ((by omega)), ((by have e : n_3 - ln = 4 := (by omega); rw [← e]; exact i3_6))⟩
      · refine J_aload_n dX5_take_7 rfl rfl ?_
        refine J_get (v := .int (zI n_3)) dX5_take_8 fl_X5_15 rfl rfl ?_
        refine Z_sipush (n := 400) dX5_take_11 (by decide +kernel) ?_
        refine Z_icmp_ge (tgt := 49) dX5_take_14 (by decide) (v_d7389cde0f i3_2 i3_3) v_d8dcd4dd52 (fun h2 => absurd h2 (v_ac889d0a66 q2 i3_5 h1)) (fun h2 => ?_)
        refine J_aload_n dX5_take_17 rfl rfl ?_
        refine J_get (v := .ref 55) dX5_take_18 fl_X5_11 rfl rfl ?_
        refine J_aload_n dX5_take_21 rfl rfl ?_
        refine J_get (v := .int (zI n_3)) dX5_take_22 fl_X5_15 rfl rfl ?_
        refine J_iload_n dX5_take_25 rfl rfl ?_
        refine J_iload_n dX5_take_26 rfl rfl ?_
        obtain ⟨z3, ez3⟩ : ∃ z : Int, zshr x s_3 = z := ⟨_, rfl⟩
        refine Y_ishr (z := z3) dX5_take_27 ez3 ?_
        have h4 : zr z3 := by rw [← ez3]; exact zr_toInt _
        refine Z_sipush (n := 255) dX5_take_28 (by decide +kernel) ?_
        obtain ⟨z5, ez5⟩ : ∃ z : Int, zand z3 255 = z := ⟨_, rfl⟩
        refine Y_iand (z := z5) dX5_take_31 ez5 ?_
        have h6 : zr z5 := by rw [← ez5]; exact zr_toInt _
        have h7 : 0 ≤ z5 ∧ z5 ≤ 255 := zand_mask 8 (by decide) (by decide +kernel) (by decide) ez5
        refine Y_iast (v := z5) 400 dX5_take_32 rfl rfl (by decide) (v_2b02420001 i3_2) (v_2eb09acee2 h2) (fun f8 ef8 => ?_)
        have h9 : Rg f8 400 0 255 := Rg.ups i3_4 ef8 (v_2b02420001 h7.1) (v_d5210584ec h7.2)
        refine J_aload_n dX5_take_33 rfl rfl ?_
        refine J_dup dX5_take_34 rfl ?_
        refine J_get (v := .int (zI n_3)) dX5_take_35 fl_X5_15 rfl rfl ?_
        refine Z_iconst (n := 1) dX5_take_38 ?_
        refine Z_iadd (c := n_3 + 1) dX5_take_39 rfl ?_
        refine K_put (fs2 := [.ref 55, .int (zI (n_3 + 1)), .int (zI tk), .int (zI st), .int (zI bh), .int (zI va), .int (zI pa), .int (zI fl), .ref 56, .int (zI sz)]) dX5_take_40 fw_X5_15 rfl (Nat.le_of_ble_eq_true rfl) (fun _ => ⟨rfl, rfl⟩) rfl ?_
        refine Z_iinc (c := s_3 - 8) (ls2 := [some (.ref 54), some (.int (zI x)), some (.int (zI (s_3 - 8)))]) dX5_take_43 rfl (Nat.le_of_ble_eq_true rfl) rfl v_b88acebfbc rfl ?_
        refine J_goto (tgt := 3) dX5_take_46 (by decide) ?_
        refine J_mask (L2 := [(54, .inr (5, [.ref 55, .int (zI (n_3 + 1)), .int (zI tk), .int (zI st), .int (zI bh), .int (zI va), .int (zI pa), .int (zI fl), .ref 56, .int (zI sz)])), (55, .inl (0, 400, .inl (zA f8)))]) (ks := [54, 55, 55, 54]) [true, true, false, false] rfl (by decide +kernel) rfl ?_
        refine J_touch (k := 54) (e := .inr (5, [.ref 55, .int (zI (n_3 + 1)), .int (zI tk), .int (zI st), .int (zI bh), .int (zI va), .int (zI pa), .int (zI fl), .ref 56, .int (zI sz)])) rfl ?_
        refine J_touch (k := 55) (e := .inl (0, 400, .inl (zA f8))) rfl ?_
        refine J_mask (L2 := [(55, .inl (0, 400, .inl (zA f8))), (54, .inr (5, [.ref 55, .int (zI (n_3 + 1)), .int (zI tk), .int (zI st), .int (zI bh), .int (zI va), .int (zI pa), .int (zI fl), .ref 56, .int (zI sz)]))]) (ks := [55, 54, 54, 55]) [true, true, false, false] rfl (by decide +kernel) rfl ?_
        exact ih3 (s_3 - 8) (n_3 + 1) f8 (v_2cdc0924e2 h1) (v_e27e42dedb i3_1) (v_da458fa48a i3_2) (v_6924477667 h2) h9 (v_3b424409fc i3_5) (TkE.step i3_6 ef8 (v_5ed851111b i3_1 i3_5) v_0cb60ec4e6 (v_10209a891a i3_5) ez3 ez5 v_96e57bfaa2) (meas_lt v_035cfcbd1f (v_3d697e6f4a h1) hm3)
  exact lp3 _ 24 ln tp v_d416bcbf49 v_dfa2d5efb9 q1 (v_b1368e81cc q2) q3 v_48d8540466 (TkE_0 (by omega)) (Nat.lt_succ_self _)
set_option maxHeartbeats 4000000 in
set_option maxRecDepth 100000 in
theorem d_cut {l : Launch} {G : jG} {nh : Nat} {fh : Nat → Option va_E} (x : Int) (ln : Int) (tk : Int) (st : Int) (bh : Int) (va : Int) (pa : Int) (fl : Int) (sz : Int) (q0 : zr x) (q1 : 0 ≤ ln) (q2 : ln ≤ 400) (hk54 : fh 54 = some (.inr (5, [.ref 55, .int (zI ln), .int (zI tk), .int (zI st), .int (zI bh), .int (zI va), .int (zI pa), .int (zI fl), .ref 56, .int (zI sz)]))) : JM l G yX5_cut MX5_cut { frames := 0, cells := 0, slots := 0, locals := 0 } [.ref 54, .int (zI x)] (nh, fh) (fun rr h9 => (rr = some (.int (zI 1)) ∧ h9 = (nh, hc fh [(54, .inr (5, [.ref 55, .int (zI x), .int (zI tk), .int (zI st), .int (zI bh), .int (zI va), .int (zI pa), .int (zI fl), .ref 56, .int (zI sz)]))]) ∧ (0 ≤ x) ∧ (x ≤ ln)) ∨ (rr = some (.int (zI 0)) ∧ h9 = (nh, hc fh [(54, .inr (5, [.ref 55, .int (zI ln), .int (zI tk), .int (zI st), .int (zI bh), .int (zI va), .int (zI pa), .int (zI fl), .ref 56, .int (zI sz)]))]) ∧ (x < 0)) ∨ (rr = some (.int (zI 0)) ∧ h9 = (nh, hc fh [(54, .inr (5, [.ref 55, .int (zI ln), .int (zI tk), .int (zI st), .int (zI bh), .int (zI va), .int (zI pa), .int (zI fl), .ref 56, .int (zI sz)]))]) ∧ (ln < x))) := by
  refine JM.of (by decide) rfl (fun h => by cases h) (Nat.le_of_ble_eq_true rfl) ⟨0, rfl⟩ ?_
  refine J_hc0 (J_ls (ls2 := [some (.ref 54), some (.int (zI x))]) rfl ?_)
  refine J_iload_n dX5_cut_0 rfl rfl ?_
  refine Z_if_lt (tgt := 12) dX5_cut_1 (by decide) (v_b25fa51a85 q0) (fun h1 => ?_) (fun h1 => ?_)
  · refine Z_iconst (n := 0) dX5_cut_12 ?_
    refine J_touch (k := 54) (e := .inr (5, [.ref 55, .int (zI ln), .int (zI tk), .int (zI st), .int (zI bh), .int (zI va), .int (zI pa), .int (zI fl), .ref 56, .int (zI sz)])) hk54 ?_
    exact J_iret dX5_cut_13 rfl (jbn v_939070ca3f v_316afd7d0b) (Nat.le_of_ble_eq_true rfl) (Nat.le_of_ble_eq_true rfl) (Or.inr (Or.inl ⟨rfl, rfl, h1⟩))
  · refine J_iload_n dX5_cut_4 rfl rfl ?_
    refine J_aload_n dX5_cut_5 rfl rfl ?_
    refine J_get (v := .int (zI ln)) dX5_cut_6 fl_X5_15 hk54 rfl ?_
    refine Z_icmp_le (tgt := 14) dX5_cut_9 (by decide) (v_edc92e96e6 q0 h1) (v_d7389cde0f q1 q2) (fun h2 => ?_) (fun h2 => ?_)
    · refine J_aload_n dX5_cut_14 rfl rfl ?_
      refine J_iload_n dX5_cut_15 rfl rfl ?_
      refine K_put (fs2 := [.ref 55, .int (zI x), .int (zI tk), .int (zI st), .int (zI bh), .int (zI va), .int (zI pa), .int (zI fl), .ref 56, .int (zI sz)]) dX5_cut_16 fw_X5_15 hk54 (Nat.le_of_ble_eq_true rfl) (fun _ => ⟨rfl, rfl⟩) rfl ?_
      refine Z_iconst (n := 1) dX5_cut_19 ?_
      exact J_iret dX5_cut_20 rfl (jbn v_316afd7d0b v_bbcfac9b7d) (Nat.le_of_ble_eq_true rfl) (Nat.le_of_ble_eq_true rfl) (Or.inl ⟨rfl, rfl, (v_b2d8922659 h1), h2⟩)
    · refine Z_iconst (n := 0) dX5_cut_12 ?_
      refine J_touch (k := 54) (e := .inr (5, [.ref 55, .int (zI ln), .int (zI tk), .int (zI st), .int (zI bh), .int (zI va), .int (zI pa), .int (zI fl), .ref 56, .int (zI sz)])) hk54 ?_
      exact J_iret dX5_cut_13 rfl (jbn v_939070ca3f v_316afd7d0b) (Nat.le_of_ble_eq_true rfl) (Nat.le_of_ble_eq_true rfl) (Or.inr (Or.inr ⟨rfl, rfl, (v_fe9ea41faa h2)⟩))
set_option maxHeartbeats 4000000 in
set_option maxRecDepth 100000 in
theorem d_holdsColours {l : Launch} {G : jG} {nh : Nat} {fh : Nat → Option va_E} (ln : Int) (tk : Int) (st : Int) (bh : Int) (va : Int) (pa : Int) (fl : Int) (sz : Int) (tp : Int → Int) (q0 : 0 ≤ ln) (q1 : ln ≤ 400) (q2 : Rg tp 400 0 255) (hk54 : fh 54 = some (.inr (5, [.ref 55, .int (zI ln), .int (zI tk), .int (zI st), .int (zI bh), .int (zI va), .int (zI pa), .int (zI fl), .ref 56, .int (zI sz)]))) (hk55 : fh 55 = some (.inl (0, 400, .inl (zA tp)))) : JM l G yX5_holdsColours MX5_holdsColours { frames := 0, cells := 0, slots := 0, locals := 0 } [.ref 54] (nh, fh) (fun rr h9 => (rr = some (.int (zI 1)) ∧ h9 = (nh, fh) ∧ (1 ≤ ln) ∧ (ln ≤ 7) ∧ (Rg tp ln 0 4)) ∨ (rr = some (.int (zI 0)) ∧ h9 = (nh, fh) ∧ (rwk tp ln = false))) := by
  refine JM.of (by decide) rfl (fun h => by cases h) (Nat.le_of_ble_eq_true rfl) ⟨1, rfl⟩ ?_
  refine J_hc0 (J_ls (ls2 := [some (.ref 54), none]) rfl ?_)
  refine J_aload_n dX5_holdsColours_0 rfl rfl ?_
  refine J_get (v := .int (zI ln)) dX5_holdsColours_1 fl_X5_15 hk54 rfl ?_
  refine Z_iconst (n := 1) dX5_holdsColours_4 ?_
  refine Z_icmp_lt (tgt := 17) dX5_holdsColours_5 (by decide) (v_d7389cde0f q0 q1) v_4dcc24baa7 (fun h1 => ?_) (fun h1 => ?_)
  · refine Z_iconst (n := 0) dX5_holdsColours_17 ?_
    exact J_iret dX5_holdsColours_18 rfl (jbn v_939070ca3f v_316afd7d0b) (Nat.le_of_ble_eq_true rfl) (Nat.le_of_ble_eq_true rfl) (Or.inr ⟨rfl, rfl, (rwk_lo (v_663a05fb09 h1))⟩)
  · refine J_aload_n dX5_holdsColours_8 rfl rfl ?_
    refine J_get (v := .int (zI ln)) dX5_holdsColours_9 fl_X5_15 hk54 rfl ?_
    refine Z_bipush (n := 7) dX5_holdsColours_12 (by decide +kernel) ?_
    refine Z_icmp_le (tgt := 19) dX5_holdsColours_14 (by decide) (v_66a0c9ccf8 q1 h1) v_c3fe1a091f (fun h2 => ?_) (fun h2 => ?_)
    · refine Z_iconst (n := 0) dX5_holdsColours_19 ?_
      refine J_istore_n dX5_holdsColours_20 rfl (Nat.le_of_ble_eq_true rfl) rfl ?_
      refine J_ls (ls2 := [some (.ref 54), some (.int (zI 0))]) rfl ?_
      have lp21 : ∀ (N21 : Nat) (i_21 : Int), (0 ≤ i_21) → (i_21 ≤ ln) → (Rg tp i_21 0 4) → (ln - i_21).toNat < N21 → J l G MX5_holdsColours { frames := 0, cells := 0, slots := 0, locals := 0 } jE (jMQ G { frames := 0, cells := 0, slots := 0, locals := 0 } (fun rr h9 => (rr = some (.int (zI 1)) ∧ h9 = (nh, fh) ∧ (1 ≤ ln) ∧ (ln ≤ 7) ∧ (Rg tp ln 0 4)) ∨ (rr = some (.int (zI 0)) ∧ h9 = (nh, fh) ∧ (rwk tp ln = false)))) (nh, hc fh []) 0 0 21 [some (.ref 54), some (.int (zI i_21))] [] := by
        intro N21
        induction N21 with
        | zero => intro i_21 i21_0 i21_1 i21_2 hm; exact absurd hm (Nat.not_lt_zero _)
        | succ N21 ih21 =>
          intro i_21 i21_0 i21_1 i21_2 hm21
          refine J_iload_n dX5_holdsColours_21 rfl rfl ?_
          refine J_aload_n dX5_holdsColours_22 rfl rfl ?_
          refine J_get (v := .int (zI ln)) dX5_holdsColours_23 fl_X5_15 hk54 rfl ?_
          refine Z_icmp_ge (tgt := 47) dX5_holdsColours_26 (by decide) (v_ee3170dbf0 h2 i21_0 i21_1) (v_901f0126f2 h1 h2) (fun h3 => ?_) (fun h3 => ?_)
          · refine Z_iconst (n := 1) dX5_holdsColours_47 ?_
            exact J_iret dX5_holdsColours_48 rfl (jbn v_316afd7d0b v_bbcfac9b7d) (Nat.le_of_ble_eq_true rfl) (Nat.le_of_ble_eq_true rfl) (Or.inl ⟨rfl, rfl, (v_ce6a6f00b7 h1), h2, (Rg.mono i21_2 (v_d464d4c634 h3) v_939070ca3f v_13cb52b44b)⟩)
          · refine J_aload_n dX5_holdsColours_29 rfl rfl ?_
            refine J_get (v := .ref 55) dX5_holdsColours_30 fl_X5_11 hk54 rfl ?_
            refine J_iload_n dX5_holdsColours_33 rfl rfl ?_
            obtain ⟨z4, ez4⟩ : ∃ z : Int, tp i_21 = z := ⟨_, rfl⟩
            have h5 := Rg.at q2 (v_2b02420001 i21_0) (v_6aef9b5ec0 h2 h3) ez4
            refine Y_iald (z := z4) 400 dX5_holdsColours_34 hk55 rfl (by decide) (v_2b02420001 i21_0) (v_6aef9b5ec0 h2 h3) ez4 ?_
            refine Z_iconst (n := 5) dX5_holdsColours_35 ?_
            refine Z_icmp_lt (tgt := 41) dX5_holdsColours_36 (by decide) (v_7675438551 h5.1 h5.2) v_3961fe0d0d (fun h6 => ?_) (fun h6 => ?_)
            · refine Z_iinc (c := i_21 + 1) (ls2 := [some (.ref 54), some (.int (zI (i_21 + 1)))]) dX5_holdsColours_41 rfl (Nat.le_of_ble_eq_true rfl) rfl rfl rfl ?_
              refine J_goto (tgt := 21) dX5_holdsColours_44 (by decide) ?_
              exact ih21 (i_21 + 1) (v_da458fa48a i21_0) (v_e390a36114 h3) (RgE_push i21_2 ez4 (v_2b02420001 h5.1) (v_087600a23e h6)) (meas_lt v_90eacd6fd4 (v_8b7dd7d486 h3) hm21)
            · refine Z_iconst (n := 0) dX5_holdsColours_39 ?_
              exact J_iret dX5_holdsColours_40 rfl (jbn v_939070ca3f v_316afd7d0b) (Nat.le_of_ble_eq_true rfl) (Nat.le_of_ble_eq_true rfl) (Or.inr ⟨rfl, rfl, (rwk_at i21_0 (v_fe9ea41faa h3) (by rw [ez4]; have u := (v_cac29cb1c5 h6); omega))⟩)
      exact lp21 _ 0 v_939070ca3f q0 (Rg.nil v_939070ca3f) (Nat.lt_succ_self _)
    · refine Z_iconst (n := 0) dX5_holdsColours_17 ?_
      exact J_iret dX5_holdsColours_18 rfl (jbn v_939070ca3f v_316afd7d0b) (Nat.le_of_ble_eq_true rfl) (Nat.le_of_ble_eq_true rfl) (Or.inr ⟨rfl, rfl, (rwk_hi (v_1f1f6a172b h2))⟩)
set_option maxHeartbeats 4000000 in
set_option maxRecDepth 100000 in
theorem d_isLetter {l : Launch} {G : jG} {nh : Nat} {fh : Nat → Option va_E} (x : Int) (q0 : zr x) : JM l G yX5_isLetter MX5_isLetter { frames := 0, cells := 0, slots := 0, locals := 0 } [.int (zI x)] (nh, fh) (fun rr h9 => (rr = some (.int (zI 1)) ∧ h9 = (nh, fh) ∧ (97 ≤ x) ∧ (x ≤ 122)) ∨ (rr = some (.int (zI 0)) ∧ h9 = (nh, fh) ∧ (x < 97)) ∨ (rr = some (.int (zI 0)) ∧ h9 = (nh, fh) ∧ (122 < x))) := by
  refine JM.of (by decide) rfl (fun h => by cases h) (Nat.le_of_ble_eq_true rfl) ⟨0, rfl⟩ ?_
  refine J_hc0 (J_ls (ls2 := [some (.int (zI x))]) rfl ?_)
  refine J_iload_n dX5_isLetter_0 rfl rfl ?_
  refine Z_bipush (n := 97) dX5_isLetter_1 (by decide +kernel) ?_
  refine Z_icmp_lt (tgt := 16) dX5_isLetter_3 (by decide) (v_b25fa51a85 q0) v_120e9ced03 (fun h1 => ?_) (fun h1 => ?_)
  · refine Z_iconst (n := 0) dX5_isLetter_16 ?_
    exact J_iret dX5_isLetter_17 rfl (jbn v_939070ca3f v_316afd7d0b) (Nat.le_of_ble_eq_true rfl) (Nat.le_of_ble_eq_true rfl) (Or.inr (Or.inl ⟨rfl, rfl, h1⟩))
  · refine J_iload_n dX5_isLetter_6 rfl rfl ?_
    refine Z_bipush (n := 122) dX5_isLetter_7 (by decide +kernel) ?_
    refine Z_icmp_gt (tgt := 16) dX5_isLetter_9 (by decide) (v_29fc54b483 q0 h1) v_86c2371aa4 (fun h2 => ?_) (fun h2 => ?_)
    · refine Z_iconst (n := 0) dX5_isLetter_16 ?_
      exact J_iret dX5_isLetter_17 rfl (jbn v_939070ca3f v_316afd7d0b) (Nat.le_of_ble_eq_true rfl) (Nat.le_of_ble_eq_true rfl) (Or.inr (Or.inr ⟨rfl, rfl, h2⟩))
    · refine Z_iconst (n := 1) dX5_isLetter_12 ?_
      refine J_goto (tgt := 17) dX5_isLetter_13 (by decide) ?_
      exact J_iret dX5_isLetter_17 rfl (jbn v_316afd7d0b v_bbcfac9b7d) (Nat.le_of_ble_eq_true rfl) (Nat.le_of_ble_eq_true rfl) (Or.inl ⟨rfl, rfl, (v_c88ab225c0 h1), (v_90f692b398 h2)⟩)
set_option maxHeartbeats 4000000 in
set_option maxRecDepth 100000 in
theorem d_isDigit {l : Launch} {G : jG} {nh : Nat} {fh : Nat → Option va_E} (x : Int) (q0 : zr x) : JM l G yX5_isDigit MX5_isDigit { frames := 0, cells := 0, slots := 0, locals := 0 } [.int (zI x)] (nh, fh) (fun rr h9 => (rr = some (.int (zI 1)) ∧ h9 = (nh, fh) ∧ (48 ≤ x) ∧ (x ≤ 57)) ∨ (rr = some (.int (zI 0)) ∧ h9 = (nh, fh) ∧ (x < 48)) ∨ (rr = some (.int (zI 0)) ∧ h9 = (nh, fh) ∧ (57 < x))) := by
  refine JM.of (by decide) rfl (fun h => by cases h) (Nat.le_of_ble_eq_true rfl) ⟨0, rfl⟩ ?_
  refine J_hc0 (J_ls (ls2 := [some (.int (zI x))]) rfl ?_)
  refine J_iload_n dX5_isDigit_0 rfl rfl ?_
  refine Z_bipush (n := 48) dX5_isDigit_1 (by decide +kernel) ?_
  refine Z_icmp_lt (tgt := 16) dX5_isDigit_3 (by decide) (v_b25fa51a85 q0) v_5d2538b988 (fun h1 => ?_) (fun h1 => ?_)
  · refine Z_iconst (n := 0) dX5_isDigit_16 ?_
    exact J_iret dX5_isDigit_17 rfl (jbn v_939070ca3f v_316afd7d0b) (Nat.le_of_ble_eq_true rfl) (Nat.le_of_ble_eq_true rfl) (Or.inr (Or.inl ⟨rfl, rfl, h1⟩))
  · refine J_iload_n dX5_isDigit_6 rfl rfl ?_
    refine Z_bipush (n := 57) dX5_isDigit_7 (by decide +kernel) ?_
    refine Z_icmp_gt (tgt := 16) dX5_isDigit_9 (by decide) (v_1f678a7e63 q0 h1) v_9633cf9c93 (fun h2 => ?_) (fun h2 => ?_)
    · refine Z_iconst (n := 0) dX5_isDigit_16 ?_
      exact J_iret dX5_isDigit_17 rfl (jbn v_939070ca3f v_316afd7d0b) (Nat.le_of_ble_eq_true rfl) (Nat.le_of_ble_eq_true rfl) (Or.inr (Or.inr ⟨rfl, rfl, h2⟩))
    · refine Z_iconst (n := 1) dX5_isDigit_12 ?_
      refine J_goto (tgt := 17) dX5_isDigit_13 (by decide) ?_
      exact J_iret dX5_isDigit_17 rfl (jbn v_316afd7d0b v_bbcfac9b7d) (Nat.le_of_ble_eq_true rfl) (Nat.le_of_ble_eq_true rfl) (Or.inl ⟨rfl, rfl, (v_68553276b5 h1), (v_e5b730cf9c h2)⟩)
set_option maxHeartbeats 4000000 in
set_option maxRecDepth 100000 in
theorem d_isSign {l : Launch} {G : jG} {nh : Nat} {fh : Nat → Option va_E} (x : Int) (ln : Int) (tk : Int) (st : Int) (bh : Int) (va : Int) (pa : Int) (fl : Int) (sz : Int) (q0 : 0 ≤ x) (q1 : x ≤ 255) (q2 : 0 ≤ tk) (q3 : tk ≤ 355) (hk54 : fh 54 = some (.inr (5, [.ref 55, .int (zI ln), .int (zI tk), .int (zI st), .int (zI bh), .int (zI va), .int (zI pa), .int (zI fl), .ref 56, .int (zI sz)]))) : JM l G yX5_isSign MX5_isSign { frames := 0, cells := 0, slots := 0, locals := 0 } [.ref 54, .int (zI x)] (nh, fh) (fun rr h9 => (rr = some (.int (zI 1)) ∧ h9 = (nh, fh) ∧ (tk = x + 100)) ∨ (rr = some (.int (zI 0)) ∧ h9 = (nh, fh) ∧ (¬ tk = x + 100))) := by
  refine JM.of (by decide) rfl (fun h => by cases h) (Nat.le_of_ble_eq_true rfl) ⟨0, rfl⟩ ?_
  refine J_hc0 (J_ls (ls2 := [some (.ref 54), some (.int (zI x))]) rfl ?_)
  refine J_aload_n dX5_isSign_0 rfl rfl ?_
  refine J_get (v := .int (zI tk)) dX5_isSign_1 fl_X5_19 hk54 rfl ?_
  refine Z_bipush (n := 100) dX5_isSign_4 (by decide +kernel) ?_
  refine J_iload_n dX5_isSign_6 rfl rfl ?_
  refine Z_iadd (c := x + 100) dX5_isSign_7 v_2706a00d49 ?_
  refine Z_icmp_ne (tgt := 15) dX5_isSign_8 (by decide) (v_96bf6f782e q2 q3) (v_7e0549880a q0 q1) (fun h1 => ?_) (fun h1 => ?_)
  · refine Z_iconst (n := 0) dX5_isSign_15 ?_
    exact J_iret dX5_isSign_16 rfl (jbn v_939070ca3f v_316afd7d0b) (Nat.le_of_ble_eq_true rfl) (Nat.le_of_ble_eq_true rfl) (Or.inr ⟨rfl, rfl, h1⟩)
  · refine Z_iconst (n := 1) dX5_isSign_11 ?_
    refine J_goto (tgt := 16) dX5_isSign_12 (by decide) ?_
    exact J_iret dX5_isSign_16 rfl (jbn v_316afd7d0b v_bbcfac9b7d) (Nat.le_of_ble_eq_true rfl) (Nat.le_of_ble_eq_true rfl) (Or.inl ⟨rfl, rfl, h1⟩)
set_option maxHeartbeats 4000000 in
set_option maxRecDepth 100000 in
theorem d_wrong {l : Launch} {G : jG} {nh : Nat} {fh : Nat → Option va_E} (ln : Int) (tk : Int) (st : Int) (bh : Int) (va : Int) (pa : Int) (fl : Int) (sz : Int) (q0 : 0 ≤ st) (q1 : st ≤ 400) (hk54 : fh 54 = some (.inr (5, [.ref 55, .int (zI ln), .int (zI tk), .int (zI st), .int (zI bh), .int (zI va), .int (zI pa), .int (zI fl), .ref 56, .int (zI sz)]))) : JM l G yX5_wrong MX5_wrong { frames := 0, cells := 0, slots := 0, locals := 0 } [.ref 54] (nh, fh) (fun rr h9 => rr = some (.int (zI 0)) ∧ h9 = (nh, hc fh [(54, .inr (5, [.ref 55, .int (zI ln), .int (zI tk), .int (zI st), .int (zI bh), .int (zI va), .int (zI pa), .int (zI st), .ref 56, .int (zI sz)]))])) := by
  refine JM.of (by decide) rfl (fun h => by cases h) (Nat.le_of_ble_eq_true rfl) ⟨0, rfl⟩ ?_
  refine J_hc0 (J_ls (ls2 := [some (.ref 54)]) rfl ?_)
  refine J_aload_n dX5_wrong_0 rfl rfl ?_
  refine J_aload_n dX5_wrong_1 rfl rfl ?_
  refine J_get (v := .int (zI st)) dX5_wrong_2 fl_X5_22 hk54 rfl ?_
  refine K_put (fs2 := [.ref 55, .int (zI ln), .int (zI tk), .int (zI st), .int (zI bh), .int (zI va), .int (zI pa), .int (zI st), .ref 56, .int (zI sz)]) dX5_wrong_5 fw_X5_34 hk54 (Nat.le_of_ble_eq_true rfl) (fun _ => ⟨rfl, rfl⟩) rfl ?_
  refine Z_iconst (n := 0) dX5_wrong_8 ?_
  exact J_iret dX5_wrong_9 rfl (jbn v_939070ca3f v_316afd7d0b) (Nat.le_of_ble_eq_true rfl) (Nat.le_of_ble_eq_true rfl) ⟨rfl, rfl⟩
set_option maxHeartbeats 4000000 in
set_option maxRecDepth 100000 in
theorem d_emit {l : Launch} {G : jG} {nh : Nat} {fh : Nat → Option va_E} (k : Int) (m : Int) (ln : Int) (tk : Int) (st : Int) (bh : Int) (va : Int) (pa : Int) (fl : Int) (sz : Int) (cd : Int → Int) (q0 : zr k) (q1 : zr m) (q2 : 0 ≤ k) (q3 : k < 32) (q4 : 0 ≤ m) (q5 : m < 1000000) (q6 : 0 ≤ sz) (q7 : sz ≤ 411) (q8 : Rg cd 412 (-2147483648) 2147483647) (hk54 : fh 54 = some (.inr (5, [.ref 55, .int (zI ln), .int (zI tk), .int (zI st), .int (zI bh), .int (zI va), .int (zI pa), .int (zI fl), .ref 56, .int (zI sz)]))) (hk56 : fh 56 = some (.inl (0, 412, .inl (zA cd)))) : JM l G yX5_emit MX5_emit { frames := 0, cells := 0, slots := 0, locals := 0 } [.ref 54, .int (zI k), .int (zI m)] (nh, fh) (fun rr h9 => ∃ cd2 : Int → Int, ∃ v : Int, rr = some (.int (zI sz)) ∧ h9 = (nh, hc fh [(54, .inr (5, [.ref 55, .int (zI ln), .int (zI tk), .int (zI st), .int (zI bh), .int (zI va), .int (zI pa), .int (zI fl), .ref 56, .int (zI (sz + 1))])), (56, .inl (0, 412, .inl (zA cd2)))]) ∧ ((cd2 = up cd sz v)) ∧ (InX cd2 sz k m) ∧ (Rg cd2 412 (-2147483648) 2147483647) ∧ (zor k (zshl m 5) = v)) := by
  refine JM.of (by decide) rfl (fun h => by cases h) (Nat.le_of_ble_eq_true rfl) ⟨1, rfl⟩ ?_
  refine J_hc0 (J_ls (ls2 := [some (.ref 54), some (.int (zI k)), some (.int (zI m)), none]) rfl ?_)
  refine J_aload_n dX5_emit_0 rfl rfl ?_
  refine J_get (v := .int (zI sz)) dX5_emit_1 fl_X5_40 hk54 rfl ?_
  refine J_istore_n dX5_emit_4 rfl (Nat.le_of_ble_eq_true rfl) rfl ?_
  refine J_ls (ls2 := [some (.ref 54), some (.int (zI k)), some (.int (zI m)), some (.int (zI sz))]) rfl ?_
  refine J_aload_n dX5_emit_5 rfl rfl ?_
  refine J_get (v := .int (zI sz)) dX5_emit_6 fl_X5_40 hk54 rfl ?_
  refine J_aload_n dX5_emit_9 rfl rfl ?_
  refine J_get (v := .ref 56) dX5_emit_10 fl_X5_37 hk54 rfl ?_
  refine Y_alen 412 dX5_emit_13 hk56 rfl rfl ?_
  refine Z_icmp_ge (tgt := 41) dX5_emit_14 (by decide) (v_8d6dd9c5d3 q6 q7) v_27e7d13956 (fun h1 => absurd h1 (v_d21fce5d88 q7)) (fun h1 => ?_)
  refine J_aload_n dX5_emit_17 rfl rfl ?_
  refine J_get (v := .ref 56) dX5_emit_18 fl_X5_37 hk54 rfl ?_
  refine J_aload_n dX5_emit_21 rfl rfl ?_
  refine J_get (v := .int (zI sz)) dX5_emit_22 fl_X5_40 hk54 rfl ?_
  refine J_iload_n dX5_emit_25 rfl rfl ?_
  refine J_iload_n dX5_emit_26 rfl rfl ?_
  refine Z_iconst (n := 5) dX5_emit_27 ?_
  obtain ⟨z2, ez2⟩ : ∃ z : Int, zshl m 5 = z := ⟨_, rfl⟩
  refine Y_ishl (z := z2) dX5_emit_28 ez2 ?_
  have h3 : zr z2 := by rw [← ez2]; exact zr_toInt _
  obtain ⟨z4, ez4⟩ : ∃ z : Int, zor k z2 = z := ⟨_, rfl⟩
  refine Y_ior (z := z4) dX5_emit_29 ez4 ?_
  have h5 : zr z4 := by rw [← ez4]; exact zr_toInt _
  refine Y_iast (v := z4) 412 dX5_emit_30 hk56 rfl (by decide) (v_2b02420001 q6) (v_c0176fb2f0 q7) (fun f6 ef6 => ?_)
  have h7 : Rg f6 412 (-2147483648) 2147483647 := Rg.ups q8 ef6 (v_9c631c66d9 h5) (v_602fda786b h5)
  refine J_aload_n dX5_emit_31 rfl rfl ?_
  refine J_dup dX5_emit_32 rfl ?_
  refine J_get (v := .int (zI sz)) dX5_emit_33 fl_X5_40 hk54 rfl ?_
  refine Z_iconst (n := 1) dX5_emit_36 ?_
  refine Z_iadd (c := sz + 1) dX5_emit_37 rfl ?_
  refine K_put (fs2 := [.ref 55, .int (zI ln), .int (zI tk), .int (zI st), .int (zI bh), .int (zI va), .int (zI pa), .int (zI fl), .ref 56, .int (zI (sz + 1))]) dX5_emit_38 fw_X5_40 hk54 (Nat.le_of_ble_eq_true rfl) (fun _ => ⟨rfl, rfl⟩) rfl ?_
  refine J_iload_n dX5_emit_41 rfl rfl ?_
  exact J_iret dX5_emit_42 rfl rfl (Nat.le_of_ble_eq_true rfl) (Nat.le_of_ble_eq_true rfl) ⟨f6, z4, rfl, rfl, ef6, (InX.emit (v_2b02420001 q2) (v_98fd74cfdf q3) (v_2b02420001 q4) (v_b65dca059b q5) ez2 ez4 ef6), h7, (by rw [ez2]; exact ez4)⟩
set_option maxHeartbeats 4000000 in
set_option maxRecDepth 100000 in
theorem d_aim {l : Launch} {G : jG} {nh : Nat} {fh : Nat → Option va_E} (x : Int) (kk : Int) (ln : Int) (tk : Int) (st : Int) (bh : Int) (va : Int) (pa : Int) (fl : Int) (sz : Int) (cd : Int → Int) (q0 : zr x) (q1 : 0 ≤ x) (q2 : x < sz) (q3 : 0 ≤ sz) (q4 : sz ≤ 412) (q5 : Rg cd 412 (-2147483648) 2147483647) (q6 : cd x = kk) (q7 : 0 ≤ kk) (q8 : kk < 32) (hk54 : fh 54 = some (.inr (5, [.ref 55, .int (zI ln), .int (zI tk), .int (zI st), .int (zI bh), .int (zI va), .int (zI pa), .int (zI fl), .ref 56, .int (zI sz)]))) (hk56 : fh 56 = some (.inl (0, 412, .inl (zA cd)))) : JM l G yX5_aim MX5_aim { frames := 0, cells := 0, slots := 0, locals := 0 } [.ref 54, .int (zI x)] (nh, fh) (fun rr h9 => ∃ cd2 : Int → Int, ∃ v : Int, rr = none ∧ h9 = (nh, hc fh [(56, .inl (0, 412, .inl (zA cd2)))]) ∧ (Rg cd2 412 (-2147483648) 2147483647) ∧ ((cd2 = up cd x v)) ∧ (InX cd2 x kk sz)) := by
  refine JM.of (by decide) rfl (fun h => by cases h) (Nat.le_of_ble_eq_true rfl) ⟨0, rfl⟩ ?_
  refine J_hc0 (J_ls (ls2 := [some (.ref 54), some (.int (zI x))]) rfl ?_)
  refine J_iload_n dX5_aim_0 rfl rfl ?_
  refine Z_if_lt (tgt := 27) dX5_aim_1 (by decide) (v_e33502de53 q0 q1) (fun h1 => absurd h1 (v_0681977acf q1)) (fun h1 => ?_)
  refine J_iload_n dX5_aim_4 rfl rfl ?_
  refine J_aload_n dX5_aim_5 rfl rfl ?_
  refine J_get (v := .int (zI sz)) dX5_aim_6 fl_X5_40 hk54 rfl ?_
  refine Z_icmp_ge (tgt := 27) dX5_aim_9 (by decide) (v_e33502de53 q0 q1) (v_9099852440 q3 q4) (fun h2 => absurd h2 (v_986f57815b q2)) (fun h2 => ?_)
  refine J_aload_n dX5_aim_12 rfl rfl ?_
  refine J_get (v := .ref 56) dX5_aim_13 fl_X5_37 hk54 rfl ?_
  refine J_iload_n dX5_aim_16 rfl rfl ?_
  refine J_dup2_11 dX5_aim_17 rfl rfl ?_
  obtain ⟨z3, ez3⟩ : ∃ z : Int, cd x = z := ⟨_, rfl⟩
  have h4 := Rg.at q5 (v_2b02420001 q1) (v_9ccfe8ee31 q2 q4) ez3
  refine Y_iald (z := z3) 412 dX5_aim_18 hk56 rfl (by decide) (v_2b02420001 q1) (v_9ccfe8ee31 q2 q4) ez3 ?_
  refine J_aload_n dX5_aim_19 rfl rfl ?_
  refine J_get (v := .int (zI sz)) dX5_aim_20 fl_X5_40 hk54 rfl ?_
  refine Z_iconst (n := 5) dX5_aim_23 ?_
  obtain ⟨z5, ez5⟩ : ∃ z : Int, zshl sz 5 = z := ⟨_, rfl⟩
  refine Y_ishl (z := z5) dX5_aim_24 ez5 ?_
  have h6 : zr z5 := by rw [← ez5]; exact zr_toInt _
  obtain ⟨z7, ez7⟩ : ∃ z : Int, zor z3 z5 = z := ⟨_, rfl⟩
  refine Y_ior (z := z7) dX5_aim_25 ez7 ?_
  have h8 : zr z7 := by rw [← ez7]; exact zr_toInt _
  refine Y_iast (v := z7) 412 dX5_aim_26 hk56 rfl (by decide) (v_2b02420001 q1) (v_9ccfe8ee31 q2 q4) (fun f9 ef9 => ?_)
  have h10 : Rg f9 412 (-2147483648) 2147483647 := Rg.ups q5 ef9 (v_9c631c66d9 h8) (v_602fda786b h8)
  exact J_vret dX5_aim_27 rfl (Nat.le_of_ble_eq_true rfl) (Nat.le_of_ble_eq_true rfl) ⟨f9, z7, rfl, rfl, h10, ef9, (InX.aim ez3 (v_e9a235a323 q6 ez3) (v_2b02420001 q7) (v_98fd74cfdf q8) (v_2b02420001 q3) (v_4fdd924ecd q4) ez5 ez7 ef9)⟩
/-- the number of words passed, at a place of the text -/
def WdB (n i : Int) : Prop := 0 ≤ n ∧ n ≤ 15 ∧ n ≤ wbi i
theorem WdB.zero : WdB 0 0 := ⟨by decide, by decide, by decide⟩
theorem WdB.same {n i : Int} (h : WdB n i) (h0 : 0 ≤ i) : WdB n (i + 1) := ⟨h.1, h.2.1, Int.le_trans h.2.2 (wbi_same h0)⟩
theorem WdB.next {n i : Int} (h : WdB n i) (h0 : 0 ≤ i) (h1 : i < 73) (e : wch i = 32) : WdB (n + 1) (i + 1) := by
  have a := wbi_next h0 e
  have b := wbi_le (i := i + 1) (by omega)
  have c := h.2.2
  have d := h.1
  exact ⟨by omega, by omega, by omega⟩
set_option maxHeartbeats 4000000 in
set_option maxRecDepth 100000 in
theorem d_wordNumber {l : Launch} {G : jG} {nh : Nat} {fh : Nat → Option va_E} (ln : Int) (tk : Int) (st : Int) (bh : Int) (va : Int) (pa : Int) (fl : Int) (sz : Int) (tp : Int → Int) (q0 : 0 ≤ ln) (q1 : ln ≤ 400) (q2 : 0 ≤ st) (q3 : st ≤ bh) (q4 : bh ≤ ln) (q5 : Rg tp 400 0 255) (hk54 : fh 54 = some (.inr (5, [.ref 55, .int (zI ln), .int (zI tk), .int (zI st), .int (zI bh), .int (zI va), .int (zI pa), .int (zI fl), .ref 56, .int (zI sz)]))) (hk55 : fh 55 = some (.inl (0, 400, .inl (zA tp)))) : JM l G yX5_wordNumber MX5_wordNumber { frames := 4, cells := 0, slots := 0, locals := 85 } [.ref 54] (nh, fh) (fun rr h9 => ∃ r : Int, ∃ c : Int, rr = some (.int (zI r)) ∧ h9 = (nh, fh) ∧ (0 ≤ r) ∧ (r ≤ 15) ∧ (WoC tp st bh c) ∧ ((r = 15 ∧ c = 0) ∨ (0 ≤ r ∧ r ≤ 14 ∧ c = r + 1))) := by
  refine JM.of (by decide) rfl (fun h => by cases h) (Nat.le_of_ble_eq_true rfl) ⟨5, rfl⟩ ?_
  refine J_hc0 (J_ls (ls2 := [some (.ref 54), none, none, none, none, none]) rfl ?_)
  refine Z_iconst (n := 0) dX5_wordNumber_0 ?_
  refine J_istore_n dX5_wordNumber_1 rfl (Nat.le_of_ble_eq_true rfl) rfl ?_
  refine J_ls (ls2 := [some (.ref 54), some (.int (zI 0)), none, none, none, none]) rfl ?_
  refine J_aload_n dX5_wordNumber_2 rfl rfl ?_
  refine J_get (v := .int (zI st)) dX5_wordNumber_3 fl_X5_22 hk54 rfl ?_
  refine J_istore_n dX5_wordNumber_6 rfl (Nat.le_of_ble_eq_true rfl) rfl ?_
  refine J_ls (ls2 := [some (.ref 54), some (.int (zI 0)), some (.int (zI st)), none, none, none]) rfl ?_
  refine Z_iconst (n := 1) dX5_wordNumber_7 ?_
  refine J_istore_n dX5_wordNumber_8 rfl (Nat.le_of_ble_eq_true rfl) rfl ?_
  refine J_ls (ls2 := [some (.ref 54), some (.int (zI 0)), some (.int (zI st)), some (.int (zI 1)), none, none]) rfl ?_
  refine Z_iconst (n := 0) dX5_wordNumber_9 ?_
  refine J_istore dX5_wordNumber_10 (Nat.le_of_ble_eq_true rfl) rfl ?_
  refine J_ls (ls2 := [some (.ref 54), some (.int (zI 0)), some (.int (zI st)), some (.int (zI 1)), some (.int (zI 0)), none]) rfl ?_
  have lp12 : ∀ (N12 : Nat) (nu_12 : Int) (at_12 : Int) (sm_12 : Int) (i_12 : Int), (0 ≤ i_12) → (i_12 ≤ 73) → (WdB nu_12 i_12) → (st ≤ at_12) → (at_12 ≤ st + i_12) → (0 ≤ sm_12) → (sm_12 ≤ 1) → (WnI tp st bh nu_12 at_12 sm_12 i_12) → (73 - i_12).toNat < N12 → J l G MX5_wordNumber { frames := 4, cells := 0, slots := 0, locals := 85 } jE (jMQ G { frames := 4, cells := 0, slots := 0, locals := 85 } (fun rr h9 => ∃ r : Int, ∃ c : Int, rr = some (.int (zI r)) ∧ h9 = (nh, fh) ∧ (0 ≤ r) ∧ (r ≤ 15) ∧ (WoC tp st bh c) ∧ ((r = 15 ∧ c = 0) ∨ (0 ≤ r ∧ r ≤ 14 ∧ c = r + 1)))) (nh, hc fh []) 0 0 12 [some (.ref 54), some (.int (zI nu_12)), some (.int (zI at_12)), some (.int (zI sm_12)), some (.int (zI i_12)), none] [] := by
    intro N12
    induction N12 with
    | zero => intro nu_12 at_12 sm_12 i_12 i12_0 i12_1 i12_2 i12_3 i12_4 i12_5 i12_6 i12_7 hm; exact absurd hm (Nat.not_lt_zero _)
    | succ N12 ih12 =>
      intro nu_12 at_12 sm_12 i_12 i12_0 i12_1 i12_2 i12_3 i12_4 i12_5 i12_6 i12_7 hm12
      refine J_iload dX5_wordNumber_12 rfl ?_
      refine J_xldc rfl dX5_wordNumber_14 ?_
      refine J_callX (av := []) (st := [.int (zI i_12)]) dX5_wordNumber_16 cx_len s_len rfl rfl (Nat.le_of_ble_eq_true rfl) ⟨(Nat.le_of_ble_eq_true rfl), (Nat.le_of_ble_eq_true rfl)⟩ ⟨(Nat.le_of_ble_eq_true rfl), (Nat.le_of_ble_eq_true rfl)⟩ (fun r h9 hp => ?_)
      obtain ⟨rfl, rfl⟩ := hp
      refine J_nf (nh2 := nh) (ck2 := 0) (sk2 := 0) (st2 := [.int (zI 73), .int (zI i_12)]) rfl rfl rfl rfl ?_
      refine Z_icmp_ge (tgt := 103) dX5_wordNumber_19 (by decide) (v_94d443f0e8 i12_0 i12_1) v_30b0c4d114 (fun h1 => ?_) (fun h1 => ?_)
      · refine Z_bipush (n := 15) dX5_wordNumber_103 (by decide +kernel) ?_
        exact J_iret dX5_wordNumber_105 rfl rfl (Nat.le_of_ble_eq_true rfl) (Nat.le_of_ble_eq_true rfl) ⟨15, 0, rfl, rfl, v_316d906358, v_acae2ba8c8, ((WnI.end i12_7 (v_550035c983 h1)).1), ((WnI.end i12_7 (v_550035c983 h1)).2)⟩
      · refine J_xldc rfl dX5_wordNumber_22 ?_
        refine J_iload dX5_wordNumber_24 rfl ?_
        obtain ⟨z2, ez2⟩ : ∃ z : Int, wch i_12 = z := ⟨_, rfl⟩
        have h3 : 32 ≤ z2 ∧ z2 ≤ 122 := by rw [← ez2]; exact wch_rg (v_2b02420001 i12_0) (v_5067095eb0 h1)
        refine J_callX (av := [.int (zI i_12)]) (st := []) dX5_wordNumber_26 cx_cha (s_cha i_12 (v_2b02420001 i12_0) (v_5067095eb0 h1)) rfl rfl (Nat.le_of_ble_eq_true rfl) ⟨(Nat.le_of_ble_eq_true rfl), (Nat.le_of_ble_eq_true rfl)⟩ ⟨(Nat.le_of_ble_eq_true rfl), (Nat.le_of_ble_eq_true rfl)⟩ (fun r h9 hp => ?_)
        obtain ⟨rfl, rfl⟩ := hp
        refine J_nf (nh2 := nh) (ck2 := 0) (sk2 := 0) (st2 := [.int (zI (wch i_12))]) rfl rfl rfl rfl ?_
        rw [ez2]
        refine J_istore dX5_wordNumber_29 (Nat.le_of_ble_eq_true rfl) rfl ?_
        refine J_ls (ls2 := [some (.ref 54), some (.int (zI nu_12)), some (.int (zI at_12)), some (.int (zI sm_12)), some (.int (zI i_12)), some (.int (zI z2))]) rfl ?_
        refine J_iload dX5_wordNumber_31 rfl ?_
        refine Z_bipush (n := 32) dX5_wordNumber_33 (by decide +kernel) ?_
        refine Z_icmp_ne (tgt := 65) dX5_wordNumber_35 (by decide) (v_720a29103c h3.1 h3.2) v_27308ff615 (fun h4 => ?_) (fun h4 => ?_)
        · refine J_iload_n dX5_wordNumber_65 rfl rfl ?_
          refine Z_if_eq (tgt := 92) dX5_wordNumber_66 (by decide) (v_5f10a759cd i12_5 i12_6) (fun h5 => ?_) (fun h5 => ?_)
          · refine Z_iconst (n := 0) dX5_wordNumber_92 ?_
            refine J_istore_n dX5_wordNumber_93 rfl (Nat.le_of_ble_eq_true rfl) rfl ?_
            refine J_ls (ls2 := [some (.ref 54), some (.int (zI nu_12)), some (.int (zI at_12)), some (.int (zI 0)), some (.int (zI i_12)), some (.int (zI z2))]) rfl ?_
            refine Z_iinc (c := at_12 + 1) (ls2 := [some (.ref 54), some (.int (zI nu_12)), some (.int (zI (at_12 + 1))), some (.int (zI 0)), some (.int (zI i_12)), some (.int (zI z2))]) dX5_wordNumber_94 rfl (Nat.le_of_ble_eq_true rfl) rfl rfl rfl ?_
            refine Z_iinc (c := i_12 + 1) (ls2 := [some (.ref 54), some (.int (zI nu_12)), some (.int (zI (at_12 + 1))), some (.int (zI 0)), some (.int (zI (i_12 + 1))), some (.int (zI z2))]) dX5_wordNumber_97 rfl (Nat.le_of_ble_eq_true rfl) rfl rfl rfl ?_
            refine J_goto (tgt := 12) dX5_wordNumber_100 (by decide) ?_
            refine J_drop (ls2 := [some (.ref 54), some (.int (zI nu_12)), some (.int (zI (at_12 + 1))), some (.int (zI 0)), some (.int (zI (i_12 + 1))), none]) [true, true, true, true, true, false] rfl ?_
            exact ih12 nu_12 (at_12 + 1) 0 (i_12 + 1) (v_da458fa48a i12_0) (v_893826a06d h1) (WdB.same i12_2 (v_2b02420001 i12_0)) (v_d50281bace i12_3) (v_b1a81de18e i12_4) v_939070ca3f v_316afd7d0b (WnI.no i12_7 i12_0 (fun w => absurd (ez2.symm.trans w) (v_314a301a88 h3.1 h4)) (Or.inl (fun w => by have u := (v_bd6c74a791 i12_5 h5); omega))) (meas_lt v_d9af624d78 (v_55b44453db h1) hm12)
          · refine J_iload_n dX5_wordNumber_69 rfl rfl ?_
            refine J_aload_n dX5_wordNumber_70 rfl rfl ?_
            refine J_get (v := .int (zI bh)) dX5_wordNumber_71 fl_X5_25 hk54 rfl ?_
            refine Z_icmp_ge (tgt := 92) dX5_wordNumber_74 (by decide) (v_b3aa5f4b1f q1 q2 q3 q4 i12_3 i12_4 h1) (v_0bec36d083 q1 q2 q3 q4) (fun h6 => ?_) (fun h6 => ?_)
            · refine Z_iconst (n := 0) dX5_wordNumber_92 ?_
              refine J_istore_n dX5_wordNumber_93 rfl (Nat.le_of_ble_eq_true rfl) rfl ?_
              refine J_ls (ls2 := [some (.ref 54), some (.int (zI nu_12)), some (.int (zI at_12)), some (.int (zI 0)), some (.int (zI i_12)), some (.int (zI z2))]) rfl ?_
              refine Z_iinc (c := at_12 + 1) (ls2 := [some (.ref 54), some (.int (zI nu_12)), some (.int (zI (at_12 + 1))), some (.int (zI 0)), some (.int (zI i_12)), some (.int (zI z2))]) dX5_wordNumber_94 rfl (Nat.le_of_ble_eq_true rfl) rfl rfl rfl ?_
              refine Z_iinc (c := i_12 + 1) (ls2 := [some (.ref 54), some (.int (zI nu_12)), some (.int (zI (at_12 + 1))), some (.int (zI 0)), some (.int (zI (i_12 + 1))), some (.int (zI z2))]) dX5_wordNumber_97 rfl (Nat.le_of_ble_eq_true rfl) rfl rfl rfl ?_
              refine J_goto (tgt := 12) dX5_wordNumber_100 (by decide) ?_
              refine J_drop (ls2 := [some (.ref 54), some (.int (zI nu_12)), some (.int (zI (at_12 + 1))), some (.int (zI 0)), some (.int (zI (i_12 + 1))), none]) [true, true, true, true, true, false] rfl ?_
              exact ih12 nu_12 (at_12 + 1) 0 (i_12 + 1) (v_da458fa48a i12_0) (v_893826a06d h1) (WdB.same i12_2 (v_2b02420001 i12_0)) (v_d50281bace i12_3) (v_b1a81de18e i12_4) v_939070ca3f v_316afd7d0b (WnI.no i12_7 i12_0 (fun w => absurd (ez2.symm.trans w) (v_314a301a88 h3.1 h4)) (Or.inr (Or.inl (v_d464d4c634 h6)))) (meas_lt v_d9af624d78 (v_55b44453db h1) hm12)
            · refine J_aload_n dX5_wordNumber_77 rfl rfl ?_
              refine J_get (v := .ref 55) dX5_wordNumber_78 fl_X5_11 hk54 rfl ?_
              refine J_iload_n dX5_wordNumber_81 rfl rfl ?_
              obtain ⟨z7, ez7⟩ : ∃ z : Int, tp at_12 = z := ⟨_, rfl⟩
              have h8 := Rg.at q5 (v_21976c7318 q2 i12_3) (v_cba26b68a5 q1 q4 h6) ez7
              refine Y_iald (z := z7) 400 dX5_wordNumber_82 hk55 rfl (by decide) (v_21976c7318 q2 i12_3) (v_cba26b68a5 q1 q4 h6) ez7 ?_
              refine J_iload dX5_wordNumber_83 rfl ?_
              refine Z_icmp_ne (tgt := 92) dX5_wordNumber_85 (by decide) (v_7675438551 h8.1 h8.2) (v_720a29103c h3.1 h3.2) (fun h9 => ?_) (fun h9 => ?_)
              · refine Z_iconst (n := 0) dX5_wordNumber_92 ?_
                refine J_istore_n dX5_wordNumber_93 rfl (Nat.le_of_ble_eq_true rfl) rfl ?_
                refine J_ls (ls2 := [some (.ref 54), some (.int (zI nu_12)), some (.int (zI at_12)), some (.int (zI 0)), some (.int (zI i_12)), some (.int (zI z2))]) rfl ?_
                refine Z_iinc (c := at_12 + 1) (ls2 := [some (.ref 54), some (.int (zI nu_12)), some (.int (zI (at_12 + 1))), some (.int (zI 0)), some (.int (zI i_12)), some (.int (zI z2))]) dX5_wordNumber_94 rfl (Nat.le_of_ble_eq_true rfl) rfl rfl rfl ?_
                refine Z_iinc (c := i_12 + 1) (ls2 := [some (.ref 54), some (.int (zI nu_12)), some (.int (zI (at_12 + 1))), some (.int (zI 0)), some (.int (zI (i_12 + 1))), some (.int (zI z2))]) dX5_wordNumber_97 rfl (Nat.le_of_ble_eq_true rfl) rfl rfl rfl ?_
                refine J_goto (tgt := 12) dX5_wordNumber_100 (by decide) ?_
                refine J_drop (ls2 := [some (.ref 54), some (.int (zI nu_12)), some (.int (zI (at_12 + 1))), some (.int (zI 0)), some (.int (zI (i_12 + 1))), none]) [true, true, true, true, true, false] rfl ?_
                exact ih12 nu_12 (at_12 + 1) 0 (i_12 + 1) (v_da458fa48a i12_0) (v_893826a06d h1) (WdB.same i12_2 (v_2b02420001 i12_0)) (v_d50281bace i12_3) (v_b1a81de18e i12_4) v_939070ca3f v_316afd7d0b (WnI.no i12_7 i12_0 (fun w => absurd (ez2.symm.trans w) (v_314a301a88 h3.1 h4)) (Or.inr (Or.inr (by rw [ez7, ez2]; exact (v_da5cc3277e h9))))) (meas_lt v_d9af624d78 (v_55b44453db h1) hm12)
              · refine Z_iconst (n := 1) dX5_wordNumber_88 ?_
                refine J_goto (tgt := 93) dX5_wordNumber_89 (by decide) ?_
                refine J_istore_n dX5_wordNumber_93 rfl (Nat.le_of_ble_eq_true rfl) rfl ?_
                refine J_ls (ls2 := [some (.ref 54), some (.int (zI nu_12)), some (.int (zI at_12)), some (.int (zI 1)), some (.int (zI i_12)), some (.int (zI z2))]) rfl ?_
                refine Z_iinc (c := at_12 + 1) (ls2 := [some (.ref 54), some (.int (zI nu_12)), some (.int (zI (at_12 + 1))), some (.int (zI 1)), some (.int (zI i_12)), some (.int (zI z2))]) dX5_wordNumber_94 rfl (Nat.le_of_ble_eq_true rfl) rfl rfl rfl ?_
                refine Z_iinc (c := i_12 + 1) (ls2 := [some (.ref 54), some (.int (zI nu_12)), some (.int (zI (at_12 + 1))), some (.int (zI 1)), some (.int (zI (i_12 + 1))), some (.int (zI z2))]) dX5_wordNumber_97 rfl (Nat.le_of_ble_eq_true rfl) rfl rfl rfl ?_
                refine J_goto (tgt := 12) dX5_wordNumber_100 (by decide) ?_
                refine J_drop (ls2 := [some (.ref 54), some (.int (zI nu_12)), some (.int (zI (at_12 + 1))), some (.int (zI 1)), some (.int (zI (i_12 + 1))), none]) [true, true, true, true, true, false] rfl ?_
                exact ih12 nu_12 (at_12 + 1) 1 (i_12 + 1) (v_da458fa48a i12_0) (v_893826a06d h1) (WdB.same i12_2 (v_2b02420001 i12_0)) (v_d50281bace i12_3) (v_b1a81de18e i12_4) v_316afd7d0b v_bbcfac9b7d (WnI.one i12_7 i12_0 (fun w => absurd (ez2.symm.trans w) (v_314a301a88 h3.1 h4)) (v_8b15499c4b i12_5 i12_6 h5) (v_fe9ea41faa h6) ez7 ez2 (v_cd91a95e4e h9)) (meas_lt v_d9af624d78 (v_55b44453db h1) hm12)
        · refine J_iload_n dX5_wordNumber_38 rfl rfl ?_
          refine Z_if_eq (tgt := 52) dX5_wordNumber_39 (by decide) (v_5f10a759cd i12_5 i12_6) (fun h10 => ?_) (fun h10 => ?_)
          · refine Z_iinc (c := nu_12 + 1) (ls2 := [some (.ref 54), some (.int (zI (nu_12 + 1))), some (.int (zI at_12)), some (.int (zI sm_12)), some (.int (zI i_12)), some (.int (zI z2))]) dX5_wordNumber_52 rfl (Nat.le_of_ble_eq_true rfl) rfl rfl rfl ?_
            refine J_aload_n dX5_wordNumber_55 rfl rfl ?_
            refine J_get (v := .int (zI st)) dX5_wordNumber_56 fl_X5_22 hk54 rfl ?_
            refine J_istore_n dX5_wordNumber_59 rfl (Nat.le_of_ble_eq_true rfl) rfl ?_
            refine J_ls (ls2 := [some (.ref 54), some (.int (zI (nu_12 + 1))), some (.int (zI st)), some (.int (zI sm_12)), some (.int (zI i_12)), some (.int (zI z2))]) rfl ?_
            refine Z_iconst (n := 1) dX5_wordNumber_60 ?_
            refine J_istore_n dX5_wordNumber_61 rfl (Nat.le_of_ble_eq_true rfl) rfl ?_
            refine J_ls (ls2 := [some (.ref 54), some (.int (zI (nu_12 + 1))), some (.int (zI st)), some (.int (zI 1)), some (.int (zI i_12)), some (.int (zI z2))]) rfl ?_
            refine J_goto (tgt := 97) dX5_wordNumber_62 (by decide) ?_
            refine Z_iinc (c := i_12 + 1) (ls2 := [some (.ref 54), some (.int (zI (nu_12 + 1))), some (.int (zI st)), some (.int (zI 1)), some (.int (zI (i_12 + 1))), some (.int (zI z2))]) dX5_wordNumber_97 rfl (Nat.le_of_ble_eq_true rfl) rfl rfl rfl ?_
            refine J_goto (tgt := 12) dX5_wordNumber_100 (by decide) ?_
            refine J_drop (ls2 := [some (.ref 54), some (.int (zI (nu_12 + 1))), some (.int (zI st)), some (.int (zI 1)), some (.int (zI (i_12 + 1))), none]) [true, true, true, true, true, false] rfl ?_
            exact ih12 (nu_12 + 1) st 1 (i_12 + 1) (v_da458fa48a i12_0) (v_893826a06d h1) (WdB.next i12_2 (v_2b02420001 i12_0) (v_5067095eb0 h1) (ez2.trans (v_2a86628443 h3.1 h4))) v_0065452639 (v_670c5cf6c2 i12_0) v_316afd7d0b v_bbcfac9b7d (WnI.bl i12_7 i12_0 (ez2.trans (v_2a86628443 h3.1 h4)) (Or.inl (fun w => by have u := (v_bd6c74a791 i12_5 h10); omega))) (meas_lt v_d9af624d78 (v_55b44453db h1) hm12)
          · refine J_iload_n dX5_wordNumber_42 rfl rfl ?_
            refine J_aload_n dX5_wordNumber_43 rfl rfl ?_
            refine J_get (v := .int (zI bh)) dX5_wordNumber_44 fl_X5_25 hk54 rfl ?_
            refine Z_icmp_ne (tgt := 52) dX5_wordNumber_47 (by decide) (v_b3aa5f4b1f q1 q2 q3 q4 i12_3 i12_4 h1) (v_0bec36d083 q1 q2 q3 q4) (fun h11 => ?_) (fun h11 => ?_)
            · refine Z_iinc (c := nu_12 + 1) (ls2 := [some (.ref 54), some (.int (zI (nu_12 + 1))), some (.int (zI at_12)), some (.int (zI sm_12)), some (.int (zI i_12)), some (.int (zI z2))]) dX5_wordNumber_52 rfl (Nat.le_of_ble_eq_true rfl) rfl rfl rfl ?_
              refine J_aload_n dX5_wordNumber_55 rfl rfl ?_
              refine J_get (v := .int (zI st)) dX5_wordNumber_56 fl_X5_22 hk54 rfl ?_
              refine J_istore_n dX5_wordNumber_59 rfl (Nat.le_of_ble_eq_true rfl) rfl ?_
              refine J_ls (ls2 := [some (.ref 54), some (.int (zI (nu_12 + 1))), some (.int (zI st)), some (.int (zI sm_12)), some (.int (zI i_12)), some (.int (zI z2))]) rfl ?_
              refine Z_iconst (n := 1) dX5_wordNumber_60 ?_
              refine J_istore_n dX5_wordNumber_61 rfl (Nat.le_of_ble_eq_true rfl) rfl ?_
              refine J_ls (ls2 := [some (.ref 54), some (.int (zI (nu_12 + 1))), some (.int (zI st)), some (.int (zI 1)), some (.int (zI i_12)), some (.int (zI z2))]) rfl ?_
              refine J_goto (tgt := 97) dX5_wordNumber_62 (by decide) ?_
              refine Z_iinc (c := i_12 + 1) (ls2 := [some (.ref 54), some (.int (zI (nu_12 + 1))), some (.int (zI st)), some (.int (zI 1)), some (.int (zI (i_12 + 1))), some (.int (zI z2))]) dX5_wordNumber_97 rfl (Nat.le_of_ble_eq_true rfl) rfl rfl rfl ?_
              refine J_goto (tgt := 12) dX5_wordNumber_100 (by decide) ?_
              refine J_drop (ls2 := [some (.ref 54), some (.int (zI (nu_12 + 1))), some (.int (zI st)), some (.int (zI 1)), some (.int (zI (i_12 + 1))), none]) [true, true, true, true, true, false] rfl ?_
              exact ih12 (nu_12 + 1) st 1 (i_12 + 1) (v_da458fa48a i12_0) (v_893826a06d h1) (WdB.next i12_2 (v_2b02420001 i12_0) (v_5067095eb0 h1) (ez2.trans (v_2a86628443 h3.1 h4))) v_0065452639 (v_670c5cf6c2 i12_0) v_316afd7d0b v_bbcfac9b7d (WnI.bl i12_7 i12_0 (ez2.trans (v_2a86628443 h3.1 h4)) (Or.inr (v_da5cc3277e h11))) (meas_lt v_d9af624d78 (v_55b44453db h1) hm12)
            · refine J_iload_n dX5_wordNumber_50 rfl rfl ?_
              exact J_iret dX5_wordNumber_51 rfl rfl (Nat.le_of_ble_eq_true rfl) (Nat.le_of_ble_eq_true rfl) ⟨nu_12, (nu_12 + 1), rfl, rfl, i12_2.1, i12_2.2.1, ((WnI.hit i12_7 i12_0 (v_5067095eb0 h1) (ez2.trans (v_2a86628443 h3.1 h4)) (v_8b15499c4b i12_5 i12_6 h10) (v_cd91a95e4e h11)).1), ((WnI.hit i12_7 i12_0 (v_5067095eb0 h1) (ez2.trans (v_2a86628443 h3.1 h4)) (v_8b15499c4b i12_5 i12_6 h10) (v_cd91a95e4e h11)).2)⟩
  exact lp12 _ 0 st 1 0 v_939070ca3f v_63fe78b188 (WdB.zero) v_0065452639 v_d0bfa3a8cd v_316afd7d0b v_bbcfac9b7d (WnI.zero) (Nat.lt_succ_self _)
set_option maxHeartbeats 4000000 in
set_option maxRecDepth 100000 in
theorem d_advance {l : Launch} {G : jG} {nh : Nat} {fh : Nat → Option va_E} (tn : Int) (ln : Int) (tk : Int) (st : Int) (bh : Int) (va : Int) (pa : Int) (fl : Int) (sz : Int) (tp : Int → Int) (q0 : 0 ≤ ln) (q1 : ln ≤ 400) (q2 : 0 ≤ bh) (q3 : bh ≤ ln) (q4 : 0 ≤ va) (q5 : va ≤ 1001) (q6 : Rg tp 400 0 255) (q7 : Ps tp ln tn bh) (hk54 : fh 54 = some (.inr (5, [.ref 55, .int (zI ln), .int (zI tk), .int (zI st), .int (zI bh), .int (zI va), .int (zI pa), .int (zI fl), .ref 56, .int (zI sz)]))) (hk55 : fh 55 = some (.inl (0, 400, .inl (zA tp)))) : JM l G yX5_advance MX5_advance { frames := 5, cells := 0, slots := 0, locals := 110 } [.ref 54] (nh, fh) (fun rr h9 => ∃ tk2 : Int, ∃ st2 : Int, ∃ bh2 : Int, ∃ va2 : Int, rr = none ∧ h9 = (nh, hc fh [(54, .inr (5, [.ref 55, .int (zI ln), .int (zI tk2), .int (zI st2), .int (zI bh2), .int (zI va2), .int (zI pa), .int (zI fl), .ref 56, .int (zI sz)]))]) ∧ (0 ≤ tk2) ∧ (tk2 ≤ 355) ∧ (bh ≤ st2) ∧ (st2 ≤ bh2) ∧ (bh2 ≤ ln) ∧ (0 ≤ va2) ∧ (va2 ≤ 1001) ∧ (TokL tk2 st2 bh2) ∧ (TkX tp ln tn tk2 st2 bh2 va2)) := by
  refine JM.of (by decide) rfl (fun h => by cases h) (Nat.le_of_ble_eq_true rfl) ⟨0, rfl⟩ ?_
  refine J_hc0 (J_ls (ls2 := [some (.ref 54)]) rfl ?_)
  refine J_aload_n dX5_advance_0 rfl rfl ?_
  refine J_aload_n dX5_advance_1 rfl rfl ?_
  refine J_get (v := .int (zI bh)) dX5_advance_2 fl_X5_25 hk54 rfl ?_
  refine K_put (fs2 := [.ref 55, .int (zI ln), .int (zI tk), .int (zI bh), .int (zI bh), .int (zI va), .int (zI pa), .int (zI fl), .ref 56, .int (zI sz)]) dX5_advance_5 fw_X5_22 hk54 (Nat.le_of_ble_eq_true rfl) (fun _ => ⟨rfl, rfl⟩) rfl ?_
  have lp8 : ∀ (N8 : Nat) (s_8 : Int), (bh ≤ s_8) → (s_8 ≤ ln) → (BlT tp 32 bh s_8) → (ln - s_8).toNat < N8 → J l G MX5_advance { frames := 5, cells := 0, slots := 0, locals := 110 } jE (jMQ G { frames := 5, cells := 0, slots := 0, locals := 110 } (fun rr h9 => ∃ tk2 : Int, ∃ st2 : Int, ∃ bh2 : Int, ∃ va2 : Int, rr = none ∧ h9 = (nh, hc fh [(54, .inr (5, [.ref 55, .int (zI ln), .int (zI tk2), .int (zI st2), .int (zI bh2), .int (zI va2), .int (zI pa), .int (zI fl), .ref 56, .int (zI sz)]))]) ∧ (0 ≤ tk2) ∧ (tk2 ≤ 355) ∧ (bh ≤ st2) ∧ (st2 ≤ bh2) ∧ (bh2 ≤ ln) ∧ (0 ≤ va2) ∧ (va2 ≤ 1001) ∧ (TokL tk2 st2 bh2) ∧ (TkX tp ln tn tk2 st2 bh2 va2))) (nh, hc fh [(54, .inr (5, [.ref 55, .int (zI ln), .int (zI tk), .int (zI s_8), .int (zI bh), .int (zI va), .int (zI pa), .int (zI fl), .ref 56, .int (zI sz)]))]) 0 0 8 [some (.ref 54)] [] := by
    intro N8
    induction N8 with
    | zero => intro s_8 i8_0 i8_1 i8_2 hm; exact absurd hm (Nat.not_lt_zero _)
    | succ N8 ih8 =>
      intro s_8 i8_0 i8_1 i8_2 hm8
      refine J_aload_n dX5_advance_8 rfl rfl ?_
      refine J_get (v := .int (zI s_8)) dX5_advance_9 fl_X5_22 rfl rfl ?_
      refine J_aload_n dX5_advance_12 rfl rfl ?_
      refine J_get (v := .int (zI ln)) dX5_advance_13 fl_X5_15 rfl rfl ?_
      refine Z_icmp_ge (tgt := 46) dX5_advance_16 (by decide) (v_0bec36d083 q1 q2 i8_0 i8_1) (v_d7389cde0f q0 q1) (fun h1 => ?_) (fun h1 => ?_)
      · have g2 : RunT tp 32 32 ln bh s_8 := RunT_bl i8_2 (v_d464d4c634 i8_0) (v_d464d4c634 i8_1) (fun w => absurd w (by have u := (v_d464d4c634 h1); omega))
        refine J_aload_n dX5_advance_46 rfl rfl ?_
        refine J_aload_n dX5_advance_47 rfl rfl ?_
        refine J_get (v := .int (zI s_8)) dX5_advance_48 fl_X5_22 rfl rfl ?_
        refine K_put (fs2 := [.ref 55, .int (zI ln), .int (zI tk), .int (zI s_8), .int (zI s_8), .int (zI va), .int (zI pa), .int (zI fl), .ref 56, .int (zI sz)]) dX5_advance_51 fw_X5_25 rfl (Nat.le_of_ble_eq_true rfl) (fun _ => ⟨rfl, rfl⟩) rfl ?_
        refine J_aload_n dX5_advance_54 rfl rfl ?_
        refine J_get (v := .int (zI s_8)) dX5_advance_55 fl_X5_22 rfl rfl ?_
        refine J_aload_n dX5_advance_58 rfl rfl ?_
        refine J_get (v := .int (zI ln)) dX5_advance_59 fl_X5_15 rfl rfl ?_
        refine Z_icmp_lt (tgt := 74) dX5_advance_62 (by decide) (v_0bec36d083 q1 q2 i8_0 i8_1) (v_d7389cde0f q0 q1) (fun h3 => absurd h3 (v_b598cf8bfa h1)) (fun h3 => ?_)
        refine J_aload_n dX5_advance_65 rfl rfl ?_
        refine Z_bipush (n := 17) dX5_advance_66 (by decide +kernel) ?_
        refine K_put (fs2 := [.ref 55, .int (zI ln), .int (zI 17), .int (zI s_8), .int (zI s_8), .int (zI va), .int (zI pa), .int (zI fl), .ref 56, .int (zI sz)]) dX5_advance_68 fw_X5_19 rfl (Nat.le_of_ble_eq_true rfl) (fun _ => ⟨rfl, rfl⟩) rfl ?_
        refine J_goto (tgt := 263) dX5_advance_71 (by decide) ?_
        refine J_mask (L2 := [(54, .inr (5, [.ref 55, .int (zI ln), .int (zI 17), .int (zI s_8), .int (zI s_8), .int (zI va), .int (zI pa), .int (zI fl), .ref 56, .int (zI sz)]))]) (ks := [54, 54, 54]) [true, false, false] rfl (by decide +kernel) rfl ?_
        exact J_vret dX5_advance_263 rfl (Nat.le_of_ble_eq_true rfl) (Nat.le_of_ble_eq_true rfl) ⟨17, s_8, s_8, va, rfl, rfl, v_d5f9afb2ea, v_4e528d6cd5, i8_0, v_0065452639, i8_1, q4, q5, (Or.inl v_a6a45631f7), (TkX.e q7 g2 (v_9b8f42b01e i8_1 h1) (v_9b8f42b01e i8_1 h1))⟩
      · refine J_aload_n dX5_advance_19 rfl rfl ?_
        refine J_get (v := .ref 55) dX5_advance_20 fl_X5_11 rfl rfl ?_
        refine J_aload_n dX5_advance_23 rfl rfl ?_
        refine J_get (v := .int (zI s_8)) dX5_advance_24 fl_X5_22 rfl rfl ?_
        obtain ⟨z4, ez4⟩ : ∃ z : Int, tp s_8 = z := ⟨_, rfl⟩
        have h5 := Rg.at q6 (v_21976c7318 q2 i8_0) (v_5d8e28db30 q1 h1) ez4
        refine Y_iald (z := z4) 400 dX5_advance_27 hk55 rfl (by decide) (v_21976c7318 q2 i8_0) (v_5d8e28db30 q1 h1) ez4 ?_
        refine Z_bipush (n := 32) dX5_advance_28 (by decide +kernel) ?_
        refine Z_icmp_ne (tgt := 46) dX5_advance_30 (by decide) (v_7675438551 h5.1 h5.2) v_27308ff615 (fun h6 => ?_) (fun h6 => ?_)
        · have g7 : RunT tp 32 32 ln bh s_8 := RunT_bl i8_2 (v_d464d4c634 i8_0) (v_4539af1419 h1) (fun _ => by rw [ez4]; exact (v_43cd7fe7e1 h6))
          refine J_aload_n dX5_advance_46 rfl rfl ?_
          refine J_aload_n dX5_advance_47 rfl rfl ?_
          refine J_get (v := .int (zI s_8)) dX5_advance_48 fl_X5_22 rfl rfl ?_
          refine K_put (fs2 := [.ref 55, .int (zI ln), .int (zI tk), .int (zI s_8), .int (zI s_8), .int (zI va), .int (zI pa), .int (zI fl), .ref 56, .int (zI sz)]) dX5_advance_51 fw_X5_25 rfl (Nat.le_of_ble_eq_true rfl) (fun _ => ⟨rfl, rfl⟩) rfl ?_
          refine J_aload_n dX5_advance_54 rfl rfl ?_
          refine J_get (v := .int (zI s_8)) dX5_advance_55 fl_X5_22 rfl rfl ?_
          refine J_aload_n dX5_advance_58 rfl rfl ?_
          refine J_get (v := .int (zI ln)) dX5_advance_59 fl_X5_15 rfl rfl ?_
          refine Z_icmp_lt (tgt := 74) dX5_advance_62 (by decide) (v_a9a43f8862 q1 q2 i8_0 h1) (v_d7389cde0f q0 q1) (fun h8 => ?_) (fun h8 => absurd h8 (fun q => q (v_fe9ea41faa h1)))
          refine J_aload_n dX5_advance_74 rfl rfl ?_
          refine J_get (v := .ref 55) dX5_advance_75 fl_X5_11 rfl rfl ?_
          refine J_aload_n dX5_advance_78 rfl rfl ?_
          refine J_get (v := .int (zI s_8)) dX5_advance_79 fl_X5_22 rfl rfl ?_
          refine Y_iald (z := z4) 400 dX5_advance_82 hk55 rfl (by decide) (v_21976c7318 q2 i8_0) (v_5d8e28db30 q1 h1) ez4 ?_
          refine J_callS (st := []) dX5_advance_83 cs_X5_98 (d_isLetter z4 (v_7675438551 h5.1 h5.2)) rfl rfl (Nat.le_of_ble_eq_true rfl) ⟨(Nat.le_of_ble_eq_true rfl), (Nat.le_of_ble_eq_true rfl)⟩ ⟨(Nat.le_of_ble_eq_true rfl), (Nat.le_of_ble_eq_true rfl)⟩ (fun r h9 hp => ?_)
          rcases hp with ⟨rfl, rfl, h9, h10⟩ | ⟨rfl, rfl, h11⟩ | ⟨rfl, rfl, h12⟩
          · refine J_nf (nh2 := nh) (ck2 := 0) (sk2 := 0) (st2 := [.int (zI 1)]) rfl rfl rfl rfl ?_
            refine Z_if_eq (tgt := 139) dX5_advance_86 (by decide) v_4dcc24baa7 (fun h13 => absurd h13 v_3a47bfd896) (fun h13 => ?_)
            refine J_mask (L2 := [(54, .inr (5, [.ref 55, .int (zI ln), .int (zI tk), .int (zI s_8), .int (zI s_8), .int (zI va), .int (zI pa), .int (zI fl), .ref 56, .int (zI sz)]))]) (ks := [54, 54]) [true, false] rfl (by decide +kernel) rfl ?_
            have lp89 : ∀ (N89 : Nat) (b_89 : Int), (s_8 ≤ b_89) → (b_89 ≤ ln) → (InT tp 97 122 s_8 b_89) → (ln - b_89).toNat < N89 → J l G MX5_advance { frames := 5, cells := 0, slots := 0, locals := 110 } jE (jMQ G { frames := 5, cells := 0, slots := 0, locals := 110 } (fun rr h9 => ∃ tk2 : Int, ∃ st2 : Int, ∃ bh2 : Int, ∃ va2 : Int, rr = none ∧ h9 = (nh, hc fh [(54, .inr (5, [.ref 55, .int (zI ln), .int (zI tk2), .int (zI st2), .int (zI bh2), .int (zI va2), .int (zI pa), .int (zI fl), .ref 56, .int (zI sz)]))]) ∧ (0 ≤ tk2) ∧ (tk2 ≤ 355) ∧ (bh ≤ st2) ∧ (st2 ≤ bh2) ∧ (bh2 ≤ ln) ∧ (0 ≤ va2) ∧ (va2 ≤ 1001) ∧ (TokL tk2 st2 bh2) ∧ (TkX tp ln tn tk2 st2 bh2 va2))) (nh, hc fh [(54, .inr (5, [.ref 55, .int (zI ln), .int (zI tk), .int (zI s_8), .int (zI b_89), .int (zI va), .int (zI pa), .int (zI fl), .ref 56, .int (zI sz)]))]) 0 0 89 [some (.ref 54)] [] := by
              intro N89
              induction N89 with
              | zero => intro b_89 i89_0 i89_1 i89_2 hm; exact absurd hm (Nat.not_lt_zero _)
              | succ N89 ih89 =>
                intro b_89 i89_0 i89_1 i89_2 hm89
                refine J_aload_n dX5_advance_89 rfl rfl ?_
                refine J_get (v := .int (zI b_89)) dX5_advance_90 fl_X5_25 rfl rfl ?_
                refine J_aload_n dX5_advance_93 rfl rfl ?_
                refine J_get (v := .int (zI ln)) dX5_advance_94 fl_X5_15 rfl rfl ?_
                refine Z_icmp_ge (tgt := 128) dX5_advance_97 (by decide) (v_e297e1497d q1 q2 i8_0 i89_0 i89_1) (v_d7389cde0f q0 q1) (fun h14 => ?_) (fun h14 => ?_)
                · have g15 : RunT tp 97 122 ln s_8 b_89 := InT.run i89_2 (v_8e3f912402 h1 h14) (v_d464d4c634 i89_1) (fun w => absurd w (by have u := (v_d464d4c634 h14); omega))
                  refine J_aload_n dX5_advance_128 rfl rfl ?_
                  refine J_aload_n dX5_advance_129 rfl rfl ?_
                  refine J_callV (st := [.ref 54]) dX5_advance_130 cv_X5_101 (d_wordNumber ln tk s_8 b_89 va pa fl sz tp q0 q1 (v_21976c7318 q2 i8_0) i89_0 i89_1 q6 rfl hk55) rfl rfl rfl (Nat.le_of_ble_eq_true rfl) ⟨(Nat.le_of_ble_eq_true rfl), (Nat.le_of_ble_eq_true rfl)⟩ ⟨(Nat.le_of_ble_eq_true rfl), (Nat.le_of_ble_eq_true rfl)⟩ (fun r h9 hp => ?_)
                  obtain ⟨z16, z17, rfl, rfl, h18, h19, h20, h21⟩ := hp
                  refine J_nf (nh2 := nh) (ck2 := 0) (sk2 := 0) (st2 := [.int (zI z16), .ref 54]) rfl rfl rfl rfl ?_
                  refine K_put (fs2 := [.ref 55, .int (zI ln), .int (zI z16), .int (zI s_8), .int (zI b_89), .int (zI va), .int (zI pa), .int (zI fl), .ref 56, .int (zI sz)]) dX5_advance_133 fw_X5_19 rfl (Nat.le_of_ble_eq_true rfl) (fun _ => ⟨rfl, rfl⟩) rfl ?_
                  refine J_goto (tgt := 263) dX5_advance_136 (by decide) ?_
                  refine J_mask (L2 := [(54, .inr (5, [.ref 55, .int (zI ln), .int (zI z16), .int (zI s_8), .int (zI b_89), .int (zI va), .int (zI pa), .int (zI fl), .ref 56, .int (zI sz)]))]) (ks := [54, 54]) [true, false] rfl (by decide +kernel) rfl ?_
                  exact J_vret dX5_advance_263 rfl (Nat.le_of_ble_eq_true rfl) (Nat.le_of_ble_eq_true rfl) ⟨z16, s_8, b_89, va, rfl, rfl, h18, (v_243b24de7d h19), i8_0, i89_0, i89_1, q4, q5, (Or.inr (v_7fb2d88da4 h1 h14)), (TkX.w q7 g7 (v_fe9ea41faa h1) ez4 (v_bac6ad734e h9) (v_979471f816 h10) g15 h20 h21)⟩
                · refine J_aload_n dX5_advance_100 rfl rfl ?_
                  refine J_get (v := .ref 55) dX5_advance_101 fl_X5_11 rfl rfl ?_
                  refine J_aload_n dX5_advance_104 rfl rfl ?_
                  refine J_get (v := .int (zI b_89)) dX5_advance_105 fl_X5_25 rfl rfl ?_
                  obtain ⟨z22, ez22⟩ : ∃ z : Int, tp b_89 = z := ⟨_, rfl⟩
                  have h23 := Rg.at q6 (v_7eaccd6eb1 q2 i8_0 i89_0) (v_5d8e28db30 q1 h14) ez22
                  refine Y_iald (z := z22) 400 dX5_advance_108 hk55 rfl (by decide) (v_7eaccd6eb1 q2 i8_0 i89_0) (v_5d8e28db30 q1 h14) ez22 ?_
                  refine J_callS (st := []) dX5_advance_109 cs_X5_98 (d_isLetter z22 (v_7675438551 h23.1 h23.2)) rfl rfl (Nat.le_of_ble_eq_true rfl) ⟨(Nat.le_of_ble_eq_true rfl), (Nat.le_of_ble_eq_true rfl)⟩ ⟨(Nat.le_of_ble_eq_true rfl), (Nat.le_of_ble_eq_true rfl)⟩ (fun r h9 hp => ?_)
                  rcases hp with ⟨rfl, rfl, h24, h25⟩ | ⟨rfl, rfl, h26⟩ | ⟨rfl, rfl, h27⟩
                  · refine J_nf (nh2 := nh) (ck2 := 0) (sk2 := 0) (st2 := [.int (zI 1)]) rfl rfl rfl rfl ?_
                    refine Z_if_eq (tgt := 128) dX5_advance_112 (by decide) v_4dcc24baa7 (fun h28 => absurd h28 v_3a47bfd896) (fun h28 => ?_)
                    refine J_aload_n dX5_advance_115 rfl rfl ?_
                    refine J_dup dX5_advance_116 rfl ?_
                    refine J_get (v := .int (zI b_89)) dX5_advance_117 fl_X5_25 rfl rfl ?_
                    refine Z_iconst (n := 1) dX5_advance_120 ?_
                    refine Z_iadd (c := b_89 + 1) dX5_advance_121 rfl ?_
                    refine K_put (fs2 := [.ref 55, .int (zI ln), .int (zI tk), .int (zI s_8), .int (zI (b_89 + 1)), .int (zI va), .int (zI pa), .int (zI fl), .ref 56, .int (zI sz)]) dX5_advance_122 fw_X5_25 rfl (Nat.le_of_ble_eq_true rfl) (fun _ => ⟨rfl, rfl⟩) rfl ?_
                    refine J_goto (tgt := 89) dX5_advance_125 (by decide) ?_
                    refine J_mask (L2 := [(54, .inr (5, [.ref 55, .int (zI ln), .int (zI tk), .int (zI s_8), .int (zI (b_89 + 1)), .int (zI va), .int (zI pa), .int (zI fl), .ref 56, .int (zI sz)]))]) (ks := [54, 54]) [true, false] rfl (by decide +kernel) rfl ?_
                    exact ih89 (b_89 + 1) (v_d50281bace i89_0) (v_e390a36114 h14) (InT.step i89_2 ez22 (v_bac6ad734e h24) (v_979471f816 h25)) (meas_lt v_90eacd6fd4 (v_8b7dd7d486 h14) hm89)
                  · refine J_nf (nh2 := nh) (ck2 := 0) (sk2 := 0) (st2 := [.int (zI 0)]) rfl rfl rfl rfl ?_
                    refine Z_if_eq (tgt := 128) dX5_advance_112 (by decide) v_b17331891f (fun h29 => ?_) (fun h29 => absurd h29 (fun q => q v_2ca2bbca1f))
                    have g30 : RunT tp 97 122 ln s_8 b_89 := InT.run i89_2 (v_d464d4c634 i89_0) (v_4539af1419 h14) (fun _ => by rw [ez22]; have u := (v_3455bb6af9 h26); omega)
                    refine J_aload_n dX5_advance_128 rfl rfl ?_
                    refine J_aload_n dX5_advance_129 rfl rfl ?_
                    refine J_callV (st := [.ref 54]) dX5_advance_130 cv_X5_101 (d_wordNumber ln tk s_8 b_89 va pa fl sz tp q0 q1 (v_21976c7318 q2 i8_0) i89_0 i89_1 q6 rfl hk55) rfl rfl rfl (Nat.le_of_ble_eq_true rfl) ⟨(Nat.le_of_ble_eq_true rfl), (Nat.le_of_ble_eq_true rfl)⟩ ⟨(Nat.le_of_ble_eq_true rfl), (Nat.le_of_ble_eq_true rfl)⟩ (fun r h9 hp => ?_)
                    obtain ⟨z31, z32, rfl, rfl, h33, h34, h35, h36⟩ := hp
                    refine J_nf (nh2 := nh) (ck2 := 0) (sk2 := 0) (st2 := [.int (zI z31), .ref 54]) rfl rfl rfl rfl ?_
                    refine K_put (fs2 := [.ref 55, .int (zI ln), .int (zI z31), .int (zI s_8), .int (zI b_89), .int (zI va), .int (zI pa), .int (zI fl), .ref 56, .int (zI sz)]) dX5_advance_133 fw_X5_19 rfl (Nat.le_of_ble_eq_true rfl) (fun _ => ⟨rfl, rfl⟩) rfl ?_
                    refine J_goto (tgt := 263) dX5_advance_136 (by decide) ?_
                    refine J_mask (L2 := [(54, .inr (5, [.ref 55, .int (zI ln), .int (zI z31), .int (zI s_8), .int (zI b_89), .int (zI va), .int (zI pa), .int (zI fl), .ref 56, .int (zI sz)]))]) (ks := [54, 54]) [true, false] rfl (by decide +kernel) rfl ?_
                    exact J_vret dX5_advance_263 rfl (Nat.le_of_ble_eq_true rfl) (Nat.le_of_ble_eq_true rfl) ⟨z31, s_8, b_89, va, rfl, rfl, h33, (v_243b24de7d h34), i8_0, i89_0, i89_1, q4, q5, (Or.inr (at_lt ez4 ez22 (v_c159493e72 h9 h26) (v_d464d4c634 i89_0))), (TkX.w q7 g7 (v_fe9ea41faa h1) ez4 (v_bac6ad734e h9) (v_979471f816 h10) g30 h35 h36)⟩
                  · refine J_nf (nh2 := nh) (ck2 := 0) (sk2 := 0) (st2 := [.int (zI 0)]) rfl rfl rfl rfl ?_
                    refine Z_if_eq (tgt := 128) dX5_advance_112 (by decide) v_b17331891f (fun h37 => ?_) (fun h37 => absurd h37 (fun q => q v_2ca2bbca1f))
                    have g38 : RunT tp 97 122 ln s_8 b_89 := InT.run i89_2 (v_d464d4c634 i89_0) (v_4539af1419 h14) (fun _ => by rw [ez22]; have u := (v_f1b1fe6ea3 h27); omega)
                    refine J_aload_n dX5_advance_128 rfl rfl ?_
                    refine J_aload_n dX5_advance_129 rfl rfl ?_
                    refine J_callV (st := [.ref 54]) dX5_advance_130 cv_X5_101 (d_wordNumber ln tk s_8 b_89 va pa fl sz tp q0 q1 (v_21976c7318 q2 i8_0) i89_0 i89_1 q6 rfl hk55) rfl rfl rfl (Nat.le_of_ble_eq_true rfl) ⟨(Nat.le_of_ble_eq_true rfl), (Nat.le_of_ble_eq_true rfl)⟩ ⟨(Nat.le_of_ble_eq_true rfl), (Nat.le_of_ble_eq_true rfl)⟩ (fun r h9 hp => ?_)
                    obtain ⟨z39, z40, rfl, rfl, h41, h42, h43, h44⟩ := hp
                    refine J_nf (nh2 := nh) (ck2 := 0) (sk2 := 0) (st2 := [.int (zI z39), .ref 54]) rfl rfl rfl rfl ?_
                    refine K_put (fs2 := [.ref 55, .int (zI ln), .int (zI z39), .int (zI s_8), .int (zI b_89), .int (zI va), .int (zI pa), .int (zI fl), .ref 56, .int (zI sz)]) dX5_advance_133 fw_X5_19 rfl (Nat.le_of_ble_eq_true rfl) (fun _ => ⟨rfl, rfl⟩) rfl ?_
                    refine J_goto (tgt := 263) dX5_advance_136 (by decide) ?_
                    refine J_mask (L2 := [(54, .inr (5, [.ref 55, .int (zI ln), .int (zI z39), .int (zI s_8), .int (zI b_89), .int (zI va), .int (zI pa), .int (zI fl), .ref 56, .int (zI sz)]))]) (ks := [54, 54]) [true, false] rfl (by decide +kernel) rfl ?_
                    exact J_vret dX5_advance_263 rfl (Nat.le_of_ble_eq_true rfl) (Nat.le_of_ble_eq_true rfl) ⟨z39, s_8, b_89, va, rfl, rfl, h41, (v_243b24de7d h42), i8_0, i89_0, i89_1, q4, q5, (Or.inr (at_lt ez4 ez22 (v_8a071c42cc h10 h27) (v_d464d4c634 i89_0))), (TkX.w q7 g7 (v_fe9ea41faa h1) ez4 (v_bac6ad734e h9) (v_979471f816 h10) g38 h43 h44)⟩
            exact lp89 _ s_8 v_0065452639 i8_1 (InT_0) (Nat.lt_succ_self _)
          · refine J_nf (nh2 := nh) (ck2 := 0) (sk2 := 0) (st2 := [.int (zI 0)]) rfl rfl rfl rfl ?_
            refine Z_if_eq (tgt := 139) dX5_advance_86 (by decide) v_b17331891f (fun h45 => ?_) (fun h45 => absurd h45 (fun q => q v_2ca2bbca1f))
            refine J_aload_n dX5_advance_139 rfl rfl ?_
            refine J_get (v := .ref 55) dX5_advance_140 fl_X5_11 rfl rfl ?_
            refine J_aload_n dX5_advance_143 rfl rfl ?_
            refine J_get (v := .int (zI s_8)) dX5_advance_144 fl_X5_22 rfl rfl ?_
            refine Y_iald (z := z4) 400 dX5_advance_147 hk55 rfl (by decide) (v_21976c7318 q2 i8_0) (v_5d8e28db30 q1 h1) ez4 ?_
            refine J_callS (st := []) dX5_advance_148 cs_X5_105 (d_isDigit z4 (v_a9b52e2056 h5.1 h11)) rfl rfl (Nat.le_of_ble_eq_true rfl) ⟨(Nat.le_of_ble_eq_true rfl), (Nat.le_of_ble_eq_true rfl)⟩ ⟨(Nat.le_of_ble_eq_true rfl), (Nat.le_of_ble_eq_true rfl)⟩ (fun r h9 hp => ?_)
            rcases hp with ⟨rfl, rfl, h46, h47⟩ | ⟨rfl, rfl, h48⟩ | ⟨rfl, rfl, h49⟩
            · refine J_nf (nh2 := nh) (ck2 := 0) (sk2 := 0) (st2 := [.int (zI 1)]) rfl rfl rfl rfl ?_
              refine Z_if_eq (tgt := 237) dX5_advance_151 (by decide) v_4dcc24baa7 (fun h50 => absurd h50 v_3a47bfd896) (fun h50 => ?_)
              refine J_aload_n dX5_advance_154 rfl rfl ?_
              refine Z_iconst (n := 0) dX5_advance_155 ?_
              refine K_put (fs2 := [.ref 55, .int (zI ln), .int (zI tk), .int (zI s_8), .int (zI s_8), .int (zI 0), .int (zI pa), .int (zI fl), .ref 56, .int (zI sz)]) dX5_advance_156 fw_X5_28 rfl (Nat.le_of_ble_eq_true rfl) (fun _ => ⟨rfl, rfl⟩) rfl ?_
              refine J_mask (L2 := [(54, .inr (5, [.ref 55, .int (zI ln), .int (zI tk), .int (zI s_8), .int (zI s_8), .int (zI 0), .int (zI pa), .int (zI fl), .ref 56, .int (zI sz)]))]) (ks := [54, 54, 54]) [true, false, false] rfl (by decide +kernel) rfl ?_
              have lp159 : ∀ (N159 : Nat) (b_159 : Int) (v_159 : Int), (s_8 ≤ b_159) → (b_159 ≤ ln) → (0 ≤ v_159) → (v_159 ≤ 1001) → (InT tp 48 57 s_8 b_159) → (v_159 = dgV tp s_8 (b_159 - s_8).toNat) → (ln - b_159).toNat < N159 → J l G MX5_advance { frames := 5, cells := 0, slots := 0, locals := 110 } jE (jMQ G { frames := 5, cells := 0, slots := 0, locals := 110 } (fun rr h9 => ∃ tk2 : Int, ∃ st2 : Int, ∃ bh2 : Int, ∃ va2 : Int, rr = none ∧ h9 = (nh, hc fh [(54, .inr (5, [.ref 55, .int (zI ln), .int (zI tk2), .int (zI st2), .int (zI bh2), .int (zI va2), .int (zI pa), .int (zI fl), .ref 56, .int (zI sz)]))]) ∧ (0 ≤ tk2) ∧ (tk2 ≤ 355) ∧ (bh ≤ st2) ∧ (st2 ≤ bh2) ∧ (bh2 ≤ ln) ∧ (0 ≤ va2) ∧ (va2 ≤ 1001) ∧ (TokL tk2 st2 bh2) ∧ (TkX tp ln tn tk2 st2 bh2 va2))) (nh, hc fh [(54, .inr (5, [.ref 55, .int (zI ln), .int (zI tk), .int (zI s_8), .int (zI b_159), .int (zI v_159), .int (zI pa), .int (zI fl), .ref 56, .int (zI sz)]))]) 0 0 159 [some (.ref 54)] [] := by
                intro N159
                induction N159 with
                | zero => intro b_159 v_159 i159_0 i159_1 i159_2 i159_3 i159_4 i159_5 hm; exact absurd hm (Nat.not_lt_zero _)
                | succ N159 ih159 =>
                  intro b_159 v_159 i159_0 i159_1 i159_2 i159_3 i159_4 i159_5 hm159
                  refine J_aload_n dX5_advance_159 rfl rfl ?_
                  refine J_get (v := .int (zI b_159)) dX5_advance_160 fl_X5_25 rfl rfl ?_
                  refine J_aload_n dX5_advance_163 rfl rfl ?_
                  refine J_get (v := .int (zI ln)) dX5_advance_164 fl_X5_15 rfl rfl ?_
                  refine Z_icmp_ge (tgt := 228) dX5_advance_167 (by decide) (v_e297e1497d q1 q2 i8_0 i159_0 i159_1) (v_d7389cde0f q0 q1) (fun h51 => ?_) (fun h51 => ?_)
                  · have g52 : RunT tp 48 57 ln s_8 b_159 := InT.run i159_4 (v_8e3f912402 h1 h51) (v_d464d4c634 i159_1) (fun w => absurd w (by have u := (v_d464d4c634 h51); omega))
                    refine J_aload_n dX5_advance_228 rfl rfl ?_
                    refine Z_bipush (n := 16) dX5_advance_229 (by decide +kernel) ?_
                    refine K_put (fs2 := [.ref 55, .int (zI ln), .int (zI 16), .int (zI s_8), .int (zI b_159), .int (zI v_159), .int (zI pa), .int (zI fl), .ref 56, .int (zI sz)]) dX5_advance_231 fw_X5_19 rfl (Nat.le_of_ble_eq_true rfl) (fun _ => ⟨rfl, rfl⟩) rfl ?_
                    refine J_goto (tgt := 263) dX5_advance_234 (by decide) ?_
                    refine J_mask (L2 := [(54, .inr (5, [.ref 55, .int (zI ln), .int (zI 16), .int (zI s_8), .int (zI b_159), .int (zI v_159), .int (zI pa), .int (zI fl), .ref 56, .int (zI sz)]))]) (ks := [54, 54]) [true, false] rfl (by decide +kernel) rfl ?_
                    exact J_vret dX5_advance_263 rfl (Nat.le_of_ble_eq_true rfl) (Nat.le_of_ble_eq_true rfl) ⟨16, s_8, b_159, v_159, rfl, rfl, v_479b56dbea, v_e969a4d572, i8_0, i159_0, i159_1, i159_2, i159_3, (Or.inr (v_7fb2d88da4 h1 h51)), (TkX.d q7 g7 (v_fe9ea41faa h1) ez4 (v_569e948605 h46) (v_d373c32a4e h47) g52 i159_5)⟩
                  · refine J_aload_n dX5_advance_170 rfl rfl ?_
                    refine J_get (v := .ref 55) dX5_advance_171 fl_X5_11 rfl rfl ?_
                    refine J_aload_n dX5_advance_174 rfl rfl ?_
                    refine J_get (v := .int (zI b_159)) dX5_advance_175 fl_X5_25 rfl rfl ?_
                    obtain ⟨z53, ez53⟩ : ∃ z : Int, tp b_159 = z := ⟨_, rfl⟩
                    have h54 := Rg.at q6 (v_7eaccd6eb1 q2 i8_0 i159_0) (v_5d8e28db30 q1 h51) ez53
                    refine Y_iald (z := z53) 400 dX5_advance_178 hk55 rfl (by decide) (v_7eaccd6eb1 q2 i8_0 i159_0) (v_5d8e28db30 q1 h51) ez53 ?_
                    refine J_callS (st := []) dX5_advance_179 cs_X5_105 (d_isDigit z53 (v_7675438551 h54.1 h54.2)) rfl rfl (Nat.le_of_ble_eq_true rfl) ⟨(Nat.le_of_ble_eq_true rfl), (Nat.le_of_ble_eq_true rfl)⟩ ⟨(Nat.le_of_ble_eq_true rfl), (Nat.le_of_ble_eq_true rfl)⟩ (fun r h9 hp => ?_)
                    rcases hp with ⟨rfl, rfl, h55, h56⟩ | ⟨rfl, rfl, h57⟩ | ⟨rfl, rfl, h58⟩
                    · refine J_nf (nh2 := nh) (ck2 := 0) (sk2 := 0) (st2 := [.int (zI 1)]) rfl rfl rfl rfl ?_
                      refine Z_if_eq (tgt := 228) dX5_advance_182 (by decide) v_4dcc24baa7 (fun h59 => absurd h59 v_3a47bfd896) (fun h59 => ?_)
                      refine J_aload_n dX5_advance_185 rfl rfl ?_
                      refine Z_sipush (n := 1001) dX5_advance_186 (by decide +kernel) ?_
                      refine J_aload_n dX5_advance_189 rfl rfl ?_
                      refine J_get (v := .int (zI v_159)) dX5_advance_190 fl_X5_28 rfl rfl ?_
                      refine Z_bipush (n := 10) dX5_advance_193 (by decide +kernel) ?_
                      refine Z_imul (c := 10 * v_159) dX5_advance_195 v_0701810ab8 ?_
                      refine J_aload_n dX5_advance_196 rfl rfl ?_
                      refine J_get (v := .ref 55) dX5_advance_197 fl_X5_11 rfl rfl ?_
                      refine J_aload_n dX5_advance_200 rfl rfl ?_
                      refine J_get (v := .int (zI b_159)) dX5_advance_201 fl_X5_25 rfl rfl ?_
                      refine Y_iald (z := z53) 400 dX5_advance_204 hk55 rfl (by decide) (v_7eaccd6eb1 q2 i8_0 i159_0) (v_5d8e28db30 q1 h51) ez53 ?_
                      refine Z_iadd (c := 10 * v_159 + z53) dX5_advance_205 rfl ?_
                      refine Z_bipush (n := 48) dX5_advance_206 (by decide +kernel) ?_
                      refine Z_isub (c := 10 * v_159 + z53 - 48) dX5_advance_208 rfl ?_
                      obtain ⟨z60, ez60⟩ : ∃ z : Int, min 1001 (10 * v_159 + z53 - 48) = z := ⟨_, rfl⟩
                      refine J_mmin (z := zI z60) dX5_advance_209 (jt3 221 rfl rfl) (jt3 222 rfl rfl) (jt1 19 rfl rfl) (jt3 223 rfl rfl) (Nat.le_of_ble_eq_true rfl) (Nat.le_of_ble_eq_true rfl) (Nat.le_of_ble_eq_true rfl) (Nat.le_of_ble_eq_true rfl) (by rw [zI_min v_0eb3c069c9 (v_fbf291c56e i159_2 i159_3 h55 h56), ez60]) ?_
                      have h61 : z60 ≤ 1001 ∧ z60 ≤ 10 * v_159 + z53 - 48 ∧ (z60 = 1001 ∨ z60 = 10 * v_159 + z53 - 48) := by omega
                      have h62 : 0 ≤ z60 := by omega
                      refine K_put (fs2 := [.ref 55, .int (zI ln), .int (zI tk), .int (zI s_8), .int (zI b_159), .int (zI z60), .int (zI pa), .int (zI fl), .ref 56, .int (zI sz)]) dX5_advance_212 fw_X5_28 rfl (Nat.le_of_ble_eq_true rfl) (fun _ => ⟨rfl, rfl⟩) rfl ?_
                      refine J_aload_n dX5_advance_215 rfl rfl ?_
                      refine J_dup dX5_advance_216 rfl ?_
                      refine J_get (v := .int (zI b_159)) dX5_advance_217 fl_X5_25 rfl rfl ?_
                      refine Z_iconst (n := 1) dX5_advance_220 ?_
                      refine Z_iadd (c := b_159 + 1) dX5_advance_221 rfl ?_
                      refine K_put (fs2 := [.ref 55, .int (zI ln), .int (zI tk), .int (zI s_8), .int (zI (b_159 + 1)), .int (zI z60), .int (zI pa), .int (zI fl), .ref 56, .int (zI sz)]) dX5_advance_222 fw_X5_25 rfl (Nat.le_of_ble_eq_true rfl) (fun _ => ⟨rfl, rfl⟩) rfl ?_
                      refine J_goto (tgt := 159) dX5_advance_225 (by decide) ?_
                      refine J_mask (L2 := [(54, .inr (5, [.ref 55, .int (zI ln), .int (zI tk), .int (zI s_8), .int (zI (b_159 + 1)), .int (zI z60), .int (zI pa), .int (zI fl), .ref 56, .int (zI sz)]))]) (ks := [54, 54, 54]) [true, false, false] rfl (by decide +kernel) rfl ?_
                      exact ih159 (b_159 + 1) z60 (v_d50281bace i159_0) (v_e390a36114 h51) h62 h61.1 (InT.step i159_4 ez53 (v_569e948605 h55) (v_d373c32a4e h56)) (dgV_step i159_5 (v_d464d4c634 i159_0) ez53 (v_569e948605 h55) (v_d373c32a4e h56) (by omega) i159_2 i159_3) (meas_lt v_90eacd6fd4 (v_8b7dd7d486 h51) hm159)
                    · refine J_nf (nh2 := nh) (ck2 := 0) (sk2 := 0) (st2 := [.int (zI 0)]) rfl rfl rfl rfl ?_
                      refine Z_if_eq (tgt := 228) dX5_advance_182 (by decide) v_b17331891f (fun h63 => ?_) (fun h63 => absurd h63 (fun q => q v_2ca2bbca1f))
                      have g64 : RunT tp 48 57 ln s_8 b_159 := InT.run i159_4 (v_d464d4c634 i159_0) (v_4539af1419 h51) (fun _ => by rw [ez53]; have u := (v_809e38115e h57); omega)
                      refine J_aload_n dX5_advance_228 rfl rfl ?_
                      refine Z_bipush (n := 16) dX5_advance_229 (by decide +kernel) ?_
                      refine K_put (fs2 := [.ref 55, .int (zI ln), .int (zI 16), .int (zI s_8), .int (zI b_159), .int (zI v_159), .int (zI pa), .int (zI fl), .ref 56, .int (zI sz)]) dX5_advance_231 fw_X5_19 rfl (Nat.le_of_ble_eq_true rfl) (fun _ => ⟨rfl, rfl⟩) rfl ?_
                      refine J_goto (tgt := 263) dX5_advance_234 (by decide) ?_
                      refine J_mask (L2 := [(54, .inr (5, [.ref 55, .int (zI ln), .int (zI 16), .int (zI s_8), .int (zI b_159), .int (zI v_159), .int (zI pa), .int (zI fl), .ref 56, .int (zI sz)]))]) (ks := [54, 54]) [true, false] rfl (by decide +kernel) rfl ?_
                      exact J_vret dX5_advance_263 rfl (Nat.le_of_ble_eq_true rfl) (Nat.le_of_ble_eq_true rfl) ⟨16, s_8, b_159, v_159, rfl, rfl, v_479b56dbea, v_e969a4d572, i8_0, i159_0, i159_1, i159_2, i159_3, (Or.inr (at_lt ez4 ez53 (v_bff012c994 h46 h57) (v_d464d4c634 i159_0))), (TkX.d q7 g7 (v_fe9ea41faa h1) ez4 (v_569e948605 h46) (v_d373c32a4e h47) g64 i159_5)⟩
                    · refine J_nf (nh2 := nh) (ck2 := 0) (sk2 := 0) (st2 := [.int (zI 0)]) rfl rfl rfl rfl ?_
                      refine Z_if_eq (tgt := 228) dX5_advance_182 (by decide) v_b17331891f (fun h65 => ?_) (fun h65 => absurd h65 (fun q => q v_2ca2bbca1f))
                      have g66 : RunT tp 48 57 ln s_8 b_159 := InT.run i159_4 (v_d464d4c634 i159_0) (v_4539af1419 h51) (fun _ => by rw [ez53]; have u := (v_ba552dee01 h58); omega)
                      refine J_aload_n dX5_advance_228 rfl rfl ?_
                      refine Z_bipush (n := 16) dX5_advance_229 (by decide +kernel) ?_
                      refine K_put (fs2 := [.ref 55, .int (zI ln), .int (zI 16), .int (zI s_8), .int (zI b_159), .int (zI v_159), .int (zI pa), .int (zI fl), .ref 56, .int (zI sz)]) dX5_advance_231 fw_X5_19 rfl (Nat.le_of_ble_eq_true rfl) (fun _ => ⟨rfl, rfl⟩) rfl ?_
                      refine J_goto (tgt := 263) dX5_advance_234 (by decide) ?_
                      refine J_mask (L2 := [(54, .inr (5, [.ref 55, .int (zI ln), .int (zI 16), .int (zI s_8), .int (zI b_159), .int (zI v_159), .int (zI pa), .int (zI fl), .ref 56, .int (zI sz)]))]) (ks := [54, 54]) [true, false] rfl (by decide +kernel) rfl ?_
                      exact J_vret dX5_advance_263 rfl (Nat.le_of_ble_eq_true rfl) (Nat.le_of_ble_eq_true rfl) ⟨16, s_8, b_159, v_159, rfl, rfl, v_479b56dbea, v_e969a4d572, i8_0, i159_0, i159_1, i159_2, i159_3, (Or.inr (at_lt ez4 ez53 (v_98c147a587 h47 h58) (v_d464d4c634 i159_0))), (TkX.d q7 g7 (v_fe9ea41faa h1) ez4 (v_569e948605 h46) (v_d373c32a4e h47) g66 i159_5)⟩
              exact lp159 _ s_8 0 v_0065452639 i8_1 v_939070ca3f v_7f788d9343 (InT_0) (by rw [show (s_8 - s_8).toNat = 0 by omega]; rfl) (Nat.lt_succ_self _)
            · refine J_nf (nh2 := nh) (ck2 := 0) (sk2 := 0) (st2 := [.int (zI 0)]) rfl rfl rfl rfl ?_
              refine Z_if_eq (tgt := 237) dX5_advance_151 (by decide) v_b17331891f (fun h67 => ?_) (fun h67 => absurd h67 (fun q => q v_2ca2bbca1f))
              refine J_aload_n dX5_advance_237 rfl rfl ?_
              refine Z_bipush (n := 100) dX5_advance_238 (by decide +kernel) ?_
              refine J_aload_n dX5_advance_240 rfl rfl ?_
              refine J_get (v := .ref 55) dX5_advance_241 fl_X5_11 rfl rfl ?_
              refine J_aload_n dX5_advance_244 rfl rfl ?_
              refine J_get (v := .int (zI s_8)) dX5_advance_245 fl_X5_22 rfl rfl ?_
              refine Y_iald (z := z4) 400 dX5_advance_248 hk55 rfl (by decide) (v_21976c7318 q2 i8_0) (v_5d8e28db30 q1 h1) ez4 ?_
              refine Z_iadd (c := z4 + 100) dX5_advance_249 v_2706a00d49 ?_
              refine K_put (fs2 := [.ref 55, .int (zI ln), .int (zI (z4 + 100)), .int (zI s_8), .int (zI s_8), .int (zI va), .int (zI pa), .int (zI fl), .ref 56, .int (zI sz)]) dX5_advance_250 fw_X5_19 rfl (Nat.le_of_ble_eq_true rfl) (fun _ => ⟨rfl, rfl⟩) rfl ?_
              refine J_aload_n dX5_advance_253 rfl rfl ?_
              refine J_dup dX5_advance_254 rfl ?_
              refine J_get (v := .int (zI s_8)) dX5_advance_255 fl_X5_25 rfl rfl ?_
              refine Z_iconst (n := 1) dX5_advance_258 ?_
              refine Z_iadd (c := s_8 + 1) dX5_advance_259 rfl ?_
              refine K_put (fs2 := [.ref 55, .int (zI ln), .int (zI (z4 + 100)), .int (zI s_8), .int (zI (s_8 + 1)), .int (zI va), .int (zI pa), .int (zI fl), .ref 56, .int (zI sz)]) dX5_advance_260 fw_X5_25 rfl (Nat.le_of_ble_eq_true rfl) (fun _ => ⟨rfl, rfl⟩) rfl ?_
              refine J_mask (L2 := [(54, .inr (5, [.ref 55, .int (zI ln), .int (zI (z4 + 100)), .int (zI s_8), .int (zI (s_8 + 1)), .int (zI va), .int (zI pa), .int (zI fl), .ref 56, .int (zI sz)]))]) (ks := [54, 54, 54, 54]) [true, false, false, false] rfl (by decide +kernel) rfl ?_
              exact J_vret dX5_advance_263 rfl (Nat.le_of_ble_eq_true rfl) (Nat.le_of_ble_eq_true rfl) ⟨(z4 + 100), s_8, (s_8 + 1), va, rfl, rfl, (v_168f970488 h5.1), (v_964874f55d h48), i8_0, v_32a28518ee, (v_e390a36114 h1), q4, q5, (Or.inr v_3bdb46b03b), (TkX.s1 q7 g7 (v_fe9ea41faa h1) ez4 (by have u := (v_a2d9cbcde8 h48); omega) (by have u := (v_809e38115e h48); omega) (v_2b02420001 h5.1) v_e828b09c4d v_182e22d160)⟩
            · refine J_nf (nh2 := nh) (ck2 := 0) (sk2 := 0) (st2 := [.int (zI 0)]) rfl rfl rfl rfl ?_
              refine Z_if_eq (tgt := 237) dX5_advance_151 (by decide) v_b17331891f (fun h68 => ?_) (fun h68 => absurd h68 (fun q => q v_2ca2bbca1f))
              refine J_aload_n dX5_advance_237 rfl rfl ?_
              refine Z_bipush (n := 100) dX5_advance_238 (by decide +kernel) ?_
              refine J_aload_n dX5_advance_240 rfl rfl ?_
              refine J_get (v := .ref 55) dX5_advance_241 fl_X5_11 rfl rfl ?_
              refine J_aload_n dX5_advance_244 rfl rfl ?_
              refine J_get (v := .int (zI s_8)) dX5_advance_245 fl_X5_22 rfl rfl ?_
              refine Y_iald (z := z4) 400 dX5_advance_248 hk55 rfl (by decide) (v_21976c7318 q2 i8_0) (v_5d8e28db30 q1 h1) ez4 ?_
              refine Z_iadd (c := z4 + 100) dX5_advance_249 v_2706a00d49 ?_
              refine K_put (fs2 := [.ref 55, .int (zI ln), .int (zI (z4 + 100)), .int (zI s_8), .int (zI s_8), .int (zI va), .int (zI pa), .int (zI fl), .ref 56, .int (zI sz)]) dX5_advance_250 fw_X5_19 rfl (Nat.le_of_ble_eq_true rfl) (fun _ => ⟨rfl, rfl⟩) rfl ?_
              refine J_aload_n dX5_advance_253 rfl rfl ?_
              refine J_dup dX5_advance_254 rfl ?_
              refine J_get (v := .int (zI s_8)) dX5_advance_255 fl_X5_25 rfl rfl ?_
              refine Z_iconst (n := 1) dX5_advance_258 ?_
              refine Z_iadd (c := s_8 + 1) dX5_advance_259 rfl ?_
              refine K_put (fs2 := [.ref 55, .int (zI ln), .int (zI (z4 + 100)), .int (zI s_8), .int (zI (s_8 + 1)), .int (zI va), .int (zI pa), .int (zI fl), .ref 56, .int (zI sz)]) dX5_advance_260 fw_X5_25 rfl (Nat.le_of_ble_eq_true rfl) (fun _ => ⟨rfl, rfl⟩) rfl ?_
              refine J_mask (L2 := [(54, .inr (5, [.ref 55, .int (zI ln), .int (zI (z4 + 100)), .int (zI s_8), .int (zI (s_8 + 1)), .int (zI va), .int (zI pa), .int (zI fl), .ref 56, .int (zI sz)]))]) (ks := [54, 54, 54, 54]) [true, false, false, false] rfl (by decide +kernel) rfl ?_
              exact J_vret dX5_advance_263 rfl (Nat.le_of_ble_eq_true rfl) (Nat.le_of_ble_eq_true rfl) ⟨(z4 + 100), s_8, (s_8 + 1), va, rfl, rfl, (v_3e3d35cd3f h49), (v_d205086e28 h11), i8_0, v_32a28518ee, (v_e390a36114 h1), q4, q5, (Or.inr v_3bdb46b03b), (TkX.s1 q7 g7 (v_fe9ea41faa h1) ez4 (by have u := (v_3455bb6af9 h11); omega) (by have u := (v_ba552dee01 h49); omega) (v_7ba52db5aa h49) v_e828b09c4d v_182e22d160)⟩
          · refine J_nf (nh2 := nh) (ck2 := 0) (sk2 := 0) (st2 := [.int (zI 0)]) rfl rfl rfl rfl ?_
            refine Z_if_eq (tgt := 139) dX5_advance_86 (by decide) v_b17331891f (fun h69 => ?_) (fun h69 => absurd h69 (fun q => q v_2ca2bbca1f))
            refine J_aload_n dX5_advance_139 rfl rfl ?_
            refine J_get (v := .ref 55) dX5_advance_140 fl_X5_11 rfl rfl ?_
            refine J_aload_n dX5_advance_143 rfl rfl ?_
            refine J_get (v := .int (zI s_8)) dX5_advance_144 fl_X5_22 rfl rfl ?_
            refine Y_iald (z := z4) 400 dX5_advance_147 hk55 rfl (by decide) (v_21976c7318 q2 i8_0) (v_5d8e28db30 q1 h1) ez4 ?_
            refine J_callS (st := []) dX5_advance_148 cs_X5_105 (d_isDigit z4 (v_eab840f878 h5.2 h12)) rfl rfl (Nat.le_of_ble_eq_true rfl) ⟨(Nat.le_of_ble_eq_true rfl), (Nat.le_of_ble_eq_true rfl)⟩ ⟨(Nat.le_of_ble_eq_true rfl), (Nat.le_of_ble_eq_true rfl)⟩ (fun r h9 hp => ?_)
            rcases hp with ⟨rfl, rfl, h70, h71⟩ | ⟨rfl, rfl, h72⟩ | ⟨rfl, rfl, h73⟩
            · exact False.elim (v_d55b1f7223 h12 h71)
            · exact False.elim (v_09cbf12418 h12 h72)
            · refine J_nf (nh2 := nh) (ck2 := 0) (sk2 := 0) (st2 := [.int (zI 0)]) rfl rfl rfl rfl ?_
              refine Z_if_eq (tgt := 237) dX5_advance_151 (by decide) v_b17331891f (fun h74 => ?_) (fun h74 => absurd h74 (fun q => q v_2ca2bbca1f))
              refine J_aload_n dX5_advance_237 rfl rfl ?_
              refine Z_bipush (n := 100) dX5_advance_238 (by decide +kernel) ?_
              refine J_aload_n dX5_advance_240 rfl rfl ?_
              refine J_get (v := .ref 55) dX5_advance_241 fl_X5_11 rfl rfl ?_
              refine J_aload_n dX5_advance_244 rfl rfl ?_
              refine J_get (v := .int (zI s_8)) dX5_advance_245 fl_X5_22 rfl rfl ?_
              refine Y_iald (z := z4) 400 dX5_advance_248 hk55 rfl (by decide) (v_21976c7318 q2 i8_0) (v_5d8e28db30 q1 h1) ez4 ?_
              refine Z_iadd (c := z4 + 100) dX5_advance_249 v_2706a00d49 ?_
              refine K_put (fs2 := [.ref 55, .int (zI ln), .int (zI (z4 + 100)), .int (zI s_8), .int (zI s_8), .int (zI va), .int (zI pa), .int (zI fl), .ref 56, .int (zI sz)]) dX5_advance_250 fw_X5_19 rfl (Nat.le_of_ble_eq_true rfl) (fun _ => ⟨rfl, rfl⟩) rfl ?_
              refine J_aload_n dX5_advance_253 rfl rfl ?_
              refine J_dup dX5_advance_254 rfl ?_
              refine J_get (v := .int (zI s_8)) dX5_advance_255 fl_X5_25 rfl rfl ?_
              refine Z_iconst (n := 1) dX5_advance_258 ?_
              refine Z_iadd (c := s_8 + 1) dX5_advance_259 rfl ?_
              refine K_put (fs2 := [.ref 55, .int (zI ln), .int (zI (z4 + 100)), .int (zI s_8), .int (zI (s_8 + 1)), .int (zI va), .int (zI pa), .int (zI fl), .ref 56, .int (zI sz)]) dX5_advance_260 fw_X5_25 rfl (Nat.le_of_ble_eq_true rfl) (fun _ => ⟨rfl, rfl⟩) rfl ?_
              refine J_mask (L2 := [(54, .inr (5, [.ref 55, .int (zI ln), .int (zI (z4 + 100)), .int (zI s_8), .int (zI (s_8 + 1)), .int (zI va), .int (zI pa), .int (zI fl), .ref 56, .int (zI sz)]))]) (ks := [54, 54, 54, 54]) [true, false, false, false] rfl (by decide +kernel) rfl ?_
              exact J_vret dX5_advance_263 rfl (Nat.le_of_ble_eq_true rfl) (Nat.le_of_ble_eq_true rfl) ⟨(z4 + 100), s_8, (s_8 + 1), va, rfl, rfl, (v_d48ed1b1ad h12), (v_dc622ca575 h5.2), i8_0, v_32a28518ee, (v_e390a36114 h1), q4, q5, (Or.inr v_3bdb46b03b), (TkX.s1 q7 g7 (v_fe9ea41faa h1) ez4 (by have u := (v_f1b1fe6ea3 h12); omega) (by have u := (v_776c3dc436 h12); omega) (v_14e13f75e2 h12) v_e828b09c4d v_182e22d160)⟩
        · refine J_aload_n dX5_advance_33 rfl rfl ?_
          refine J_dup dX5_advance_34 rfl ?_
          refine J_get (v := .int (zI s_8)) dX5_advance_35 fl_X5_22 rfl rfl ?_
          refine Z_iconst (n := 1) dX5_advance_38 ?_
          refine Z_iadd (c := s_8 + 1) dX5_advance_39 rfl ?_
          refine K_put (fs2 := [.ref 55, .int (zI ln), .int (zI tk), .int (zI (s_8 + 1)), .int (zI bh), .int (zI va), .int (zI pa), .int (zI fl), .ref 56, .int (zI sz)]) dX5_advance_40 fw_X5_22 rfl (Nat.le_of_ble_eq_true rfl) (fun _ => ⟨rfl, rfl⟩) rfl ?_
          refine J_goto (tgt := 8) dX5_advance_43 (by decide) ?_
          refine J_mask (L2 := [(54, .inr (5, [.ref 55, .int (zI ln), .int (zI tk), .int (zI (s_8 + 1)), .int (zI bh), .int (zI va), .int (zI pa), .int (zI fl), .ref 56, .int (zI sz)]))]) (ks := [54, 54]) [true, false] rfl (by decide +kernel) rfl ?_
          exact ih8 (s_8 + 1) (v_d50281bace i8_0) (v_e390a36114 h1) (BlT.step i8_2 ez4 (v_d62940cce3 h6)) (meas_lt v_90eacd6fd4 (v_8b7dd7d486 h1) hm8)
  exact lp8 _ bh v_0065452639 q3 (BlT_0) (Nat.lt_succ_self _)
set_option maxHeartbeats 4000000 in
set_option maxRecDepth 100000 in
theorem d_bracketedSum8 {l : Launch} {G : jG} {nh : Nat} {fh : Nat → Option va_E} (ln : Int) (tk : Int) (st : Int) (bh : Int) (va : Int) (pa : Int) (fl : Int) (sz : Int) (tp : Int → Int) (cd : Int → Int) (ti : Int) (q0 : 0 ≤ ln) (q1 : ln ≤ 400) (q2 : 0 ≤ tk) (q3 : tk ≤ 355) (q4 : 0 ≤ st) (q5 : st ≤ bh) (q6 : bh ≤ ln) (q7 : 0 ≤ va) (q8 : va ≤ 1001) (q9 : 0 ≤ pa) (q10 : pa ≤ 50) (q11 : zr fl) (q12 : 0 ≤ sz) (q13 : sz ≤ 412) (q14 : TokL tk st bh) (q15 : Rg tp 400 0 255) (q16 : Rg cd 412 (-2147483648) 2147483647) (q17 : TkX tp ln ti tk st bh va) (q18 : 0 ≤ ti) (q19 : sz ≤ st + 1) (hk54 : fh 54 = some (.inr (5, [.ref 55, .int (zI ln), .int (zI tk), .int (zI st), .int (zI bh), .int (zI va), .int (zI pa), .int (zI fl), .ref 56, .int (zI sz)]))) (hk55 : fh 55 = some (.inl (0, 400, .inl (zA tp)))) (hk56 : fh 56 = some (.inl (0, 412, .inl (zA cd)))) : JM l G yX5_bracketedSum MX5_bracketedSum { frames := 1, cells := 0, slots := 0, locals := 20 } [.ref 54, .int (zI 8)] (nh, fh) (fun rr h9 => (∃ tk2 : Int, ∃ st2 : Int, ∃ bh2 : Int, ∃ va2 : Int, ∃ pa2 : Int, ∃ sz2 : Int, ∃ cd2 : Int → Int, ∃ ti2 : Int, rr = some (.int (zI 1)) ∧ h9 = (nh, hc fh [(54, .inr (5, [.ref 55, .int (zI ln), .int (zI tk2), .int (zI st2), .int (zI bh2), .int (zI va2), .int (zI pa2), .int (zI fl), .ref 56, .int (zI sz2)])), (56, .inl (0, 412, .inl (zA cd2)))]) ∧ (0 ≤ tk2) ∧ (tk2 ≤ 355) ∧ (0 ≤ st2) ∧ (st2 ≤ bh2) ∧ (bh2 ≤ ln) ∧ (0 ≤ va2) ∧ (va2 ≤ 1001) ∧ (0 ≤ pa2) ∧ (pa2 ≤ 50) ∧ (0 ≤ sz2) ∧ (sz2 ≤ 412) ∧ (TokL tk2 st2 bh2) ∧ (Rg cd2 412 (-2147483648) 2147483647) ∧ (sz2 + st ≤ sz + st2) ∧ (st ≤ st2) ∧ (TkX tp ln ti2 tk2 st2 bh2 va2) ∧ (0 ≤ ti2) ∧ (BsR (CTk tp ln) (LF tp ln) 0 ti pa 1 ti2 pa2) ∧ (pa ≤ pa2) ∧ (SgS (BsD (CTk tp ln) (VT tp ln) 0) cd cd2 ti ti2 sz sz2 pa pa2)) ∨ (∃ tk2 : Int, ∃ st2 : Int, ∃ bh2 : Int, ∃ va2 : Int, ∃ pa2 : Int, ∃ sz2 : Int, ∃ cd2 : Int → Int, ∃ fl2 : Int, ∃ ti2 : Int, rr = some (.int (zI 0)) ∧ h9 = (nh, hc fh [(54, .inr (5, [.ref 55, .int (zI ln), .int (zI tk2), .int (zI st2), .int (zI bh2), .int (zI va2), .int (zI pa2), .int (zI fl2), .ref 56, .int (zI sz2)])), (56, .inl (0, 412, .inl (zA cd2)))]) ∧ (0 ≤ tk2) ∧ (tk2 ≤ 355) ∧ (0 ≤ st2) ∧ (st2 ≤ bh2) ∧ (bh2 ≤ ln) ∧ (0 ≤ va2) ∧ (va2 ≤ 1001) ∧ (0 ≤ pa2) ∧ (pa2 ≤ 50) ∧ (0 ≤ sz2) ∧ (sz2 ≤ 412) ∧ (TokL tk2 st2 bh2) ∧ (Rg cd2 412 (-2147483648) 2147483647) ∧ (0 ≤ fl2) ∧ (fl2 ≤ 400) ∧ (FlX tp ln ti2 fl2) ∧ (BsR (CTk tp ln) (LF tp ln) 0 ti pa 0 ti2 0))) := by
  refine JM.of (by decide) rfl (fun h => by cases h) (Nat.le_of_ble_eq_true rfl) ⟨0, rfl⟩ ?_
  refine J_hc0 (J_ls (ls2 := [some (.ref 54), some (.int (zI 8))]) rfl ?_)
  refine J_iload_n dX5_bracketedSum_0 rfl rfl ?_
  refine Z_bipush (n := 8) dX5_bracketedSum_1 (by decide +kernel) ?_
  refine Z_icmp_lt (tgt := 11) dX5_bracketedSum_3 (by decide) v_665891e294 v_665891e294 (fun h1 => absurd h1 v_0041fc7102) (fun h1 => ?_)
  refine J_aload_n dX5_bracketedSum_6 rfl rfl ?_
  refine J_callV (st := []) dX5_bracketedSum_7 cv_X5_54 (d_wrong ln tk st bh va pa fl sz q4 (v_1adcfdfee5 q1 q5 q6) hk54) hk54 rfl rfl (Nat.le_of_ble_eq_true rfl) ⟨(Nat.le_of_ble_eq_true rfl), (Nat.le_of_ble_eq_true rfl)⟩ ⟨(Nat.le_of_ble_eq_true rfl), (Nat.le_of_ble_eq_true rfl)⟩ (fun r h9 hp => ?_)
  obtain ⟨rfl, rfl⟩ := hp
  refine J_nf (nh2 := nh) (ck2 := 0) (sk2 := 0) (st2 := [.int (zI 0)]) rfl rfl rfl rfl ?_
  refine J_app (L3 := [(54, .inr (5, [.ref 55, .int (zI ln), .int (zI tk), .int (zI st), .int (zI bh), .int (zI va), .int (zI pa), .int (zI st), .ref 56, .int (zI sz)]))]) rfl ?_
  refine J_touch (k := 56) (e := .inl (0, 412, .inl (zA cd))) hk56 ?_
  refine J_touch (k := 54) (e := .inr (5, [.ref 55, .int (zI ln), .int (zI tk), .int (zI st), .int (zI bh), .int (zI va), .int (zI pa), .int (zI st), .ref 56, .int (zI sz)])) rfl ?_
  refine J_mask (L2 := [(54, .inr (5, [.ref 55, .int (zI ln), .int (zI tk), .int (zI st), .int (zI bh), .int (zI va), .int (zI pa), .int (zI st), .ref 56, .int (zI sz)])), (56, .inl (0, 412, .inl (zA cd)))]) (ks := [54, 56, 54]) [true, true, false] rfl (by decide +kernel) rfl ?_
  exact J_iret dX5_bracketedSum_10 rfl (jbn v_939070ca3f v_316afd7d0b) (Nat.le_of_ble_eq_true rfl) (Nat.le_of_ble_eq_true rfl) (Or.inr ⟨tk, st, bh, va, pa, sz, cd, st, ti, rfl, rfl, q2, q3, q4, q5, q6, q7, q8, q9, q10, q12, q13, q14, q16, q4, (v_1adcfdfee5 q1 q5 q6), ((TkX.s q17)), (BrR.n)⟩)
set_option maxHeartbeats 4000000 in
set_option maxRecDepth 100000 in
theorem d_part8 {l : Launch} {G : jG} {nh : Nat} {fh : Nat → Option va_E} (ln : Int) (tk : Int) (st : Int) (bh : Int) (va : Int) (pa : Int) (fl : Int) (sz : Int) (tp : Int → Int) (cd : Int → Int) (ti : Int) (q0 : 0 ≤ ln) (q1 : ln ≤ 400) (q2 : 0 ≤ tk) (q3 : tk ≤ 355) (q4 : 0 ≤ st) (q5 : st ≤ bh) (q6 : bh ≤ ln) (q7 : 0 ≤ va) (q8 : va ≤ 1001) (q9 : 0 ≤ pa) (q10 : pa ≤ 50) (q11 : zr fl) (q12 : 0 ≤ sz) (q13 : sz ≤ 412) (q14 : TokL tk st bh) (q15 : Rg tp 400 0 255) (q16 : Rg cd 412 (-2147483648) 2147483647) (q17 : TkX tp ln ti tk st bh va) (q18 : 0 ≤ ti) (q19 : sz ≤ st + 1) (hk54 : fh 54 = some (.inr (5, [.ref 55, .int (zI ln), .int (zI tk), .int (zI st), .int (zI bh), .int (zI va), .int (zI pa), .int (zI fl), .ref 56, .int (zI sz)]))) (hk55 : fh 55 = some (.inl (0, 400, .inl (zA tp)))) (hk56 : fh 56 = some (.inl (0, 412, .inl (zA cd)))) : JM l G yX5_part MX5_part { frames := 6, cells := 0, slots := 0, locals := 130 } [.ref 54, .int (zI 8)] (nh, fh) (fun rr h9 => (∃ tk2 : Int, ∃ st2 : Int, ∃ bh2 : Int, ∃ va2 : Int, ∃ pa2 : Int, ∃ sz2 : Int, ∃ cd2 : Int → Int, ∃ ti2 : Int, rr = some (.int (zI 1)) ∧ h9 = (nh, hc fh [(54, .inr (5, [.ref 55, .int (zI ln), .int (zI tk2), .int (zI st2), .int (zI bh2), .int (zI va2), .int (zI pa2), .int (zI fl), .ref 56, .int (zI sz2)])), (56, .inl (0, 412, .inl (zA cd2)))]) ∧ (0 ≤ tk2) ∧ (tk2 ≤ 355) ∧ (0 ≤ st2) ∧ (st2 ≤ bh2) ∧ (bh2 ≤ ln) ∧ (0 ≤ va2) ∧ (va2 ≤ 1001) ∧ (0 ≤ pa2) ∧ (pa2 ≤ 50) ∧ (0 ≤ sz2) ∧ (sz2 ≤ 412) ∧ (TokL tk2 st2 bh2) ∧ (Rg cd2 412 (-2147483648) 2147483647) ∧ (sz2 + st ≤ sz + st2) ∧ (st ≤ st2) ∧ (TkX tp ln ti2 tk2 st2 bh2 va2) ∧ (0 ≤ ti2) ∧ (PtR (CTk tp ln) (LF tp ln) 0 ti pa 1 ti2 pa2) ∧ (pa ≤ pa2) ∧ (SgS (PtD (CTk tp ln) (VT tp ln) 0) cd cd2 ti ti2 sz sz2 pa pa2)) ∨ (∃ tk2 : Int, ∃ st2 : Int, ∃ bh2 : Int, ∃ va2 : Int, ∃ pa2 : Int, ∃ sz2 : Int, ∃ cd2 : Int → Int, ∃ fl2 : Int, ∃ ti2 : Int, rr = some (.int (zI 0)) ∧ h9 = (nh, hc fh [(54, .inr (5, [.ref 55, .int (zI ln), .int (zI tk2), .int (zI st2), .int (zI bh2), .int (zI va2), .int (zI pa2), .int (zI fl2), .ref 56, .int (zI sz2)])), (56, .inl (0, 412, .inl (zA cd2)))]) ∧ (0 ≤ tk2) ∧ (tk2 ≤ 355) ∧ (0 ≤ st2) ∧ (st2 ≤ bh2) ∧ (bh2 ≤ ln) ∧ (0 ≤ va2) ∧ (va2 ≤ 1001) ∧ (0 ≤ pa2) ∧ (pa2 ≤ 50) ∧ (0 ≤ sz2) ∧ (sz2 ≤ 412) ∧ (TokL tk2 st2 bh2) ∧ (Rg cd2 412 (-2147483648) 2147483647) ∧ (0 ≤ fl2) ∧ (fl2 ≤ 400) ∧ (FlX tp ln ti2 fl2) ∧ (PtR (CTk tp ln) (LF tp ln) 0 ti pa 0 ti2 0))) := by
  refine JM.of (by decide) rfl (fun h => by cases h) (Nat.le_of_ble_eq_true rfl) ⟨2, rfl⟩ ?_
  refine J_hc0 (J_ls (ls2 := [some (.ref 54), some (.int (zI 8)), none, none]) rfl ?_)
  refine J_aload_n dX5_part_0 rfl rfl ?_
  refine Z_bipush (n := 91) dX5_part_1 (by decide +kernel) ?_
  refine J_callV (st := []) dX5_part_3 cv_X5_50 (d_isSign 91 ln tk st bh va pa fl sz v_df2cb83190 v_d563f19a9d q2 q3 hk54) hk54 rfl rfl (Nat.le_of_ble_eq_true rfl) ⟨(Nat.le_of_ble_eq_true rfl), (Nat.le_of_ble_eq_true rfl)⟩ ⟨(Nat.le_of_ble_eq_true rfl), (Nat.le_of_ble_eq_true rfl)⟩ (fun r h9 hp => ?_)
  rcases hp with ⟨rfl, rfl, h1⟩ | ⟨rfl, rfl, h2⟩
  · refine J_nf (nh2 := nh) (ck2 := 0) (sk2 := 0) (st2 := [.int (zI 1)]) rfl rfl rfl rfl ?_
    refine Z_if_eq (tgt := 15) dX5_part_6 (by decide) v_4dcc24baa7 (fun h3 => absurd h3 v_3a47bfd896) (fun h3 => ?_)
    refine J_aload_n dX5_part_9 rfl rfl ?_
    refine J_iload_n dX5_part_10 rfl rfl ?_
    refine J_callV (st := []) dX5_part_11 cv_X5_95 (d_bracketedSum8 ln tk st bh va pa fl sz tp cd ti q0 q1 q2 q3 q4 q5 q6 q7 q8 q9 q10 q11 q12 q13 q14 q15 q16 q17 q18 q19 hk54 hk55 hk56) hk54 rfl rfl (Nat.le_of_ble_eq_true rfl) ⟨(Nat.le_of_ble_eq_true rfl), (Nat.le_of_ble_eq_true rfl)⟩ ⟨(Nat.le_of_ble_eq_true rfl), (Nat.le_of_ble_eq_true rfl)⟩ (fun r h9 hp => ?_)
    rcases hp with ⟨z4, z5, z6, z7, z8, z9, f10, z11, rfl, rfl, h12, h13, h14, h15, h16, h17, h18, h19, h20, h21, h22, h23, h24, h25, h26, h27, h28, h29, h30, h31⟩ | ⟨z32, z33, z34, z35, z36, z37, f38, z39, z40, rfl, rfl, h41, h42, h43, h44, h45, h46, h47, h48, h49, h50, h51, h52, h53, h54, h55, h56, h57⟩
    · refine J_nf (nh2 := nh) (ck2 := 0) (sk2 := 0) (st2 := [.int (zI 1)]) rfl rfl rfl rfl ?_
      refine J_app (L3 := [(54, .inr (5, [.ref 55, .int (zI ln), .int (zI z4), .int (zI z5), .int (zI z6), .int (zI z7), .int (zI z8), .int (zI fl), .ref 56, .int (zI z9)])), (56, .inl (0, 412, .inl (zA f10)))]) rfl ?_
      exact J_iret dX5_part_14 rfl (jbn v_316afd7d0b v_bbcfac9b7d) (Nat.le_of_ble_eq_true rfl) (Nat.le_of_ble_eq_true rfl) (Or.inl ⟨z4, z5, z6, z7, z8, z9, f10, z11, rfl, rfl, h12, h13, h14, h15, h16, h17, h18, h19, h20, h21, h22, h23, h24, h25, h26, h27, h28, (PaR.br ((TkX.sg q17 (v := 191) (by decide)).mpr (v_eae1bbf095 h1)) h29), h30, (SgS.pbr ((TkX.sg q17 (v := 191) (by decide)).mpr (v_eae1bbf095 h1)) h31)⟩)
    · refine J_nf (nh2 := nh) (ck2 := 0) (sk2 := 0) (st2 := [.int (zI 0)]) rfl rfl rfl rfl ?_
      refine J_app (L3 := [(54, .inr (5, [.ref 55, .int (zI ln), .int (zI z32), .int (zI z33), .int (zI z34), .int (zI z35), .int (zI z36), .int (zI z39), .ref 56, .int (zI z37)])), (56, .inl (0, 412, .inl (zA f38)))]) rfl ?_
      exact J_iret dX5_part_14 rfl (jbn v_939070ca3f v_316afd7d0b) (Nat.le_of_ble_eq_true rfl) (Nat.le_of_ble_eq_true rfl) (Or.inr ⟨z32, z33, z34, z35, z36, z37, f38, z39, z40, rfl, rfl, h41, h42, h43, h44, h45, h46, h47, h48, h49, h50, h51, h52, h53, h54, h55, (h56), (PaR.br ((TkX.sg q17 (v := 191) (by decide)).mpr (v_eae1bbf095 h1)) h57)⟩)
  · refine J_nf (nh2 := nh) (ck2 := 0) (sk2 := 0) (st2 := [.int (zI 0)]) rfl rfl rfl rfl ?_
    refine Z_if_eq (tgt := 15) dX5_part_6 (by decide) v_b17331891f (fun h58 => ?_) (fun h58 => absurd h58 (fun q => q v_2ca2bbca1f))
    refine J_aload_n dX5_part_15 rfl rfl ?_
    refine J_get (v := .int (zI tk)) dX5_part_16 fl_X5_19 hk54 rfl ?_
    refine Z_bipush (n := 16) dX5_part_19 (by decide +kernel) ?_
    refine Z_icmp_ne (tgt := 38) dX5_part_21 (by decide) (v_96bf6f782e q2 q3) v_1b6115d470 (fun h59 => ?_) (fun h59 => ?_)
    · refine Z_iconst (n := 0) dX5_part_38 ?_
      refine J_istore_n dX5_part_39 rfl (Nat.le_of_ble_eq_true rfl) rfl ?_
      refine J_ls (ls2 := [some (.ref 54), some (.int (zI 8)), some (.int (zI 0)), none]) rfl ?_
      refine J_aload_n dX5_part_40 rfl rfl ?_
      refine J_get (v := .int (zI tk)) dX5_part_41 fl_X5_19 hk54 rfl ?_
      refine Z_bipush (n := 7) dX5_part_44 (by decide +kernel) ?_
      refine Z_icmp_lt (tgt := 62) dX5_part_46 (by decide) (v_96bf6f782e q2 q3) v_c3fe1a091f (fun h60 => ?_) (fun h60 => ?_)
      · refine Z_iconst (n := 0) dX5_part_62 ?_
        refine J_istore_n dX5_part_63 rfl (Nat.le_of_ble_eq_true rfl) rfl ?_
        refine J_ls (ls2 := [some (.ref 54), some (.int (zI 8)), some (.int (zI 0)), some (.int (zI 0))]) rfl ?_
        refine J_iload_n dX5_part_64 rfl rfl ?_
        refine Z_if_ne (tgt := 72) dX5_part_65 (by decide) v_b17331891f (fun h61 => absurd h61 (fun q => q v_2ca2bbca1f)) (fun h61 => ?_)
        refine J_iload_n dX5_part_68 rfl rfl ?_
        refine Z_if_eq (tgt := 81) dX5_part_69 (by decide) v_b17331891f (fun h62 => ?_) (fun h62 => absurd h62 (fun q => q v_2ca2bbca1f))
        refine J_aload_n dX5_part_81 rfl rfl ?_
        refine J_callV (st := []) dX5_part_82 cv_X5_54 (d_wrong ln tk st bh va pa fl sz q4 (v_1adcfdfee5 q1 q5 q6) hk54) hk54 rfl rfl (Nat.le_of_ble_eq_true rfl) ⟨(Nat.le_of_ble_eq_true rfl), (Nat.le_of_ble_eq_true rfl)⟩ ⟨(Nat.le_of_ble_eq_true rfl), (Nat.le_of_ble_eq_true rfl)⟩ (fun r h9 hp => ?_)
        obtain ⟨rfl, rfl⟩ := hp
        refine J_nf (nh2 := nh) (ck2 := 0) (sk2 := 0) (st2 := [.int (zI 0)]) rfl rfl rfl rfl ?_
        refine J_app (L3 := [(54, .inr (5, [.ref 55, .int (zI ln), .int (zI tk), .int (zI st), .int (zI bh), .int (zI va), .int (zI pa), .int (zI st), .ref 56, .int (zI sz)]))]) rfl ?_
        refine J_touch (k := 56) (e := .inl (0, 412, .inl (zA cd))) hk56 ?_
        refine J_touch (k := 54) (e := .inr (5, [.ref 55, .int (zI ln), .int (zI tk), .int (zI st), .int (zI bh), .int (zI va), .int (zI pa), .int (zI st), .ref 56, .int (zI sz)])) rfl ?_
        refine J_mask (L2 := [(54, .inr (5, [.ref 55, .int (zI ln), .int (zI tk), .int (zI st), .int (zI bh), .int (zI va), .int (zI pa), .int (zI st), .ref 56, .int (zI sz)])), (56, .inl (0, 412, .inl (zA cd)))]) (ks := [54, 56, 54]) [true, true, false] rfl (by decide +kernel) rfl ?_
        exact J_iret dX5_part_85 rfl (jbn v_939070ca3f v_316afd7d0b) (Nat.le_of_ble_eq_true rfl) (Nat.le_of_ble_eq_true rfl) (Or.inr ⟨tk, st, bh, va, pa, sz, cd, st, ti, rfl, rfl, q2, q3, q4, q5, q6, q7, q8, q9, q10, q12, q13, q14, q16, q4, (v_1adcfdfee5 q1 q5 q6), ((TkX.s q17)), (PaR.w (fun w => absurd ((TkX.sg q17 (v := 191) (by decide)).mp w) (v_2e180fcab9 h60)) (fun w => by have u := (TkX.lf q17).mp w.1; have u0 := h2; have u1 := h59; have u2 := h60; omega))⟩)
      · refine J_aload_n dX5_part_49 rfl rfl ?_
        refine J_get (v := .int (zI tk)) dX5_part_50 fl_X5_19 hk54 rfl ?_
        refine Z_bipush (n := 14) dX5_part_53 (by decide +kernel) ?_
        refine Z_icmp_gt (tgt := 62) dX5_part_55 (by decide) (v_e33259c014 q3 h60) v_2a4719925a (fun h63 => ?_) (fun h63 => ?_)
        · refine Z_iconst (n := 0) dX5_part_62 ?_
          refine J_istore_n dX5_part_63 rfl (Nat.le_of_ble_eq_true rfl) rfl ?_
          refine J_ls (ls2 := [some (.ref 54), some (.int (zI 8)), some (.int (zI 0)), some (.int (zI 0))]) rfl ?_
          refine J_iload_n dX5_part_64 rfl rfl ?_
          refine Z_if_ne (tgt := 72) dX5_part_65 (by decide) v_b17331891f (fun h64 => absurd h64 (fun q => q v_2ca2bbca1f)) (fun h64 => ?_)
          refine J_iload_n dX5_part_68 rfl rfl ?_
          refine Z_if_eq (tgt := 81) dX5_part_69 (by decide) v_b17331891f (fun h65 => ?_) (fun h65 => absurd h65 (fun q => q v_2ca2bbca1f))
          refine J_aload_n dX5_part_81 rfl rfl ?_
          refine J_callV (st := []) dX5_part_82 cv_X5_54 (d_wrong ln tk st bh va pa fl sz q4 (v_1adcfdfee5 q1 q5 q6) hk54) hk54 rfl rfl (Nat.le_of_ble_eq_true rfl) ⟨(Nat.le_of_ble_eq_true rfl), (Nat.le_of_ble_eq_true rfl)⟩ ⟨(Nat.le_of_ble_eq_true rfl), (Nat.le_of_ble_eq_true rfl)⟩ (fun r h9 hp => ?_)
          obtain ⟨rfl, rfl⟩ := hp
          refine J_nf (nh2 := nh) (ck2 := 0) (sk2 := 0) (st2 := [.int (zI 0)]) rfl rfl rfl rfl ?_
          refine J_app (L3 := [(54, .inr (5, [.ref 55, .int (zI ln), .int (zI tk), .int (zI st), .int (zI bh), .int (zI va), .int (zI pa), .int (zI st), .ref 56, .int (zI sz)]))]) rfl ?_
          refine J_touch (k := 56) (e := .inl (0, 412, .inl (zA cd))) hk56 ?_
          refine J_touch (k := 54) (e := .inr (5, [.ref 55, .int (zI ln), .int (zI tk), .int (zI st), .int (zI bh), .int (zI va), .int (zI pa), .int (zI st), .ref 56, .int (zI sz)])) rfl ?_
          refine J_mask (L2 := [(54, .inr (5, [.ref 55, .int (zI ln), .int (zI tk), .int (zI st), .int (zI bh), .int (zI va), .int (zI pa), .int (zI st), .ref 56, .int (zI sz)])), (56, .inl (0, 412, .inl (zA cd)))]) (ks := [54, 56, 54]) [true, true, false] rfl (by decide +kernel) rfl ?_
          exact J_iret dX5_part_85 rfl (jbn v_939070ca3f v_316afd7d0b) (Nat.le_of_ble_eq_true rfl) (Nat.le_of_ble_eq_true rfl) (Or.inr ⟨tk, st, bh, va, pa, sz, cd, st, ti, rfl, rfl, q2, q3, q4, q5, q6, q7, q8, q9, q10, q12, q13, q14, q16, q4, (v_1adcfdfee5 q1 q5 q6), ((TkX.s q17)), (PaR.w (fun w => absurd ((TkX.sg q17 (v := 191) (by decide)).mp w) (v_9327ef7f5d h2)) (fun w => by have u := (TkX.lf q17).mp w.1; have u0 := h2; have u1 := h59; have u2 := h60; have u3 := h63; omega))⟩)
        · refine Z_iconst (n := 1) dX5_part_58 ?_
          refine J_goto (tgt := 63) dX5_part_59 (by decide) ?_
          refine J_istore_n dX5_part_63 rfl (Nat.le_of_ble_eq_true rfl) rfl ?_
          refine J_ls (ls2 := [some (.ref 54), some (.int (zI 8)), some (.int (zI 0)), some (.int (zI 1))]) rfl ?_
          refine J_iload_n dX5_part_64 rfl rfl ?_
          refine Z_if_ne (tgt := 72) dX5_part_65 (by decide) v_b17331891f (fun h66 => absurd h66 (fun q => q v_2ca2bbca1f)) (fun h66 => ?_)
          refine J_iload_n dX5_part_68 rfl rfl ?_
          refine Z_if_eq (tgt := 81) dX5_part_69 (by decide) v_4dcc24baa7 (fun h67 => absurd h67 v_3a47bfd896) (fun h67 => ?_)
          refine J_aload_n dX5_part_72 rfl rfl ?_
          refine J_get (v := .int (zI pa)) dX5_part_73 fl_X5_31 hk54 rfl ?_
          refine Z_bipush (n := 50) dX5_part_76 (by decide +kernel) ?_
          refine Z_icmp_lt (tgt := 86) dX5_part_78 (by decide) (v_196348439e q9 q10) v_e1e0ea2c24 (fun h68 => ?_) (fun h68 => ?_)
          · refine J_aload_n dX5_part_86 rfl rfl ?_
            refine J_dup dX5_part_87 rfl ?_
            refine J_get (v := .int (zI pa)) dX5_part_88 fl_X5_31 hk54 rfl ?_
            refine Z_iconst (n := 1) dX5_part_91 ?_
            refine Z_iadd (c := pa + 1) dX5_part_92 rfl ?_
            refine K_put (fs2 := [.ref 55, .int (zI ln), .int (zI tk), .int (zI st), .int (zI bh), .int (zI va), .int (zI (pa + 1)), .int (zI fl), .ref 56, .int (zI sz)]) dX5_part_93 fw_X5_31 hk54 (Nat.le_of_ble_eq_true rfl) (fun _ => ⟨rfl, rfl⟩) rfl ?_
            refine J_iload_n dX5_part_96 rfl rfl ?_
            refine Z_if_eq (tgt := 113) dX5_part_97 (by decide) v_b17331891f (fun h69 => ?_) (fun h69 => absurd h69 (fun q => q v_2ca2bbca1f))
            refine J_aload_n dX5_part_113 rfl rfl ?_
            refine Z_iconst (n := 1) dX5_part_114 ?_
            refine J_aload_n dX5_part_115 rfl rfl ?_
            refine J_get (v := .int (zI tk)) dX5_part_116 fl_X5_19 rfl rfl ?_
            refine Z_bipush (n := 7) dX5_part_119 (by decide +kernel) ?_
            refine Z_isub (c := tk - 7) dX5_part_121 rfl ?_
            refine J_callV (st := []) dX5_part_122 cv_X5_72 (d_emit 1 (tk - 7) ln tk st bh va (pa + 1) fl sz cd v_4dcc24baa7 (v_2b807321aa h60 h63) v_316afd7d0b v_d7156942e4 (v_708afb58d7 h60) (v_16f8dd37ad h63) q12 (v_f2b062d3d4 q1 q5 q6 q19) q16 rfl hk56) rfl rfl rfl (Nat.le_of_ble_eq_true rfl) ⟨(Nat.le_of_ble_eq_true rfl), (Nat.le_of_ble_eq_true rfl)⟩ ⟨(Nat.le_of_ble_eq_true rfl), (Nat.le_of_ble_eq_true rfl)⟩ (fun r h9 hp => ?_)
            obtain ⟨f70, z71, rfl, rfl, h72, h73, h74, h75⟩ := hp
            refine J_nf (nh2 := nh) (ck2 := 0) (sk2 := 0) (st2 := [.int (zI sz)]) rfl rfl rfl rfl ?_
            refine J_app (L3 := [(54, .inr (5, [.ref 55, .int (zI ln), .int (zI tk), .int (zI st), .int (zI bh), .int (zI va), .int (zI (pa + 1)), .int (zI fl), .ref 56, .int (zI (sz + 1))])), (56, .inl (0, 412, .inl (zA f70))), (54, .inr (5, [.ref 55, .int (zI ln), .int (zI tk), .int (zI st), .int (zI bh), .int (zI va), .int (zI (pa + 1)), .int (zI fl), .ref 56, .int (zI sz)]))]) (by first | rfl | (simp only [Int.add_assoc]; rfl)) ?_
            refine J_mask (L2 := [(54, .inr (5, [.ref 55, .int (zI ln), .int (zI tk), .int (zI st), .int (zI bh), .int (zI va), .int (zI (pa + 1)), .int (zI fl), .ref 56, .int (zI (sz + 1))])), (56, .inl (0, 412, .inl (zA f70)))]) (ks := [54, 56, 54]) [true, true, false] rfl (by decide +kernel) rfl ?_
            refine J_pop dX5_part_125 rfl ?_
            refine J_aload_n dX5_part_126 rfl rfl ?_
            have g76 := TokL.lt q14 (v_b0bfd58e62 h63)
            refine J_callV (st := []) dX5_part_127 cv_X5_43 (d_advance (ti + 1) ln tk st bh va (pa + 1) fl (sz + 1) tp q0 q1 (v_d253cb2c59 q4 g76) q6 q7 q8 q15 (TkX.ps q17 (v_2b02420001 q18)) rfl hk55) rfl rfl rfl (Nat.le_of_ble_eq_true rfl) ⟨(Nat.le_of_ble_eq_true rfl), (Nat.le_of_ble_eq_true rfl)⟩ ⟨(Nat.le_of_ble_eq_true rfl), (Nat.le_of_ble_eq_true rfl)⟩ (fun r h9 hp => ?_)
            obtain ⟨z77, z78, z79, z80, rfl, rfl, h81, h82, h83, h84, h85, h86, h87, h88, h89⟩ := hp
            refine J_nf (nh2 := nh) (ck2 := 0) (sk2 := 0) (st2 := []) rfl rfl rfl rfl ?_
            refine J_app (L3 := [(54, .inr (5, [.ref 55, .int (zI ln), .int (zI z77), .int (zI z78), .int (zI z79), .int (zI z80), .int (zI (pa + 1)), .int (zI fl), .ref 56, .int (zI (sz + 1))])), (54, .inr (5, [.ref 55, .int (zI ln), .int (zI tk), .int (zI st), .int (zI bh), .int (zI va), .int (zI (pa + 1)), .int (zI fl), .ref 56, .int (zI (sz + 1))])), (56, .inl (0, 412, .inl (zA f70)))]) rfl ?_
            refine J_mask (L2 := [(54, .inr (5, [.ref 55, .int (zI ln), .int (zI z77), .int (zI z78), .int (zI z79), .int (zI z80), .int (zI (pa + 1)), .int (zI fl), .ref 56, .int (zI (sz + 1))])), (56, .inl (0, 412, .inl (zA f70)))]) (ks := [54, 54, 56]) [true, false, true] rfl (by decide +kernel) rfl ?_
            refine Z_iconst (n := 1) dX5_part_130 ?_
            exact J_iret dX5_part_131 rfl (jbn v_316afd7d0b v_bbcfac9b7d) (Nat.le_of_ble_eq_true rfl) (Nat.le_of_ble_eq_true rfl) (Or.inl ⟨z77, z78, z79, z80, (pa + 1), (sz + 1), f70, (ti + 1), rfl, rfl, h81, h82, (v_9b2e2070a2 q4 g76 h83), h84, h85, h86, h87, (v_da458fa48a q9), (v_dc0d6dc503 h68), (v_da458fa48a q12), (v_efdc60f808 q1 q6 q19 g76), h88, h74, (v_3a52fbe90f g76 h83), (v_016485883e g76 h83), h89, (v_da458fa48a q18), (PaR.y (fun w => absurd ((TkX.sg q17 (v := 191) (by decide)).mp w) (v_9d80ef7c91 h63)) ((TkX.lf q17).mpr (Or.inr ⟨(v_14fb5ed6b5 h60), (v_fd1ff53b5c h63)⟩)) (v_ba201db0a2 h68)), v_32a28518ee, (SgS.word (fun w => absurd ((TkX.sg q17 (v := 191) (by decide)).mp w) (v_9d80ef7c91 h63)) (by rw [(TkX.ct q17 (v_ec0ac2e815 h60) (v_fd1ff53b5c h63))]; exact (v_ec2a4dea25 h60)) (by rw [(TkX.ct q17 (v_ec0ac2e815 h60) (v_fd1ff53b5c h63))]; exact (v_bec5aa9605 h63)) h72 h73 (by rw [(TkX.ct q17 (v_ec0ac2e815 h60) (v_fd1ff53b5c h63))]; exact v_22037acd2e) v_e828b09c4d)⟩)
          · refine J_aload_n dX5_part_81 rfl rfl ?_
            refine J_callV (st := []) dX5_part_82 cv_X5_54 (d_wrong ln tk st bh va pa fl sz q4 (v_1adcfdfee5 q1 q5 q6) hk54) hk54 rfl rfl (Nat.le_of_ble_eq_true rfl) ⟨(Nat.le_of_ble_eq_true rfl), (Nat.le_of_ble_eq_true rfl)⟩ ⟨(Nat.le_of_ble_eq_true rfl), (Nat.le_of_ble_eq_true rfl)⟩ (fun r h9 hp => ?_)
            obtain ⟨rfl, rfl⟩ := hp
            refine J_nf (nh2 := nh) (ck2 := 0) (sk2 := 0) (st2 := [.int (zI 0)]) rfl rfl rfl rfl ?_
            refine J_app (L3 := [(54, .inr (5, [.ref 55, .int (zI ln), .int (zI tk), .int (zI st), .int (zI bh), .int (zI va), .int (zI pa), .int (zI st), .ref 56, .int (zI sz)]))]) rfl ?_
            refine J_touch (k := 56) (e := .inl (0, 412, .inl (zA cd))) hk56 ?_
            refine J_touch (k := 54) (e := .inr (5, [.ref 55, .int (zI ln), .int (zI tk), .int (zI st), .int (zI bh), .int (zI va), .int (zI pa), .int (zI st), .ref 56, .int (zI sz)])) rfl ?_
            refine J_mask (L2 := [(54, .inr (5, [.ref 55, .int (zI ln), .int (zI tk), .int (zI st), .int (zI bh), .int (zI va), .int (zI pa), .int (zI st), .ref 56, .int (zI sz)])), (56, .inl (0, 412, .inl (zA cd)))]) (ks := [54, 56, 54]) [true, true, false] rfl (by decide +kernel) rfl ?_
            exact J_iret dX5_part_85 rfl (jbn v_939070ca3f v_316afd7d0b) (Nat.le_of_ble_eq_true rfl) (Nat.le_of_ble_eq_true rfl) (Or.inr ⟨tk, st, bh, va, pa, sz, cd, st, ti, rfl, rfl, q2, q3, q4, q5, q6, q7, q8, q9, q10, q12, q13, q14, q16, q4, (v_1adcfdfee5 q1 q5 q6), ((TkX.s q17)), (PaR.w (fun w => absurd ((TkX.sg q17 (v := 191) (by decide)).mp w) (v_9d80ef7c91 h63)) (fun w => absurd w.2 (v_6f05a3a39a h68)))⟩)
    · refine J_aload_n dX5_part_24 rfl rfl ?_
      refine J_get (v := .int (zI va)) dX5_part_25 fl_X5_28 hk54 rfl ?_
      refine Z_sipush (n := 1000) dX5_part_28 (by decide +kernel) ?_
      refine Z_icmp_gt (tgt := 38) dX5_part_31 (by decide) (v_c986789e97 q7 q8) v_822edaa202 (fun h90 => ?_) (fun h90 => ?_)
      · refine Z_iconst (n := 0) dX5_part_38 ?_
        refine J_istore_n dX5_part_39 rfl (Nat.le_of_ble_eq_true rfl) rfl ?_
        refine J_ls (ls2 := [some (.ref 54), some (.int (zI 8)), some (.int (zI 0)), none]) rfl ?_
        refine J_aload_n dX5_part_40 rfl rfl ?_
        refine J_get (v := .int (zI tk)) dX5_part_41 fl_X5_19 hk54 rfl ?_
        refine Z_bipush (n := 7) dX5_part_44 (by decide +kernel) ?_
        refine Z_icmp_lt (tgt := 62) dX5_part_46 (by decide) (v_87f911991b h59) v_c3fe1a091f (fun h91 => absurd h91 (v_a610ec54f4 h59)) (fun h91 => ?_)
        refine J_aload_n dX5_part_49 rfl rfl ?_
        refine J_get (v := .int (zI tk)) dX5_part_50 fl_X5_19 hk54 rfl ?_
        refine Z_bipush (n := 14) dX5_part_53 (by decide +kernel) ?_
        refine Z_icmp_gt (tgt := 62) dX5_part_55 (by decide) (v_87f911991b h59) v_2a4719925a (fun h92 => ?_) (fun h92 => absurd h92 (fun q => q (v_8a408c96ed h59)))
        refine Z_iconst (n := 0) dX5_part_62 ?_
        refine J_istore_n dX5_part_63 rfl (Nat.le_of_ble_eq_true rfl) rfl ?_
        refine J_ls (ls2 := [some (.ref 54), some (.int (zI 8)), some (.int (zI 0)), some (.int (zI 0))]) rfl ?_
        refine J_iload_n dX5_part_64 rfl rfl ?_
        refine Z_if_ne (tgt := 72) dX5_part_65 (by decide) v_b17331891f (fun h93 => absurd h93 (fun q => q v_2ca2bbca1f)) (fun h93 => ?_)
        refine J_iload_n dX5_part_68 rfl rfl ?_
        refine Z_if_eq (tgt := 81) dX5_part_69 (by decide) v_b17331891f (fun h94 => ?_) (fun h94 => absurd h94 (fun q => q v_2ca2bbca1f))
        refine J_aload_n dX5_part_81 rfl rfl ?_
        refine J_callV (st := []) dX5_part_82 cv_X5_54 (d_wrong ln tk st bh va pa fl sz q4 (v_1adcfdfee5 q1 q5 q6) hk54) hk54 rfl rfl (Nat.le_of_ble_eq_true rfl) ⟨(Nat.le_of_ble_eq_true rfl), (Nat.le_of_ble_eq_true rfl)⟩ ⟨(Nat.le_of_ble_eq_true rfl), (Nat.le_of_ble_eq_true rfl)⟩ (fun r h9 hp => ?_)
        obtain ⟨rfl, rfl⟩ := hp
        refine J_nf (nh2 := nh) (ck2 := 0) (sk2 := 0) (st2 := [.int (zI 0)]) rfl rfl rfl rfl ?_
        refine J_app (L3 := [(54, .inr (5, [.ref 55, .int (zI ln), .int (zI tk), .int (zI st), .int (zI bh), .int (zI va), .int (zI pa), .int (zI st), .ref 56, .int (zI sz)]))]) rfl ?_
        refine J_touch (k := 56) (e := .inl (0, 412, .inl (zA cd))) hk56 ?_
        refine J_touch (k := 54) (e := .inr (5, [.ref 55, .int (zI ln), .int (zI tk), .int (zI st), .int (zI bh), .int (zI va), .int (zI pa), .int (zI st), .ref 56, .int (zI sz)])) rfl ?_
        refine J_mask (L2 := [(54, .inr (5, [.ref 55, .int (zI ln), .int (zI tk), .int (zI st), .int (zI bh), .int (zI va), .int (zI pa), .int (zI st), .ref 56, .int (zI sz)])), (56, .inl (0, 412, .inl (zA cd)))]) (ks := [54, 56, 54]) [true, true, false] rfl (by decide +kernel) rfl ?_
        exact J_iret dX5_part_85 rfl (jbn v_939070ca3f v_316afd7d0b) (Nat.le_of_ble_eq_true rfl) (Nat.le_of_ble_eq_true rfl) (Or.inr ⟨tk, st, bh, va, pa, sz, cd, st, ti, rfl, rfl, q2, q3, q4, q5, q6, q7, q8, q9, q10, q12, q13, q14, q16, q4, (v_1adcfdfee5 q1 q5 q6), ((TkX.s q17)), (PaR.w (fun w => absurd ((TkX.sg q17 (v := 191) (by decide)).mp w) (v_ba43a80476 h59)) (fun w => by have u := (TkX.lf q17).mp w.1; have u0 := h2; have u1 := h59; have u2 := h90; have u3 := h91; have u4 := h92; omega))⟩)
      · refine Z_iconst (n := 1) dX5_part_34 ?_
        refine J_goto (tgt := 39) dX5_part_35 (by decide) ?_
        refine J_istore_n dX5_part_39 rfl (Nat.le_of_ble_eq_true rfl) rfl ?_
        refine J_ls (ls2 := [some (.ref 54), some (.int (zI 8)), some (.int (zI 1)), none]) rfl ?_
        refine J_aload_n dX5_part_40 rfl rfl ?_
        refine J_get (v := .int (zI tk)) dX5_part_41 fl_X5_19 hk54 rfl ?_
        refine Z_bipush (n := 7) dX5_part_44 (by decide +kernel) ?_
        refine Z_icmp_lt (tgt := 62) dX5_part_46 (by decide) (v_87f911991b h59) v_c3fe1a091f (fun h95 => absurd h95 (v_a610ec54f4 h59)) (fun h95 => ?_)
        refine J_aload_n dX5_part_49 rfl rfl ?_
        refine J_get (v := .int (zI tk)) dX5_part_50 fl_X5_19 hk54 rfl ?_
        refine Z_bipush (n := 14) dX5_part_53 (by decide +kernel) ?_
        refine Z_icmp_gt (tgt := 62) dX5_part_55 (by decide) (v_87f911991b h59) v_2a4719925a (fun h96 => ?_) (fun h96 => absurd h96 (fun q => q (v_8a408c96ed h59)))
        refine Z_iconst (n := 0) dX5_part_62 ?_
        refine J_istore_n dX5_part_63 rfl (Nat.le_of_ble_eq_true rfl) rfl ?_
        refine J_ls (ls2 := [some (.ref 54), some (.int (zI 8)), some (.int (zI 1)), some (.int (zI 0))]) rfl ?_
        refine J_iload_n dX5_part_64 rfl rfl ?_
        refine Z_if_ne (tgt := 72) dX5_part_65 (by decide) v_4dcc24baa7 (fun h97 => ?_) (fun h97 => absurd h97 v_3a47bfd896)
        refine J_aload_n dX5_part_72 rfl rfl ?_
        refine J_get (v := .int (zI pa)) dX5_part_73 fl_X5_31 hk54 rfl ?_
        refine Z_bipush (n := 50) dX5_part_76 (by decide +kernel) ?_
        refine Z_icmp_lt (tgt := 86) dX5_part_78 (by decide) (v_196348439e q9 q10) v_e1e0ea2c24 (fun h98 => ?_) (fun h98 => ?_)
        · refine J_aload_n dX5_part_86 rfl rfl ?_
          refine J_dup dX5_part_87 rfl ?_
          refine J_get (v := .int (zI pa)) dX5_part_88 fl_X5_31 hk54 rfl ?_
          refine Z_iconst (n := 1) dX5_part_91 ?_
          refine Z_iadd (c := pa + 1) dX5_part_92 rfl ?_
          refine K_put (fs2 := [.ref 55, .int (zI ln), .int (zI tk), .int (zI st), .int (zI bh), .int (zI va), .int (zI (pa + 1)), .int (zI fl), .ref 56, .int (zI sz)]) dX5_part_93 fw_X5_31 hk54 (Nat.le_of_ble_eq_true rfl) (fun _ => ⟨rfl, rfl⟩) rfl ?_
          refine J_iload_n dX5_part_96 rfl rfl ?_
          refine Z_if_eq (tgt := 113) dX5_part_97 (by decide) v_4dcc24baa7 (fun h99 => absurd h99 v_3a47bfd896) (fun h99 => ?_)
          refine J_aload_n dX5_part_100 rfl rfl ?_
          refine Z_iconst (n := 0) dX5_part_101 ?_
          refine J_aload_n dX5_part_102 rfl rfl ?_
          refine J_get (v := .int (zI va)) dX5_part_103 fl_X5_28 rfl rfl ?_
          refine J_callV (st := []) dX5_part_106 cv_X5_72 (d_emit 0 va ln tk st bh va (pa + 1) fl sz cd v_b17331891f (v_3f1e82a223 q7 h90) v_939070ca3f v_d71a1868af q7 (v_50f9918ec4 h90) q12 (v_f2b062d3d4 q1 q5 q6 q19) q16 rfl hk56) rfl rfl rfl (Nat.le_of_ble_eq_true rfl) ⟨(Nat.le_of_ble_eq_true rfl), (Nat.le_of_ble_eq_true rfl)⟩ ⟨(Nat.le_of_ble_eq_true rfl), (Nat.le_of_ble_eq_true rfl)⟩ (fun r h9 hp => ?_)
          obtain ⟨f100, z101, rfl, rfl, h102, h103, h104, h105⟩ := hp
          refine J_nf (nh2 := nh) (ck2 := 0) (sk2 := 0) (st2 := [.int (zI sz)]) rfl rfl rfl rfl ?_
          refine J_app (L3 := [(54, .inr (5, [.ref 55, .int (zI ln), .int (zI tk), .int (zI st), .int (zI bh), .int (zI va), .int (zI (pa + 1)), .int (zI fl), .ref 56, .int (zI (sz + 1))])), (56, .inl (0, 412, .inl (zA f100))), (54, .inr (5, [.ref 55, .int (zI ln), .int (zI tk), .int (zI st), .int (zI bh), .int (zI va), .int (zI (pa + 1)), .int (zI fl), .ref 56, .int (zI sz)]))]) (by first | rfl | (simp only [Int.add_assoc]; rfl)) ?_
          refine J_mask (L2 := [(54, .inr (5, [.ref 55, .int (zI ln), .int (zI tk), .int (zI st), .int (zI bh), .int (zI va), .int (zI (pa + 1)), .int (zI fl), .ref 56, .int (zI (sz + 1))])), (56, .inl (0, 412, .inl (zA f100)))]) (ks := [54, 56, 54]) [true, true, false] rfl (by decide +kernel) rfl ?_
          refine J_pop dX5_part_109 rfl ?_
          refine J_goto (tgt := 126) dX5_part_110 (by decide) ?_
          refine J_aload_n dX5_part_126 rfl rfl ?_
          have g106 := TokL.lt q14 (v_842fc1ac99 h59)
          refine J_callV (st := []) dX5_part_127 cv_X5_43 (d_advance (ti + 1) ln tk st bh va (pa + 1) fl (sz + 1) tp q0 q1 (v_d253cb2c59 q4 g106) q6 q7 q8 q15 (TkX.ps q17 (v_2b02420001 q18)) rfl hk55) rfl rfl rfl (Nat.le_of_ble_eq_true rfl) ⟨(Nat.le_of_ble_eq_true rfl), (Nat.le_of_ble_eq_true rfl)⟩ ⟨(Nat.le_of_ble_eq_true rfl), (Nat.le_of_ble_eq_true rfl)⟩ (fun r h9 hp => ?_)
          obtain ⟨z107, z108, z109, z110, rfl, rfl, h111, h112, h113, h114, h115, h116, h117, h118, h119⟩ := hp
          refine J_nf (nh2 := nh) (ck2 := 0) (sk2 := 0) (st2 := []) rfl rfl rfl rfl ?_
          refine J_app (L3 := [(54, .inr (5, [.ref 55, .int (zI ln), .int (zI z107), .int (zI z108), .int (zI z109), .int (zI z110), .int (zI (pa + 1)), .int (zI fl), .ref 56, .int (zI (sz + 1))])), (54, .inr (5, [.ref 55, .int (zI ln), .int (zI tk), .int (zI st), .int (zI bh), .int (zI va), .int (zI (pa + 1)), .int (zI fl), .ref 56, .int (zI (sz + 1))])), (56, .inl (0, 412, .inl (zA f100)))]) rfl ?_
          refine J_mask (L2 := [(54, .inr (5, [.ref 55, .int (zI ln), .int (zI z107), .int (zI z108), .int (zI z109), .int (zI z110), .int (zI (pa + 1)), .int (zI fl), .ref 56, .int (zI (sz + 1))])), (56, .inl (0, 412, .inl (zA f100)))]) (ks := [54, 54, 56]) [true, false, true] rfl (by decide +kernel) rfl ?_
          refine Z_iconst (n := 1) dX5_part_130 ?_
          exact J_iret dX5_part_131 rfl (jbn v_316afd7d0b v_bbcfac9b7d) (Nat.le_of_ble_eq_true rfl) (Nat.le_of_ble_eq_true rfl) (Or.inl ⟨z107, z108, z109, z110, (pa + 1), (sz + 1), f100, (ti + 1), rfl, rfl, h111, h112, (v_9b2e2070a2 q4 g106 h113), h114, h115, h116, h117, (v_da458fa48a q9), (v_dc0d6dc503 h98), (v_da458fa48a q12), (v_efdc60f808 q1 q6 q19 g106), h118, h104, (v_3a52fbe90f g106 h113), (v_016485883e g106 h113), h119, (v_da458fa48a q18), (PaR.y (fun w => absurd ((TkX.sg q17 (v := 191) (by decide)).mp w) (v_ba43a80476 h59)) ((TkX.lf q17).mpr (Or.inl ⟨(v_c5b5cc5484 h59), (v_34f25c0213 h90)⟩)) (v_ba201db0a2 h98)), v_32a28518ee, (SgS.num (fun w => absurd ((TkX.sg q17 (v := 191) (by decide)).mp w) (v_ba43a80476 h59)) (TkX.c50 q17 (v_c5b5cc5484 h59)) (by rw [← (TkX.v q17 (TkX.c50 q17 (v_c5b5cc5484 h59)))]; exact (v_34f25c0213 h90)) (by rw [← (TkX.v q17 (TkX.c50 q17 (v_c5b5cc5484 h59)))]; exact (v_2b02420001 q7)) h102 h103 ((show va = va from v_a0572702c4).trans (TkX.v q17 (TkX.c50 q17 (v_c5b5cc5484 h59)))) v_e828b09c4d)⟩)
        · refine J_aload_n dX5_part_81 rfl rfl ?_
          refine J_callV (st := []) dX5_part_82 cv_X5_54 (d_wrong ln tk st bh va pa fl sz q4 (v_1adcfdfee5 q1 q5 q6) hk54) hk54 rfl rfl (Nat.le_of_ble_eq_true rfl) ⟨(Nat.le_of_ble_eq_true rfl), (Nat.le_of_ble_eq_true rfl)⟩ ⟨(Nat.le_of_ble_eq_true rfl), (Nat.le_of_ble_eq_true rfl)⟩ (fun r h9 hp => ?_)
          obtain ⟨rfl, rfl⟩ := hp
          refine J_nf (nh2 := nh) (ck2 := 0) (sk2 := 0) (st2 := [.int (zI 0)]) rfl rfl rfl rfl ?_
          refine J_app (L3 := [(54, .inr (5, [.ref 55, .int (zI ln), .int (zI tk), .int (zI st), .int (zI bh), .int (zI va), .int (zI pa), .int (zI st), .ref 56, .int (zI sz)]))]) rfl ?_
          refine J_touch (k := 56) (e := .inl (0, 412, .inl (zA cd))) hk56 ?_
          refine J_touch (k := 54) (e := .inr (5, [.ref 55, .int (zI ln), .int (zI tk), .int (zI st), .int (zI bh), .int (zI va), .int (zI pa), .int (zI st), .ref 56, .int (zI sz)])) rfl ?_
          refine J_mask (L2 := [(54, .inr (5, [.ref 55, .int (zI ln), .int (zI tk), .int (zI st), .int (zI bh), .int (zI va), .int (zI pa), .int (zI st), .ref 56, .int (zI sz)])), (56, .inl (0, 412, .inl (zA cd)))]) (ks := [54, 56, 54]) [true, true, false] rfl (by decide +kernel) rfl ?_
          exact J_iret dX5_part_85 rfl (jbn v_939070ca3f v_316afd7d0b) (Nat.le_of_ble_eq_true rfl) (Nat.le_of_ble_eq_true rfl) (Or.inr ⟨tk, st, bh, va, pa, sz, cd, st, ti, rfl, rfl, q2, q3, q4, q5, q6, q7, q8, q9, q10, q12, q13, q14, q16, q4, (v_1adcfdfee5 q1 q5 q6), ((TkX.s q17)), (PaR.w (fun w => absurd ((TkX.sg q17 (v := 191) (by decide)).mp w) (v_ba43a80476 h59)) (fun w => absurd w.2 (v_6f05a3a39a h98)))⟩)
set_option maxHeartbeats 4000000 in
set_option maxRecDepth 100000 in
theorem d_term8 {l : Launch} {G : jG} {nh : Nat} {fh : Nat → Option va_E} (ln : Int) (tk : Int) (st : Int) (bh : Int) (va : Int) (pa : Int) (fl : Int) (sz : Int) (tp : Int → Int) (cd : Int → Int) (ti : Int) (q0 : 0 ≤ ln) (q1 : ln ≤ 400) (q2 : 0 ≤ tk) (q3 : tk ≤ 355) (q4 : 0 ≤ st) (q5 : st ≤ bh) (q6 : bh ≤ ln) (q7 : 0 ≤ va) (q8 : va ≤ 1001) (q9 : 0 ≤ pa) (q10 : pa ≤ 50) (q11 : zr fl) (q12 : 0 ≤ sz) (q13 : sz ≤ 412) (q14 : TokL tk st bh) (q15 : Rg tp 400 0 255) (q16 : Rg cd 412 (-2147483648) 2147483647) (q17 : TkX tp ln ti tk st bh va) (q18 : 0 ≤ ti) (q19 : sz ≤ st + 1) (hk54 : fh 54 = some (.inr (5, [.ref 55, .int (zI ln), .int (zI tk), .int (zI st), .int (zI bh), .int (zI va), .int (zI pa), .int (zI fl), .ref 56, .int (zI sz)]))) (hk55 : fh 55 = some (.inl (0, 400, .inl (zA tp)))) (hk56 : fh 56 = some (.inl (0, 412, .inl (zA cd)))) : JM l G yX5_term MX5_term { frames := 7, cells := 0, slots := 0, locals := 153 } [.ref 54, .int (zI 8)] (nh, fh) (fun rr h9 => (∃ tk2 : Int, ∃ st2 : Int, ∃ bh2 : Int, ∃ va2 : Int, ∃ pa2 : Int, ∃ sz2 : Int, ∃ cd2 : Int → Int, ∃ ti2 : Int, rr = some (.int (zI 1)) ∧ h9 = (nh, hc fh [(54, .inr (5, [.ref 55, .int (zI ln), .int (zI tk2), .int (zI st2), .int (zI bh2), .int (zI va2), .int (zI pa2), .int (zI fl), .ref 56, .int (zI sz2)])), (56, .inl (0, 412, .inl (zA cd2)))]) ∧ (0 ≤ tk2) ∧ (tk2 ≤ 355) ∧ (0 ≤ st2) ∧ (st2 ≤ bh2) ∧ (bh2 ≤ ln) ∧ (0 ≤ va2) ∧ (va2 ≤ 1001) ∧ (0 ≤ pa2) ∧ (pa2 ≤ 50) ∧ (0 ≤ sz2) ∧ (sz2 ≤ 412) ∧ (TokL tk2 st2 bh2) ∧ (Rg cd2 412 (-2147483648) 2147483647) ∧ (sz2 + st ≤ sz + st2) ∧ (st ≤ st2) ∧ (TkX tp ln ti2 tk2 st2 bh2 va2) ∧ (0 ≤ ti2) ∧ (TmR (CTk tp ln) (LF tp ln) 0 ti pa 1 ti2 pa2) ∧ (pa ≤ pa2) ∧ (SgS (TmD (CTk tp ln) (VT tp ln) 0) cd cd2 ti ti2 sz sz2 pa pa2)) ∨ (∃ tk2 : Int, ∃ st2 : Int, ∃ bh2 : Int, ∃ va2 : Int, ∃ pa2 : Int, ∃ sz2 : Int, ∃ cd2 : Int → Int, ∃ fl2 : Int, ∃ ti2 : Int, rr = some (.int (zI 0)) ∧ h9 = (nh, hc fh [(54, .inr (5, [.ref 55, .int (zI ln), .int (zI tk2), .int (zI st2), .int (zI bh2), .int (zI va2), .int (zI pa2), .int (zI fl2), .ref 56, .int (zI sz2)])), (56, .inl (0, 412, .inl (zA cd2)))]) ∧ (0 ≤ tk2) ∧ (tk2 ≤ 355) ∧ (0 ≤ st2) ∧ (st2 ≤ bh2) ∧ (bh2 ≤ ln) ∧ (0 ≤ va2) ∧ (va2 ≤ 1001) ∧ (0 ≤ pa2) ∧ (pa2 ≤ 50) ∧ (0 ≤ sz2) ∧ (sz2 ≤ 412) ∧ (TokL tk2 st2 bh2) ∧ (Rg cd2 412 (-2147483648) 2147483647) ∧ (0 ≤ fl2) ∧ (fl2 ≤ 400) ∧ (FlX tp ln ti2 fl2) ∧ (TmR (CTk tp ln) (LF tp ln) 0 ti pa 0 ti2 0))) := by
  refine JM.of (by decide) rfl (fun h => by cases h) (Nat.le_of_ble_eq_true rfl) ⟨2, rfl⟩ ?_
  refine J_hc0 (J_ls (ls2 := [some (.ref 54), some (.int (zI 8)), none, none]) rfl ?_)
  refine J_aload_n dX5_term_0 rfl rfl ?_
  refine J_iload_n dX5_term_1 rfl rfl ?_
  refine J_callV (st := []) dX5_term_2 cv_X5_92 (d_part8 ln tk st bh va pa fl sz tp cd ti q0 q1 q2 q3 q4 q5 q6 q7 q8 q9 q10 q11 q12 q13 q14 q15 q16 q17 q18 q19 hk54 hk55 hk56) hk54 rfl rfl (Nat.le_of_ble_eq_true rfl) ⟨(Nat.le_of_ble_eq_true rfl), (Nat.le_of_ble_eq_true rfl)⟩ ⟨(Nat.le_of_ble_eq_true rfl), (Nat.le_of_ble_eq_true rfl)⟩ (fun r h9 hp => ?_)
  rcases hp with ⟨z1, z2, z3, z4, z5, z6, f7, z8, rfl, rfl, h9, h10, h11, h12, h13, h14, h15, h16, h17, h18, h19, h20, h21, h22, h23, h24, h25, h26, h27, h28⟩ | ⟨z29, z30, z31, z32, z33, z34, f35, z36, z37, rfl, rfl, h38, h39, h40, h41, h42, h43, h44, h45, h46, h47, h48, h49, h50, h51, h52, h53, h54⟩
  · refine J_nf (nh2 := nh) (ck2 := 0) (sk2 := 0) (st2 := [.int (zI 1)]) rfl rfl rfl rfl ?_
    refine J_app (L3 := [(54, .inr (5, [.ref 55, .int (zI ln), .int (zI z1), .int (zI z2), .int (zI z3), .int (zI z4), .int (zI z5), .int (zI fl), .ref 56, .int (zI z6)])), (56, .inl (0, 412, .inl (zA f7)))]) rfl ?_
    refine Z_if_ne (tgt := 10) dX5_term_5 (by decide) v_4dcc24baa7 (fun h55 => ?_) (fun h55 => absurd h55 v_3a47bfd896)
    refine Z_iconst (n := 0) dX5_term_10 ?_
    refine J_istore_n dX5_term_11 rfl (Nat.le_of_ble_eq_true rfl) rfl ?_
    refine J_ls (ls2 := [some (.ref 54), some (.int (zI 8)), some (.int (zI 0)), none]) rfl ?_
    have lp12 : ∀ (N12 : Nat) (i_12 : Int) (tx_12 : Int) (sx_12 : Int) (bx_12 : Int) (vx_12 : Int) (px_12 : Int) (zx_12 : Int) (cx_12 : Int → Int) (ti_12 : Int), (0 ≤ i_12) → (i_12 ≤ 400) → (zx_12 + st ≤ sz + sx_12) → (st ≤ sx_12) → (0 ≤ tx_12) → (tx_12 ≤ 355) → (0 ≤ sx_12) → (sx_12 ≤ bx_12) → (bx_12 ≤ ln) → (0 ≤ vx_12) → (vx_12 ≤ 1001) → (TokL tx_12 sx_12 bx_12) → (Rg cx_12 412 (-2147483648) 2147483647) → (0 ≤ zx_12) → (zx_12 ≤ 412) → (0 ≤ px_12) → (px_12 ≤ 50) → (st + i_12 ≤ sx_12) → (TkX tp ln ti_12 tx_12 sx_12 bx_12 vx_12) → (0 ≤ ti_12) → (SeP (PtR (CTk tp ln) (LF tp ln) 0) opM (CTk tp ln) ti pa ti_12 px_12) → (pa ≤ px_12) → (SgP (PtD (CTk tp ln) (VT tp ln) 0) opM arC (CTk tp ln) cd cx_12 ti sz pa ti_12 zx_12 px_12) → (400 - i_12).toNat < N12 → J l G MX5_term { frames := 7, cells := 0, slots := 0, locals := 153 } jE (jMQ G { frames := 7, cells := 0, slots := 0, locals := 153 } (fun rr h9 => (∃ tk2 : Int, ∃ st2 : Int, ∃ bh2 : Int, ∃ va2 : Int, ∃ pa2 : Int, ∃ sz2 : Int, ∃ cd2 : Int → Int, ∃ ti2 : Int, rr = some (.int (zI 1)) ∧ h9 = (nh, hc fh [(54, .inr (5, [.ref 55, .int (zI ln), .int (zI tk2), .int (zI st2), .int (zI bh2), .int (zI va2), .int (zI pa2), .int (zI fl), .ref 56, .int (zI sz2)])), (56, .inl (0, 412, .inl (zA cd2)))]) ∧ (0 ≤ tk2) ∧ (tk2 ≤ 355) ∧ (0 ≤ st2) ∧ (st2 ≤ bh2) ∧ (bh2 ≤ ln) ∧ (0 ≤ va2) ∧ (va2 ≤ 1001) ∧ (0 ≤ pa2) ∧ (pa2 ≤ 50) ∧ (0 ≤ sz2) ∧ (sz2 ≤ 412) ∧ (TokL tk2 st2 bh2) ∧ (Rg cd2 412 (-2147483648) 2147483647) ∧ (sz2 + st ≤ sz + st2) ∧ (st ≤ st2) ∧ (TkX tp ln ti2 tk2 st2 bh2 va2) ∧ (0 ≤ ti2) ∧ (TmR (CTk tp ln) (LF tp ln) 0 ti pa 1 ti2 pa2) ∧ (pa ≤ pa2) ∧ (SgS (TmD (CTk tp ln) (VT tp ln) 0) cd cd2 ti ti2 sz sz2 pa pa2)) ∨ (∃ tk2 : Int, ∃ st2 : Int, ∃ bh2 : Int, ∃ va2 : Int, ∃ pa2 : Int, ∃ sz2 : Int, ∃ cd2 : Int → Int, ∃ fl2 : Int, ∃ ti2 : Int, rr = some (.int (zI 0)) ∧ h9 = (nh, hc fh [(54, .inr (5, [.ref 55, .int (zI ln), .int (zI tk2), .int (zI st2), .int (zI bh2), .int (zI va2), .int (zI pa2), .int (zI fl2), .ref 56, .int (zI sz2)])), (56, .inl (0, 412, .inl (zA cd2)))]) ∧ (0 ≤ tk2) ∧ (tk2 ≤ 355) ∧ (0 ≤ st2) ∧ (st2 ≤ bh2) ∧ (bh2 ≤ ln) ∧ (0 ≤ va2) ∧ (va2 ≤ 1001) ∧ (0 ≤ pa2) ∧ (pa2 ≤ 50) ∧ (0 ≤ sz2) ∧ (sz2 ≤ 412) ∧ (TokL tk2 st2 bh2) ∧ (Rg cd2 412 (-2147483648) 2147483647) ∧ (0 ≤ fl2) ∧ (fl2 ≤ 400) ∧ (FlX tp ln ti2 fl2) ∧ (TmR (CTk tp ln) (LF tp ln) 0 ti pa 0 ti2 0)))) (nh, hc fh [(54, .inr (5, [.ref 55, .int (zI ln), .int (zI tx_12), .int (zI sx_12), .int (zI bx_12), .int (zI vx_12), .int (zI px_12), .int (zI fl), .ref 56, .int (zI zx_12)])), (56, .inl (0, 412, .inl (zA cx_12)))]) 0 0 12 [some (.ref 54), some (.int (zI 8)), some (.int (zI i_12)), none] [] := by
      intro N12
      induction N12 with
      | zero => intro i_12 tx_12 sx_12 bx_12 vx_12 px_12 zx_12 cx_12 ti_12 i12_0 i12_1 i12_2 i12_3 i12_4 i12_5 i12_6 i12_7 i12_8 i12_9 i12_10 i12_11 i12_12 i12_13 i12_14 i12_15 i12_16 i12_17 i12_18 i12_19 i12_20 i12_21 i12_22 hm; exact absurd hm (Nat.not_lt_zero _)
      | succ N12 ih12 =>
        intro i_12 tx_12 sx_12 bx_12 vx_12 px_12 zx_12 cx_12 ti_12 i12_0 i12_1 i12_2 i12_3 i12_4 i12_5 i12_6 i12_7 i12_8 i12_9 i12_10 i12_11 i12_12 i12_13 i12_14 i12_15 i12_16 i12_17 i12_18 i12_19 i12_20 i12_21 i12_22 hm12
        refine J_iload_n dX5_term_12 rfl rfl ?_
        refine Z_sipush (n := 400) dX5_term_13 (by decide +kernel) ?_
        refine Z_icmp_ge (tgt := 79) dX5_term_16 (by decide) (v_d7389cde0f i12_0 i12_1) v_d8dcd4dd52 (fun h56 => ?_) (fun h56 => ?_)
        · have g57 : tx_12 = 17 := TkX.lo i12_18 (v_96ef693267 q1 q4 i12_7 i12_8 i12_17 h56)
          refine Z_iconst (n := 1) dX5_term_79 ?_
          exact J_iret dX5_term_80 rfl (jbn v_316afd7d0b v_bbcfac9b7d) (Nat.le_of_ble_eq_true rfl) (Nat.le_of_ble_eq_true rfl) (Or.inl ⟨tx_12, sx_12, bx_12, vx_12, px_12, zx_12, cx_12, ti_12, rfl, rfl, i12_4, i12_5, i12_6, i12_7, i12_8, i12_9, i12_10, i12_15, i12_16, i12_13, i12_14, i12_11, i12_12, i12_2, i12_3, i12_18, i12_19, (SeP.end i12_20 (fun w => Or.elim w (fun w => absurd ((TkX.sg i12_18 (v := 142) (by decide)).mp w) (v_d9c44388fb g57)) (fun w => absurd ((TkX.sg i12_18 (v := 147) (by decide)).mp w) (v_33dade03bd g57)))), i12_21, (SgP.end i12_22 (fun w => Or.elim w (fun w => absurd ((TkX.sg i12_18 (v := 142) (by decide)).mp w) (v_d9c44388fb g57)) (fun w => absurd ((TkX.sg i12_18 (v := 147) (by decide)).mp w) (v_33dade03bd g57))))⟩)
        · refine J_aload_n dX5_term_19 rfl rfl ?_
          refine Z_bipush (n := 42) dX5_term_20 (by decide +kernel) ?_
          refine J_callV (st := []) dX5_term_22 cv_X5_50 (d_isSign 42 ln tx_12 sx_12 bx_12 vx_12 px_12 fl zx_12 v_19b0ad2cd1 v_1f79c0c2c4 i12_4 i12_5 rfl) rfl rfl rfl (Nat.le_of_ble_eq_true rfl) ⟨(Nat.le_of_ble_eq_true rfl), (Nat.le_of_ble_eq_true rfl)⟩ ⟨(Nat.le_of_ble_eq_true rfl), (Nat.le_of_ble_eq_true rfl)⟩ (fun r h9 hp => ?_)
          rcases hp with ⟨rfl, rfl, h58⟩ | ⟨rfl, rfl, h59⟩
          · refine J_nf (nh2 := nh) (ck2 := 0) (sk2 := 0) (st2 := [.int (zI 1)]) rfl rfl rfl rfl ?_
            refine Z_if_ne (tgt := 37) dX5_term_25 (by decide) v_4dcc24baa7 (fun h60 => ?_) (fun h60 => absurd h60 v_3a47bfd896)
            refine J_aload_n dX5_term_37 rfl rfl ?_
            refine Z_bipush (n := 42) dX5_term_38 (by decide +kernel) ?_
            refine J_callV (st := []) dX5_term_40 cv_X5_50 (d_isSign 42 ln tx_12 sx_12 bx_12 vx_12 px_12 fl zx_12 v_19b0ad2cd1 v_1f79c0c2c4 i12_4 i12_5 rfl) rfl rfl rfl (Nat.le_of_ble_eq_true rfl) ⟨(Nat.le_of_ble_eq_true rfl), (Nat.le_of_ble_eq_true rfl)⟩ ⟨(Nat.le_of_ble_eq_true rfl), (Nat.le_of_ble_eq_true rfl)⟩ (fun r h9 hp => ?_)
            rcases hp with ⟨rfl, rfl, h61⟩ | ⟨rfl, rfl, h62⟩
            · refine J_nf (nh2 := nh) (ck2 := 0) (sk2 := 0) (st2 := [.int (zI 1)]) rfl rfl rfl rfl ?_
              refine Z_if_eq (tgt := 50) dX5_term_43 (by decide) v_4dcc24baa7 (fun h63 => absurd h63 v_3a47bfd896) (fun h63 => ?_)
              refine Z_iconst (n := 4) dX5_term_46 ?_
              refine J_goto (tgt := 51) dX5_term_47 (by decide) ?_
              refine J_istore_n dX5_term_51 rfl (Nat.le_of_ble_eq_true rfl) rfl ?_
              refine J_ls (ls2 := [some (.ref 54), some (.int (zI 8)), some (.int (zI i_12)), some (.int (zI 4))]) rfl ?_
              refine J_aload_n dX5_term_52 rfl rfl ?_
              have g64 := TokL.lt i12_11 (v_4a9f236eb2 h58)
              refine J_callV (st := []) dX5_term_53 cv_X5_43 (d_advance (ti_12 + 1) ln tx_12 sx_12 bx_12 vx_12 px_12 fl zx_12 tp q0 q1 (v_d253cb2c59 i12_6 g64) i12_8 i12_9 i12_10 q15 (TkX.ps i12_18 (v_2b02420001 i12_19)) rfl hk55) rfl rfl rfl (Nat.le_of_ble_eq_true rfl) ⟨(Nat.le_of_ble_eq_true rfl), (Nat.le_of_ble_eq_true rfl)⟩ ⟨(Nat.le_of_ble_eq_true rfl), (Nat.le_of_ble_eq_true rfl)⟩ (fun r h9 hp => ?_)
              obtain ⟨z65, z66, z67, z68, rfl, rfl, h69, h70, h71, h72, h73, h74, h75, h76, h77⟩ := hp
              refine J_nf (nh2 := nh) (ck2 := 0) (sk2 := 0) (st2 := []) rfl rfl rfl rfl ?_
              refine J_app (L3 := [(54, .inr (5, [.ref 55, .int (zI ln), .int (zI z65), .int (zI z66), .int (zI z67), .int (zI z68), .int (zI px_12), .int (zI fl), .ref 56, .int (zI zx_12)])), (54, .inr (5, [.ref 55, .int (zI ln), .int (zI tx_12), .int (zI sx_12), .int (zI bx_12), .int (zI vx_12), .int (zI px_12), .int (zI fl), .ref 56, .int (zI zx_12)])), (56, .inl (0, 412, .inl (zA cx_12)))]) rfl ?_
              refine J_mask (L2 := [(54, .inr (5, [.ref 55, .int (zI ln), .int (zI z65), .int (zI z66), .int (zI z67), .int (zI z68), .int (zI px_12), .int (zI fl), .ref 56, .int (zI zx_12)])), (56, .inl (0, 412, .inl (zA cx_12)))]) (ks := [54, 54, 56]) [true, false, true] rfl (by decide +kernel) rfl ?_
              refine J_aload_n dX5_term_56 rfl rfl ?_
              refine J_iload_n dX5_term_57 rfl rfl ?_
              refine J_callV (st := []) dX5_term_58 cv_X5_92 (d_part8 ln z65 z66 z67 z68 px_12 fl zx_12 tp cx_12 (ti_12 + 1) q0 q1 h69 h70 (v_9b2e2070a2 i12_6 g64 h71) h72 h73 h74 h75 i12_15 i12_16 q11 i12_13 i12_14 h76 q15 i12_12 h77 (v_da458fa48a i12_19) (v_af03d664b0 q19 i12_2 g64 h71) rfl hk55 rfl) rfl rfl rfl (Nat.le_of_ble_eq_true rfl) ⟨(Nat.le_of_ble_eq_true rfl), (Nat.le_of_ble_eq_true rfl)⟩ ⟨(Nat.le_of_ble_eq_true rfl), (Nat.le_of_ble_eq_true rfl)⟩ (fun r h9 hp => ?_)
              rcases hp with ⟨z78, z79, z80, z81, z82, z83, f84, z85, rfl, rfl, h86, h87, h88, h89, h90, h91, h92, h93, h94, h95, h96, h97, h98, h99, h100, h101, h102, h103, h104, h105⟩ | ⟨z106, z107, z108, z109, z110, z111, f112, z113, z114, rfl, rfl, h115, h116, h117, h118, h119, h120, h121, h122, h123, h124, h125, h126, h127, h128, h129, h130, h131⟩
              · refine J_nf (nh2 := nh) (ck2 := 0) (sk2 := 0) (st2 := [.int (zI 1)]) rfl rfl rfl rfl ?_
                refine J_app (L3 := [(54, .inr (5, [.ref 55, .int (zI ln), .int (zI z78), .int (zI z79), .int (zI z80), .int (zI z81), .int (zI z82), .int (zI fl), .ref 56, .int (zI z83)])), (56, .inl (0, 412, .inl (zA f84))), (54, .inr (5, [.ref 55, .int (zI ln), .int (zI z65), .int (zI z66), .int (zI z67), .int (zI z68), .int (zI px_12), .int (zI fl), .ref 56, .int (zI zx_12)])), (56, .inl (0, 412, .inl (zA cx_12)))]) rfl ?_
                refine J_mask (L2 := [(54, .inr (5, [.ref 55, .int (zI ln), .int (zI z78), .int (zI z79), .int (zI z80), .int (zI z81), .int (zI z82), .int (zI fl), .ref 56, .int (zI z83)])), (56, .inl (0, 412, .inl (zA f84)))]) (ks := [54, 56, 54, 56]) [true, true, false, false] rfl (by decide +kernel) rfl ?_
                refine Z_if_ne (tgt := 66) dX5_term_61 (by decide) v_4dcc24baa7 (fun h132 => ?_) (fun h132 => absurd h132 v_3a47bfd896)
                refine J_aload_n dX5_term_66 rfl rfl ?_
                refine J_iload_n dX5_term_67 rfl rfl ?_
                refine Z_iconst (n := 0) dX5_term_68 ?_
                refine J_callV (st := []) dX5_term_69 cv_X5_72 (d_emit 4 0 ln z78 z79 z80 z81 z82 fl z83 f84 v_ffb526fa28 v_b17331891f v_92ab544b5f v_16ac910ca9 v_939070ca3f v_e30af74f14 h95 (v_5f3cf32d7f q1 q19 i12_2 g64 h71 h89 h90 h99) h98 rfl rfl) rfl rfl rfl (Nat.le_of_ble_eq_true rfl) ⟨(Nat.le_of_ble_eq_true rfl), (Nat.le_of_ble_eq_true rfl)⟩ ⟨(Nat.le_of_ble_eq_true rfl), (Nat.le_of_ble_eq_true rfl)⟩ (fun r h9 hp => ?_)
                obtain ⟨f133, z134, rfl, rfl, h135, h136, h137, h138⟩ := hp
                refine J_nf (nh2 := nh) (ck2 := 0) (sk2 := 0) (st2 := [.int (zI z83)]) rfl rfl rfl rfl ?_
                refine J_app (L3 := [(54, .inr (5, [.ref 55, .int (zI ln), .int (zI z78), .int (zI z79), .int (zI z80), .int (zI z81), .int (zI z82), .int (zI fl), .ref 56, .int (zI (z83 + 1))])), (56, .inl (0, 412, .inl (zA f133))), (54, .inr (5, [.ref 55, .int (zI ln), .int (zI z78), .int (zI z79), .int (zI z80), .int (zI z81), .int (zI z82), .int (zI fl), .ref 56, .int (zI z83)])), (56, .inl (0, 412, .inl (zA f84)))]) (by first | rfl | (simp only [Int.add_assoc]; rfl)) ?_
                refine J_mask (L2 := [(54, .inr (5, [.ref 55, .int (zI ln), .int (zI z78), .int (zI z79), .int (zI z80), .int (zI z81), .int (zI z82), .int (zI fl), .ref 56, .int (zI (z83 + 1))])), (56, .inl (0, 412, .inl (zA f133)))]) (ks := [54, 56, 54, 56]) [true, true, false, false] rfl (by decide +kernel) rfl ?_
                refine J_pop dX5_term_72 rfl ?_
                refine Z_iinc (c := i_12 + 1) (ls2 := [some (.ref 54), some (.int (zI 8)), some (.int (zI (i_12 + 1))), some (.int (zI 4))]) dX5_term_73 rfl (Nat.le_of_ble_eq_true rfl) rfl rfl rfl ?_
                refine J_goto (tgt := 12) dX5_term_76 (by decide) ?_
                refine J_drop (ls2 := [some (.ref 54), some (.int (zI 8)), some (.int (zI (i_12 + 1))), none]) [true, true, true, false] rfl ?_
                exact ih12 (i_12 + 1) z78 z79 z80 z81 z82 (z83 + 1) f133 z85 (v_da458fa48a i12_0) (v_6924477667 h56) (v_1510084784 i12_2 g64 h71 h99) (v_269579bf42 i12_3 g64 h71 h100) h86 h87 h88 h89 h90 h91 h92 h97 h137 (v_da458fa48a h95) (v_59a7519d35 q1 q19 i12_2 g64 h71 h89 h90 h99) h93 h94 (v_974edc800f i12_17 g64 h71 h100) h101 h102 (SeP.add i12_20 (Or.inl ((TkX.sg i12_18 (v := 142) (by decide)).mpr (v_1500549be1 h58))) h103) (v_8fadc7eb76 i12_21 h104) (SgP.ar i12_22 (Or.inl ((TkX.sg i12_18 (v := 142) (by decide)).mpr (v_1500549be1 h58))) h105 h135 h136 (Or.inr (Or.inr (Or.inl ⟨rfl, ((TkX.sg i12_18 (v := 142) (by decide)).mpr (v_1500549be1 h58))⟩)))) (meas_lt v_ceb2ed6d2b (v_44ddc35e90 h56) hm12)
              · refine J_nf (nh2 := nh) (ck2 := 0) (sk2 := 0) (st2 := [.int (zI 0)]) rfl rfl rfl rfl ?_
                refine J_app (L3 := [(54, .inr (5, [.ref 55, .int (zI ln), .int (zI z106), .int (zI z107), .int (zI z108), .int (zI z109), .int (zI z110), .int (zI z113), .ref 56, .int (zI z111)])), (56, .inl (0, 412, .inl (zA f112))), (54, .inr (5, [.ref 55, .int (zI ln), .int (zI z65), .int (zI z66), .int (zI z67), .int (zI z68), .int (zI px_12), .int (zI fl), .ref 56, .int (zI zx_12)])), (56, .inl (0, 412, .inl (zA cx_12)))]) rfl ?_
                refine J_mask (L2 := [(54, .inr (5, [.ref 55, .int (zI ln), .int (zI z106), .int (zI z107), .int (zI z108), .int (zI z109), .int (zI z110), .int (zI z113), .ref 56, .int (zI z111)])), (56, .inl (0, 412, .inl (zA f112)))]) (ks := [54, 56, 54, 56]) [true, true, false, false] rfl (by decide +kernel) rfl ?_
                refine Z_if_ne (tgt := 66) dX5_term_61 (by decide) v_b17331891f (fun h139 => absurd h139 (fun q => q v_2ca2bbca1f)) (fun h139 => ?_)
                refine Z_iconst (n := 0) dX5_term_64 ?_
                exact J_iret dX5_term_65 rfl (jbn v_939070ca3f v_316afd7d0b) (Nat.le_of_ble_eq_true rfl) (Nat.le_of_ble_eq_true rfl) (Or.inr ⟨z106, z107, z108, z109, z110, z111, f112, z113, z114, rfl, rfl, h115, h116, h117, h118, h119, h120, h121, h122, h123, h124, h125, h126, h127, h128, h129, (h130), (SeP.bad i12_20 (Or.inl ((TkX.sg i12_18 (v := 142) (by decide)).mpr (v_1500549be1 h58))) h131)⟩)
            · exact False.elim (v_dc1247e06b h58 h62)
          · refine J_nf (nh2 := nh) (ck2 := 0) (sk2 := 0) (st2 := [.int (zI 0)]) rfl rfl rfl rfl ?_
            refine Z_if_ne (tgt := 37) dX5_term_25 (by decide) v_b17331891f (fun h140 => absurd h140 (fun q => q v_2ca2bbca1f)) (fun h140 => ?_)
            refine J_aload_n dX5_term_28 rfl rfl ?_
            refine Z_bipush (n := 47) dX5_term_29 (by decide +kernel) ?_
            refine J_callV (st := []) dX5_term_31 cv_X5_50 (d_isSign 47 ln tx_12 sx_12 bx_12 vx_12 px_12 fl zx_12 v_a2835897db v_8710bb8462 i12_4 i12_5 rfl) rfl rfl rfl (Nat.le_of_ble_eq_true rfl) ⟨(Nat.le_of_ble_eq_true rfl), (Nat.le_of_ble_eq_true rfl)⟩ ⟨(Nat.le_of_ble_eq_true rfl), (Nat.le_of_ble_eq_true rfl)⟩ (fun r h9 hp => ?_)
            rcases hp with ⟨rfl, rfl, h141⟩ | ⟨rfl, rfl, h142⟩
            · refine J_nf (nh2 := nh) (ck2 := 0) (sk2 := 0) (st2 := [.int (zI 1)]) rfl rfl rfl rfl ?_
              refine Z_if_eq (tgt := 79) dX5_term_34 (by decide) v_4dcc24baa7 (fun h143 => absurd h143 v_3a47bfd896) (fun h143 => ?_)
              refine J_aload_n dX5_term_37 rfl rfl ?_
              refine Z_bipush (n := 42) dX5_term_38 (by decide +kernel) ?_
              refine J_callV (st := []) dX5_term_40 cv_X5_50 (d_isSign 42 ln tx_12 sx_12 bx_12 vx_12 px_12 fl zx_12 v_19b0ad2cd1 v_1f79c0c2c4 i12_4 i12_5 rfl) rfl rfl rfl (Nat.le_of_ble_eq_true rfl) ⟨(Nat.le_of_ble_eq_true rfl), (Nat.le_of_ble_eq_true rfl)⟩ ⟨(Nat.le_of_ble_eq_true rfl), (Nat.le_of_ble_eq_true rfl)⟩ (fun r h9 hp => ?_)
              rcases hp with ⟨rfl, rfl, h144⟩ | ⟨rfl, rfl, h145⟩
              · exact False.elim (v_4c7f0d169f h141 h144)
              · refine J_nf (nh2 := nh) (ck2 := 0) (sk2 := 0) (st2 := [.int (zI 0)]) rfl rfl rfl rfl ?_
                refine Z_if_eq (tgt := 50) dX5_term_43 (by decide) v_b17331891f (fun h146 => ?_) (fun h146 => absurd h146 (fun q => q v_2ca2bbca1f))
                refine Z_iconst (n := 5) dX5_term_50 ?_
                refine J_istore_n dX5_term_51 rfl (Nat.le_of_ble_eq_true rfl) rfl ?_
                refine J_ls (ls2 := [some (.ref 54), some (.int (zI 8)), some (.int (zI i_12)), some (.int (zI 5))]) rfl ?_
                refine J_aload_n dX5_term_52 rfl rfl ?_
                have g147 := TokL.lt i12_11 (v_6abada17c7 h141)
                refine J_callV (st := []) dX5_term_53 cv_X5_43 (d_advance (ti_12 + 1) ln tx_12 sx_12 bx_12 vx_12 px_12 fl zx_12 tp q0 q1 (v_d253cb2c59 i12_6 g147) i12_8 i12_9 i12_10 q15 (TkX.ps i12_18 (v_2b02420001 i12_19)) rfl hk55) rfl rfl rfl (Nat.le_of_ble_eq_true rfl) ⟨(Nat.le_of_ble_eq_true rfl), (Nat.le_of_ble_eq_true rfl)⟩ ⟨(Nat.le_of_ble_eq_true rfl), (Nat.le_of_ble_eq_true rfl)⟩ (fun r h9 hp => ?_)
                obtain ⟨z148, z149, z150, z151, rfl, rfl, h152, h153, h154, h155, h156, h157, h158, h159, h160⟩ := hp
                refine J_nf (nh2 := nh) (ck2 := 0) (sk2 := 0) (st2 := []) rfl rfl rfl rfl ?_
                refine J_app (L3 := [(54, .inr (5, [.ref 55, .int (zI ln), .int (zI z148), .int (zI z149), .int (zI z150), .int (zI z151), .int (zI px_12), .int (zI fl), .ref 56, .int (zI zx_12)])), (54, .inr (5, [.ref 55, .int (zI ln), .int (zI tx_12), .int (zI sx_12), .int (zI bx_12), .int (zI vx_12), .int (zI px_12), .int (zI fl), .ref 56, .int (zI zx_12)])), (56, .inl (0, 412, .inl (zA cx_12)))]) rfl ?_
                refine J_mask (L2 := [(54, .inr (5, [.ref 55, .int (zI ln), .int (zI z148), .int (zI z149), .int (zI z150), .int (zI z151), .int (zI px_12), .int (zI fl), .ref 56, .int (zI zx_12)])), (56, .inl (0, 412, .inl (zA cx_12)))]) (ks := [54, 54, 56]) [true, false, true] rfl (by decide +kernel) rfl ?_
                refine J_aload_n dX5_term_56 rfl rfl ?_
                refine J_iload_n dX5_term_57 rfl rfl ?_
                refine J_callV (st := []) dX5_term_58 cv_X5_92 (d_part8 ln z148 z149 z150 z151 px_12 fl zx_12 tp cx_12 (ti_12 + 1) q0 q1 h152 h153 (v_9b2e2070a2 i12_6 g147 h154) h155 h156 h157 h158 i12_15 i12_16 q11 i12_13 i12_14 h159 q15 i12_12 h160 (v_da458fa48a i12_19) (v_af03d664b0 q19 i12_2 g147 h154) rfl hk55 rfl) rfl rfl rfl (Nat.le_of_ble_eq_true rfl) ⟨(Nat.le_of_ble_eq_true rfl), (Nat.le_of_ble_eq_true rfl)⟩ ⟨(Nat.le_of_ble_eq_true rfl), (Nat.le_of_ble_eq_true rfl)⟩ (fun r h9 hp => ?_)
                rcases hp with ⟨z161, z162, z163, z164, z165, z166, f167, z168, rfl, rfl, h169, h170, h171, h172, h173, h174, h175, h176, h177, h178, h179, h180, h181, h182, h183, h184, h185, h186, h187, h188⟩ | ⟨z189, z190, z191, z192, z193, z194, f195, z196, z197, rfl, rfl, h198, h199, h200, h201, h202, h203, h204, h205, h206, h207, h208, h209, h210, h211, h212, h213, h214⟩
                · refine J_nf (nh2 := nh) (ck2 := 0) (sk2 := 0) (st2 := [.int (zI 1)]) rfl rfl rfl rfl ?_
                  refine J_app (L3 := [(54, .inr (5, [.ref 55, .int (zI ln), .int (zI z161), .int (zI z162), .int (zI z163), .int (zI z164), .int (zI z165), .int (zI fl), .ref 56, .int (zI z166)])), (56, .inl (0, 412, .inl (zA f167))), (54, .inr (5, [.ref 55, .int (zI ln), .int (zI z148), .int (zI z149), .int (zI z150), .int (zI z151), .int (zI px_12), .int (zI fl), .ref 56, .int (zI zx_12)])), (56, .inl (0, 412, .inl (zA cx_12)))]) rfl ?_
                  refine J_mask (L2 := [(54, .inr (5, [.ref 55, .int (zI ln), .int (zI z161), .int (zI z162), .int (zI z163), .int (zI z164), .int (zI z165), .int (zI fl), .ref 56, .int (zI z166)])), (56, .inl (0, 412, .inl (zA f167)))]) (ks := [54, 56, 54, 56]) [true, true, false, false] rfl (by decide +kernel) rfl ?_
                  refine Z_if_ne (tgt := 66) dX5_term_61 (by decide) v_4dcc24baa7 (fun h215 => ?_) (fun h215 => absurd h215 v_3a47bfd896)
                  refine J_aload_n dX5_term_66 rfl rfl ?_
                  refine J_iload_n dX5_term_67 rfl rfl ?_
                  refine Z_iconst (n := 0) dX5_term_68 ?_
                  refine J_callV (st := []) dX5_term_69 cv_X5_72 (d_emit 5 0 ln z161 z162 z163 z164 z165 fl z166 f167 v_3961fe0d0d v_b17331891f v_17fcbbe8da v_7b748cefa3 v_939070ca3f v_e30af74f14 h178 (v_5f3cf32d7f q1 q19 i12_2 g147 h154 h172 h173 h182) h181 rfl rfl) rfl rfl rfl (Nat.le_of_ble_eq_true rfl) ⟨(Nat.le_of_ble_eq_true rfl), (Nat.le_of_ble_eq_true rfl)⟩ ⟨(Nat.le_of_ble_eq_true rfl), (Nat.le_of_ble_eq_true rfl)⟩ (fun r h9 hp => ?_)
                  obtain ⟨f216, z217, rfl, rfl, h218, h219, h220, h221⟩ := hp
                  refine J_nf (nh2 := nh) (ck2 := 0) (sk2 := 0) (st2 := [.int (zI z166)]) rfl rfl rfl rfl ?_
                  refine J_app (L3 := [(54, .inr (5, [.ref 55, .int (zI ln), .int (zI z161), .int (zI z162), .int (zI z163), .int (zI z164), .int (zI z165), .int (zI fl), .ref 56, .int (zI (z166 + 1))])), (56, .inl (0, 412, .inl (zA f216))), (54, .inr (5, [.ref 55, .int (zI ln), .int (zI z161), .int (zI z162), .int (zI z163), .int (zI z164), .int (zI z165), .int (zI fl), .ref 56, .int (zI z166)])), (56, .inl (0, 412, .inl (zA f167)))]) (by first | rfl | (simp only [Int.add_assoc]; rfl)) ?_
                  refine J_mask (L2 := [(54, .inr (5, [.ref 55, .int (zI ln), .int (zI z161), .int (zI z162), .int (zI z163), .int (zI z164), .int (zI z165), .int (zI fl), .ref 56, .int (zI (z166 + 1))])), (56, .inl (0, 412, .inl (zA f216)))]) (ks := [54, 56, 54, 56]) [true, true, false, false] rfl (by decide +kernel) rfl ?_
                  refine J_pop dX5_term_72 rfl ?_
                  refine Z_iinc (c := i_12 + 1) (ls2 := [some (.ref 54), some (.int (zI 8)), some (.int (zI (i_12 + 1))), some (.int (zI 5))]) dX5_term_73 rfl (Nat.le_of_ble_eq_true rfl) rfl rfl rfl ?_
                  refine J_goto (tgt := 12) dX5_term_76 (by decide) ?_
                  refine J_drop (ls2 := [some (.ref 54), some (.int (zI 8)), some (.int (zI (i_12 + 1))), none]) [true, true, true, false] rfl ?_
                  exact ih12 (i_12 + 1) z161 z162 z163 z164 z165 (z166 + 1) f216 z168 (v_da458fa48a i12_0) (v_6924477667 h56) (v_1510084784 i12_2 g147 h154 h182) (v_269579bf42 i12_3 g147 h154 h183) h169 h170 h171 h172 h173 h174 h175 h180 h220 (v_da458fa48a h178) (v_59a7519d35 q1 q19 i12_2 g147 h154 h172 h173 h182) h176 h177 (v_974edc800f i12_17 g147 h154 h183) h184 h185 (SeP.add i12_20 (Or.inr ((TkX.sg i12_18 (v := 147) (by decide)).mpr (v_963e78d969 h141))) h186) (v_8fadc7eb76 i12_21 h187) (SgP.ar i12_22 (Or.inr ((TkX.sg i12_18 (v := 147) (by decide)).mpr (v_963e78d969 h141))) h188 h218 h219 (Or.inr (Or.inr (Or.inr ⟨rfl, ((TkX.sg i12_18 (v := 147) (by decide)).mpr (v_963e78d969 h141))⟩)))) (meas_lt v_ceb2ed6d2b (v_44ddc35e90 h56) hm12)
                · refine J_nf (nh2 := nh) (ck2 := 0) (sk2 := 0) (st2 := [.int (zI 0)]) rfl rfl rfl rfl ?_
                  refine J_app (L3 := [(54, .inr (5, [.ref 55, .int (zI ln), .int (zI z189), .int (zI z190), .int (zI z191), .int (zI z192), .int (zI z193), .int (zI z196), .ref 56, .int (zI z194)])), (56, .inl (0, 412, .inl (zA f195))), (54, .inr (5, [.ref 55, .int (zI ln), .int (zI z148), .int (zI z149), .int (zI z150), .int (zI z151), .int (zI px_12), .int (zI fl), .ref 56, .int (zI zx_12)])), (56, .inl (0, 412, .inl (zA cx_12)))]) rfl ?_
                  refine J_mask (L2 := [(54, .inr (5, [.ref 55, .int (zI ln), .int (zI z189), .int (zI z190), .int (zI z191), .int (zI z192), .int (zI z193), .int (zI z196), .ref 56, .int (zI z194)])), (56, .inl (0, 412, .inl (zA f195)))]) (ks := [54, 56, 54, 56]) [true, true, false, false] rfl (by decide +kernel) rfl ?_
                  refine Z_if_ne (tgt := 66) dX5_term_61 (by decide) v_b17331891f (fun h222 => absurd h222 (fun q => q v_2ca2bbca1f)) (fun h222 => ?_)
                  refine Z_iconst (n := 0) dX5_term_64 ?_
                  exact J_iret dX5_term_65 rfl (jbn v_939070ca3f v_316afd7d0b) (Nat.le_of_ble_eq_true rfl) (Nat.le_of_ble_eq_true rfl) (Or.inr ⟨z189, z190, z191, z192, z193, z194, f195, z196, z197, rfl, rfl, h198, h199, h200, h201, h202, h203, h204, h205, h206, h207, h208, h209, h210, h211, h212, (h213), (SeP.bad i12_20 (Or.inr ((TkX.sg i12_18 (v := 147) (by decide)).mpr (v_963e78d969 h141))) h214)⟩)
            · refine J_nf (nh2 := nh) (ck2 := 0) (sk2 := 0) (st2 := [.int (zI 0)]) rfl rfl rfl rfl ?_
              refine Z_if_eq (tgt := 79) dX5_term_34 (by decide) v_b17331891f (fun h223 => ?_) (fun h223 => absurd h223 (fun q => q v_2ca2bbca1f))
              refine Z_iconst (n := 1) dX5_term_79 ?_
              exact J_iret dX5_term_80 rfl (jbn v_316afd7d0b v_bbcfac9b7d) (Nat.le_of_ble_eq_true rfl) (Nat.le_of_ble_eq_true rfl) (Or.inl ⟨tx_12, sx_12, bx_12, vx_12, px_12, zx_12, cx_12, ti_12, rfl, rfl, i12_4, i12_5, i12_6, i12_7, i12_8, i12_9, i12_10, i12_15, i12_16, i12_13, i12_14, i12_11, i12_12, i12_2, i12_3, i12_18, i12_19, (SeP.end i12_20 (fun w => Or.elim w (fun w => absurd ((TkX.sg i12_18 (v := 142) (by decide)).mp w) (v_bfc3241138 h59)) (fun w => absurd ((TkX.sg i12_18 (v := 147) (by decide)).mp w) (v_446b74d554 h142)))), i12_21, (SgP.end i12_22 (fun w => Or.elim w (fun w => absurd ((TkX.sg i12_18 (v := 142) (by decide)).mp w) (v_bfc3241138 h59)) (fun w => absurd ((TkX.sg i12_18 (v := 147) (by decide)).mp w) (v_446b74d554 h142))))⟩)
    exact lp12 _ 0 z1 z2 z3 z4 z5 z6 f7 z8 v_939070ca3f v_5ab96f7b5e h22 h23 h9 h10 h11 h12 h13 h14 h15 h20 h21 h18 h19 h16 h17 (v_3c1faf939c h23) h24 h25 (SeP.one h26) h27 (SgP.one h28) (Nat.lt_succ_self _)
  · refine J_nf (nh2 := nh) (ck2 := 0) (sk2 := 0) (st2 := [.int (zI 0)]) rfl rfl rfl rfl ?_
    refine J_app (L3 := [(54, .inr (5, [.ref 55, .int (zI ln), .int (zI z29), .int (zI z30), .int (zI z31), .int (zI z32), .int (zI z33), .int (zI z36), .ref 56, .int (zI z34)])), (56, .inl (0, 412, .inl (zA f35)))]) rfl ?_
    refine Z_if_ne (tgt := 10) dX5_term_5 (by decide) v_b17331891f (fun h224 => absurd h224 (fun q => q v_2ca2bbca1f)) (fun h224 => ?_)
    refine Z_iconst (n := 0) dX5_term_8 ?_
    exact J_iret dX5_term_9 rfl (jbn v_939070ca3f v_316afd7d0b) (Nat.le_of_ble_eq_true rfl) (Nat.le_of_ble_eq_true rfl) (Or.inr ⟨z29, z30, z31, z32, z33, z34, f35, z36, z37, rfl, rfl, h38, h39, h40, h41, h42, h43, h44, h45, h46, h47, h48, h49, h50, h51, h52, (h53), (SeR.b h54)⟩)
set_option maxHeartbeats 4000000 in
set_option maxRecDepth 100000 in
theorem d_sum8 {l : Launch} {G : jG} {nh : Nat} {fh : Nat → Option va_E} (ln : Int) (tk : Int) (st : Int) (bh : Int) (va : Int) (pa : Int) (fl : Int) (sz : Int) (tp : Int → Int) (cd : Int → Int) (ti : Int) (q0 : 0 ≤ ln) (q1 : ln ≤ 400) (q2 : 0 ≤ tk) (q3 : tk ≤ 355) (q4 : 0 ≤ st) (q5 : st ≤ bh) (q6 : bh ≤ ln) (q7 : 0 ≤ va) (q8 : va ≤ 1001) (q9 : 0 ≤ pa) (q10 : pa ≤ 50) (q11 : zr fl) (q12 : 0 ≤ sz) (q13 : sz ≤ 412) (q14 : TokL tk st bh) (q15 : Rg tp 400 0 255) (q16 : Rg cd 412 (-2147483648) 2147483647) (q17 : TkX tp ln ti tk st bh va) (q18 : 0 ≤ ti) (q19 : sz ≤ st + 1) (hk54 : fh 54 = some (.inr (5, [.ref 55, .int (zI ln), .int (zI tk), .int (zI st), .int (zI bh), .int (zI va), .int (zI pa), .int (zI fl), .ref 56, .int (zI sz)]))) (hk55 : fh 55 = some (.inl (0, 400, .inl (zA tp)))) (hk56 : fh 56 = some (.inl (0, 412, .inl (zA cd)))) : JM l G yX5_sum MX5_sum { frames := 8, cells := 0, slots := 0, locals := 176 } [.ref 54, .int (zI 8)] (nh, fh) (fun rr h9 => (∃ tk2 : Int, ∃ st2 : Int, ∃ bh2 : Int, ∃ va2 : Int, ∃ pa2 : Int, ∃ sz2 : Int, ∃ cd2 : Int → Int, ∃ ti2 : Int, rr = some (.int (zI 1)) ∧ h9 = (nh, hc fh [(54, .inr (5, [.ref 55, .int (zI ln), .int (zI tk2), .int (zI st2), .int (zI bh2), .int (zI va2), .int (zI pa2), .int (zI fl), .ref 56, .int (zI sz2)])), (56, .inl (0, 412, .inl (zA cd2)))]) ∧ (0 ≤ tk2) ∧ (tk2 ≤ 355) ∧ (0 ≤ st2) ∧ (st2 ≤ bh2) ∧ (bh2 ≤ ln) ∧ (0 ≤ va2) ∧ (va2 ≤ 1001) ∧ (0 ≤ pa2) ∧ (pa2 ≤ 50) ∧ (0 ≤ sz2) ∧ (sz2 ≤ 412) ∧ (TokL tk2 st2 bh2) ∧ (Rg cd2 412 (-2147483648) 2147483647) ∧ (sz2 + st ≤ sz + st2) ∧ (st ≤ st2) ∧ (TkX tp ln ti2 tk2 st2 bh2 va2) ∧ (0 ≤ ti2) ∧ (SmR (CTk tp ln) (LF tp ln) 0 ti pa 1 ti2 pa2) ∧ (pa ≤ pa2) ∧ (SgS (SmD (CTk tp ln) (VT tp ln) 0) cd cd2 ti ti2 sz sz2 pa pa2)) ∨ (∃ tk2 : Int, ∃ st2 : Int, ∃ bh2 : Int, ∃ va2 : Int, ∃ pa2 : Int, ∃ sz2 : Int, ∃ cd2 : Int → Int, ∃ fl2 : Int, ∃ ti2 : Int, rr = some (.int (zI 0)) ∧ h9 = (nh, hc fh [(54, .inr (5, [.ref 55, .int (zI ln), .int (zI tk2), .int (zI st2), .int (zI bh2), .int (zI va2), .int (zI pa2), .int (zI fl2), .ref 56, .int (zI sz2)])), (56, .inl (0, 412, .inl (zA cd2)))]) ∧ (0 ≤ tk2) ∧ (tk2 ≤ 355) ∧ (0 ≤ st2) ∧ (st2 ≤ bh2) ∧ (bh2 ≤ ln) ∧ (0 ≤ va2) ∧ (va2 ≤ 1001) ∧ (0 ≤ pa2) ∧ (pa2 ≤ 50) ∧ (0 ≤ sz2) ∧ (sz2 ≤ 412) ∧ (TokL tk2 st2 bh2) ∧ (Rg cd2 412 (-2147483648) 2147483647) ∧ (0 ≤ fl2) ∧ (fl2 ≤ 400) ∧ (FlX tp ln ti2 fl2) ∧ (SmR (CTk tp ln) (LF tp ln) 0 ti pa 0 ti2 0))) := by
  refine JM.of (by decide) rfl (fun h => by cases h) (Nat.le_of_ble_eq_true rfl) ⟨2, rfl⟩ ?_
  refine J_hc0 (J_ls (ls2 := [some (.ref 54), some (.int (zI 8)), none, none]) rfl ?_)
  refine J_aload_n dX5_sum_0 rfl rfl ?_
  refine J_iload_n dX5_sum_1 rfl rfl ?_
  refine J_callV (st := []) dX5_sum_2 cv_X5_89 (d_term8 ln tk st bh va pa fl sz tp cd ti q0 q1 q2 q3 q4 q5 q6 q7 q8 q9 q10 q11 q12 q13 q14 q15 q16 q17 q18 q19 hk54 hk55 hk56) hk54 rfl rfl (Nat.le_of_ble_eq_true rfl) ⟨(Nat.le_of_ble_eq_true rfl), (Nat.le_of_ble_eq_true rfl)⟩ ⟨(Nat.le_of_ble_eq_true rfl), (Nat.le_of_ble_eq_true rfl)⟩ (fun r h9 hp => ?_)
  rcases hp with ⟨z1, z2, z3, z4, z5, z6, f7, z8, rfl, rfl, h9, h10, h11, h12, h13, h14, h15, h16, h17, h18, h19, h20, h21, h22, h23, h24, h25, h26, h27, h28⟩ | ⟨z29, z30, z31, z32, z33, z34, f35, z36, z37, rfl, rfl, h38, h39, h40, h41, h42, h43, h44, h45, h46, h47, h48, h49, h50, h51, h52, h53, h54⟩
  · refine J_nf (nh2 := nh) (ck2 := 0) (sk2 := 0) (st2 := [.int (zI 1)]) rfl rfl rfl rfl ?_
    refine J_app (L3 := [(54, .inr (5, [.ref 55, .int (zI ln), .int (zI z1), .int (zI z2), .int (zI z3), .int (zI z4), .int (zI z5), .int (zI fl), .ref 56, .int (zI z6)])), (56, .inl (0, 412, .inl (zA f7)))]) rfl ?_
    refine Z_if_ne (tgt := 10) dX5_sum_5 (by decide) v_4dcc24baa7 (fun h55 => ?_) (fun h55 => absurd h55 v_3a47bfd896)
    refine Z_iconst (n := 0) dX5_sum_10 ?_
    refine J_istore_n dX5_sum_11 rfl (Nat.le_of_ble_eq_true rfl) rfl ?_
    refine J_ls (ls2 := [some (.ref 54), some (.int (zI 8)), some (.int (zI 0)), none]) rfl ?_
    have lp12 : ∀ (N12 : Nat) (i_12 : Int) (tx_12 : Int) (sx_12 : Int) (bx_12 : Int) (vx_12 : Int) (px_12 : Int) (zx_12 : Int) (cx_12 : Int → Int) (ti_12 : Int), (0 ≤ i_12) → (i_12 ≤ 400) → (zx_12 + st ≤ sz + sx_12) → (st ≤ sx_12) → (0 ≤ tx_12) → (tx_12 ≤ 355) → (0 ≤ sx_12) → (sx_12 ≤ bx_12) → (bx_12 ≤ ln) → (0 ≤ vx_12) → (vx_12 ≤ 1001) → (TokL tx_12 sx_12 bx_12) → (Rg cx_12 412 (-2147483648) 2147483647) → (0 ≤ zx_12) → (zx_12 ≤ 412) → (0 ≤ px_12) → (px_12 ≤ 50) → (st + i_12 ≤ sx_12) → (TkX tp ln ti_12 tx_12 sx_12 bx_12 vx_12) → (0 ≤ ti_12) → (SeP (TmR (CTk tp ln) (LF tp ln) 0) opA (CTk tp ln) ti pa ti_12 px_12) → (pa ≤ px_12) → (SgP (TmD (CTk tp ln) (VT tp ln) 0) opA arC (CTk tp ln) cd cx_12 ti sz pa ti_12 zx_12 px_12) → (400 - i_12).toNat < N12 → J l G MX5_sum { frames := 8, cells := 0, slots := 0, locals := 176 } jE (jMQ G { frames := 8, cells := 0, slots := 0, locals := 176 } (fun rr h9 => (∃ tk2 : Int, ∃ st2 : Int, ∃ bh2 : Int, ∃ va2 : Int, ∃ pa2 : Int, ∃ sz2 : Int, ∃ cd2 : Int → Int, ∃ ti2 : Int, rr = some (.int (zI 1)) ∧ h9 = (nh, hc fh [(54, .inr (5, [.ref 55, .int (zI ln), .int (zI tk2), .int (zI st2), .int (zI bh2), .int (zI va2), .int (zI pa2), .int (zI fl), .ref 56, .int (zI sz2)])), (56, .inl (0, 412, .inl (zA cd2)))]) ∧ (0 ≤ tk2) ∧ (tk2 ≤ 355) ∧ (0 ≤ st2) ∧ (st2 ≤ bh2) ∧ (bh2 ≤ ln) ∧ (0 ≤ va2) ∧ (va2 ≤ 1001) ∧ (0 ≤ pa2) ∧ (pa2 ≤ 50) ∧ (0 ≤ sz2) ∧ (sz2 ≤ 412) ∧ (TokL tk2 st2 bh2) ∧ (Rg cd2 412 (-2147483648) 2147483647) ∧ (sz2 + st ≤ sz + st2) ∧ (st ≤ st2) ∧ (TkX tp ln ti2 tk2 st2 bh2 va2) ∧ (0 ≤ ti2) ∧ (SmR (CTk tp ln) (LF tp ln) 0 ti pa 1 ti2 pa2) ∧ (pa ≤ pa2) ∧ (SgS (SmD (CTk tp ln) (VT tp ln) 0) cd cd2 ti ti2 sz sz2 pa pa2)) ∨ (∃ tk2 : Int, ∃ st2 : Int, ∃ bh2 : Int, ∃ va2 : Int, ∃ pa2 : Int, ∃ sz2 : Int, ∃ cd2 : Int → Int, ∃ fl2 : Int, ∃ ti2 : Int, rr = some (.int (zI 0)) ∧ h9 = (nh, hc fh [(54, .inr (5, [.ref 55, .int (zI ln), .int (zI tk2), .int (zI st2), .int (zI bh2), .int (zI va2), .int (zI pa2), .int (zI fl2), .ref 56, .int (zI sz2)])), (56, .inl (0, 412, .inl (zA cd2)))]) ∧ (0 ≤ tk2) ∧ (tk2 ≤ 355) ∧ (0 ≤ st2) ∧ (st2 ≤ bh2) ∧ (bh2 ≤ ln) ∧ (0 ≤ va2) ∧ (va2 ≤ 1001) ∧ (0 ≤ pa2) ∧ (pa2 ≤ 50) ∧ (0 ≤ sz2) ∧ (sz2 ≤ 412) ∧ (TokL tk2 st2 bh2) ∧ (Rg cd2 412 (-2147483648) 2147483647) ∧ (0 ≤ fl2) ∧ (fl2 ≤ 400) ∧ (FlX tp ln ti2 fl2) ∧ (SmR (CTk tp ln) (LF tp ln) 0 ti pa 0 ti2 0)))) (nh, hc fh [(54, .inr (5, [.ref 55, .int (zI ln), .int (zI tx_12), .int (zI sx_12), .int (zI bx_12), .int (zI vx_12), .int (zI px_12), .int (zI fl), .ref 56, .int (zI zx_12)])), (56, .inl (0, 412, .inl (zA cx_12)))]) 0 0 12 [some (.ref 54), some (.int (zI 8)), some (.int (zI i_12)), none] [] := by
      intro N12
      induction N12 with
      | zero => intro i_12 tx_12 sx_12 bx_12 vx_12 px_12 zx_12 cx_12 ti_12 i12_0 i12_1 i12_2 i12_3 i12_4 i12_5 i12_6 i12_7 i12_8 i12_9 i12_10 i12_11 i12_12 i12_13 i12_14 i12_15 i12_16 i12_17 i12_18 i12_19 i12_20 i12_21 i12_22 hm; exact absurd hm (Nat.not_lt_zero _)
      | succ N12 ih12 =>
        intro i_12 tx_12 sx_12 bx_12 vx_12 px_12 zx_12 cx_12 ti_12 i12_0 i12_1 i12_2 i12_3 i12_4 i12_5 i12_6 i12_7 i12_8 i12_9 i12_10 i12_11 i12_12 i12_13 i12_14 i12_15 i12_16 i12_17 i12_18 i12_19 i12_20 i12_21 i12_22 hm12
        refine J_iload_n dX5_sum_12 rfl rfl ?_
        refine Z_sipush (n := 400) dX5_sum_13 (by decide +kernel) ?_
        refine Z_icmp_ge (tgt := 79) dX5_sum_16 (by decide) (v_d7389cde0f i12_0 i12_1) v_d8dcd4dd52 (fun h56 => ?_) (fun h56 => ?_)
        · have g57 : tx_12 = 17 := TkX.lo i12_18 (v_96ef693267 q1 q4 i12_7 i12_8 i12_17 h56)
          refine Z_iconst (n := 1) dX5_sum_79 ?_
          exact J_iret dX5_sum_80 rfl (jbn v_316afd7d0b v_bbcfac9b7d) (Nat.le_of_ble_eq_true rfl) (Nat.le_of_ble_eq_true rfl) (Or.inl ⟨tx_12, sx_12, bx_12, vx_12, px_12, zx_12, cx_12, ti_12, rfl, rfl, i12_4, i12_5, i12_6, i12_7, i12_8, i12_9, i12_10, i12_15, i12_16, i12_13, i12_14, i12_11, i12_12, i12_2, i12_3, i12_18, i12_19, (SeP.end i12_20 (fun w => Or.elim w (fun w => absurd ((TkX.sg i12_18 (v := 143) (by decide)).mp w) (v_01b9cf9fa7 g57)) (fun w => absurd ((TkX.sg i12_18 (v := 145) (by decide)).mp w) (v_03a7f166d3 g57)))), i12_21, (SgP.end i12_22 (fun w => Or.elim w (fun w => absurd ((TkX.sg i12_18 (v := 143) (by decide)).mp w) (v_01b9cf9fa7 g57)) (fun w => absurd ((TkX.sg i12_18 (v := 145) (by decide)).mp w) (v_03a7f166d3 g57))))⟩)
        · refine J_aload_n dX5_sum_19 rfl rfl ?_
          refine Z_bipush (n := 43) dX5_sum_20 (by decide +kernel) ?_
          refine J_callV (st := []) dX5_sum_22 cv_X5_50 (d_isSign 43 ln tx_12 sx_12 bx_12 vx_12 px_12 fl zx_12 v_8b70ad274a v_ff10987188 i12_4 i12_5 rfl) rfl rfl rfl (Nat.le_of_ble_eq_true rfl) ⟨(Nat.le_of_ble_eq_true rfl), (Nat.le_of_ble_eq_true rfl)⟩ ⟨(Nat.le_of_ble_eq_true rfl), (Nat.le_of_ble_eq_true rfl)⟩ (fun r h9 hp => ?_)
          rcases hp with ⟨rfl, rfl, h58⟩ | ⟨rfl, rfl, h59⟩
          · refine J_nf (nh2 := nh) (ck2 := 0) (sk2 := 0) (st2 := [.int (zI 1)]) rfl rfl rfl rfl ?_
            refine Z_if_ne (tgt := 37) dX5_sum_25 (by decide) v_4dcc24baa7 (fun h60 => ?_) (fun h60 => absurd h60 v_3a47bfd896)
            refine J_aload_n dX5_sum_37 rfl rfl ?_
            refine Z_bipush (n := 43) dX5_sum_38 (by decide +kernel) ?_
            refine J_callV (st := []) dX5_sum_40 cv_X5_50 (d_isSign 43 ln tx_12 sx_12 bx_12 vx_12 px_12 fl zx_12 v_8b70ad274a v_ff10987188 i12_4 i12_5 rfl) rfl rfl rfl (Nat.le_of_ble_eq_true rfl) ⟨(Nat.le_of_ble_eq_true rfl), (Nat.le_of_ble_eq_true rfl)⟩ ⟨(Nat.le_of_ble_eq_true rfl), (Nat.le_of_ble_eq_true rfl)⟩ (fun r h9 hp => ?_)
            rcases hp with ⟨rfl, rfl, h61⟩ | ⟨rfl, rfl, h62⟩
            · refine J_nf (nh2 := nh) (ck2 := 0) (sk2 := 0) (st2 := [.int (zI 1)]) rfl rfl rfl rfl ?_
              refine Z_if_eq (tgt := 50) dX5_sum_43 (by decide) v_4dcc24baa7 (fun h63 => absurd h63 v_3a47bfd896) (fun h63 => ?_)
              refine Z_iconst (n := 2) dX5_sum_46 ?_
              refine J_goto (tgt := 51) dX5_sum_47 (by decide) ?_
              refine J_istore_n dX5_sum_51 rfl (Nat.le_of_ble_eq_true rfl) rfl ?_
              refine J_ls (ls2 := [some (.ref 54), some (.int (zI 8)), some (.int (zI i_12)), some (.int (zI 2))]) rfl ?_
              refine J_aload_n dX5_sum_52 rfl rfl ?_
              have g64 := TokL.lt i12_11 (v_7a588369ee h58)
              refine J_callV (st := []) dX5_sum_53 cv_X5_43 (d_advance (ti_12 + 1) ln tx_12 sx_12 bx_12 vx_12 px_12 fl zx_12 tp q0 q1 (v_d253cb2c59 i12_6 g64) i12_8 i12_9 i12_10 q15 (TkX.ps i12_18 (v_2b02420001 i12_19)) rfl hk55) rfl rfl rfl (Nat.le_of_ble_eq_true rfl) ⟨(Nat.le_of_ble_eq_true rfl), (Nat.le_of_ble_eq_true rfl)⟩ ⟨(Nat.le_of_ble_eq_true rfl), (Nat.le_of_ble_eq_true rfl)⟩ (fun r h9 hp => ?_)
              obtain ⟨z65, z66, z67, z68, rfl, rfl, h69, h70, h71, h72, h73, h74, h75, h76, h77⟩ := hp
              refine J_nf (nh2 := nh) (ck2 := 0) (sk2 := 0) (st2 := []) rfl rfl rfl rfl ?_
              refine J_app (L3 := [(54, .inr (5, [.ref 55, .int (zI ln), .int (zI z65), .int (zI z66), .int (zI z67), .int (zI z68), .int (zI px_12), .int (zI fl), .ref 56, .int (zI zx_12)])), (54, .inr (5, [.ref 55, .int (zI ln), .int (zI tx_12), .int (zI sx_12), .int (zI bx_12), .int (zI vx_12), .int (zI px_12), .int (zI fl), .ref 56, .int (zI zx_12)])), (56, .inl (0, 412, .inl (zA cx_12)))]) rfl ?_
              refine J_mask (L2 := [(54, .inr (5, [.ref 55, .int (zI ln), .int (zI z65), .int (zI z66), .int (zI z67), .int (zI z68), .int (zI px_12), .int (zI fl), .ref 56, .int (zI zx_12)])), (56, .inl (0, 412, .inl (zA cx_12)))]) (ks := [54, 54, 56]) [true, false, true] rfl (by decide +kernel) rfl ?_
              refine J_aload_n dX5_sum_56 rfl rfl ?_
              refine J_iload_n dX5_sum_57 rfl rfl ?_
              refine J_callV (st := []) dX5_sum_58 cv_X5_89 (d_term8 ln z65 z66 z67 z68 px_12 fl zx_12 tp cx_12 (ti_12 + 1) q0 q1 h69 h70 (v_9b2e2070a2 i12_6 g64 h71) h72 h73 h74 h75 i12_15 i12_16 q11 i12_13 i12_14 h76 q15 i12_12 h77 (v_da458fa48a i12_19) (v_af03d664b0 q19 i12_2 g64 h71) rfl hk55 rfl) rfl rfl rfl (Nat.le_of_ble_eq_true rfl) ⟨(Nat.le_of_ble_eq_true rfl), (Nat.le_of_ble_eq_true rfl)⟩ ⟨(Nat.le_of_ble_eq_true rfl), (Nat.le_of_ble_eq_true rfl)⟩ (fun r h9 hp => ?_)
              rcases hp with ⟨z78, z79, z80, z81, z82, z83, f84, z85, rfl, rfl, h86, h87, h88, h89, h90, h91, h92, h93, h94, h95, h96, h97, h98, h99, h100, h101, h102, h103, h104, h105⟩ | ⟨z106, z107, z108, z109, z110, z111, f112, z113, z114, rfl, rfl, h115, h116, h117, h118, h119, h120, h121, h122, h123, h124, h125, h126, h127, h128, h129, h130, h131⟩
              · refine J_nf (nh2 := nh) (ck2 := 0) (sk2 := 0) (st2 := [.int (zI 1)]) rfl rfl rfl rfl ?_
                refine J_app (L3 := [(54, .inr (5, [.ref 55, .int (zI ln), .int (zI z78), .int (zI z79), .int (zI z80), .int (zI z81), .int (zI z82), .int (zI fl), .ref 56, .int (zI z83)])), (56, .inl (0, 412, .inl (zA f84))), (54, .inr (5, [.ref 55, .int (zI ln), .int (zI z65), .int (zI z66), .int (zI z67), .int (zI z68), .int (zI px_12), .int (zI fl), .ref 56, .int (zI zx_12)])), (56, .inl (0, 412, .inl (zA cx_12)))]) rfl ?_
                refine J_mask (L2 := [(54, .inr (5, [.ref 55, .int (zI ln), .int (zI z78), .int (zI z79), .int (zI z80), .int (zI z81), .int (zI z82), .int (zI fl), .ref 56, .int (zI z83)])), (56, .inl (0, 412, .inl (zA f84)))]) (ks := [54, 56, 54, 56]) [true, true, false, false] rfl (by decide +kernel) rfl ?_
                refine Z_if_ne (tgt := 66) dX5_sum_61 (by decide) v_4dcc24baa7 (fun h132 => ?_) (fun h132 => absurd h132 v_3a47bfd896)
                refine J_aload_n dX5_sum_66 rfl rfl ?_
                refine J_iload_n dX5_sum_67 rfl rfl ?_
                refine Z_iconst (n := 0) dX5_sum_68 ?_
                refine J_callV (st := []) dX5_sum_69 cv_X5_72 (d_emit 2 0 ln z78 z79 z80 z81 z82 fl z83 f84 v_9ea63c5f56 v_b17331891f v_06d31e7a75 v_35568a42ac v_939070ca3f v_e30af74f14 h95 (v_5f3cf32d7f q1 q19 i12_2 g64 h71 h89 h90 h99) h98 rfl rfl) rfl rfl rfl (Nat.le_of_ble_eq_true rfl) ⟨(Nat.le_of_ble_eq_true rfl), (Nat.le_of_ble_eq_true rfl)⟩ ⟨(Nat.le_of_ble_eq_true rfl), (Nat.le_of_ble_eq_true rfl)⟩ (fun r h9 hp => ?_)
                obtain ⟨f133, z134, rfl, rfl, h135, h136, h137, h138⟩ := hp
                refine J_nf (nh2 := nh) (ck2 := 0) (sk2 := 0) (st2 := [.int (zI z83)]) rfl rfl rfl rfl ?_
                refine J_app (L3 := [(54, .inr (5, [.ref 55, .int (zI ln), .int (zI z78), .int (zI z79), .int (zI z80), .int (zI z81), .int (zI z82), .int (zI fl), .ref 56, .int (zI (z83 + 1))])), (56, .inl (0, 412, .inl (zA f133))), (54, .inr (5, [.ref 55, .int (zI ln), .int (zI z78), .int (zI z79), .int (zI z80), .int (zI z81), .int (zI z82), .int (zI fl), .ref 56, .int (zI z83)])), (56, .inl (0, 412, .inl (zA f84)))]) (by first | rfl | (simp only [Int.add_assoc]; rfl)) ?_
                refine J_mask (L2 := [(54, .inr (5, [.ref 55, .int (zI ln), .int (zI z78), .int (zI z79), .int (zI z80), .int (zI z81), .int (zI z82), .int (zI fl), .ref 56, .int (zI (z83 + 1))])), (56, .inl (0, 412, .inl (zA f133)))]) (ks := [54, 56, 54, 56]) [true, true, false, false] rfl (by decide +kernel) rfl ?_
                refine J_pop dX5_sum_72 rfl ?_
                refine Z_iinc (c := i_12 + 1) (ls2 := [some (.ref 54), some (.int (zI 8)), some (.int (zI (i_12 + 1))), some (.int (zI 2))]) dX5_sum_73 rfl (Nat.le_of_ble_eq_true rfl) rfl rfl rfl ?_
                refine J_goto (tgt := 12) dX5_sum_76 (by decide) ?_
                refine J_drop (ls2 := [some (.ref 54), some (.int (zI 8)), some (.int (zI (i_12 + 1))), none]) [true, true, true, false] rfl ?_
                exact ih12 (i_12 + 1) z78 z79 z80 z81 z82 (z83 + 1) f133 z85 (v_da458fa48a i12_0) (v_6924477667 h56) (v_1510084784 i12_2 g64 h71 h99) (v_269579bf42 i12_3 g64 h71 h100) h86 h87 h88 h89 h90 h91 h92 h97 h137 (v_da458fa48a h95) (v_59a7519d35 q1 q19 i12_2 g64 h71 h89 h90 h99) h93 h94 (v_974edc800f i12_17 g64 h71 h100) h101 h102 (SeP.add i12_20 (Or.inl ((TkX.sg i12_18 (v := 143) (by decide)).mpr (v_b4c0db470d h58))) h103) (v_8fadc7eb76 i12_21 h104) (SgP.ar i12_22 (Or.inl ((TkX.sg i12_18 (v := 143) (by decide)).mpr (v_b4c0db470d h58))) h105 h135 h136 (Or.inl ⟨rfl, ((TkX.sg i12_18 (v := 143) (by decide)).mpr (v_b4c0db470d h58))⟩)) (meas_lt v_ceb2ed6d2b (v_44ddc35e90 h56) hm12)
              · refine J_nf (nh2 := nh) (ck2 := 0) (sk2 := 0) (st2 := [.int (zI 0)]) rfl rfl rfl rfl ?_
                refine J_app (L3 := [(54, .inr (5, [.ref 55, .int (zI ln), .int (zI z106), .int (zI z107), .int (zI z108), .int (zI z109), .int (zI z110), .int (zI z113), .ref 56, .int (zI z111)])), (56, .inl (0, 412, .inl (zA f112))), (54, .inr (5, [.ref 55, .int (zI ln), .int (zI z65), .int (zI z66), .int (zI z67), .int (zI z68), .int (zI px_12), .int (zI fl), .ref 56, .int (zI zx_12)])), (56, .inl (0, 412, .inl (zA cx_12)))]) rfl ?_
                refine J_mask (L2 := [(54, .inr (5, [.ref 55, .int (zI ln), .int (zI z106), .int (zI z107), .int (zI z108), .int (zI z109), .int (zI z110), .int (zI z113), .ref 56, .int (zI z111)])), (56, .inl (0, 412, .inl (zA f112)))]) (ks := [54, 56, 54, 56]) [true, true, false, false] rfl (by decide +kernel) rfl ?_
                refine Z_if_ne (tgt := 66) dX5_sum_61 (by decide) v_b17331891f (fun h139 => absurd h139 (fun q => q v_2ca2bbca1f)) (fun h139 => ?_)
                refine Z_iconst (n := 0) dX5_sum_64 ?_
                exact J_iret dX5_sum_65 rfl (jbn v_939070ca3f v_316afd7d0b) (Nat.le_of_ble_eq_true rfl) (Nat.le_of_ble_eq_true rfl) (Or.inr ⟨z106, z107, z108, z109, z110, z111, f112, z113, z114, rfl, rfl, h115, h116, h117, h118, h119, h120, h121, h122, h123, h124, h125, h126, h127, h128, h129, (h130), (SeP.bad i12_20 (Or.inl ((TkX.sg i12_18 (v := 143) (by decide)).mpr (v_b4c0db470d h58))) h131)⟩)
            · exact False.elim (v_a48d9a0d20 h58 h62)
          · refine J_nf (nh2 := nh) (ck2 := 0) (sk2 := 0) (st2 := [.int (zI 0)]) rfl rfl rfl rfl ?_
            refine Z_if_ne (tgt := 37) dX5_sum_25 (by decide) v_b17331891f (fun h140 => absurd h140 (fun q => q v_2ca2bbca1f)) (fun h140 => ?_)
            refine J_aload_n dX5_sum_28 rfl rfl ?_
            refine Z_bipush (n := 45) dX5_sum_29 (by decide +kernel) ?_
            refine J_callV (st := []) dX5_sum_31 cv_X5_50 (d_isSign 45 ln tx_12 sx_12 bx_12 vx_12 px_12 fl zx_12 v_8bc5410605 v_46bbb1acae i12_4 i12_5 rfl) rfl rfl rfl (Nat.le_of_ble_eq_true rfl) ⟨(Nat.le_of_ble_eq_true rfl), (Nat.le_of_ble_eq_true rfl)⟩ ⟨(Nat.le_of_ble_eq_true rfl), (Nat.le_of_ble_eq_true rfl)⟩ (fun r h9 hp => ?_)
            rcases hp with ⟨rfl, rfl, h141⟩ | ⟨rfl, rfl, h142⟩
            · refine J_nf (nh2 := nh) (ck2 := 0) (sk2 := 0) (st2 := [.int (zI 1)]) rfl rfl rfl rfl ?_
              refine Z_if_eq (tgt := 79) dX5_sum_34 (by decide) v_4dcc24baa7 (fun h143 => absurd h143 v_3a47bfd896) (fun h143 => ?_)
              refine J_aload_n dX5_sum_37 rfl rfl ?_
              refine Z_bipush (n := 43) dX5_sum_38 (by decide +kernel) ?_
              refine J_callV (st := []) dX5_sum_40 cv_X5_50 (d_isSign 43 ln tx_12 sx_12 bx_12 vx_12 px_12 fl zx_12 v_8b70ad274a v_ff10987188 i12_4 i12_5 rfl) rfl rfl rfl (Nat.le_of_ble_eq_true rfl) ⟨(Nat.le_of_ble_eq_true rfl), (Nat.le_of_ble_eq_true rfl)⟩ ⟨(Nat.le_of_ble_eq_true rfl), (Nat.le_of_ble_eq_true rfl)⟩ (fun r h9 hp => ?_)
              rcases hp with ⟨rfl, rfl, h144⟩ | ⟨rfl, rfl, h145⟩
              · exact False.elim (v_1d6e974349 h141 h144)
              · refine J_nf (nh2 := nh) (ck2 := 0) (sk2 := 0) (st2 := [.int (zI 0)]) rfl rfl rfl rfl ?_
                refine Z_if_eq (tgt := 50) dX5_sum_43 (by decide) v_b17331891f (fun h146 => ?_) (fun h146 => absurd h146 (fun q => q v_2ca2bbca1f))
                refine Z_iconst (n := 3) dX5_sum_50 ?_
                refine J_istore_n dX5_sum_51 rfl (Nat.le_of_ble_eq_true rfl) rfl ?_
                refine J_ls (ls2 := [some (.ref 54), some (.int (zI 8)), some (.int (zI i_12)), some (.int (zI 3))]) rfl ?_
                refine J_aload_n dX5_sum_52 rfl rfl ?_
                have g147 := TokL.lt i12_11 (v_1c70dbbeab h141)
                refine J_callV (st := []) dX5_sum_53 cv_X5_43 (d_advance (ti_12 + 1) ln tx_12 sx_12 bx_12 vx_12 px_12 fl zx_12 tp q0 q1 (v_d253cb2c59 i12_6 g147) i12_8 i12_9 i12_10 q15 (TkX.ps i12_18 (v_2b02420001 i12_19)) rfl hk55) rfl rfl rfl (Nat.le_of_ble_eq_true rfl) ⟨(Nat.le_of_ble_eq_true rfl), (Nat.le_of_ble_eq_true rfl)⟩ ⟨(Nat.le_of_ble_eq_true rfl), (Nat.le_of_ble_eq_true rfl)⟩ (fun r h9 hp => ?_)
                obtain ⟨z148, z149, z150, z151, rfl, rfl, h152, h153, h154, h155, h156, h157, h158, h159, h160⟩ := hp
                refine J_nf (nh2 := nh) (ck2 := 0) (sk2 := 0) (st2 := []) rfl rfl rfl rfl ?_
                refine J_app (L3 := [(54, .inr (5, [.ref 55, .int (zI ln), .int (zI z148), .int (zI z149), .int (zI z150), .int (zI z151), .int (zI px_12), .int (zI fl), .ref 56, .int (zI zx_12)])), (54, .inr (5, [.ref 55, .int (zI ln), .int (zI tx_12), .int (zI sx_12), .int (zI bx_12), .int (zI vx_12), .int (zI px_12), .int (zI fl), .ref 56, .int (zI zx_12)])), (56, .inl (0, 412, .inl (zA cx_12)))]) rfl ?_
                refine J_mask (L2 := [(54, .inr (5, [.ref 55, .int (zI ln), .int (zI z148), .int (zI z149), .int (zI z150), .int (zI z151), .int (zI px_12), .int (zI fl), .ref 56, .int (zI zx_12)])), (56, .inl (0, 412, .inl (zA cx_12)))]) (ks := [54, 54, 56]) [true, false, true] rfl (by decide +kernel) rfl ?_
                refine J_aload_n dX5_sum_56 rfl rfl ?_
                refine J_iload_n dX5_sum_57 rfl rfl ?_
                refine J_callV (st := []) dX5_sum_58 cv_X5_89 (d_term8 ln z148 z149 z150 z151 px_12 fl zx_12 tp cx_12 (ti_12 + 1) q0 q1 h152 h153 (v_9b2e2070a2 i12_6 g147 h154) h155 h156 h157 h158 i12_15 i12_16 q11 i12_13 i12_14 h159 q15 i12_12 h160 (v_da458fa48a i12_19) (v_af03d664b0 q19 i12_2 g147 h154) rfl hk55 rfl) rfl rfl rfl (Nat.le_of_ble_eq_true rfl) ⟨(Nat.le_of_ble_eq_true rfl), (Nat.le_of_ble_eq_true rfl)⟩ ⟨(Nat.le_of_ble_eq_true rfl), (Nat.le_of_ble_eq_true rfl)⟩ (fun r h9 hp => ?_)
                rcases hp with ⟨z161, z162, z163, z164, z165, z166, f167, z168, rfl, rfl, h169, h170, h171, h172, h173, h174, h175, h176, h177, h178, h179, h180, h181, h182, h183, h184, h185, h186, h187, h188⟩ | ⟨z189, z190, z191, z192, z193, z194, f195, z196, z197, rfl, rfl, h198, h199, h200, h201, h202, h203, h204, h205, h206, h207, h208, h209, h210, h211, h212, h213, h214⟩
                · refine J_nf (nh2 := nh) (ck2 := 0) (sk2 := 0) (st2 := [.int (zI 1)]) rfl rfl rfl rfl ?_
                  refine J_app (L3 := [(54, .inr (5, [.ref 55, .int (zI ln), .int (zI z161), .int (zI z162), .int (zI z163), .int (zI z164), .int (zI z165), .int (zI fl), .ref 56, .int (zI z166)])), (56, .inl (0, 412, .inl (zA f167))), (54, .inr (5, [.ref 55, .int (zI ln), .int (zI z148), .int (zI z149), .int (zI z150), .int (zI z151), .int (zI px_12), .int (zI fl), .ref 56, .int (zI zx_12)])), (56, .inl (0, 412, .inl (zA cx_12)))]) rfl ?_
                  refine J_mask (L2 := [(54, .inr (5, [.ref 55, .int (zI ln), .int (zI z161), .int (zI z162), .int (zI z163), .int (zI z164), .int (zI z165), .int (zI fl), .ref 56, .int (zI z166)])), (56, .inl (0, 412, .inl (zA f167)))]) (ks := [54, 56, 54, 56]) [true, true, false, false] rfl (by decide +kernel) rfl ?_
                  refine Z_if_ne (tgt := 66) dX5_sum_61 (by decide) v_4dcc24baa7 (fun h215 => ?_) (fun h215 => absurd h215 v_3a47bfd896)
                  refine J_aload_n dX5_sum_66 rfl rfl ?_
                  refine J_iload_n dX5_sum_67 rfl rfl ?_
                  refine Z_iconst (n := 0) dX5_sum_68 ?_
                  refine J_callV (st := []) dX5_sum_69 cv_X5_72 (d_emit 3 0 ln z161 z162 z163 z164 z165 fl z166 f167 v_1cc5223c3a v_b17331891f v_c33180d5d7 v_1895c44eeb v_939070ca3f v_e30af74f14 h178 (v_5f3cf32d7f q1 q19 i12_2 g147 h154 h172 h173 h182) h181 rfl rfl) rfl rfl rfl (Nat.le_of_ble_eq_true rfl) ⟨(Nat.le_of_ble_eq_true rfl), (Nat.le_of_ble_eq_true rfl)⟩ ⟨(Nat.le_of_ble_eq_true rfl), (Nat.le_of_ble_eq_true rfl)⟩ (fun r h9 hp => ?_)
                  obtain ⟨f216, z217, rfl, rfl, h218, h219, h220, h221⟩ := hp
                  refine J_nf (nh2 := nh) (ck2 := 0) (sk2 := 0) (st2 := [.int (zI z166)]) rfl rfl rfl rfl ?_
                  refine J_app (L3 := [(54, .inr (5, [.ref 55, .int (zI ln), .int (zI z161), .int (zI z162), .int (zI z163), .int (zI z164), .int (zI z165), .int (zI fl), .ref 56, .int (zI (z166 + 1))])), (56, .inl (0, 412, .inl (zA f216))), (54, .inr (5, [.ref 55, .int (zI ln), .int (zI z161), .int (zI z162), .int (zI z163), .int (zI z164), .int (zI z165), .int (zI fl), .ref 56, .int (zI z166)])), (56, .inl (0, 412, .inl (zA f167)))]) (by first | rfl | (simp only [Int.add_assoc]; rfl)) ?_
                  refine J_mask (L2 := [(54, .inr (5, [.ref 55, .int (zI ln), .int (zI z161), .int (zI z162), .int (zI z163), .int (zI z164), .int (zI z165), .int (zI fl), .ref 56, .int (zI (z166 + 1))])), (56, .inl (0, 412, .inl (zA f216)))]) (ks := [54, 56, 54, 56]) [true, true, false, false] rfl (by decide +kernel) rfl ?_
                  refine J_pop dX5_sum_72 rfl ?_
                  refine Z_iinc (c := i_12 + 1) (ls2 := [some (.ref 54), some (.int (zI 8)), some (.int (zI (i_12 + 1))), some (.int (zI 3))]) dX5_sum_73 rfl (Nat.le_of_ble_eq_true rfl) rfl rfl rfl ?_
                  refine J_goto (tgt := 12) dX5_sum_76 (by decide) ?_
                  refine J_drop (ls2 := [some (.ref 54), some (.int (zI 8)), some (.int (zI (i_12 + 1))), none]) [true, true, true, false] rfl ?_
                  exact ih12 (i_12 + 1) z161 z162 z163 z164 z165 (z166 + 1) f216 z168 (v_da458fa48a i12_0) (v_6924477667 h56) (v_1510084784 i12_2 g147 h154 h182) (v_269579bf42 i12_3 g147 h154 h183) h169 h170 h171 h172 h173 h174 h175 h180 h220 (v_da458fa48a h178) (v_59a7519d35 q1 q19 i12_2 g147 h154 h172 h173 h182) h176 h177 (v_974edc800f i12_17 g147 h154 h183) h184 h185 (SeP.add i12_20 (Or.inr ((TkX.sg i12_18 (v := 145) (by decide)).mpr (v_7912200c83 h141))) h186) (v_8fadc7eb76 i12_21 h187) (SgP.ar i12_22 (Or.inr ((TkX.sg i12_18 (v := 145) (by decide)).mpr (v_7912200c83 h141))) h188 h218 h219 (Or.inr (Or.inl ⟨rfl, ((TkX.sg i12_18 (v := 145) (by decide)).mpr (v_7912200c83 h141))⟩))) (meas_lt v_ceb2ed6d2b (v_44ddc35e90 h56) hm12)
                · refine J_nf (nh2 := nh) (ck2 := 0) (sk2 := 0) (st2 := [.int (zI 0)]) rfl rfl rfl rfl ?_
                  refine J_app (L3 := [(54, .inr (5, [.ref 55, .int (zI ln), .int (zI z189), .int (zI z190), .int (zI z191), .int (zI z192), .int (zI z193), .int (zI z196), .ref 56, .int (zI z194)])), (56, .inl (0, 412, .inl (zA f195))), (54, .inr (5, [.ref 55, .int (zI ln), .int (zI z148), .int (zI z149), .int (zI z150), .int (zI z151), .int (zI px_12), .int (zI fl), .ref 56, .int (zI zx_12)])), (56, .inl (0, 412, .inl (zA cx_12)))]) rfl ?_
                  refine J_mask (L2 := [(54, .inr (5, [.ref 55, .int (zI ln), .int (zI z189), .int (zI z190), .int (zI z191), .int (zI z192), .int (zI z193), .int (zI z196), .ref 56, .int (zI z194)])), (56, .inl (0, 412, .inl (zA f195)))]) (ks := [54, 56, 54, 56]) [true, true, false, false] rfl (by decide +kernel) rfl ?_
                  refine Z_if_ne (tgt := 66) dX5_sum_61 (by decide) v_b17331891f (fun h222 => absurd h222 (fun q => q v_2ca2bbca1f)) (fun h222 => ?_)
                  refine Z_iconst (n := 0) dX5_sum_64 ?_
                  exact J_iret dX5_sum_65 rfl (jbn v_939070ca3f v_316afd7d0b) (Nat.le_of_ble_eq_true rfl) (Nat.le_of_ble_eq_true rfl) (Or.inr ⟨z189, z190, z191, z192, z193, z194, f195, z196, z197, rfl, rfl, h198, h199, h200, h201, h202, h203, h204, h205, h206, h207, h208, h209, h210, h211, h212, (h213), (SeP.bad i12_20 (Or.inr ((TkX.sg i12_18 (v := 145) (by decide)).mpr (v_7912200c83 h141))) h214)⟩)
            · refine J_nf (nh2 := nh) (ck2 := 0) (sk2 := 0) (st2 := [.int (zI 0)]) rfl rfl rfl rfl ?_
              refine Z_if_eq (tgt := 79) dX5_sum_34 (by decide) v_b17331891f (fun h223 => ?_) (fun h223 => absurd h223 (fun q => q v_2ca2bbca1f))
              refine Z_iconst (n := 1) dX5_sum_79 ?_
              exact J_iret dX5_sum_80 rfl (jbn v_316afd7d0b v_bbcfac9b7d) (Nat.le_of_ble_eq_true rfl) (Nat.le_of_ble_eq_true rfl) (Or.inl ⟨tx_12, sx_12, bx_12, vx_12, px_12, zx_12, cx_12, ti_12, rfl, rfl, i12_4, i12_5, i12_6, i12_7, i12_8, i12_9, i12_10, i12_15, i12_16, i12_13, i12_14, i12_11, i12_12, i12_2, i12_3, i12_18, i12_19, (SeP.end i12_20 (fun w => Or.elim w (fun w => absurd ((TkX.sg i12_18 (v := 143) (by decide)).mp w) (v_4e9b5acef3 h59)) (fun w => absurd ((TkX.sg i12_18 (v := 145) (by decide)).mp w) (v_fa17f015bb h142)))), i12_21, (SgP.end i12_22 (fun w => Or.elim w (fun w => absurd ((TkX.sg i12_18 (v := 143) (by decide)).mp w) (v_4e9b5acef3 h59)) (fun w => absurd ((TkX.sg i12_18 (v := 145) (by decide)).mp w) (v_fa17f015bb h142))))⟩)
    exact lp12 _ 0 z1 z2 z3 z4 z5 z6 f7 z8 v_939070ca3f v_5ab96f7b5e h22 h23 h9 h10 h11 h12 h13 h14 h15 h20 h21 h18 h19 h16 h17 (v_3c1faf939c h23) h24 h25 (SeP.one h26) h27 (SgP.one h28) (Nat.lt_succ_self _)
  · refine J_nf (nh2 := nh) (ck2 := 0) (sk2 := 0) (st2 := [.int (zI 0)]) rfl rfl rfl rfl ?_
    refine J_app (L3 := [(54, .inr (5, [.ref 55, .int (zI ln), .int (zI z29), .int (zI z30), .int (zI z31), .int (zI z32), .int (zI z33), .int (zI z36), .ref 56, .int (zI z34)])), (56, .inl (0, 412, .inl (zA f35)))]) rfl ?_
    refine Z_if_ne (tgt := 10) dX5_sum_5 (by decide) v_b17331891f (fun h224 => absurd h224 (fun q => q v_2ca2bbca1f)) (fun h224 => ?_)
    refine Z_iconst (n := 0) dX5_sum_8 ?_
    exact J_iret dX5_sum_9 rfl (jbn v_939070ca3f v_316afd7d0b) (Nat.le_of_ble_eq_true rfl) (Nat.le_of_ble_eq_true rfl) (Or.inr ⟨z29, z30, z31, z32, z33, z34, f35, z36, z37, rfl, rfl, h38, h39, h40, h41, h42, h43, h44, h45, h46, h47, h48, h49, h50, h51, h52, (h53), (SeR.b h54)⟩)
set_option maxHeartbeats 4000000 in
set_option maxRecDepth 100000 in
theorem d_bracketedTest8 {l : Launch} {G : jG} {nh : Nat} {fh : Nat → Option va_E} (ln : Int) (tk : Int) (st : Int) (bh : Int) (va : Int) (pa : Int) (fl : Int) (sz : Int) (tp : Int → Int) (cd : Int → Int) (ti : Int) (q0 : 0 ≤ ln) (q1 : ln ≤ 400) (q2 : 0 ≤ tk) (q3 : tk ≤ 355) (q4 : 0 ≤ st) (q5 : st ≤ bh) (q6 : bh ≤ ln) (q7 : 0 ≤ va) (q8 : va ≤ 1001) (q9 : 0 ≤ pa) (q10 : pa ≤ 50) (q11 : zr fl) (q12 : 0 ≤ sz) (q13 : sz ≤ 412) (q14 : TokL tk st bh) (q15 : Rg tp 400 0 255) (q16 : Rg cd 412 (-2147483648) 2147483647) (q17 : TkX tp ln ti tk st bh va) (q18 : 0 ≤ ti) (q19 : sz ≤ st + 1) (hk54 : fh 54 = some (.inr (5, [.ref 55, .int (zI ln), .int (zI tk), .int (zI st), .int (zI bh), .int (zI va), .int (zI pa), .int (zI fl), .ref 56, .int (zI sz)]))) (hk55 : fh 55 = some (.inl (0, 400, .inl (zA tp)))) (hk56 : fh 56 = some (.inl (0, 412, .inl (zA cd)))) : JM l G yX5_bracketedTest MX5_bracketedTest { frames := 1, cells := 0, slots := 0, locals := 20 } [.ref 54, .int (zI 8)] (nh, fh) (fun rr h9 => (∃ tk2 : Int, ∃ st2 : Int, ∃ bh2 : Int, ∃ va2 : Int, ∃ pa2 : Int, ∃ sz2 : Int, ∃ cd2 : Int → Int, ∃ ti2 : Int, rr = some (.int (zI 1)) ∧ h9 = (nh, hc fh [(54, .inr (5, [.ref 55, .int (zI ln), .int (zI tk2), .int (zI st2), .int (zI bh2), .int (zI va2), .int (zI pa2), .int (zI fl), .ref 56, .int (zI sz2)])), (56, .inl (0, 412, .inl (zA cd2)))]) ∧ (0 ≤ tk2) ∧ (tk2 ≤ 355) ∧ (0 ≤ st2) ∧ (st2 ≤ bh2) ∧ (bh2 ≤ ln) ∧ (0 ≤ va2) ∧ (va2 ≤ 1001) ∧ (0 ≤ pa2) ∧ (pa2 ≤ 50) ∧ (0 ≤ sz2) ∧ (sz2 ≤ 412) ∧ (TokL tk2 st2 bh2) ∧ (Rg cd2 412 (-2147483648) 2147483647) ∧ (sz2 + st ≤ sz + st2) ∧ (st ≤ st2) ∧ (TkX tp ln ti2 tk2 st2 bh2 va2) ∧ (0 ≤ ti2) ∧ (BtR (CTk tp ln) (LF tp ln) 0 ti pa 1 ti2 pa2) ∧ (pa ≤ pa2) ∧ (SgS (BtD (CTk tp ln) (VT tp ln) 0) cd cd2 ti ti2 sz sz2 pa pa2)) ∨ (∃ tk2 : Int, ∃ st2 : Int, ∃ bh2 : Int, ∃ va2 : Int, ∃ pa2 : Int, ∃ sz2 : Int, ∃ cd2 : Int → Int, ∃ fl2 : Int, ∃ ti2 : Int, rr = some (.int (zI 0)) ∧ h9 = (nh, hc fh [(54, .inr (5, [.ref 55, .int (zI ln), .int (zI tk2), .int (zI st2), .int (zI bh2), .int (zI va2), .int (zI pa2), .int (zI fl2), .ref 56, .int (zI sz2)])), (56, .inl (0, 412, .inl (zA cd2)))]) ∧ (0 ≤ tk2) ∧ (tk2 ≤ 355) ∧ (0 ≤ st2) ∧ (st2 ≤ bh2) ∧ (bh2 ≤ ln) ∧ (0 ≤ va2) ∧ (va2 ≤ 1001) ∧ (0 ≤ pa2) ∧ (pa2 ≤ 50) ∧ (0 ≤ sz2) ∧ (sz2 ≤ 412) ∧ (TokL tk2 st2 bh2) ∧ (Rg cd2 412 (-2147483648) 2147483647) ∧ (0 ≤ fl2) ∧ (fl2 ≤ 400) ∧ (FlX tp ln ti2 fl2) ∧ (BtR (CTk tp ln) (LF tp ln) 0 ti pa 0 ti2 0))) := by
  refine JM.of (by decide) rfl (fun h => by cases h) (Nat.le_of_ble_eq_true rfl) ⟨0, rfl⟩ ?_
  refine J_hc0 (J_ls (ls2 := [some (.ref 54), some (.int (zI 8))]) rfl ?_)
  refine J_iload_n dX5_bracketedTest_0 rfl rfl ?_
  refine Z_bipush (n := 8) dX5_bracketedTest_1 (by decide +kernel) ?_
  refine Z_icmp_lt (tgt := 11) dX5_bracketedTest_3 (by decide) v_665891e294 v_665891e294 (fun h1 => absurd h1 v_0041fc7102) (fun h1 => ?_)
  refine J_aload_n dX5_bracketedTest_6 rfl rfl ?_
  refine J_callV (st := []) dX5_bracketedTest_7 cv_X5_54 (d_wrong ln tk st bh va pa fl sz q4 (v_1adcfdfee5 q1 q5 q6) hk54) hk54 rfl rfl (Nat.le_of_ble_eq_true rfl) ⟨(Nat.le_of_ble_eq_true rfl), (Nat.le_of_ble_eq_true rfl)⟩ ⟨(Nat.le_of_ble_eq_true rfl), (Nat.le_of_ble_eq_true rfl)⟩ (fun r h9 hp => ?_)
  obtain ⟨rfl, rfl⟩ := hp
  refine J_nf (nh2 := nh) (ck2 := 0) (sk2 := 0) (st2 := [.int (zI 0)]) rfl rfl rfl rfl ?_
  refine J_app (L3 := [(54, .inr (5, [.ref 55, .int (zI ln), .int (zI tk), .int (zI st), .int (zI bh), .int (zI va), .int (zI pa), .int (zI st), .ref 56, .int (zI sz)]))]) rfl ?_
  refine J_touch (k := 56) (e := .inl (0, 412, .inl (zA cd))) hk56 ?_
  refine J_touch (k := 54) (e := .inr (5, [.ref 55, .int (zI ln), .int (zI tk), .int (zI st), .int (zI bh), .int (zI va), .int (zI pa), .int (zI st), .ref 56, .int (zI sz)])) rfl ?_
  refine J_mask (L2 := [(54, .inr (5, [.ref 55, .int (zI ln), .int (zI tk), .int (zI st), .int (zI bh), .int (zI va), .int (zI pa), .int (zI st), .ref 56, .int (zI sz)])), (56, .inl (0, 412, .inl (zA cd)))]) (ks := [54, 56, 54]) [true, true, false] rfl (by decide +kernel) rfl ?_
  exact J_iret dX5_bracketedTest_10 rfl (jbn v_939070ca3f v_316afd7d0b) (Nat.le_of_ble_eq_true rfl) (Nat.le_of_ble_eq_true rfl) (Or.inr ⟨tk, st, bh, va, pa, sz, cd, st, ti, rfl, rfl, q2, q3, q4, q5, q6, q7, q8, q9, q10, q12, q13, q14, q16, q4, (v_1adcfdfee5 q1 q5 q6), ((TkX.s q17)), (BrR.n)⟩)
set_option maxHeartbeats 4000000 in
set_option maxRecDepth 100000 in
theorem d_plain8 {l : Launch} {G : jG} {nh : Nat} {fh : Nat → Option va_E} (ln : Int) (tk : Int) (st : Int) (bh : Int) (va : Int) (pa : Int) (fl : Int) (sz : Int) (tp : Int → Int) (cd : Int → Int) (ti : Int) (q0 : 0 ≤ ln) (q1 : ln ≤ 400) (q2 : 0 ≤ tk) (q3 : tk ≤ 355) (q4 : 0 ≤ st) (q5 : st ≤ bh) (q6 : bh ≤ ln) (q7 : 0 ≤ va) (q8 : va ≤ 1001) (q9 : 0 ≤ pa) (q10 : pa ≤ 50) (q11 : zr fl) (q12 : 0 ≤ sz) (q13 : sz ≤ 412) (q14 : TokL tk st bh) (q15 : Rg tp 400 0 255) (q16 : Rg cd 412 (-2147483648) 2147483647) (q17 : TkX tp ln ti tk st bh va) (q18 : 0 ≤ ti) (q19 : sz ≤ st + 1) (hk54 : fh 54 = some (.inr (5, [.ref 55, .int (zI ln), .int (zI tk), .int (zI st), .int (zI bh), .int (zI va), .int (zI pa), .int (zI fl), .ref 56, .int (zI sz)]))) (hk55 : fh 55 = some (.inl (0, 400, .inl (zA tp)))) (hk56 : fh 56 = some (.inl (0, 412, .inl (zA cd)))) : JM l G yX5_plain MX5_plain { frames := 9, cells := 0, slots := 0, locals := 199 } [.ref 54, .int (zI 8)] (nh, fh) (fun rr h9 => (∃ tk2 : Int, ∃ st2 : Int, ∃ bh2 : Int, ∃ va2 : Int, ∃ pa2 : Int, ∃ sz2 : Int, ∃ cd2 : Int → Int, ∃ ti2 : Int, rr = some (.int (zI 1)) ∧ h9 = (nh, hc fh [(54, .inr (5, [.ref 55, .int (zI ln), .int (zI tk2), .int (zI st2), .int (zI bh2), .int (zI va2), .int (zI pa2), .int (zI fl), .ref 56, .int (zI sz2)])), (56, .inl (0, 412, .inl (zA cd2)))]) ∧ (0 ≤ tk2) ∧ (tk2 ≤ 355) ∧ (0 ≤ st2) ∧ (st2 ≤ bh2) ∧ (bh2 ≤ ln) ∧ (0 ≤ va2) ∧ (va2 ≤ 1001) ∧ (0 ≤ pa2) ∧ (pa2 ≤ 50) ∧ (0 ≤ sz2) ∧ (sz2 ≤ 412) ∧ (TokL tk2 st2 bh2) ∧ (Rg cd2 412 (-2147483648) 2147483647) ∧ (sz2 + st ≤ sz + st2) ∧ (st ≤ st2) ∧ (TkX tp ln ti2 tk2 st2 bh2 va2) ∧ (0 ≤ ti2) ∧ (PnR (CTk tp ln) (LF tp ln) 0 ti pa 1 ti2 pa2) ∧ (pa ≤ pa2) ∧ (SgS (PnD (CTk tp ln) (VT tp ln) 0) cd cd2 ti ti2 sz sz2 pa pa2)) ∨ (∃ tk2 : Int, ∃ st2 : Int, ∃ bh2 : Int, ∃ va2 : Int, ∃ pa2 : Int, ∃ sz2 : Int, ∃ cd2 : Int → Int, ∃ fl2 : Int, ∃ ti2 : Int, rr = some (.int (zI 0)) ∧ h9 = (nh, hc fh [(54, .inr (5, [.ref 55, .int (zI ln), .int (zI tk2), .int (zI st2), .int (zI bh2), .int (zI va2), .int (zI pa2), .int (zI fl2), .ref 56, .int (zI sz2)])), (56, .inl (0, 412, .inl (zA cd2)))]) ∧ (0 ≤ tk2) ∧ (tk2 ≤ 355) ∧ (0 ≤ st2) ∧ (st2 ≤ bh2) ∧ (bh2 ≤ ln) ∧ (0 ≤ va2) ∧ (va2 ≤ 1001) ∧ (0 ≤ pa2) ∧ (pa2 ≤ 50) ∧ (0 ≤ sz2) ∧ (sz2 ≤ 412) ∧ (TokL tk2 st2 bh2) ∧ (Rg cd2 412 (-2147483648) 2147483647) ∧ (0 ≤ fl2) ∧ (fl2 ≤ 400) ∧ (FlX tp ln ti2 fl2) ∧ (PnR (CTk tp ln) (LF tp ln) 0 ti pa 0 ti2 0))) := by
  refine JM.of (by decide) rfl (fun h => by cases h) (Nat.le_of_ble_eq_true rfl) ⟨2, rfl⟩ ?_
  refine J_hc0 (J_ls (ls2 := [some (.ref 54), some (.int (zI 8)), none, none]) rfl ?_)
  refine Z_iconst (n := 0) dX5_plain_0 ?_
  refine J_istore_n dX5_plain_1 rfl (Nat.le_of_ble_eq_true rfl) rfl ?_
  refine J_ls (ls2 := [some (.ref 54), some (.int (zI 8)), some (.int (zI 0)), none]) rfl ?_
  refine Z_iconst (n := 0) dX5_plain_2 ?_
  refine J_istore_n dX5_plain_3 rfl (Nat.le_of_ble_eq_true rfl) rfl ?_
  refine J_ls (ls2 := [some (.ref 54), some (.int (zI 8)), some (.int (zI 0)), some (.int (zI 0))]) rfl ?_
  refine J_touch (k := 54) (e := .inr (5, [.ref 55, .int (zI ln), .int (zI tk), .int (zI st), .int (zI bh), .int (zI va), .int (zI pa), .int (zI fl), .ref 56, .int (zI sz)])) hk54 ?_
  have lp4 : ∀ (N4 : Nat) (dn_4 : Int) (i_4 : Int) (tx_4 : Int) (sx_4 : Int) (bx_4 : Int) (vx_4 : Int) (ti_4 : Int), (0 ≤ i_4) → (i_4 ≤ 400) → (0 ≤ dn_4) → (dn_4 ≤ 1) → (st + dn_4 ≤ sx_4) → (st + i_4 ≤ sx_4) → (0 ≤ tx_4) → (tx_4 ≤ 355) → (0 ≤ sx_4) → (sx_4 ≤ bx_4) → (bx_4 ≤ ln) → (0 ≤ vx_4) → (vx_4 ≤ 1001) → (TokL tx_4 sx_4 bx_4) → (TkX tp ln ti_4 tx_4 sx_4 bx_4 vx_4) → (ti ≤ ti_4) → (NtX (CTk tp ln) ti ti_4) → (dn_4 = (ti_4 - ti) % 2) → (400 - i_4).toNat < N4 → J l G MX5_plain { frames := 9, cells := 0, slots := 0, locals := 199 } jE (jMQ G { frames := 9, cells := 0, slots := 0, locals := 199 } (fun rr h9 => (∃ tk2 : Int, ∃ st2 : Int, ∃ bh2 : Int, ∃ va2 : Int, ∃ pa2 : Int, ∃ sz2 : Int, ∃ cd2 : Int → Int, ∃ ti2 : Int, rr = some (.int (zI 1)) ∧ h9 = (nh, hc fh [(54, .inr (5, [.ref 55, .int (zI ln), .int (zI tk2), .int (zI st2), .int (zI bh2), .int (zI va2), .int (zI pa2), .int (zI fl), .ref 56, .int (zI sz2)])), (56, .inl (0, 412, .inl (zA cd2)))]) ∧ (0 ≤ tk2) ∧ (tk2 ≤ 355) ∧ (0 ≤ st2) ∧ (st2 ≤ bh2) ∧ (bh2 ≤ ln) ∧ (0 ≤ va2) ∧ (va2 ≤ 1001) ∧ (0 ≤ pa2) ∧ (pa2 ≤ 50) ∧ (0 ≤ sz2) ∧ (sz2 ≤ 412) ∧ (TokL tk2 st2 bh2) ∧ (Rg cd2 412 (-2147483648) 2147483647) ∧ (sz2 + st ≤ sz + st2) ∧ (st ≤ st2) ∧ (TkX tp ln ti2 tk2 st2 bh2 va2) ∧ (0 ≤ ti2) ∧ (PnR (CTk tp ln) (LF tp ln) 0 ti pa 1 ti2 pa2) ∧ (pa ≤ pa2) ∧ (SgS (PnD (CTk tp ln) (VT tp ln) 0) cd cd2 ti ti2 sz sz2 pa pa2)) ∨ (∃ tk2 : Int, ∃ st2 : Int, ∃ bh2 : Int, ∃ va2 : Int, ∃ pa2 : Int, ∃ sz2 : Int, ∃ cd2 : Int → Int, ∃ fl2 : Int, ∃ ti2 : Int, rr = some (.int (zI 0)) ∧ h9 = (nh, hc fh [(54, .inr (5, [.ref 55, .int (zI ln), .int (zI tk2), .int (zI st2), .int (zI bh2), .int (zI va2), .int (zI pa2), .int (zI fl2), .ref 56, .int (zI sz2)])), (56, .inl (0, 412, .inl (zA cd2)))]) ∧ (0 ≤ tk2) ∧ (tk2 ≤ 355) ∧ (0 ≤ st2) ∧ (st2 ≤ bh2) ∧ (bh2 ≤ ln) ∧ (0 ≤ va2) ∧ (va2 ≤ 1001) ∧ (0 ≤ pa2) ∧ (pa2 ≤ 50) ∧ (0 ≤ sz2) ∧ (sz2 ≤ 412) ∧ (TokL tk2 st2 bh2) ∧ (Rg cd2 412 (-2147483648) 2147483647) ∧ (0 ≤ fl2) ∧ (fl2 ≤ 400) ∧ (FlX tp ln ti2 fl2) ∧ (PnR (CTk tp ln) (LF tp ln) 0 ti pa 0 ti2 0)))) (nh, hc fh [(54, .inr (5, [.ref 55, .int (zI ln), .int (zI tx_4), .int (zI sx_4), .int (zI bx_4), .int (zI vx_4), .int (zI pa), .int (zI fl), .ref 56, .int (zI sz)]))]) 0 0 4 [some (.ref 54), some (.int (zI 8)), some (.int (zI dn_4)), some (.int (zI i_4))] [] := by
    intro N4
    induction N4 with
    | zero => intro dn_4 i_4 tx_4 sx_4 bx_4 vx_4 ti_4 i4_0 i4_1 i4_2 i4_3 i4_4 i4_5 i4_6 i4_7 i4_8 i4_9 i4_10 i4_11 i4_12 i4_13 i4_14 i4_15 i4_16 i4_17 hm; exact absurd hm (Nat.not_lt_zero _)
    | succ N4 ih4 =>
      intro dn_4 i_4 tx_4 sx_4 bx_4 vx_4 ti_4 i4_0 i4_1 i4_2 i4_3 i4_4 i4_5 i4_6 i4_7 i4_8 i4_9 i4_10 i4_11 i4_12 i4_13 i4_14 i4_15 i4_16 i4_17 hm4
      refine J_iload_n dX5_plain_4 rfl rfl ?_
      refine Z_sipush (n := 400) dX5_plain_5 (by decide +kernel) ?_
      refine Z_icmp_ge (tgt := 40) dX5_plain_8 (by decide) (v_d7389cde0f i4_0 i4_1) v_d8dcd4dd52 (fun h1 => ?_) (fun h1 => ?_)
      · have g2 : tx_4 = 17 := TkX.lo i4_14 (v_af0392b8e9 q1 q4 i4_5 i4_9 i4_10 h1)
        refine J_aload_n dX5_plain_40 rfl rfl ?_
        refine Z_bipush (n := 40) dX5_plain_41 (by decide +kernel) ?_
        refine J_callV (st := []) dX5_plain_43 cv_X5_50 (d_isSign 40 ln tx_4 sx_4 bx_4 vx_4 pa fl sz v_3958fe4c87 v_fdd2493dbb i4_6 i4_7 rfl) rfl rfl rfl (Nat.le_of_ble_eq_true rfl) ⟨(Nat.le_of_ble_eq_true rfl), (Nat.le_of_ble_eq_true rfl)⟩ ⟨(Nat.le_of_ble_eq_true rfl), (Nat.le_of_ble_eq_true rfl)⟩ (fun r h9 hp => ?_)
        rcases hp with ⟨rfl, rfl, h3⟩ | ⟨rfl, rfl, h4⟩
        · exact False.elim (v_ba9b7c0e8b g2 h3)
        · refine J_nf (nh2 := nh) (ck2 := 0) (sk2 := 0) (st2 := [.int (zI 0)]) rfl rfl rfl rfl ?_
          refine Z_if_eq (tgt := 59) dX5_plain_46 (by decide) v_b17331891f (fun h5 => ?_) (fun h5 => absurd h5 (fun q => q v_2ca2bbca1f))
          refine J_aload_n dX5_plain_59 rfl rfl ?_
          refine J_iload_n dX5_plain_60 rfl rfl ?_
          refine J_callV (st := []) dX5_plain_61 cv_X5_63 (d_sum8 ln tx_4 sx_4 bx_4 vx_4 pa fl sz tp cd ti_4 q0 q1 i4_6 i4_7 i4_8 i4_9 i4_10 i4_11 i4_12 q9 q10 q11 q12 q13 i4_13 q15 q16 i4_14 (v_21976c7318 q18 i4_15) (v_b7a18d1e2c q19 i4_5 h1) rfl hk55 hk56) rfl rfl rfl (Nat.le_of_ble_eq_true rfl) ⟨(Nat.le_of_ble_eq_true rfl), (Nat.le_of_ble_eq_true rfl)⟩ ⟨(Nat.le_of_ble_eq_true rfl), (Nat.le_of_ble_eq_true rfl)⟩ (fun r h9 hp => ?_)
          rcases hp with ⟨z6, z7, z8, z9, z10, z11, f12, z13, rfl, rfl, h14, h15, h16, h17, h18, h19, h20, h21, h22, h23, h24, h25, h26, h27, h28, h29, h30, h31, h32, h33⟩ | ⟨z34, z35, z36, z37, z38, z39, f40, z41, z42, rfl, rfl, h43, h44, h45, h46, h47, h48, h49, h50, h51, h52, h53, h54, h55, h56, h57, h58, h59⟩
          · refine J_nf (nh2 := nh) (ck2 := 0) (sk2 := 0) (st2 := [.int (zI 1)]) rfl rfl rfl rfl ?_
            refine J_app (L3 := [(54, .inr (5, [.ref 55, .int (zI ln), .int (zI z6), .int (zI z7), .int (zI z8), .int (zI z9), .int (zI z10), .int (zI fl), .ref 56, .int (zI z11)])), (56, .inl (0, 412, .inl (zA f12))), (54, .inr (5, [.ref 55, .int (zI ln), .int (zI tx_4), .int (zI sx_4), .int (zI bx_4), .int (zI vx_4), .int (zI pa), .int (zI fl), .ref 56, .int (zI sz)]))]) rfl ?_
            refine J_mask (L2 := [(54, .inr (5, [.ref 55, .int (zI ln), .int (zI z6), .int (zI z7), .int (zI z8), .int (zI z9), .int (zI z10), .int (zI fl), .ref 56, .int (zI z11)])), (56, .inl (0, 412, .inl (zA f12)))]) (ks := [54, 56, 54]) [true, true, false] rfl (by decide +kernel) rfl ?_
            refine Z_if_ne (tgt := 69) dX5_plain_64 (by decide) v_4dcc24baa7 (fun h60 => ?_) (fun h60 => absurd h60 v_3a47bfd896)
            refine J_aload_n dX5_plain_69 rfl rfl ?_
            refine Z_bipush (n := 60) dX5_plain_70 (by decide +kernel) ?_
            refine J_callV (st := []) dX5_plain_72 cv_X5_50 (d_isSign 60 ln z6 z7 z8 z9 z10 fl z11 v_eb2f5e1e3a v_382af52349 h14 h15 rfl) rfl rfl rfl (Nat.le_of_ble_eq_true rfl) ⟨(Nat.le_of_ble_eq_true rfl), (Nat.le_of_ble_eq_true rfl)⟩ ⟨(Nat.le_of_ble_eq_true rfl), (Nat.le_of_ble_eq_true rfl)⟩ (fun r h9 hp => ?_)
            rcases hp with ⟨rfl, rfl, h61⟩ | ⟨rfl, rfl, h62⟩
            · refine J_nf (nh2 := nh) (ck2 := 0) (sk2 := 0) (st2 := [.int (zI 1)]) rfl rfl rfl rfl ?_
              refine Z_if_eq (tgt := 83) dX5_plain_75 (by decide) v_4dcc24baa7 (fun h63 => absurd h63 v_3a47bfd896) (fun h63 => ?_)
              refine Z_bipush (n := 6) dX5_plain_78 (by decide +kernel) ?_
              refine J_goto (tgt := 99) dX5_plain_80 (by decide) ?_
              refine J_istore_n dX5_plain_99 rfl (Nat.le_of_ble_eq_true rfl) rfl ?_
              refine J_ls (ls2 := [some (.ref 54), some (.int (zI 8)), some (.int (zI dn_4)), some (.int (zI 6))]) rfl ?_
              refine J_iload_n dX5_plain_100 rfl rfl ?_
              refine Z_bipush (n := 8) dX5_plain_101 (by decide +kernel) ?_
              refine Z_icmp_ne (tgt := 120) dX5_plain_103 (by decide) v_8f5ecbc95e v_665891e294 (fun h64 => ?_) (fun h64 => absurd h64 v_ada6685030)
              refine J_aload_n dX5_plain_120 rfl rfl ?_
              have g65 := TokL.lt h25 (v_f5333b39e4 h61)
              refine J_callV (st := []) dX5_plain_121 cv_X5_43 (d_advance (z13 + 1) ln z6 z7 z8 z9 z10 fl z11 tp q0 q1 (v_d253cb2c59 h16 g65) h18 h19 h20 q15 (TkX.ps h29 (v_2b02420001 h30)) rfl hk55) rfl rfl rfl (Nat.le_of_ble_eq_true rfl) ⟨(Nat.le_of_ble_eq_true rfl), (Nat.le_of_ble_eq_true rfl)⟩ ⟨(Nat.le_of_ble_eq_true rfl), (Nat.le_of_ble_eq_true rfl)⟩ (fun r h9 hp => ?_)
              obtain ⟨z66, z67, z68, z69, rfl, rfl, h70, h71, h72, h73, h74, h75, h76, h77, h78⟩ := hp
              refine J_nf (nh2 := nh) (ck2 := 0) (sk2 := 0) (st2 := []) rfl rfl rfl rfl ?_
              refine J_app (L3 := [(54, .inr (5, [.ref 55, .int (zI ln), .int (zI z66), .int (zI z67), .int (zI z68), .int (zI z69), .int (zI z10), .int (zI fl), .ref 56, .int (zI z11)])), (54, .inr (5, [.ref 55, .int (zI ln), .int (zI z6), .int (zI z7), .int (zI z8), .int (zI z9), .int (zI z10), .int (zI fl), .ref 56, .int (zI z11)])), (56, .inl (0, 412, .inl (zA f12)))]) rfl ?_
              refine J_mask (L2 := [(54, .inr (5, [.ref 55, .int (zI ln), .int (zI z66), .int (zI z67), .int (zI z68), .int (zI z69), .int (zI z10), .int (zI fl), .ref 56, .int (zI z11)])), (56, .inl (0, 412, .inl (zA f12)))]) (ks := [54, 54, 56]) [true, false, true] rfl (by decide +kernel) rfl ?_
              refine J_aload_n dX5_plain_124 rfl rfl ?_
              refine J_iload_n dX5_plain_125 rfl rfl ?_
              refine J_callV (st := []) dX5_plain_126 cv_X5_63 (d_sum8 ln z66 z67 z68 z69 z10 fl z11 tp f12 (z13 + 1) q0 q1 h70 h71 (v_9b2e2070a2 h16 g65 h72) h73 h74 h75 h76 h21 h22 q11 h23 h24 h77 q15 h26 h78 (v_da458fa48a h30) (v_3514f20a56 q19 i4_5 h1 h27 g65 h72) rfl hk55 rfl) rfl rfl rfl (Nat.le_of_ble_eq_true rfl) ⟨(Nat.le_of_ble_eq_true rfl), (Nat.le_of_ble_eq_true rfl)⟩ ⟨(Nat.le_of_ble_eq_true rfl), (Nat.le_of_ble_eq_true rfl)⟩ (fun r h9 hp => ?_)
              rcases hp with ⟨z79, z80, z81, z82, z83, z84, f85, z86, rfl, rfl, h87, h88, h89, h90, h91, h92, h93, h94, h95, h96, h97, h98, h99, h100, h101, h102, h103, h104, h105, h106⟩ | ⟨z107, z108, z109, z110, z111, z112, f113, z114, z115, rfl, rfl, h116, h117, h118, h119, h120, h121, h122, h123, h124, h125, h126, h127, h128, h129, h130, h131, h132⟩
              · exact False.elim (v_a6bcc94d33 q1 q4 i4_5 h1 h18 h28 g65)
              · exact False.elim (v_a6bcc94d33 q1 q4 i4_5 h1 h18 h28 g65)
            · refine J_nf (nh2 := nh) (ck2 := 0) (sk2 := 0) (st2 := [.int (zI 0)]) rfl rfl rfl rfl ?_
              refine Z_if_eq (tgt := 83) dX5_plain_75 (by decide) v_b17331891f (fun h133 => ?_) (fun h133 => absurd h133 (fun q => q v_2ca2bbca1f))
              refine J_aload_n dX5_plain_83 rfl rfl ?_
              refine Z_bipush (n := 62) dX5_plain_84 (by decide +kernel) ?_
              refine J_callV (st := []) dX5_plain_86 cv_X5_50 (d_isSign 62 ln z6 z7 z8 z9 z10 fl z11 v_722c6b3941 v_3996c1d9a8 h14 h15 rfl) rfl rfl rfl (Nat.le_of_ble_eq_true rfl) ⟨(Nat.le_of_ble_eq_true rfl), (Nat.le_of_ble_eq_true rfl)⟩ ⟨(Nat.le_of_ble_eq_true rfl), (Nat.le_of_ble_eq_true rfl)⟩ (fun r h9 hp => ?_)
              rcases hp with ⟨rfl, rfl, h134⟩ | ⟨rfl, rfl, h135⟩
              · refine J_nf (nh2 := nh) (ck2 := 0) (sk2 := 0) (st2 := [.int (zI 1)]) rfl rfl rfl rfl ?_
                refine Z_if_eq (tgt := 97) dX5_plain_89 (by decide) v_4dcc24baa7 (fun h136 => absurd h136 v_3a47bfd896) (fun h136 => ?_)
                refine Z_bipush (n := 7) dX5_plain_92 (by decide +kernel) ?_
                refine J_goto (tgt := 99) dX5_plain_94 (by decide) ?_
                refine J_istore_n dX5_plain_99 rfl (Nat.le_of_ble_eq_true rfl) rfl ?_
                refine J_ls (ls2 := [some (.ref 54), some (.int (zI 8)), some (.int (zI dn_4)), some (.int (zI 7))]) rfl ?_
                refine J_iload_n dX5_plain_100 rfl rfl ?_
                refine Z_bipush (n := 8) dX5_plain_101 (by decide +kernel) ?_
                refine Z_icmp_ne (tgt := 120) dX5_plain_103 (by decide) v_c3fe1a091f v_665891e294 (fun h137 => ?_) (fun h137 => absurd h137 v_d62b89f05c)
                refine J_aload_n dX5_plain_120 rfl rfl ?_
                have g138 := TokL.lt h25 (v_3ec9e003c7 h134)
                refine J_callV (st := []) dX5_plain_121 cv_X5_43 (d_advance (z13 + 1) ln z6 z7 z8 z9 z10 fl z11 tp q0 q1 (v_d253cb2c59 h16 g138) h18 h19 h20 q15 (TkX.ps h29 (v_2b02420001 h30)) rfl hk55) rfl rfl rfl (Nat.le_of_ble_eq_true rfl) ⟨(Nat.le_of_ble_eq_true rfl), (Nat.le_of_ble_eq_true rfl)⟩ ⟨(Nat.le_of_ble_eq_true rfl), (Nat.le_of_ble_eq_true rfl)⟩ (fun r h9 hp => ?_)
                obtain ⟨z139, z140, z141, z142, rfl, rfl, h143, h144, h145, h146, h147, h148, h149, h150, h151⟩ := hp
                refine J_nf (nh2 := nh) (ck2 := 0) (sk2 := 0) (st2 := []) rfl rfl rfl rfl ?_
                refine J_app (L3 := [(54, .inr (5, [.ref 55, .int (zI ln), .int (zI z139), .int (zI z140), .int (zI z141), .int (zI z142), .int (zI z10), .int (zI fl), .ref 56, .int (zI z11)])), (54, .inr (5, [.ref 55, .int (zI ln), .int (zI z6), .int (zI z7), .int (zI z8), .int (zI z9), .int (zI z10), .int (zI fl), .ref 56, .int (zI z11)])), (56, .inl (0, 412, .inl (zA f12)))]) rfl ?_
                refine J_mask (L2 := [(54, .inr (5, [.ref 55, .int (zI ln), .int (zI z139), .int (zI z140), .int (zI z141), .int (zI z142), .int (zI z10), .int (zI fl), .ref 56, .int (zI z11)])), (56, .inl (0, 412, .inl (zA f12)))]) (ks := [54, 54, 56]) [true, false, true] rfl (by decide +kernel) rfl ?_
                refine J_aload_n dX5_plain_124 rfl rfl ?_
                refine J_iload_n dX5_plain_125 rfl rfl ?_
                refine J_callV (st := []) dX5_plain_126 cv_X5_63 (d_sum8 ln z139 z140 z141 z142 z10 fl z11 tp f12 (z13 + 1) q0 q1 h143 h144 (v_9b2e2070a2 h16 g138 h145) h146 h147 h148 h149 h21 h22 q11 h23 h24 h150 q15 h26 h151 (v_da458fa48a h30) (v_3514f20a56 q19 i4_5 h1 h27 g138 h145) rfl hk55 rfl) rfl rfl rfl (Nat.le_of_ble_eq_true rfl) ⟨(Nat.le_of_ble_eq_true rfl), (Nat.le_of_ble_eq_true rfl)⟩ ⟨(Nat.le_of_ble_eq_true rfl), (Nat.le_of_ble_eq_true rfl)⟩ (fun r h9 hp => ?_)
                rcases hp with ⟨z152, z153, z154, z155, z156, z157, f158, z159, rfl, rfl, h160, h161, h162, h163, h164, h165, h166, h167, h168, h169, h170, h171, h172, h173, h174, h175, h176, h177, h178, h179⟩ | ⟨z180, z181, z182, z183, z184, z185, f186, z187, z188, rfl, rfl, h189, h190, h191, h192, h193, h194, h195, h196, h197, h198, h199, h200, h201, h202, h203, h204, h205⟩
                · exact False.elim (v_a6bcc94d33 q1 q4 i4_5 h1 h18 h28 g138)
                · exact False.elim (v_a6bcc94d33 q1 q4 i4_5 h1 h18 h28 g138)
              · refine J_nf (nh2 := nh) (ck2 := 0) (sk2 := 0) (st2 := [.int (zI 0)]) rfl rfl rfl rfl ?_
                refine Z_if_eq (tgt := 97) dX5_plain_89 (by decide) v_b17331891f (fun h206 => ?_) (fun h206 => absurd h206 (fun q => q v_2ca2bbca1f))
                refine Z_bipush (n := 8) dX5_plain_97 (by decide +kernel) ?_
                refine J_istore_n dX5_plain_99 rfl (Nat.le_of_ble_eq_true rfl) rfl ?_
                refine J_ls (ls2 := [some (.ref 54), some (.int (zI 8)), some (.int (zI dn_4)), some (.int (zI 8))]) rfl ?_
                refine J_iload_n dX5_plain_100 rfl rfl ?_
                refine Z_bipush (n := 8) dX5_plain_101 (by decide +kernel) ?_
                refine Z_icmp_ne (tgt := 120) dX5_plain_103 (by decide) v_665891e294 v_665891e294 (fun h207 => absurd h207 (fun q => q v_c1b8243509)) (fun h207 => ?_)
                refine J_aload_n dX5_plain_106 rfl rfl ?_
                refine Z_bipush (n := 61) dX5_plain_107 (by decide +kernel) ?_
                refine J_callV (st := []) dX5_plain_109 cv_X5_50 (d_isSign 61 ln z6 z7 z8 z9 z10 fl z11 v_b92a3c53b8 v_7b9730a51b h14 h15 rfl) rfl rfl rfl (Nat.le_of_ble_eq_true rfl) ⟨(Nat.le_of_ble_eq_true rfl), (Nat.le_of_ble_eq_true rfl)⟩ ⟨(Nat.le_of_ble_eq_true rfl), (Nat.le_of_ble_eq_true rfl)⟩ (fun r h9 hp => ?_)
                rcases hp with ⟨rfl, rfl, h208⟩ | ⟨rfl, rfl, h209⟩
                · refine J_nf (nh2 := nh) (ck2 := 0) (sk2 := 0) (st2 := [.int (zI 1)]) rfl rfl rfl rfl ?_
                  refine Z_if_ne (tgt := 120) dX5_plain_112 (by decide) v_4dcc24baa7 (fun h210 => ?_) (fun h210 => absurd h210 v_3a47bfd896)
                  refine J_aload_n dX5_plain_120 rfl rfl ?_
                  have g211 := TokL.lt h25 (v_23eeeea057 h208)
                  refine J_callV (st := []) dX5_plain_121 cv_X5_43 (d_advance (z13 + 1) ln z6 z7 z8 z9 z10 fl z11 tp q0 q1 (v_d253cb2c59 h16 g211) h18 h19 h20 q15 (TkX.ps h29 (v_2b02420001 h30)) rfl hk55) rfl rfl rfl (Nat.le_of_ble_eq_true rfl) ⟨(Nat.le_of_ble_eq_true rfl), (Nat.le_of_ble_eq_true rfl)⟩ ⟨(Nat.le_of_ble_eq_true rfl), (Nat.le_of_ble_eq_true rfl)⟩ (fun r h9 hp => ?_)
                  obtain ⟨z212, z213, z214, z215, rfl, rfl, h216, h217, h218, h219, h220, h221, h222, h223, h224⟩ := hp
                  refine J_nf (nh2 := nh) (ck2 := 0) (sk2 := 0) (st2 := []) rfl rfl rfl rfl ?_
                  refine J_app (L3 := [(54, .inr (5, [.ref 55, .int (zI ln), .int (zI z212), .int (zI z213), .int (zI z214), .int (zI z215), .int (zI z10), .int (zI fl), .ref 56, .int (zI z11)])), (54, .inr (5, [.ref 55, .int (zI ln), .int (zI z6), .int (zI z7), .int (zI z8), .int (zI z9), .int (zI z10), .int (zI fl), .ref 56, .int (zI z11)])), (56, .inl (0, 412, .inl (zA f12)))]) rfl ?_
                  refine J_mask (L2 := [(54, .inr (5, [.ref 55, .int (zI ln), .int (zI z212), .int (zI z213), .int (zI z214), .int (zI z215), .int (zI z10), .int (zI fl), .ref 56, .int (zI z11)])), (56, .inl (0, 412, .inl (zA f12)))]) (ks := [54, 54, 56]) [true, false, true] rfl (by decide +kernel) rfl ?_
                  refine J_aload_n dX5_plain_124 rfl rfl ?_
                  refine J_iload_n dX5_plain_125 rfl rfl ?_
                  refine J_callV (st := []) dX5_plain_126 cv_X5_63 (d_sum8 ln z212 z213 z214 z215 z10 fl z11 tp f12 (z13 + 1) q0 q1 h216 h217 (v_9b2e2070a2 h16 g211 h218) h219 h220 h221 h222 h21 h22 q11 h23 h24 h223 q15 h26 h224 (v_da458fa48a h30) (v_3514f20a56 q19 i4_5 h1 h27 g211 h218) rfl hk55 rfl) rfl rfl rfl (Nat.le_of_ble_eq_true rfl) ⟨(Nat.le_of_ble_eq_true rfl), (Nat.le_of_ble_eq_true rfl)⟩ ⟨(Nat.le_of_ble_eq_true rfl), (Nat.le_of_ble_eq_true rfl)⟩ (fun r h9 hp => ?_)
                  rcases hp with ⟨z225, z226, z227, z228, z229, z230, f231, z232, rfl, rfl, h233, h234, h235, h236, h237, h238, h239, h240, h241, h242, h243, h244, h245, h246, h247, h248, h249, h250, h251, h252⟩ | ⟨z253, z254, z255, z256, z257, z258, f259, z260, z261, rfl, rfl, h262, h263, h264, h265, h266, h267, h268, h269, h270, h271, h272, h273, h274, h275, h276, h277, h278⟩
                  · exact False.elim (v_a6bcc94d33 q1 q4 i4_5 h1 h18 h28 g211)
                  · exact False.elim (v_a6bcc94d33 q1 q4 i4_5 h1 h18 h28 g211)
                · refine J_nf (nh2 := nh) (ck2 := 0) (sk2 := 0) (st2 := [.int (zI 0)]) rfl rfl rfl rfl ?_
                  refine Z_if_ne (tgt := 120) dX5_plain_112 (by decide) v_b17331891f (fun h279 => absurd h279 (fun q => q v_2ca2bbca1f)) (fun h279 => ?_)
                  refine J_aload_n dX5_plain_115 rfl rfl ?_
                  refine J_callV (st := []) dX5_plain_116 cv_X5_54 (d_wrong ln z6 z7 z8 z9 z10 fl z11 h16 (v_1adcfdfee5 q1 h17 h18) rfl) rfl rfl rfl (Nat.le_of_ble_eq_true rfl) ⟨(Nat.le_of_ble_eq_true rfl), (Nat.le_of_ble_eq_true rfl)⟩ ⟨(Nat.le_of_ble_eq_true rfl), (Nat.le_of_ble_eq_true rfl)⟩ (fun r h9 hp => ?_)
                  obtain ⟨rfl, rfl⟩ := hp
                  refine J_nf (nh2 := nh) (ck2 := 0) (sk2 := 0) (st2 := [.int (zI 0)]) rfl rfl rfl rfl ?_
                  refine J_app (L3 := [(54, .inr (5, [.ref 55, .int (zI ln), .int (zI z6), .int (zI z7), .int (zI z8), .int (zI z9), .int (zI z10), .int (zI z7), .ref 56, .int (zI z11)])), (54, .inr (5, [.ref 55, .int (zI ln), .int (zI z6), .int (zI z7), .int (zI z8), .int (zI z9), .int (zI z10), .int (zI fl), .ref 56, .int (zI z11)])), (56, .inl (0, 412, .inl (zA f12)))]) rfl ?_
                  refine J_mask (L2 := [(54, .inr (5, [.ref 55, .int (zI ln), .int (zI z6), .int (zI z7), .int (zI z8), .int (zI z9), .int (zI z10), .int (zI z7), .ref 56, .int (zI z11)])), (56, .inl (0, 412, .inl (zA f12)))]) (ks := [54, 54, 56]) [true, false, true] rfl (by decide +kernel) rfl ?_
                  exact J_iret dX5_plain_119 rfl (jbn v_939070ca3f v_316afd7d0b) (Nat.le_of_ble_eq_true rfl) (Nat.le_of_ble_eq_true rfl) (Or.inr ⟨z6, z7, z8, z9, z10, z11, f12, z7, z13, rfl, rfl, h14, h15, h16, h17, h18, h19, h20, h21, h22, h23, h24, h25, h26, h16, (v_1adcfdfee5 q1 h17 h18), ((TkX.s h29)), (PlR.w (v_d464d4c634 i4_15) i4_16 (fun w => absurd ((TkX.wd i4_14 (v := 6) (c := 7) (by decide) (by decide) (by decide)).mp w) (v_bd75728820 g2)) (fun w => absurd ((TkX.sg i4_14 (v := 140) (by decide)).mp w) (v_c9b196b50c g2)) h31 (fun w => Or.elim w (fun w => absurd ((TkX.sg h29 (v := 160) (by decide)).mp w) (v_62784191f6 h62)) (fun w => Or.elim w (fun w => absurd ((TkX.sg h29 (v := 161) (by decide)).mp w) (v_e6bfb52c99 h209)) (fun w => absurd ((TkX.sg h29 (v := 162) (by decide)).mp w) (v_b61acea494 h135)))))⟩)
          · refine J_nf (nh2 := nh) (ck2 := 0) (sk2 := 0) (st2 := [.int (zI 0)]) rfl rfl rfl rfl ?_
            refine J_app (L3 := [(54, .inr (5, [.ref 55, .int (zI ln), .int (zI z34), .int (zI z35), .int (zI z36), .int (zI z37), .int (zI z38), .int (zI z41), .ref 56, .int (zI z39)])), (56, .inl (0, 412, .inl (zA f40))), (54, .inr (5, [.ref 55, .int (zI ln), .int (zI tx_4), .int (zI sx_4), .int (zI bx_4), .int (zI vx_4), .int (zI pa), .int (zI fl), .ref 56, .int (zI sz)]))]) rfl ?_
            refine J_mask (L2 := [(54, .inr (5, [.ref 55, .int (zI ln), .int (zI z34), .int (zI z35), .int (zI z36), .int (zI z37), .int (zI z38), .int (zI z41), .ref 56, .int (zI z39)])), (56, .inl (0, 412, .inl (zA f40)))]) (ks := [54, 56, 54]) [true, true, false] rfl (by decide +kernel) rfl ?_
            refine Z_if_ne (tgt := 69) dX5_plain_64 (by decide) v_b17331891f (fun h280 => absurd h280 (fun q => q v_2ca2bbca1f)) (fun h280 => ?_)
            refine Z_iconst (n := 0) dX5_plain_67 ?_
            exact J_iret dX5_plain_68 rfl (jbn v_939070ca3f v_316afd7d0b) (Nat.le_of_ble_eq_true rfl) (Nat.le_of_ble_eq_true rfl) (Or.inr ⟨z34, z35, z36, z37, z38, z39, f40, z41, z42, rfl, rfl, h43, h44, h45, h46, h47, h48, h49, h50, h51, h52, h53, h54, h55, h56, h57, (h58), (PlR.b1 (v_d464d4c634 i4_15) i4_16 (fun w => absurd ((TkX.wd i4_14 (v := 6) (c := 7) (by decide) (by decide) (by decide)).mp w) (v_bd75728820 g2)) (fun w => absurd ((TkX.sg i4_14 (v := 140) (by decide)).mp w) (v_c9b196b50c g2)) h59)⟩)
      · refine J_aload_n dX5_plain_11 rfl rfl ?_
        refine J_get (v := .int (zI tx_4)) dX5_plain_12 fl_X5_19 rfl rfl ?_
        refine Z_bipush (n := 6) dX5_plain_15 (by decide +kernel) ?_
        refine Z_icmp_ne (tgt := 40) dX5_plain_17 (by decide) (v_96bf6f782e i4_6 i4_7) v_8f5ecbc95e (fun h281 => ?_) (fun h281 => ?_)
        · refine J_aload_n dX5_plain_40 rfl rfl ?_
          refine Z_bipush (n := 40) dX5_plain_41 (by decide +kernel) ?_
          refine J_callV (st := []) dX5_plain_43 cv_X5_50 (d_isSign 40 ln tx_4 sx_4 bx_4 vx_4 pa fl sz v_3958fe4c87 v_fdd2493dbb i4_6 i4_7 rfl) rfl rfl rfl (Nat.le_of_ble_eq_true rfl) ⟨(Nat.le_of_ble_eq_true rfl), (Nat.le_of_ble_eq_true rfl)⟩ ⟨(Nat.le_of_ble_eq_true rfl), (Nat.le_of_ble_eq_true rfl)⟩ (fun r h9 hp => ?_)
          rcases hp with ⟨rfl, rfl, h282⟩ | ⟨rfl, rfl, h283⟩
          · refine J_nf (nh2 := nh) (ck2 := 0) (sk2 := 0) (st2 := [.int (zI 1)]) rfl rfl rfl rfl ?_
            refine Z_if_eq (tgt := 59) dX5_plain_46 (by decide) v_4dcc24baa7 (fun h284 => absurd h284 v_3a47bfd896) (fun h284 => ?_)
            refine J_aload_n dX5_plain_49 rfl rfl ?_
            refine J_iload_n dX5_plain_50 rfl rfl ?_
            refine J_callV (st := []) dX5_plain_51 cv_X5_86 (d_bracketedTest8 ln tx_4 sx_4 bx_4 vx_4 pa fl sz tp cd ti_4 q0 q1 i4_6 i4_7 i4_8 i4_9 i4_10 i4_11 i4_12 q9 q10 q11 q12 q13 i4_13 q15 q16 i4_14 (v_21976c7318 q18 i4_15) (v_d57ed2d6e4 q19 i4_0 i4_5) rfl hk55 hk56) rfl rfl rfl (Nat.le_of_ble_eq_true rfl) ⟨(Nat.le_of_ble_eq_true rfl), (Nat.le_of_ble_eq_true rfl)⟩ ⟨(Nat.le_of_ble_eq_true rfl), (Nat.le_of_ble_eq_true rfl)⟩ (fun r h9 hp => ?_)
            rcases hp with ⟨z285, z286, z287, z288, z289, z290, f291, z292, rfl, rfl, h293, h294, h295, h296, h297, h298, h299, h300, h301, h302, h303, h304, h305, h306, h307, h308, h309, h310, h311, h312⟩ | ⟨z313, z314, z315, z316, z317, z318, f319, z320, z321, rfl, rfl, h322, h323, h324, h325, h326, h327, h328, h329, h330, h331, h332, h333, h334, h335, h336, h337, h338⟩
            · refine J_nf (nh2 := nh) (ck2 := 0) (sk2 := 0) (st2 := [.int (zI 1)]) rfl rfl rfl rfl ?_
              refine J_app (L3 := [(54, .inr (5, [.ref 55, .int (zI ln), .int (zI z285), .int (zI z286), .int (zI z287), .int (zI z288), .int (zI z289), .int (zI fl), .ref 56, .int (zI z290)])), (56, .inl (0, 412, .inl (zA f291))), (54, .inr (5, [.ref 55, .int (zI ln), .int (zI tx_4), .int (zI sx_4), .int (zI bx_4), .int (zI vx_4), .int (zI pa), .int (zI fl), .ref 56, .int (zI sz)]))]) rfl ?_
              refine J_mask (L2 := [(54, .inr (5, [.ref 55, .int (zI ln), .int (zI z285), .int (zI z286), .int (zI z287), .int (zI z288), .int (zI z289), .int (zI fl), .ref 56, .int (zI z290)])), (56, .inl (0, 412, .inl (zA f291)))]) (ks := [54, 56, 54]) [true, true, false] rfl (by decide +kernel) rfl ?_
              refine Z_if_ne (tgt := 141) dX5_plain_54 (by decide) v_4dcc24baa7 (fun h339 => ?_) (fun h339 => absurd h339 v_3a47bfd896)
              refine J_iload_n dX5_plain_141 rfl rfl ?_
              refine Z_if_eq (tgt := 153) dX5_plain_142 (by decide) (v_5f10a759cd i4_2 i4_3) (fun h340 => ?_) (fun h340 => ?_)
              · refine Z_iconst (n := 1) dX5_plain_153 ?_
                exact J_iret dX5_plain_154 rfl (jbn v_316afd7d0b v_bbcfac9b7d) (Nat.le_of_ble_eq_true rfl) (Nat.le_of_ble_eq_true rfl) (Or.inl ⟨z285, z286, z287, z288, z289, z290, f291, z292, rfl, rfl, h293, h294, h295, h296, h297, h298, h299, h300, h301, h302, h303, h304, h305, (v_f7907ed2b5 i4_0 i4_5 h306), (v_4790cfd5f0 i4_0 i4_5 h307), h308, h309, (PlR.br (v_d464d4c634 i4_15) i4_16 (fun w => absurd ((TkX.wd i4_14 (v := 6) (c := 7) (by decide) (by decide) (by decide)).mp w) (v_e35e61c023 h282)) ((TkX.sg i4_14 (v := 140) (by decide)).mpr (v_b392e93b1e h282)) h310), h311, (SgT.end0 (SgT.br ((TkX.sg i4_14 (v := 140) (by decide)).mpr (v_b392e93b1e h282)) h312) (v_d464d4c634 i4_15) i4_16 (fun w => absurd ((TkX.wd i4_14 (v := 6) (c := 7) (by decide) (by decide) (by decide)).mp w) (v_e35e61c023 h282)) i4_17 (v_bd6c74a791 i4_2 h340))⟩)
              · refine J_aload_n dX5_plain_145 rfl rfl ?_
                refine Z_bipush (n := 9) dX5_plain_146 (by decide +kernel) ?_
                refine Z_iconst (n := 0) dX5_plain_148 ?_
                refine J_callV (st := []) dX5_plain_149 cv_X5_72 (d_emit 9 0 ln z285 z286 z287 z288 z289 fl z290 f291 v_00f9f00cc1 v_b17331891f v_4501955220 v_960328259c v_939070ca3f v_e30af74f14 h302 (v_867fdb0733 q1 q19 i4_0 i4_5 h296 h297 h306) h305 rfl rfl) rfl rfl rfl (Nat.le_of_ble_eq_true rfl) ⟨(Nat.le_of_ble_eq_true rfl), (Nat.le_of_ble_eq_true rfl)⟩ ⟨(Nat.le_of_ble_eq_true rfl), (Nat.le_of_ble_eq_true rfl)⟩ (fun r h9 hp => ?_)
                obtain ⟨f341, z342, rfl, rfl, h343, h344, h345, h346⟩ := hp
                refine J_nf (nh2 := nh) (ck2 := 0) (sk2 := 0) (st2 := [.int (zI z290)]) rfl rfl rfl rfl ?_
                refine J_app (L3 := [(54, .inr (5, [.ref 55, .int (zI ln), .int (zI z285), .int (zI z286), .int (zI z287), .int (zI z288), .int (zI z289), .int (zI fl), .ref 56, .int (zI (z290 + 1))])), (56, .inl (0, 412, .inl (zA f341))), (54, .inr (5, [.ref 55, .int (zI ln), .int (zI z285), .int (zI z286), .int (zI z287), .int (zI z288), .int (zI z289), .int (zI fl), .ref 56, .int (zI z290)])), (56, .inl (0, 412, .inl (zA f291)))]) (by first | rfl | (simp only [Int.add_assoc]; rfl)) ?_
                refine J_mask (L2 := [(54, .inr (5, [.ref 55, .int (zI ln), .int (zI z285), .int (zI z286), .int (zI z287), .int (zI z288), .int (zI z289), .int (zI fl), .ref 56, .int (zI (z290 + 1))])), (56, .inl (0, 412, .inl (zA f341)))]) (ks := [54, 56, 54, 56]) [true, true, false, false] rfl (by decide +kernel) rfl ?_
                refine J_pop dX5_plain_152 rfl ?_
                refine Z_iconst (n := 1) dX5_plain_153 ?_
                exact J_iret dX5_plain_154 rfl (jbn v_316afd7d0b v_bbcfac9b7d) (Nat.le_of_ble_eq_true rfl) (Nat.le_of_ble_eq_true rfl) (Or.inl ⟨z285, z286, z287, z288, z289, (z290 + 1), f341, z292, rfl, rfl, h293, h294, h295, h296, h297, h298, h299, h300, h301, (v_da458fa48a h302), (v_79fa70ca55 q1 q19 i4_0 i4_5 h296 h297 h306), h304, h345, (v_5cdd30d860 i4_2 i4_4 h306 h340), (v_4790cfd5f0 i4_0 i4_5 h307), h308, h309, (PlR.br (v_d464d4c634 i4_15) i4_16 (fun w => absurd ((TkX.wd i4_14 (v := 6) (c := 7) (by decide) (by decide) (by decide)).mp w) (v_e35e61c023 h282)) ((TkX.sg i4_14 (v := 140) (by decide)).mpr (v_b392e93b1e h282)) h310), h311, (SgT.end1 (SgT.br ((TkX.sg i4_14 (v := 140) (by decide)).mpr (v_b392e93b1e h282)) h312) (v_d464d4c634 i4_15) i4_16 (fun w => absurd ((TkX.wd i4_14 (v := 6) (c := 7) (by decide) (by decide) (by decide)).mp w) (v_e35e61c023 h282)) i4_17 (v_8b15499c4b i4_2 i4_3 h340) h343 h344 (by omega))⟩)
            · refine J_nf (nh2 := nh) (ck2 := 0) (sk2 := 0) (st2 := [.int (zI 0)]) rfl rfl rfl rfl ?_
              refine J_app (L3 := [(54, .inr (5, [.ref 55, .int (zI ln), .int (zI z313), .int (zI z314), .int (zI z315), .int (zI z316), .int (zI z317), .int (zI z320), .ref 56, .int (zI z318)])), (56, .inl (0, 412, .inl (zA f319))), (54, .inr (5, [.ref 55, .int (zI ln), .int (zI tx_4), .int (zI sx_4), .int (zI bx_4), .int (zI vx_4), .int (zI pa), .int (zI fl), .ref 56, .int (zI sz)]))]) rfl ?_
              refine J_mask (L2 := [(54, .inr (5, [.ref 55, .int (zI ln), .int (zI z313), .int (zI z314), .int (zI z315), .int (zI z316), .int (zI z317), .int (zI z320), .ref 56, .int (zI z318)])), (56, .inl (0, 412, .inl (zA f319)))]) (ks := [54, 56, 54]) [true, true, false] rfl (by decide +kernel) rfl ?_
              refine Z_if_ne (tgt := 141) dX5_plain_54 (by decide) v_b17331891f (fun h347 => absurd h347 (fun q => q v_2ca2bbca1f)) (fun h347 => ?_)
              refine Z_iconst (n := 0) dX5_plain_57 ?_
              exact J_iret dX5_plain_58 rfl (jbn v_939070ca3f v_316afd7d0b) (Nat.le_of_ble_eq_true rfl) (Nat.le_of_ble_eq_true rfl) (Or.inr ⟨z313, z314, z315, z316, z317, z318, f319, z320, z321, rfl, rfl, h322, h323, h324, h325, h326, h327, h328, h329, h330, h331, h332, h333, h334, h335, h336, (h337), (PlR.br (v_d464d4c634 i4_15) i4_16 (fun w => absurd ((TkX.wd i4_14 (v := 6) (c := 7) (by decide) (by decide) (by decide)).mp w) (v_e35e61c023 h282)) ((TkX.sg i4_14 (v := 140) (by decide)).mpr (v_b392e93b1e h282)) h338)⟩)
          · refine J_nf (nh2 := nh) (ck2 := 0) (sk2 := 0) (st2 := [.int (zI 0)]) rfl rfl rfl rfl ?_
            refine Z_if_eq (tgt := 59) dX5_plain_46 (by decide) v_b17331891f (fun h348 => ?_) (fun h348 => absurd h348 (fun q => q v_2ca2bbca1f))
            refine J_aload_n dX5_plain_59 rfl rfl ?_
            refine J_iload_n dX5_plain_60 rfl rfl ?_
            refine J_callV (st := []) dX5_plain_61 cv_X5_63 (d_sum8 ln tx_4 sx_4 bx_4 vx_4 pa fl sz tp cd ti_4 q0 q1 i4_6 i4_7 i4_8 i4_9 i4_10 i4_11 i4_12 q9 q10 q11 q12 q13 i4_13 q15 q16 i4_14 (v_21976c7318 q18 i4_15) (v_d57ed2d6e4 q19 i4_0 i4_5) rfl hk55 hk56) rfl rfl rfl (Nat.le_of_ble_eq_true rfl) ⟨(Nat.le_of_ble_eq_true rfl), (Nat.le_of_ble_eq_true rfl)⟩ ⟨(Nat.le_of_ble_eq_true rfl), (Nat.le_of_ble_eq_true rfl)⟩ (fun r h9 hp => ?_)
            rcases hp with ⟨z349, z350, z351, z352, z353, z354, f355, z356, rfl, rfl, h357, h358, h359, h360, h361, h362, h363, h364, h365, h366, h367, h368, h369, h370, h371, h372, h373, h374, h375, h376⟩ | ⟨z377, z378, z379, z380, z381, z382, f383, z384, z385, rfl, rfl, h386, h387, h388, h389, h390, h391, h392, h393, h394, h395, h396, h397, h398, h399, h400, h401, h402⟩
            · refine J_nf (nh2 := nh) (ck2 := 0) (sk2 := 0) (st2 := [.int (zI 1)]) rfl rfl rfl rfl ?_
              refine J_app (L3 := [(54, .inr (5, [.ref 55, .int (zI ln), .int (zI z349), .int (zI z350), .int (zI z351), .int (zI z352), .int (zI z353), .int (zI fl), .ref 56, .int (zI z354)])), (56, .inl (0, 412, .inl (zA f355))), (54, .inr (5, [.ref 55, .int (zI ln), .int (zI tx_4), .int (zI sx_4), .int (zI bx_4), .int (zI vx_4), .int (zI pa), .int (zI fl), .ref 56, .int (zI sz)]))]) rfl ?_
              refine J_mask (L2 := [(54, .inr (5, [.ref 55, .int (zI ln), .int (zI z349), .int (zI z350), .int (zI z351), .int (zI z352), .int (zI z353), .int (zI fl), .ref 56, .int (zI z354)])), (56, .inl (0, 412, .inl (zA f355)))]) (ks := [54, 56, 54]) [true, true, false] rfl (by decide +kernel) rfl ?_
              refine Z_if_ne (tgt := 69) dX5_plain_64 (by decide) v_4dcc24baa7 (fun h403 => ?_) (fun h403 => absurd h403 v_3a47bfd896)
              refine J_aload_n dX5_plain_69 rfl rfl ?_
              refine Z_bipush (n := 60) dX5_plain_70 (by decide +kernel) ?_
              refine J_callV (st := []) dX5_plain_72 cv_X5_50 (d_isSign 60 ln z349 z350 z351 z352 z353 fl z354 v_eb2f5e1e3a v_382af52349 h357 h358 rfl) rfl rfl rfl (Nat.le_of_ble_eq_true rfl) ⟨(Nat.le_of_ble_eq_true rfl), (Nat.le_of_ble_eq_true rfl)⟩ ⟨(Nat.le_of_ble_eq_true rfl), (Nat.le_of_ble_eq_true rfl)⟩ (fun r h9 hp => ?_)
              rcases hp with ⟨rfl, rfl, h404⟩ | ⟨rfl, rfl, h405⟩
              · refine J_nf (nh2 := nh) (ck2 := 0) (sk2 := 0) (st2 := [.int (zI 1)]) rfl rfl rfl rfl ?_
                refine Z_if_eq (tgt := 83) dX5_plain_75 (by decide) v_4dcc24baa7 (fun h406 => absurd h406 v_3a47bfd896) (fun h406 => ?_)
                refine Z_bipush (n := 6) dX5_plain_78 (by decide +kernel) ?_
                refine J_goto (tgt := 99) dX5_plain_80 (by decide) ?_
                refine J_istore_n dX5_plain_99 rfl (Nat.le_of_ble_eq_true rfl) rfl ?_
                refine J_ls (ls2 := [some (.ref 54), some (.int (zI 8)), some (.int (zI dn_4)), some (.int (zI 6))]) rfl ?_
                refine J_iload_n dX5_plain_100 rfl rfl ?_
                refine Z_bipush (n := 8) dX5_plain_101 (by decide +kernel) ?_
                refine Z_icmp_ne (tgt := 120) dX5_plain_103 (by decide) v_8f5ecbc95e v_665891e294 (fun h407 => ?_) (fun h407 => absurd h407 v_ada6685030)
                refine J_aload_n dX5_plain_120 rfl rfl ?_
                have g408 := TokL.lt h368 (v_f5333b39e4 h404)
                refine J_callV (st := []) dX5_plain_121 cv_X5_43 (d_advance (z356 + 1) ln z349 z350 z351 z352 z353 fl z354 tp q0 q1 (v_d253cb2c59 h359 g408) h361 h362 h363 q15 (TkX.ps h372 (v_2b02420001 h373)) rfl hk55) rfl rfl rfl (Nat.le_of_ble_eq_true rfl) ⟨(Nat.le_of_ble_eq_true rfl), (Nat.le_of_ble_eq_true rfl)⟩ ⟨(Nat.le_of_ble_eq_true rfl), (Nat.le_of_ble_eq_true rfl)⟩ (fun r h9 hp => ?_)
                obtain ⟨z409, z410, z411, z412, rfl, rfl, h413, h414, h415, h416, h417, h418, h419, h420, h421⟩ := hp
                refine J_nf (nh2 := nh) (ck2 := 0) (sk2 := 0) (st2 := []) rfl rfl rfl rfl ?_
                refine J_app (L3 := [(54, .inr (5, [.ref 55, .int (zI ln), .int (zI z409), .int (zI z410), .int (zI z411), .int (zI z412), .int (zI z353), .int (zI fl), .ref 56, .int (zI z354)])), (54, .inr (5, [.ref 55, .int (zI ln), .int (zI z349), .int (zI z350), .int (zI z351), .int (zI z352), .int (zI z353), .int (zI fl), .ref 56, .int (zI z354)])), (56, .inl (0, 412, .inl (zA f355)))]) rfl ?_
                refine J_mask (L2 := [(54, .inr (5, [.ref 55, .int (zI ln), .int (zI z409), .int (zI z410), .int (zI z411), .int (zI z412), .int (zI z353), .int (zI fl), .ref 56, .int (zI z354)])), (56, .inl (0, 412, .inl (zA f355)))]) (ks := [54, 54, 56]) [true, false, true] rfl (by decide +kernel) rfl ?_
                refine J_aload_n dX5_plain_124 rfl rfl ?_
                refine J_iload_n dX5_plain_125 rfl rfl ?_
                refine J_callV (st := []) dX5_plain_126 cv_X5_63 (d_sum8 ln z409 z410 z411 z412 z353 fl z354 tp f355 (z356 + 1) q0 q1 h413 h414 (v_9b2e2070a2 h359 g408 h415) h416 h417 h418 h419 h364 h365 q11 h366 h367 h420 q15 h369 h421 (v_da458fa48a h373) (v_51cfff4e03 q19 i4_0 i4_5 h370 g408 h415) rfl hk55 rfl) rfl rfl rfl (Nat.le_of_ble_eq_true rfl) ⟨(Nat.le_of_ble_eq_true rfl), (Nat.le_of_ble_eq_true rfl)⟩ ⟨(Nat.le_of_ble_eq_true rfl), (Nat.le_of_ble_eq_true rfl)⟩ (fun r h9 hp => ?_)
                rcases hp with ⟨z422, z423, z424, z425, z426, z427, f428, z429, rfl, rfl, h430, h431, h432, h433, h434, h435, h436, h437, h438, h439, h440, h441, h442, h443, h444, h445, h446, h447, h448, h449⟩ | ⟨z450, z451, z452, z453, z454, z455, f456, z457, z458, rfl, rfl, h459, h460, h461, h462, h463, h464, h465, h466, h467, h468, h469, h470, h471, h472, h473, h474, h475⟩
                · refine J_nf (nh2 := nh) (ck2 := 0) (sk2 := 0) (st2 := [.int (zI 1)]) rfl rfl rfl rfl ?_
                  refine J_app (L3 := [(54, .inr (5, [.ref 55, .int (zI ln), .int (zI z422), .int (zI z423), .int (zI z424), .int (zI z425), .int (zI z426), .int (zI fl), .ref 56, .int (zI z427)])), (56, .inl (0, 412, .inl (zA f428))), (54, .inr (5, [.ref 55, .int (zI ln), .int (zI z409), .int (zI z410), .int (zI z411), .int (zI z412), .int (zI z353), .int (zI fl), .ref 56, .int (zI z354)])), (56, .inl (0, 412, .inl (zA f355)))]) rfl ?_
                  refine J_mask (L2 := [(54, .inr (5, [.ref 55, .int (zI ln), .int (zI z422), .int (zI z423), .int (zI z424), .int (zI z425), .int (zI z426), .int (zI fl), .ref 56, .int (zI z427)])), (56, .inl (0, 412, .inl (zA f428)))]) (ks := [54, 56, 54, 56]) [true, true, false, false] rfl (by decide +kernel) rfl ?_
                  refine Z_if_ne (tgt := 134) dX5_plain_129 (by decide) v_4dcc24baa7 (fun h476 => ?_) (fun h476 => absurd h476 v_3a47bfd896)
                  refine J_aload_n dX5_plain_134 rfl rfl ?_
                  refine J_iload_n dX5_plain_135 rfl rfl ?_
                  refine Z_iconst (n := 0) dX5_plain_136 ?_
                  refine J_callV (st := []) dX5_plain_137 cv_X5_72 (d_emit 6 0 ln z422 z423 z424 z425 z426 fl z427 f428 v_8f5ecbc95e v_b17331891f v_54997b3cd8 v_a2567dbcda v_939070ca3f v_e30af74f14 h439 (v_c01cc1f565 q1 q19 i4_0 i4_5 h370 g408 h415 h433 h434 h443) h442 rfl rfl) rfl rfl rfl (Nat.le_of_ble_eq_true rfl) ⟨(Nat.le_of_ble_eq_true rfl), (Nat.le_of_ble_eq_true rfl)⟩ ⟨(Nat.le_of_ble_eq_true rfl), (Nat.le_of_ble_eq_true rfl)⟩ (fun r h9 hp => ?_)
                  obtain ⟨f477, z478, rfl, rfl, h479, h480, h481, h482⟩ := hp
                  refine J_nf (nh2 := nh) (ck2 := 0) (sk2 := 0) (st2 := [.int (zI z427)]) rfl rfl rfl rfl ?_
                  refine J_app (L3 := [(54, .inr (5, [.ref 55, .int (zI ln), .int (zI z422), .int (zI z423), .int (zI z424), .int (zI z425), .int (zI z426), .int (zI fl), .ref 56, .int (zI (z427 + 1))])), (56, .inl (0, 412, .inl (zA f477))), (54, .inr (5, [.ref 55, .int (zI ln), .int (zI z422), .int (zI z423), .int (zI z424), .int (zI z425), .int (zI z426), .int (zI fl), .ref 56, .int (zI z427)])), (56, .inl (0, 412, .inl (zA f428)))]) (by first | rfl | (simp only [Int.add_assoc]; rfl)) ?_
                  refine J_mask (L2 := [(54, .inr (5, [.ref 55, .int (zI ln), .int (zI z422), .int (zI z423), .int (zI z424), .int (zI z425), .int (zI z426), .int (zI fl), .ref 56, .int (zI (z427 + 1))])), (56, .inl (0, 412, .inl (zA f477)))]) (ks := [54, 56, 54, 56]) [true, true, false, false] rfl (by decide +kernel) rfl ?_
                  refine J_pop dX5_plain_140 rfl ?_
                  refine J_iload_n dX5_plain_141 rfl rfl ?_
                  refine Z_if_eq (tgt := 153) dX5_plain_142 (by decide) (v_5f10a759cd i4_2 i4_3) (fun h483 => ?_) (fun h483 => ?_)
                  · refine Z_iconst (n := 1) dX5_plain_153 ?_
                    exact J_iret dX5_plain_154 rfl (jbn v_316afd7d0b v_bbcfac9b7d) (Nat.le_of_ble_eq_true rfl) (Nat.le_of_ble_eq_true rfl) (Or.inl ⟨z422, z423, z424, z425, z426, (z427 + 1), f477, z429, rfl, rfl, h430, h431, h432, h433, h434, h435, h436, h437, h438, (v_da458fa48a h439), (v_78dfab290b q1 q19 i4_0 i4_5 h370 g408 h415 h433 h434 h443), h441, h481, (v_b291f931a4 i4_0 i4_5 h370 g408 h415 h443), (v_60a9ec55dc i4_0 i4_5 h371 g408 h415 h444), h445, h446, (PlR.y (v_d464d4c634 i4_15) i4_16 (fun w => absurd ((TkX.wd i4_14 (v := 6) (c := 7) (by decide) (by decide) (by decide)).mp w) (v_9810b78d9a h281)) (fun w => absurd ((TkX.sg i4_14 (v := 140) (by decide)).mp w) (v_ce976e4d7c h283)) h374 (Or.inl ((TkX.sg h372 (v := 160) (by decide)).mpr (v_53d1657b4a h404))) h447), (v_8fadc7eb76 h375 h448), (SgT.end0 (SgT.cm (fun w => absurd ((TkX.sg i4_14 (v := 140) (by decide)).mp w) (v_ce976e4d7c h283)) h376 (Or.inl ((TkX.sg h372 (v := 160) (by decide)).mpr (v_53d1657b4a h404))) h449 h479 h480 (Or.inl ⟨rfl, ((TkX.sg h372 (v := 160) (by decide)).mpr (v_53d1657b4a h404))⟩)) (v_d464d4c634 i4_15) i4_16 (fun w => absurd ((TkX.wd i4_14 (v := 6) (c := 7) (by decide) (by decide) (by decide)).mp w) (v_9810b78d9a h281)) i4_17 (v_bd6c74a791 i4_2 h483))⟩)
                  · refine J_aload_n dX5_plain_145 rfl rfl ?_
                    refine Z_bipush (n := 9) dX5_plain_146 (by decide +kernel) ?_
                    refine Z_iconst (n := 0) dX5_plain_148 ?_
                    refine J_callV (st := []) dX5_plain_149 cv_X5_72 (d_emit 9 0 ln z422 z423 z424 z425 z426 fl (z427 + 1) f477 v_00f9f00cc1 v_b17331891f v_4501955220 v_960328259c v_939070ca3f v_e30af74f14 (v_da458fa48a h439) (v_705c53b45f q1 q19 i4_0 i4_5 h370 g408 h415 h433 h434 h443) h481 rfl rfl) rfl rfl rfl (Nat.le_of_ble_eq_true rfl) ⟨(Nat.le_of_ble_eq_true rfl), (Nat.le_of_ble_eq_true rfl)⟩ ⟨(Nat.le_of_ble_eq_true rfl), (Nat.le_of_ble_eq_true rfl)⟩ (fun r h9 hp => ?_)
                    obtain ⟨f484, z485, rfl, rfl, h486, h487, h488, h489⟩ := hp
                    refine J_nf (nh2 := nh) (ck2 := 0) (sk2 := 0) (st2 := [.int (zI (z427 + 1))]) rfl rfl rfl rfl ?_
                    refine J_app (L3 := [(54, .inr (5, [.ref 55, .int (zI ln), .int (zI z422), .int (zI z423), .int (zI z424), .int (zI z425), .int (zI z426), .int (zI fl), .ref 56, .int (zI (z427 + 2))])), (56, .inl (0, 412, .inl (zA f484))), (54, .inr (5, [.ref 55, .int (zI ln), .int (zI z422), .int (zI z423), .int (zI z424), .int (zI z425), .int (zI z426), .int (zI fl), .ref 56, .int (zI (z427 + 1))])), (56, .inl (0, 412, .inl (zA f477)))]) (by first | rfl | (simp only [Int.add_assoc]; rfl)) ?_
                    refine J_mask (L2 := [(54, .inr (5, [.ref 55, .int (zI ln), .int (zI z422), .int (zI z423), .int (zI z424), .int (zI z425), .int (zI z426), .int (zI fl), .ref 56, .int (zI (z427 + 2))])), (56, .inl (0, 412, .inl (zA f484)))]) (ks := [54, 56, 54, 56]) [true, true, false, false] rfl (by decide +kernel) rfl ?_
                    refine J_pop dX5_plain_152 rfl ?_
                    refine Z_iconst (n := 1) dX5_plain_153 ?_
                    exact J_iret dX5_plain_154 rfl (jbn v_316afd7d0b v_bbcfac9b7d) (Nat.le_of_ble_eq_true rfl) (Nat.le_of_ble_eq_true rfl) (Or.inl ⟨z422, z423, z424, z425, z426, (z427 + 2), f484, z429, rfl, rfl, h430, h431, h432, h433, h434, h435, h436, h437, h438, (v_a06cdc8c67 h439), (v_e292f2a4a3 q1 q19 i4_0 i4_5 h370 g408 h415 h433 h434 h443), h441, h488, (v_6c98fceb63 i4_2 i4_4 h370 g408 h415 h443 h483), (v_60a9ec55dc i4_0 i4_5 h371 g408 h415 h444), h445, h446, (PlR.y (v_d464d4c634 i4_15) i4_16 (fun w => absurd ((TkX.wd i4_14 (v := 6) (c := 7) (by decide) (by decide) (by decide)).mp w) (v_9810b78d9a h281)) (fun w => absurd ((TkX.sg i4_14 (v := 140) (by decide)).mp w) (v_ce976e4d7c h283)) h374 (Or.inl ((TkX.sg h372 (v := 160) (by decide)).mpr (v_53d1657b4a h404))) h447), (v_8fadc7eb76 h375 h448), (SgT.end1 (SgT.cm (fun w => absurd ((TkX.sg i4_14 (v := 140) (by decide)).mp w) (v_ce976e4d7c h283)) h376 (Or.inl ((TkX.sg h372 (v := 160) (by decide)).mpr (v_53d1657b4a h404))) h449 h479 h480 (Or.inl ⟨rfl, ((TkX.sg h372 (v := 160) (by decide)).mpr (v_53d1657b4a h404))⟩)) (v_d464d4c634 i4_15) i4_16 (fun w => absurd ((TkX.wd i4_14 (v := 6) (c := 7) (by decide) (by decide) (by decide)).mp w) (v_9810b78d9a h281)) i4_17 (v_8b15499c4b i4_2 i4_3 h483) h486 h487 (by omega))⟩)
                · refine J_nf (nh2 := nh) (ck2 := 0) (sk2 := 0) (st2 := [.int (zI 0)]) rfl rfl rfl rfl ?_
                  refine J_app (L3 := [(54, .inr (5, [.ref 55, .int (zI ln), .int (zI z450), .int (zI z451), .int (zI z452), .int (zI z453), .int (zI z454), .int (zI z457), .ref 56, .int (zI z455)])), (56, .inl (0, 412, .inl (zA f456))), (54, .inr (5, [.ref 55, .int (zI ln), .int (zI z409), .int (zI z410), .int (zI z411), .int (zI z412), .int (zI z353), .int (zI fl), .ref 56, .int (zI z354)])), (56, .inl (0, 412, .inl (zA f355)))]) rfl ?_
                  refine J_mask (L2 := [(54, .inr (5, [.ref 55, .int (zI ln), .int (zI z450), .int (zI z451), .int (zI z452), .int (zI z453), .int (zI z454), .int (zI z457), .ref 56, .int (zI z455)])), (56, .inl (0, 412, .inl (zA f456)))]) (ks := [54, 56, 54, 56]) [true, true, false, false] rfl (by decide +kernel) rfl ?_
                  refine Z_if_ne (tgt := 134) dX5_plain_129 (by decide) v_b17331891f (fun h490 => absurd h490 (fun q => q v_2ca2bbca1f)) (fun h490 => ?_)
                  refine Z_iconst (n := 0) dX5_plain_132 ?_
                  exact J_iret dX5_plain_133 rfl (jbn v_939070ca3f v_316afd7d0b) (Nat.le_of_ble_eq_true rfl) (Nat.le_of_ble_eq_true rfl) (Or.inr ⟨z450, z451, z452, z453, z454, z455, f456, z457, z458, rfl, rfl, h459, h460, h461, h462, h463, h464, h465, h466, h467, h468, h469, h470, h471, h472, h473, (h474), (PlR.y (v_d464d4c634 i4_15) i4_16 (fun w => absurd ((TkX.wd i4_14 (v := 6) (c := 7) (by decide) (by decide) (by decide)).mp w) (v_9810b78d9a h281)) (fun w => absurd ((TkX.sg i4_14 (v := 140) (by decide)).mp w) (v_ce976e4d7c h283)) h374 (Or.inl ((TkX.sg h372 (v := 160) (by decide)).mpr (v_53d1657b4a h404))) h475)⟩)
              · refine J_nf (nh2 := nh) (ck2 := 0) (sk2 := 0) (st2 := [.int (zI 0)]) rfl rfl rfl rfl ?_
                refine Z_if_eq (tgt := 83) dX5_plain_75 (by decide) v_b17331891f (fun h491 => ?_) (fun h491 => absurd h491 (fun q => q v_2ca2bbca1f))
                refine J_aload_n dX5_plain_83 rfl rfl ?_
                refine Z_bipush (n := 62) dX5_plain_84 (by decide +kernel) ?_
                refine J_callV (st := []) dX5_plain_86 cv_X5_50 (d_isSign 62 ln z349 z350 z351 z352 z353 fl z354 v_722c6b3941 v_3996c1d9a8 h357 h358 rfl) rfl rfl rfl (Nat.le_of_ble_eq_true rfl) ⟨(Nat.le_of_ble_eq_true rfl), (Nat.le_of_ble_eq_true rfl)⟩ ⟨(Nat.le_of_ble_eq_true rfl), (Nat.le_of_ble_eq_true rfl)⟩ (fun r h9 hp => ?_)
                rcases hp with ⟨rfl, rfl, h492⟩ | ⟨rfl, rfl, h493⟩
                · refine J_nf (nh2 := nh) (ck2 := 0) (sk2 := 0) (st2 := [.int (zI 1)]) rfl rfl rfl rfl ?_
                  refine Z_if_eq (tgt := 97) dX5_plain_89 (by decide) v_4dcc24baa7 (fun h494 => absurd h494 v_3a47bfd896) (fun h494 => ?_)
                  refine Z_bipush (n := 7) dX5_plain_92 (by decide +kernel) ?_
                  refine J_goto (tgt := 99) dX5_plain_94 (by decide) ?_
                  refine J_istore_n dX5_plain_99 rfl (Nat.le_of_ble_eq_true rfl) rfl ?_
                  refine J_ls (ls2 := [some (.ref 54), some (.int (zI 8)), some (.int (zI dn_4)), some (.int (zI 7))]) rfl ?_
                  refine J_iload_n dX5_plain_100 rfl rfl ?_
                  refine Z_bipush (n := 8) dX5_plain_101 (by decide +kernel) ?_
                  refine Z_icmp_ne (tgt := 120) dX5_plain_103 (by decide) v_c3fe1a091f v_665891e294 (fun h495 => ?_) (fun h495 => absurd h495 v_d62b89f05c)
                  refine J_aload_n dX5_plain_120 rfl rfl ?_
                  have g496 := TokL.lt h368 (v_3ec9e003c7 h492)
                  refine J_callV (st := []) dX5_plain_121 cv_X5_43 (d_advance (z356 + 1) ln z349 z350 z351 z352 z353 fl z354 tp q0 q1 (v_d253cb2c59 h359 g496) h361 h362 h363 q15 (TkX.ps h372 (v_2b02420001 h373)) rfl hk55) rfl rfl rfl (Nat.le_of_ble_eq_true rfl) ⟨(Nat.le_of_ble_eq_true rfl), (Nat.le_of_ble_eq_true rfl)⟩ ⟨(Nat.le_of_ble_eq_true rfl), (Nat.le_of_ble_eq_true rfl)⟩ (fun r h9 hp => ?_)
                  obtain ⟨z497, z498, z499, z500, rfl, rfl, h501, h502, h503, h504, h505, h506, h507, h508, h509⟩ := hp
                  refine J_nf (nh2 := nh) (ck2 := 0) (sk2 := 0) (st2 := []) rfl rfl rfl rfl ?_
                  refine J_app (L3 := [(54, .inr (5, [.ref 55, .int (zI ln), .int (zI z497), .int (zI z498), .int (zI z499), .int (zI z500), .int (zI z353), .int (zI fl), .ref 56, .int (zI z354)])), (54, .inr (5, [.ref 55, .int (zI ln), .int (zI z349), .int (zI z350), .int (zI z351), .int (zI z352), .int (zI z353), .int (zI fl), .ref 56, .int (zI z354)])), (56, .inl (0, 412, .inl (zA f355)))]) rfl ?_
                  refine J_mask (L2 := [(54, .inr (5, [.ref 55, .int (zI ln), .int (zI z497), .int (zI z498), .int (zI z499), .int (zI z500), .int (zI z353), .int (zI fl), .ref 56, .int (zI z354)])), (56, .inl (0, 412, .inl (zA f355)))]) (ks := [54, 54, 56]) [true, false, true] rfl (by decide +kernel) rfl ?_
                  refine J_aload_n dX5_plain_124 rfl rfl ?_
                  refine J_iload_n dX5_plain_125 rfl rfl ?_
                  refine J_callV (st := []) dX5_plain_126 cv_X5_63 (d_sum8 ln z497 z498 z499 z500 z353 fl z354 tp f355 (z356 + 1) q0 q1 h501 h502 (v_9b2e2070a2 h359 g496 h503) h504 h505 h506 h507 h364 h365 q11 h366 h367 h508 q15 h369 h509 (v_da458fa48a h373) (v_51cfff4e03 q19 i4_0 i4_5 h370 g496 h503) rfl hk55 rfl) rfl rfl rfl (Nat.le_of_ble_eq_true rfl) ⟨(Nat.le_of_ble_eq_true rfl), (Nat.le_of_ble_eq_true rfl)⟩ ⟨(Nat.le_of_ble_eq_true rfl), (Nat.le_of_ble_eq_true rfl)⟩ (fun r h9 hp => ?_)
                  rcases hp with ⟨z510, z511, z512, z513, z514, z515, f516, z517, rfl, rfl, h518, h519, h520, h521, h522, h523, h524, h525, h526, h527, h528, h529, h530, h531, h532, h533, h534, h535, h536, h537⟩ | ⟨z538, z539, z540, z541, z542, z543, f544, z545, z546, rfl, rfl, h547, h548, h549, h550, h551, h552, h553, h554, h555, h556, h557, h558, h559, h560, h561, h562, h563⟩
                  · refine J_nf (nh2 := nh) (ck2 := 0) (sk2 := 0) (st2 := [.int (zI 1)]) rfl rfl rfl rfl ?_
                    refine J_app (L3 := [(54, .inr (5, [.ref 55, .int (zI ln), .int (zI z510), .int (zI z511), .int (zI z512), .int (zI z513), .int (zI z514), .int (zI fl), .ref 56, .int (zI z515)])), (56, .inl (0, 412, .inl (zA f516))), (54, .inr (5, [.ref 55, .int (zI ln), .int (zI z497), .int (zI z498), .int (zI z499), .int (zI z500), .int (zI z353), .int (zI fl), .ref 56, .int (zI z354)])), (56, .inl (0, 412, .inl (zA f355)))]) rfl ?_
                    refine J_mask (L2 := [(54, .inr (5, [.ref 55, .int (zI ln), .int (zI z510), .int (zI z511), .int (zI z512), .int (zI z513), .int (zI z514), .int (zI fl), .ref 56, .int (zI z515)])), (56, .inl (0, 412, .inl (zA f516)))]) (ks := [54, 56, 54, 56]) [true, true, false, false] rfl (by decide +kernel) rfl ?_
                    refine Z_if_ne (tgt := 134) dX5_plain_129 (by decide) v_4dcc24baa7 (fun h564 => ?_) (fun h564 => absurd h564 v_3a47bfd896)
                    refine J_aload_n dX5_plain_134 rfl rfl ?_
                    refine J_iload_n dX5_plain_135 rfl rfl ?_
                    refine Z_iconst (n := 0) dX5_plain_136 ?_
                    refine J_callV (st := []) dX5_plain_137 cv_X5_72 (d_emit 7 0 ln z510 z511 z512 z513 z514 fl z515 f516 v_c3fe1a091f v_b17331891f v_9801f0d3f8 v_7868b8729c v_939070ca3f v_e30af74f14 h527 (v_c01cc1f565 q1 q19 i4_0 i4_5 h370 g496 h503 h521 h522 h531) h530 rfl rfl) rfl rfl rfl (Nat.le_of_ble_eq_true rfl) ⟨(Nat.le_of_ble_eq_true rfl), (Nat.le_of_ble_eq_true rfl)⟩ ⟨(Nat.le_of_ble_eq_true rfl), (Nat.le_of_ble_eq_true rfl)⟩ (fun r h9 hp => ?_)
                    obtain ⟨f565, z566, rfl, rfl, h567, h568, h569, h570⟩ := hp
                    refine J_nf (nh2 := nh) (ck2 := 0) (sk2 := 0) (st2 := [.int (zI z515)]) rfl rfl rfl rfl ?_
                    refine J_app (L3 := [(54, .inr (5, [.ref 55, .int (zI ln), .int (zI z510), .int (zI z511), .int (zI z512), .int (zI z513), .int (zI z514), .int (zI fl), .ref 56, .int (zI (z515 + 1))])), (56, .inl (0, 412, .inl (zA f565))), (54, .inr (5, [.ref 55, .int (zI ln), .int (zI z510), .int (zI z511), .int (zI z512), .int (zI z513), .int (zI z514), .int (zI fl), .ref 56, .int (zI z515)])), (56, .inl (0, 412, .inl (zA f516)))]) (by first | rfl | (simp only [Int.add_assoc]; rfl)) ?_
                    refine J_mask (L2 := [(54, .inr (5, [.ref 55, .int (zI ln), .int (zI z510), .int (zI z511), .int (zI z512), .int (zI z513), .int (zI z514), .int (zI fl), .ref 56, .int (zI (z515 + 1))])), (56, .inl (0, 412, .inl (zA f565)))]) (ks := [54, 56, 54, 56]) [true, true, false, false] rfl (by decide +kernel) rfl ?_
                    refine J_pop dX5_plain_140 rfl ?_
                    refine J_iload_n dX5_plain_141 rfl rfl ?_
                    refine Z_if_eq (tgt := 153) dX5_plain_142 (by decide) (v_5f10a759cd i4_2 i4_3) (fun h571 => ?_) (fun h571 => ?_)
                    · refine Z_iconst (n := 1) dX5_plain_153 ?_
                      exact J_iret dX5_plain_154 rfl (jbn v_316afd7d0b v_bbcfac9b7d) (Nat.le_of_ble_eq_true rfl) (Nat.le_of_ble_eq_true rfl) (Or.inl ⟨z510, z511, z512, z513, z514, (z515 + 1), f565, z517, rfl, rfl, h518, h519, h520, h521, h522, h523, h524, h525, h526, (v_da458fa48a h527), (v_78dfab290b q1 q19 i4_0 i4_5 h370 g496 h503 h521 h522 h531), h529, h569, (v_b291f931a4 i4_0 i4_5 h370 g496 h503 h531), (v_60a9ec55dc i4_0 i4_5 h371 g496 h503 h532), h533, h534, (PlR.y (v_d464d4c634 i4_15) i4_16 (fun w => absurd ((TkX.wd i4_14 (v := 6) (c := 7) (by decide) (by decide) (by decide)).mp w) (v_9810b78d9a h281)) (fun w => absurd ((TkX.sg i4_14 (v := 140) (by decide)).mp w) (v_ce976e4d7c h283)) h374 (Or.inr (Or.inr ((TkX.sg h372 (v := 162) (by decide)).mpr (v_99c0172699 h492)))) h535), (v_8fadc7eb76 h375 h536), (SgT.end0 (SgT.cm (fun w => absurd ((TkX.sg i4_14 (v := 140) (by decide)).mp w) (v_ce976e4d7c h283)) h376 (Or.inr (Or.inr ((TkX.sg h372 (v := 162) (by decide)).mpr (v_99c0172699 h492)))) h537 h567 h568 (Or.inr (Or.inl ⟨rfl, ((TkX.sg h372 (v := 162) (by decide)).mpr (v_99c0172699 h492))⟩))) (v_d464d4c634 i4_15) i4_16 (fun w => absurd ((TkX.wd i4_14 (v := 6) (c := 7) (by decide) (by decide) (by decide)).mp w) (v_9810b78d9a h281)) i4_17 (v_bd6c74a791 i4_2 h571))⟩)
                    · refine J_aload_n dX5_plain_145 rfl rfl ?_
                      refine Z_bipush (n := 9) dX5_plain_146 (by decide +kernel) ?_
                      refine Z_iconst (n := 0) dX5_plain_148 ?_
                      refine J_callV (st := []) dX5_plain_149 cv_X5_72 (d_emit 9 0 ln z510 z511 z512 z513 z514 fl (z515 + 1) f565 v_00f9f00cc1 v_b17331891f v_4501955220 v_960328259c v_939070ca3f v_e30af74f14 (v_da458fa48a h527) (v_705c53b45f q1 q19 i4_0 i4_5 h370 g496 h503 h521 h522 h531) h569 rfl rfl) rfl rfl rfl (Nat.le_of_ble_eq_true rfl) ⟨(Nat.le_of_ble_eq_true rfl), (Nat.le_of_ble_eq_true rfl)⟩ ⟨(Nat.le_of_ble_eq_true rfl), (Nat.le_of_ble_eq_true rfl)⟩ (fun r h9 hp => ?_)
                      obtain ⟨f572, z573, rfl, rfl, h574, h575, h576, h577⟩ := hp
                      refine J_nf (nh2 := nh) (ck2 := 0) (sk2 := 0) (st2 := [.int (zI (z515 + 1))]) rfl rfl rfl rfl ?_
                      refine J_app (L3 := [(54, .inr (5, [.ref 55, .int (zI ln), .int (zI z510), .int (zI z511), .int (zI z512), .int (zI z513), .int (zI z514), .int (zI fl), .ref 56, .int (zI (z515 + 2))])), (56, .inl (0, 412, .inl (zA f572))), (54, .inr (5, [.ref 55, .int (zI ln), .int (zI z510), .int (zI z511), .int (zI z512), .int (zI z513), .int (zI z514), .int (zI fl), .ref 56, .int (zI (z515 + 1))])), (56, .inl (0, 412, .inl (zA f565)))]) (by first | rfl | (simp only [Int.add_assoc]; rfl)) ?_
                      refine J_mask (L2 := [(54, .inr (5, [.ref 55, .int (zI ln), .int (zI z510), .int (zI z511), .int (zI z512), .int (zI z513), .int (zI z514), .int (zI fl), .ref 56, .int (zI (z515 + 2))])), (56, .inl (0, 412, .inl (zA f572)))]) (ks := [54, 56, 54, 56]) [true, true, false, false] rfl (by decide +kernel) rfl ?_
                      refine J_pop dX5_plain_152 rfl ?_
                      refine Z_iconst (n := 1) dX5_plain_153 ?_
                      exact J_iret dX5_plain_154 rfl (jbn v_316afd7d0b v_bbcfac9b7d) (Nat.le_of_ble_eq_true rfl) (Nat.le_of_ble_eq_true rfl) (Or.inl ⟨z510, z511, z512, z513, z514, (z515 + 2), f572, z517, rfl, rfl, h518, h519, h520, h521, h522, h523, h524, h525, h526, (v_a06cdc8c67 h527), (v_e292f2a4a3 q1 q19 i4_0 i4_5 h370 g496 h503 h521 h522 h531), h529, h576, (v_6c98fceb63 i4_2 i4_4 h370 g496 h503 h531 h571), (v_60a9ec55dc i4_0 i4_5 h371 g496 h503 h532), h533, h534, (PlR.y (v_d464d4c634 i4_15) i4_16 (fun w => absurd ((TkX.wd i4_14 (v := 6) (c := 7) (by decide) (by decide) (by decide)).mp w) (v_9810b78d9a h281)) (fun w => absurd ((TkX.sg i4_14 (v := 140) (by decide)).mp w) (v_ce976e4d7c h283)) h374 (Or.inr (Or.inr ((TkX.sg h372 (v := 162) (by decide)).mpr (v_99c0172699 h492)))) h535), (v_8fadc7eb76 h375 h536), (SgT.end1 (SgT.cm (fun w => absurd ((TkX.sg i4_14 (v := 140) (by decide)).mp w) (v_ce976e4d7c h283)) h376 (Or.inr (Or.inr ((TkX.sg h372 (v := 162) (by decide)).mpr (v_99c0172699 h492)))) h537 h567 h568 (Or.inr (Or.inl ⟨rfl, ((TkX.sg h372 (v := 162) (by decide)).mpr (v_99c0172699 h492))⟩))) (v_d464d4c634 i4_15) i4_16 (fun w => absurd ((TkX.wd i4_14 (v := 6) (c := 7) (by decide) (by decide) (by decide)).mp w) (v_9810b78d9a h281)) i4_17 (v_8b15499c4b i4_2 i4_3 h571) h574 h575 (by omega))⟩)
                  · refine J_nf (nh2 := nh) (ck2 := 0) (sk2 := 0) (st2 := [.int (zI 0)]) rfl rfl rfl rfl ?_
                    refine J_app (L3 := [(54, .inr (5, [.ref 55, .int (zI ln), .int (zI z538), .int (zI z539), .int (zI z540), .int (zI z541), .int (zI z542), .int (zI z545), .ref 56, .int (zI z543)])), (56, .inl (0, 412, .inl (zA f544))), (54, .inr (5, [.ref 55, .int (zI ln), .int (zI z497), .int (zI z498), .int (zI z499), .int (zI z500), .int (zI z353), .int (zI fl), .ref 56, .int (zI z354)])), (56, .inl (0, 412, .inl (zA f355)))]) rfl ?_
                    refine J_mask (L2 := [(54, .inr (5, [.ref 55, .int (zI ln), .int (zI z538), .int (zI z539), .int (zI z540), .int (zI z541), .int (zI z542), .int (zI z545), .ref 56, .int (zI z543)])), (56, .inl (0, 412, .inl (zA f544)))]) (ks := [54, 56, 54, 56]) [true, true, false, false] rfl (by decide +kernel) rfl ?_
                    refine Z_if_ne (tgt := 134) dX5_plain_129 (by decide) v_b17331891f (fun h578 => absurd h578 (fun q => q v_2ca2bbca1f)) (fun h578 => ?_)
                    refine Z_iconst (n := 0) dX5_plain_132 ?_
                    exact J_iret dX5_plain_133 rfl (jbn v_939070ca3f v_316afd7d0b) (Nat.le_of_ble_eq_true rfl) (Nat.le_of_ble_eq_true rfl) (Or.inr ⟨z538, z539, z540, z541, z542, z543, f544, z545, z546, rfl, rfl, h547, h548, h549, h550, h551, h552, h553, h554, h555, h556, h557, h558, h559, h560, h561, (h562), (PlR.y (v_d464d4c634 i4_15) i4_16 (fun w => absurd ((TkX.wd i4_14 (v := 6) (c := 7) (by decide) (by decide) (by decide)).mp w) (v_9810b78d9a h281)) (fun w => absurd ((TkX.sg i4_14 (v := 140) (by decide)).mp w) (v_ce976e4d7c h283)) h374 (Or.inr (Or.inr ((TkX.sg h372 (v := 162) (by decide)).mpr (v_99c0172699 h492)))) h563)⟩)
                · refine J_nf (nh2 := nh) (ck2 := 0) (sk2 := 0) (st2 := [.int (zI 0)]) rfl rfl rfl rfl ?_
                  refine Z_if_eq (tgt := 97) dX5_plain_89 (by decide) v_b17331891f (fun h579 => ?_) (fun h579 => absurd h579 (fun q => q v_2ca2bbca1f))
                  refine Z_bipush (n := 8) dX5_plain_97 (by decide +kernel) ?_
                  refine J_istore_n dX5_plain_99 rfl (Nat.le_of_ble_eq_true rfl) rfl ?_
                  refine J_ls (ls2 := [some (.ref 54), some (.int (zI 8)), some (.int (zI dn_4)), some (.int (zI 8))]) rfl ?_
                  refine J_iload_n dX5_plain_100 rfl rfl ?_
                  refine Z_bipush (n := 8) dX5_plain_101 (by decide +kernel) ?_
                  refine Z_icmp_ne (tgt := 120) dX5_plain_103 (by decide) v_665891e294 v_665891e294 (fun h580 => absurd h580 (fun q => q v_c1b8243509)) (fun h580 => ?_)
                  refine J_aload_n dX5_plain_106 rfl rfl ?_
                  refine Z_bipush (n := 61) dX5_plain_107 (by decide +kernel) ?_
                  refine J_callV (st := []) dX5_plain_109 cv_X5_50 (d_isSign 61 ln z349 z350 z351 z352 z353 fl z354 v_b92a3c53b8 v_7b9730a51b h357 h358 rfl) rfl rfl rfl (Nat.le_of_ble_eq_true rfl) ⟨(Nat.le_of_ble_eq_true rfl), (Nat.le_of_ble_eq_true rfl)⟩ ⟨(Nat.le_of_ble_eq_true rfl), (Nat.le_of_ble_eq_true rfl)⟩ (fun r h9 hp => ?_)
                  rcases hp with ⟨rfl, rfl, h581⟩ | ⟨rfl, rfl, h582⟩
                  · refine J_nf (nh2 := nh) (ck2 := 0) (sk2 := 0) (st2 := [.int (zI 1)]) rfl rfl rfl rfl ?_
                    refine Z_if_ne (tgt := 120) dX5_plain_112 (by decide) v_4dcc24baa7 (fun h583 => ?_) (fun h583 => absurd h583 v_3a47bfd896)
                    refine J_aload_n dX5_plain_120 rfl rfl ?_
                    have g584 := TokL.lt h368 (v_23eeeea057 h581)
                    refine J_callV (st := []) dX5_plain_121 cv_X5_43 (d_advance (z356 + 1) ln z349 z350 z351 z352 z353 fl z354 tp q0 q1 (v_d253cb2c59 h359 g584) h361 h362 h363 q15 (TkX.ps h372 (v_2b02420001 h373)) rfl hk55) rfl rfl rfl (Nat.le_of_ble_eq_true rfl) ⟨(Nat.le_of_ble_eq_true rfl), (Nat.le_of_ble_eq_true rfl)⟩ ⟨(Nat.le_of_ble_eq_true rfl), (Nat.le_of_ble_eq_true rfl)⟩ (fun r h9 hp => ?_)
                    obtain ⟨z585, z586, z587, z588, rfl, rfl, h589, h590, h591, h592, h593, h594, h595, h596, h597⟩ := hp
                    refine J_nf (nh2 := nh) (ck2 := 0) (sk2 := 0) (st2 := []) rfl rfl rfl rfl ?_
                    refine J_app (L3 := [(54, .inr (5, [.ref 55, .int (zI ln), .int (zI z585), .int (zI z586), .int (zI z587), .int (zI z588), .int (zI z353), .int (zI fl), .ref 56, .int (zI z354)])), (54, .inr (5, [.ref 55, .int (zI ln), .int (zI z349), .int (zI z350), .int (zI z351), .int (zI z352), .int (zI z353), .int (zI fl), .ref 56, .int (zI z354)])), (56, .inl (0, 412, .inl (zA f355)))]) rfl ?_
                    refine J_mask (L2 := [(54, .inr (5, [.ref 55, .int (zI ln), .int (zI z585), .int (zI z586), .int (zI z587), .int (zI z588), .int (zI z353), .int (zI fl), .ref 56, .int (zI z354)])), (56, .inl (0, 412, .inl (zA f355)))]) (ks := [54, 54, 56]) [true, false, true] rfl (by decide +kernel) rfl ?_
                    refine J_aload_n dX5_plain_124 rfl rfl ?_
                    refine J_iload_n dX5_plain_125 rfl rfl ?_
                    refine J_callV (st := []) dX5_plain_126 cv_X5_63 (d_sum8 ln z585 z586 z587 z588 z353 fl z354 tp f355 (z356 + 1) q0 q1 h589 h590 (v_9b2e2070a2 h359 g584 h591) h592 h593 h594 h595 h364 h365 q11 h366 h367 h596 q15 h369 h597 (v_da458fa48a h373) (v_51cfff4e03 q19 i4_0 i4_5 h370 g584 h591) rfl hk55 rfl) rfl rfl rfl (Nat.le_of_ble_eq_true rfl) ⟨(Nat.le_of_ble_eq_true rfl), (Nat.le_of_ble_eq_true rfl)⟩ ⟨(Nat.le_of_ble_eq_true rfl), (Nat.le_of_ble_eq_true rfl)⟩ (fun r h9 hp => ?_)
                    rcases hp with ⟨z598, z599, z600, z601, z602, z603, f604, z605, rfl, rfl, h606, h607, h608, h609, h610, h611, h612, h613, h614, h615, h616, h617, h618, h619, h620, h621, h622, h623, h624, h625⟩ | ⟨z626, z627, z628, z629, z630, z631, f632, z633, z634, rfl, rfl, h635, h636, h637, h638, h639, h640, h641, h642, h643, h644, h645, h646, h647, h648, h649, h650, h651⟩
                    · refine J_nf (nh2 := nh) (ck2 := 0) (sk2 := 0) (st2 := [.int (zI 1)]) rfl rfl rfl rfl ?_
                      refine J_app (L3 := [(54, .inr (5, [.ref 55, .int (zI ln), .int (zI z598), .int (zI z599), .int (zI z600), .int (zI z601), .int (zI z602), .int (zI fl), .ref 56, .int (zI z603)])), (56, .inl (0, 412, .inl (zA f604))), (54, .inr (5, [.ref 55, .int (zI ln), .int (zI z585), .int (zI z586), .int (zI z587), .int (zI z588), .int (zI z353), .int (zI fl), .ref 56, .int (zI z354)])), (56, .inl (0, 412, .inl (zA f355)))]) rfl ?_
                      refine J_mask (L2 := [(54, .inr (5, [.ref 55, .int (zI ln), .int (zI z598), .int (zI z599), .int (zI z600), .int (zI z601), .int (zI z602), .int (zI fl), .ref 56, .int (zI z603)])), (56, .inl (0, 412, .inl (zA f604)))]) (ks := [54, 56, 54, 56]) [true, true, false, false] rfl (by decide +kernel) rfl ?_
                      refine Z_if_ne (tgt := 134) dX5_plain_129 (by decide) v_4dcc24baa7 (fun h652 => ?_) (fun h652 => absurd h652 v_3a47bfd896)
                      refine J_aload_n dX5_plain_134 rfl rfl ?_
                      refine J_iload_n dX5_plain_135 rfl rfl ?_
                      refine Z_iconst (n := 0) dX5_plain_136 ?_
                      refine J_callV (st := []) dX5_plain_137 cv_X5_72 (d_emit 8 0 ln z598 z599 z600 z601 z602 fl z603 f604 v_665891e294 v_b17331891f v_09118c4f05 v_6dded3bc40 v_939070ca3f v_e30af74f14 h615 (v_c01cc1f565 q1 q19 i4_0 i4_5 h370 g584 h591 h609 h610 h619) h618 rfl rfl) rfl rfl rfl (Nat.le_of_ble_eq_true rfl) ⟨(Nat.le_of_ble_eq_true rfl), (Nat.le_of_ble_eq_true rfl)⟩ ⟨(Nat.le_of_ble_eq_true rfl), (Nat.le_of_ble_eq_true rfl)⟩ (fun r h9 hp => ?_)
                      obtain ⟨f653, z654, rfl, rfl, h655, h656, h657, h658⟩ := hp
                      refine J_nf (nh2 := nh) (ck2 := 0) (sk2 := 0) (st2 := [.int (zI z603)]) rfl rfl rfl rfl ?_
                      refine J_app (L3 := [(54, .inr (5, [.ref 55, .int (zI ln), .int (zI z598), .int (zI z599), .int (zI z600), .int (zI z601), .int (zI z602), .int (zI fl), .ref 56, .int (zI (z603 + 1))])), (56, .inl (0, 412, .inl (zA f653))), (54, .inr (5, [.ref 55, .int (zI ln), .int (zI z598), .int (zI z599), .int (zI z600), .int (zI z601), .int (zI z602), .int (zI fl), .ref 56, .int (zI z603)])), (56, .inl (0, 412, .inl (zA f604)))]) (by first | rfl | (simp only [Int.add_assoc]; rfl)) ?_
                      refine J_mask (L2 := [(54, .inr (5, [.ref 55, .int (zI ln), .int (zI z598), .int (zI z599), .int (zI z600), .int (zI z601), .int (zI z602), .int (zI fl), .ref 56, .int (zI (z603 + 1))])), (56, .inl (0, 412, .inl (zA f653)))]) (ks := [54, 56, 54, 56]) [true, true, false, false] rfl (by decide +kernel) rfl ?_
                      refine J_pop dX5_plain_140 rfl ?_
                      refine J_iload_n dX5_plain_141 rfl rfl ?_
                      refine Z_if_eq (tgt := 153) dX5_plain_142 (by decide) (v_5f10a759cd i4_2 i4_3) (fun h659 => ?_) (fun h659 => ?_)
                      · refine Z_iconst (n := 1) dX5_plain_153 ?_
                        exact J_iret dX5_plain_154 rfl (jbn v_316afd7d0b v_bbcfac9b7d) (Nat.le_of_ble_eq_true rfl) (Nat.le_of_ble_eq_true rfl) (Or.inl ⟨z598, z599, z600, z601, z602, (z603 + 1), f653, z605, rfl, rfl, h606, h607, h608, h609, h610, h611, h612, h613, h614, (v_da458fa48a h615), (v_78dfab290b q1 q19 i4_0 i4_5 h370 g584 h591 h609 h610 h619), h617, h657, (v_b291f931a4 i4_0 i4_5 h370 g584 h591 h619), (v_60a9ec55dc i4_0 i4_5 h371 g584 h591 h620), h621, h622, (PlR.y (v_d464d4c634 i4_15) i4_16 (fun w => absurd ((TkX.wd i4_14 (v := 6) (c := 7) (by decide) (by decide) (by decide)).mp w) (v_9810b78d9a h281)) (fun w => absurd ((TkX.sg i4_14 (v := 140) (by decide)).mp w) (v_ce976e4d7c h283)) h374 (Or.inr (Or.inl ((TkX.sg h372 (v := 161) (by decide)).mpr (v_1bfbc8b266 h581)))) h623), (v_8fadc7eb76 h375 h624), (SgT.end0 (SgT.cm (fun w => absurd ((TkX.sg i4_14 (v := 140) (by decide)).mp w) (v_ce976e4d7c h283)) h376 (Or.inr (Or.inl ((TkX.sg h372 (v := 161) (by decide)).mpr (v_1bfbc8b266 h581)))) h625 h655 h656 (Or.inr (Or.inr ⟨rfl, ((TkX.sg h372 (v := 161) (by decide)).mpr (v_1bfbc8b266 h581))⟩))) (v_d464d4c634 i4_15) i4_16 (fun w => absurd ((TkX.wd i4_14 (v := 6) (c := 7) (by decide) (by decide) (by decide)).mp w) (v_9810b78d9a h281)) i4_17 (v_bd6c74a791 i4_2 h659))⟩)
                      · refine J_aload_n dX5_plain_145 rfl rfl ?_
                        refine Z_bipush (n := 9) dX5_plain_146 (by decide +kernel) ?_
                        refine Z_iconst (n := 0) dX5_plain_148 ?_
                        refine J_callV (st := []) dX5_plain_149 cv_X5_72 (d_emit 9 0 ln z598 z599 z600 z601 z602 fl (z603 + 1) f653 v_00f9f00cc1 v_b17331891f v_4501955220 v_960328259c v_939070ca3f v_e30af74f14 (v_da458fa48a h615) (v_705c53b45f q1 q19 i4_0 i4_5 h370 g584 h591 h609 h610 h619) h657 rfl rfl) rfl rfl rfl (Nat.le_of_ble_eq_true rfl) ⟨(Nat.le_of_ble_eq_true rfl), (Nat.le_of_ble_eq_true rfl)⟩ ⟨(Nat.le_of_ble_eq_true rfl), (Nat.le_of_ble_eq_true rfl)⟩ (fun r h9 hp => ?_)
                        obtain ⟨f660, z661, rfl, rfl, h662, h663, h664, h665⟩ := hp
                        refine J_nf (nh2 := nh) (ck2 := 0) (sk2 := 0) (st2 := [.int (zI (z603 + 1))]) rfl rfl rfl rfl ?_
                        refine J_app (L3 := [(54, .inr (5, [.ref 55, .int (zI ln), .int (zI z598), .int (zI z599), .int (zI z600), .int (zI z601), .int (zI z602), .int (zI fl), .ref 56, .int (zI (z603 + 2))])), (56, .inl (0, 412, .inl (zA f660))), (54, .inr (5, [.ref 55, .int (zI ln), .int (zI z598), .int (zI z599), .int (zI z600), .int (zI z601), .int (zI z602), .int (zI fl), .ref 56, .int (zI (z603 + 1))])), (56, .inl (0, 412, .inl (zA f653)))]) (by first | rfl | (simp only [Int.add_assoc]; rfl)) ?_
                        refine J_mask (L2 := [(54, .inr (5, [.ref 55, .int (zI ln), .int (zI z598), .int (zI z599), .int (zI z600), .int (zI z601), .int (zI z602), .int (zI fl), .ref 56, .int (zI (z603 + 2))])), (56, .inl (0, 412, .inl (zA f660)))]) (ks := [54, 56, 54, 56]) [true, true, false, false] rfl (by decide +kernel) rfl ?_
                        refine J_pop dX5_plain_152 rfl ?_
                        refine Z_iconst (n := 1) dX5_plain_153 ?_
                        exact J_iret dX5_plain_154 rfl (jbn v_316afd7d0b v_bbcfac9b7d) (Nat.le_of_ble_eq_true rfl) (Nat.le_of_ble_eq_true rfl) (Or.inl ⟨z598, z599, z600, z601, z602, (z603 + 2), f660, z605, rfl, rfl, h606, h607, h608, h609, h610, h611, h612, h613, h614, (v_a06cdc8c67 h615), (v_e292f2a4a3 q1 q19 i4_0 i4_5 h370 g584 h591 h609 h610 h619), h617, h664, (v_6c98fceb63 i4_2 i4_4 h370 g584 h591 h619 h659), (v_60a9ec55dc i4_0 i4_5 h371 g584 h591 h620), h621, h622, (PlR.y (v_d464d4c634 i4_15) i4_16 (fun w => absurd ((TkX.wd i4_14 (v := 6) (c := 7) (by decide) (by decide) (by decide)).mp w) (v_9810b78d9a h281)) (fun w => absurd ((TkX.sg i4_14 (v := 140) (by decide)).mp w) (v_ce976e4d7c h283)) h374 (Or.inr (Or.inl ((TkX.sg h372 (v := 161) (by decide)).mpr (v_1bfbc8b266 h581)))) h623), (v_8fadc7eb76 h375 h624), (SgT.end1 (SgT.cm (fun w => absurd ((TkX.sg i4_14 (v := 140) (by decide)).mp w) (v_ce976e4d7c h283)) h376 (Or.inr (Or.inl ((TkX.sg h372 (v := 161) (by decide)).mpr (v_1bfbc8b266 h581)))) h625 h655 h656 (Or.inr (Or.inr ⟨rfl, ((TkX.sg h372 (v := 161) (by decide)).mpr (v_1bfbc8b266 h581))⟩))) (v_d464d4c634 i4_15) i4_16 (fun w => absurd ((TkX.wd i4_14 (v := 6) (c := 7) (by decide) (by decide) (by decide)).mp w) (v_9810b78d9a h281)) i4_17 (v_8b15499c4b i4_2 i4_3 h659) h662 h663 (by omega))⟩)
                    · refine J_nf (nh2 := nh) (ck2 := 0) (sk2 := 0) (st2 := [.int (zI 0)]) rfl rfl rfl rfl ?_
                      refine J_app (L3 := [(54, .inr (5, [.ref 55, .int (zI ln), .int (zI z626), .int (zI z627), .int (zI z628), .int (zI z629), .int (zI z630), .int (zI z633), .ref 56, .int (zI z631)])), (56, .inl (0, 412, .inl (zA f632))), (54, .inr (5, [.ref 55, .int (zI ln), .int (zI z585), .int (zI z586), .int (zI z587), .int (zI z588), .int (zI z353), .int (zI fl), .ref 56, .int (zI z354)])), (56, .inl (0, 412, .inl (zA f355)))]) rfl ?_
                      refine J_mask (L2 := [(54, .inr (5, [.ref 55, .int (zI ln), .int (zI z626), .int (zI z627), .int (zI z628), .int (zI z629), .int (zI z630), .int (zI z633), .ref 56, .int (zI z631)])), (56, .inl (0, 412, .inl (zA f632)))]) (ks := [54, 56, 54, 56]) [true, true, false, false] rfl (by decide +kernel) rfl ?_
                      refine Z_if_ne (tgt := 134) dX5_plain_129 (by decide) v_b17331891f (fun h666 => absurd h666 (fun q => q v_2ca2bbca1f)) (fun h666 => ?_)
                      refine Z_iconst (n := 0) dX5_plain_132 ?_
                      exact J_iret dX5_plain_133 rfl (jbn v_939070ca3f v_316afd7d0b) (Nat.le_of_ble_eq_true rfl) (Nat.le_of_ble_eq_true rfl) (Or.inr ⟨z626, z627, z628, z629, z630, z631, f632, z633, z634, rfl, rfl, h635, h636, h637, h638, h639, h640, h641, h642, h643, h644, h645, h646, h647, h648, h649, (h650), (PlR.y (v_d464d4c634 i4_15) i4_16 (fun w => absurd ((TkX.wd i4_14 (v := 6) (c := 7) (by decide) (by decide) (by decide)).mp w) (v_9810b78d9a h281)) (fun w => absurd ((TkX.sg i4_14 (v := 140) (by decide)).mp w) (v_ce976e4d7c h283)) h374 (Or.inr (Or.inl ((TkX.sg h372 (v := 161) (by decide)).mpr (v_1bfbc8b266 h581)))) h651)⟩)
                  · refine J_nf (nh2 := nh) (ck2 := 0) (sk2 := 0) (st2 := [.int (zI 0)]) rfl rfl rfl rfl ?_
                    refine Z_if_ne (tgt := 120) dX5_plain_112 (by decide) v_b17331891f (fun h667 => absurd h667 (fun q => q v_2ca2bbca1f)) (fun h667 => ?_)
                    refine J_aload_n dX5_plain_115 rfl rfl ?_
                    refine J_callV (st := []) dX5_plain_116 cv_X5_54 (d_wrong ln z349 z350 z351 z352 z353 fl z354 h359 (v_1adcfdfee5 q1 h360 h361) rfl) rfl rfl rfl (Nat.le_of_ble_eq_true rfl) ⟨(Nat.le_of_ble_eq_true rfl), (Nat.le_of_ble_eq_true rfl)⟩ ⟨(Nat.le_of_ble_eq_true rfl), (Nat.le_of_ble_eq_true rfl)⟩ (fun r h9 hp => ?_)
                    obtain ⟨rfl, rfl⟩ := hp
                    refine J_nf (nh2 := nh) (ck2 := 0) (sk2 := 0) (st2 := [.int (zI 0)]) rfl rfl rfl rfl ?_
                    refine J_app (L3 := [(54, .inr (5, [.ref 55, .int (zI ln), .int (zI z349), .int (zI z350), .int (zI z351), .int (zI z352), .int (zI z353), .int (zI z350), .ref 56, .int (zI z354)])), (54, .inr (5, [.ref 55, .int (zI ln), .int (zI z349), .int (zI z350), .int (zI z351), .int (zI z352), .int (zI z353), .int (zI fl), .ref 56, .int (zI z354)])), (56, .inl (0, 412, .inl (zA f355)))]) rfl ?_
                    refine J_mask (L2 := [(54, .inr (5, [.ref 55, .int (zI ln), .int (zI z349), .int (zI z350), .int (zI z351), .int (zI z352), .int (zI z353), .int (zI z350), .ref 56, .int (zI z354)])), (56, .inl (0, 412, .inl (zA f355)))]) (ks := [54, 54, 56]) [true, false, true] rfl (by decide +kernel) rfl ?_
                    exact J_iret dX5_plain_119 rfl (jbn v_939070ca3f v_316afd7d0b) (Nat.le_of_ble_eq_true rfl) (Nat.le_of_ble_eq_true rfl) (Or.inr ⟨z349, z350, z351, z352, z353, z354, f355, z350, z356, rfl, rfl, h357, h358, h359, h360, h361, h362, h363, h364, h365, h366, h367, h368, h369, h359, (v_1adcfdfee5 q1 h360 h361), ((TkX.s h372)), (PlR.w (v_d464d4c634 i4_15) i4_16 (fun w => absurd ((TkX.wd i4_14 (v := 6) (c := 7) (by decide) (by decide) (by decide)).mp w) (v_9810b78d9a h281)) (fun w => absurd ((TkX.sg i4_14 (v := 140) (by decide)).mp w) (v_ce976e4d7c h283)) h374 (fun w => Or.elim w (fun w => absurd ((TkX.sg h372 (v := 160) (by decide)).mp w) (v_62784191f6 h405)) (fun w => Or.elim w (fun w => absurd ((TkX.sg h372 (v := 161) (by decide)).mp w) (v_e6bfb52c99 h582)) (fun w => absurd ((TkX.sg h372 (v := 162) (by decide)).mp w) (v_b61acea494 h493)))))⟩)
            · refine J_nf (nh2 := nh) (ck2 := 0) (sk2 := 0) (st2 := [.int (zI 0)]) rfl rfl rfl rfl ?_
              refine J_app (L3 := [(54, .inr (5, [.ref 55, .int (zI ln), .int (zI z377), .int (zI z378), .int (zI z379), .int (zI z380), .int (zI z381), .int (zI z384), .ref 56, .int (zI z382)])), (56, .inl (0, 412, .inl (zA f383))), (54, .inr (5, [.ref 55, .int (zI ln), .int (zI tx_4), .int (zI sx_4), .int (zI bx_4), .int (zI vx_4), .int (zI pa), .int (zI fl), .ref 56, .int (zI sz)]))]) rfl ?_
              refine J_mask (L2 := [(54, .inr (5, [.ref 55, .int (zI ln), .int (zI z377), .int (zI z378), .int (zI z379), .int (zI z380), .int (zI z381), .int (zI z384), .ref 56, .int (zI z382)])), (56, .inl (0, 412, .inl (zA f383)))]) (ks := [54, 56, 54]) [true, true, false] rfl (by decide +kernel) rfl ?_
              refine Z_if_ne (tgt := 69) dX5_plain_64 (by decide) v_b17331891f (fun h668 => absurd h668 (fun q => q v_2ca2bbca1f)) (fun h668 => ?_)
              refine Z_iconst (n := 0) dX5_plain_67 ?_
              exact J_iret dX5_plain_68 rfl (jbn v_939070ca3f v_316afd7d0b) (Nat.le_of_ble_eq_true rfl) (Nat.le_of_ble_eq_true rfl) (Or.inr ⟨z377, z378, z379, z380, z381, z382, f383, z384, z385, rfl, rfl, h386, h387, h388, h389, h390, h391, h392, h393, h394, h395, h396, h397, h398, h399, h400, (h401), (PlR.b1 (v_d464d4c634 i4_15) i4_16 (fun w => absurd ((TkX.wd i4_14 (v := 6) (c := 7) (by decide) (by decide) (by decide)).mp w) (v_9810b78d9a h281)) (fun w => absurd ((TkX.sg i4_14 (v := 140) (by decide)).mp w) (v_ce976e4d7c h283)) h402)⟩)
        · refine J_iload_n dX5_plain_20 rfl rfl ?_
          refine Z_if_ne (tgt := 28) dX5_plain_21 (by decide) (v_5f10a759cd i4_2 i4_3) (fun h669 => ?_) (fun h669 => ?_)
          · refine Z_iconst (n := 0) dX5_plain_28 ?_
            refine J_istore_n dX5_plain_29 rfl (Nat.le_of_ble_eq_true rfl) rfl ?_
            refine J_ls (ls2 := [some (.ref 54), some (.int (zI 8)), some (.int (zI 0)), some (.int (zI i_4))]) rfl ?_
            refine J_aload_n dX5_plain_30 rfl rfl ?_
            have g670 := TokL.lt i4_13 (v_3a5b2158d2 h281)
            refine J_callV (st := []) dX5_plain_31 cv_X5_43 (d_advance (ti_4 + 1) ln tx_4 sx_4 bx_4 vx_4 pa fl sz tp q0 q1 (v_d253cb2c59 i4_8 g670) i4_10 i4_11 i4_12 q15 (TkX.ps i4_14 (v_21976c7318 q18 i4_15)) rfl hk55) rfl rfl rfl (Nat.le_of_ble_eq_true rfl) ⟨(Nat.le_of_ble_eq_true rfl), (Nat.le_of_ble_eq_true rfl)⟩ ⟨(Nat.le_of_ble_eq_true rfl), (Nat.le_of_ble_eq_true rfl)⟩ (fun r h9 hp => ?_)
            obtain ⟨z671, z672, z673, z674, rfl, rfl, h675, h676, h677, h678, h679, h680, h681, h682, h683⟩ := hp
            refine J_nf (nh2 := nh) (ck2 := 0) (sk2 := 0) (st2 := []) rfl rfl rfl rfl ?_
            refine J_app (L3 := [(54, .inr (5, [.ref 55, .int (zI ln), .int (zI z671), .int (zI z672), .int (zI z673), .int (zI z674), .int (zI pa), .int (zI fl), .ref 56, .int (zI sz)])), (54, .inr (5, [.ref 55, .int (zI ln), .int (zI tx_4), .int (zI sx_4), .int (zI bx_4), .int (zI vx_4), .int (zI pa), .int (zI fl), .ref 56, .int (zI sz)]))]) rfl ?_
            refine J_mask (L2 := [(54, .inr (5, [.ref 55, .int (zI ln), .int (zI z671), .int (zI z672), .int (zI z673), .int (zI z674), .int (zI pa), .int (zI fl), .ref 56, .int (zI sz)]))]) (ks := [54, 54]) [true, false] rfl (by decide +kernel) rfl ?_
            refine Z_iinc (c := i_4 + 1) (ls2 := [some (.ref 54), some (.int (zI 8)), some (.int (zI 0)), some (.int (zI (i_4 + 1)))]) dX5_plain_34 rfl (Nat.le_of_ble_eq_true rfl) rfl rfl rfl ?_
            refine J_goto (tgt := 4) dX5_plain_37 (by decide) ?_
            exact ih4 0 (i_4 + 1) z671 z672 z673 z674 (ti_4 + 1) (v_da458fa48a i4_0) (v_6924477667 h1) v_939070ca3f v_316afd7d0b (v_17f5bda46b i4_0 i4_5 g670 h677) (v_ad4cf07083 i4_5 g670 h677) h675 h676 (v_9b2e2070a2 i4_8 g670 h677) h678 h679 h680 h681 h682 h683 (v_d50281bace i4_15) (NtX.add i4_16 ((TkX.wd i4_14 (v := 6) (c := 7) (by decide) (by decide) (by decide)).mpr (v_2e044925d6 h281))) ((by have u := i4_17; have w := (v_8b15499c4b i4_2 i4_3 h669); omega)) (meas_lt v_ceb2ed6d2b (v_44ddc35e90 h1) hm4)
          · refine Z_iconst (n := 1) dX5_plain_24 ?_
            refine J_goto (tgt := 29) dX5_plain_25 (by decide) ?_
            refine J_istore_n dX5_plain_29 rfl (Nat.le_of_ble_eq_true rfl) rfl ?_
            refine J_ls (ls2 := [some (.ref 54), some (.int (zI 8)), some (.int (zI 1)), some (.int (zI i_4))]) rfl ?_
            refine J_aload_n dX5_plain_30 rfl rfl ?_
            have g684 := TokL.lt i4_13 (v_3a5b2158d2 h281)
            refine J_callV (st := []) dX5_plain_31 cv_X5_43 (d_advance (ti_4 + 1) ln tx_4 sx_4 bx_4 vx_4 pa fl sz tp q0 q1 (v_d253cb2c59 i4_8 g684) i4_10 i4_11 i4_12 q15 (TkX.ps i4_14 (v_21976c7318 q18 i4_15)) rfl hk55) rfl rfl rfl (Nat.le_of_ble_eq_true rfl) ⟨(Nat.le_of_ble_eq_true rfl), (Nat.le_of_ble_eq_true rfl)⟩ ⟨(Nat.le_of_ble_eq_true rfl), (Nat.le_of_ble_eq_true rfl)⟩ (fun r h9 hp => ?_)
            obtain ⟨z685, z686, z687, z688, rfl, rfl, h689, h690, h691, h692, h693, h694, h695, h696, h697⟩ := hp
            refine J_nf (nh2 := nh) (ck2 := 0) (sk2 := 0) (st2 := []) rfl rfl rfl rfl ?_
            refine J_app (L3 := [(54, .inr (5, [.ref 55, .int (zI ln), .int (zI z685), .int (zI z686), .int (zI z687), .int (zI z688), .int (zI pa), .int (zI fl), .ref 56, .int (zI sz)])), (54, .inr (5, [.ref 55, .int (zI ln), .int (zI tx_4), .int (zI sx_4), .int (zI bx_4), .int (zI vx_4), .int (zI pa), .int (zI fl), .ref 56, .int (zI sz)]))]) rfl ?_
            refine J_mask (L2 := [(54, .inr (5, [.ref 55, .int (zI ln), .int (zI z685), .int (zI z686), .int (zI z687), .int (zI z688), .int (zI pa), .int (zI fl), .ref 56, .int (zI sz)]))]) (ks := [54, 54]) [true, false] rfl (by decide +kernel) rfl ?_
            refine Z_iinc (c := i_4 + 1) (ls2 := [some (.ref 54), some (.int (zI 8)), some (.int (zI 1)), some (.int (zI (i_4 + 1)))]) dX5_plain_34 rfl (Nat.le_of_ble_eq_true rfl) rfl rfl rfl ?_
            refine J_goto (tgt := 4) dX5_plain_37 (by decide) ?_
            exact ih4 1 (i_4 + 1) z685 z686 z687 z688 (ti_4 + 1) (v_da458fa48a i4_0) (v_6924477667 h1) v_316afd7d0b v_bbcfac9b7d (v_9fcadba328 i4_0 i4_5 g684 h691) (v_ad4cf07083 i4_5 g684 h691) h689 h690 (v_9b2e2070a2 i4_8 g684 h691) h692 h693 h694 h695 h696 h697 (v_d50281bace i4_15) (NtX.add i4_16 ((TkX.wd i4_14 (v := 6) (c := 7) (by decide) (by decide) (by decide)).mpr (v_2e044925d6 h281))) ((by have u := i4_17; have w := (v_bd6c74a791 i4_2 h669); omega)) (meas_lt v_ceb2ed6d2b (v_44ddc35e90 h1) hm4)
  exact lp4 _ 0 0 tk st bh va ti v_939070ca3f v_5ab96f7b5e v_939070ca3f v_316afd7d0b v_2776526004 v_2776526004 q2 q3 q4 q5 q6 q7 q8 q14 q17 v_0065452639 (NtX_0) ((by omega)) (Nat.lt_succ_self _)
set_option maxHeartbeats 4000000 in
set_option maxRecDepth 100000 in
theorem d_both8 {l : Launch} {G : jG} {nh : Nat} {fh : Nat → Option va_E} (ln : Int) (tk : Int) (st : Int) (bh : Int) (va : Int) (pa : Int) (fl : Int) (sz : Int) (tp : Int → Int) (cd : Int → Int) (ti : Int) (q0 : 0 ≤ ln) (q1 : ln ≤ 400) (q2 : 0 ≤ tk) (q3 : tk ≤ 355) (q4 : 0 ≤ st) (q5 : st ≤ bh) (q6 : bh ≤ ln) (q7 : 0 ≤ va) (q8 : va ≤ 1001) (q9 : 0 ≤ pa) (q10 : pa ≤ 50) (q11 : zr fl) (q12 : 0 ≤ sz) (q13 : sz ≤ 412) (q14 : TokL tk st bh) (q15 : Rg tp 400 0 255) (q16 : Rg cd 412 (-2147483648) 2147483647) (q17 : TkX tp ln ti tk st bh va) (q18 : 0 ≤ ti) (q19 : sz ≤ st + 1) (hk54 : fh 54 = some (.inr (5, [.ref 55, .int (zI ln), .int (zI tk), .int (zI st), .int (zI bh), .int (zI va), .int (zI pa), .int (zI fl), .ref 56, .int (zI sz)]))) (hk55 : fh 55 = some (.inl (0, 400, .inl (zA tp)))) (hk56 : fh 56 = some (.inl (0, 412, .inl (zA cd)))) : JM l G yX5_both MX5_both { frames := 10, cells := 0, slots := 0, locals := 222 } [.ref 54, .int (zI 8)] (nh, fh) (fun rr h9 => (∃ tk2 : Int, ∃ st2 : Int, ∃ bh2 : Int, ∃ va2 : Int, ∃ pa2 : Int, ∃ sz2 : Int, ∃ cd2 : Int → Int, ∃ ti2 : Int, rr = some (.int (zI 1)) ∧ h9 = (nh, hc fh [(54, .inr (5, [.ref 55, .int (zI ln), .int (zI tk2), .int (zI st2), .int (zI bh2), .int (zI va2), .int (zI pa2), .int (zI fl), .ref 56, .int (zI sz2)])), (56, .inl (0, 412, .inl (zA cd2)))]) ∧ (0 ≤ tk2) ∧ (tk2 ≤ 355) ∧ (0 ≤ st2) ∧ (st2 ≤ bh2) ∧ (bh2 ≤ ln) ∧ (0 ≤ va2) ∧ (va2 ≤ 1001) ∧ (0 ≤ pa2) ∧ (pa2 ≤ 50) ∧ (0 ≤ sz2) ∧ (sz2 ≤ 412) ∧ (TokL tk2 st2 bh2) ∧ (Rg cd2 412 (-2147483648) 2147483647) ∧ (sz2 + st ≤ sz + st2) ∧ (st ≤ st2) ∧ (TkX tp ln ti2 tk2 st2 bh2 va2) ∧ (0 ≤ ti2) ∧ (BoR (CTk tp ln) (LF tp ln) 0 ti pa 1 ti2 pa2) ∧ (pa ≤ pa2) ∧ (SgS (BoD (CTk tp ln) (VT tp ln) 0) cd cd2 ti ti2 sz sz2 pa pa2)) ∨ (∃ tk2 : Int, ∃ st2 : Int, ∃ bh2 : Int, ∃ va2 : Int, ∃ pa2 : Int, ∃ sz2 : Int, ∃ cd2 : Int → Int, ∃ fl2 : Int, ∃ ti2 : Int, rr = some (.int (zI 0)) ∧ h9 = (nh, hc fh [(54, .inr (5, [.ref 55, .int (zI ln), .int (zI tk2), .int (zI st2), .int (zI bh2), .int (zI va2), .int (zI pa2), .int (zI fl2), .ref 56, .int (zI sz2)])), (56, .inl (0, 412, .inl (zA cd2)))]) ∧ (0 ≤ tk2) ∧ (tk2 ≤ 355) ∧ (0 ≤ st2) ∧ (st2 ≤ bh2) ∧ (bh2 ≤ ln) ∧ (0 ≤ va2) ∧ (va2 ≤ 1001) ∧ (0 ≤ pa2) ∧ (pa2 ≤ 50) ∧ (0 ≤ sz2) ∧ (sz2 ≤ 412) ∧ (TokL tk2 st2 bh2) ∧ (Rg cd2 412 (-2147483648) 2147483647) ∧ (0 ≤ fl2) ∧ (fl2 ≤ 400) ∧ (FlX tp ln ti2 fl2) ∧ (BoR (CTk tp ln) (LF tp ln) 0 ti pa 0 ti2 0))) := by
  refine JM.of (by decide) rfl (fun h => by cases h) (Nat.le_of_ble_eq_true rfl) ⟨2, rfl⟩ ?_
  refine J_hc0 (J_ls (ls2 := [some (.ref 54), some (.int (zI 8)), none, none]) rfl ?_)
  refine J_aload_n dX5_both_0 rfl rfl ?_
  refine J_iload_n dX5_both_1 rfl rfl ?_
  refine J_callV (st := []) dX5_both_2 cv_X5_83 (d_plain8 ln tk st bh va pa fl sz tp cd ti q0 q1 q2 q3 q4 q5 q6 q7 q8 q9 q10 q11 q12 q13 q14 q15 q16 q17 q18 q19 hk54 hk55 hk56) hk54 rfl rfl (Nat.le_of_ble_eq_true rfl) ⟨(Nat.le_of_ble_eq_true rfl), (Nat.le_of_ble_eq_true rfl)⟩ ⟨(Nat.le_of_ble_eq_true rfl), (Nat.le_of_ble_eq_true rfl)⟩ (fun r h9 hp => ?_)
  rcases hp with ⟨z1, z2, z3, z4, z5, z6, f7, z8, rfl, rfl, h9, h10, h11, h12, h13, h14, h15, h16, h17, h18, h19, h20, h21, h22, h23, h24, h25, h26, h27, h28⟩ | ⟨z29, z30, z31, z32, z33, z34, f35, z36, z37, rfl, rfl, h38, h39, h40, h41, h42, h43, h44, h45, h46, h47, h48, h49, h50, h51, h52, h53, h54⟩
  · refine J_nf (nh2 := nh) (ck2 := 0) (sk2 := 0) (st2 := [.int (zI 1)]) rfl rfl rfl rfl ?_
    refine J_app (L3 := [(54, .inr (5, [.ref 55, .int (zI ln), .int (zI z1), .int (zI z2), .int (zI z3), .int (zI z4), .int (zI z5), .int (zI fl), .ref 56, .int (zI z6)])), (56, .inl (0, 412, .inl (zA f7)))]) rfl ?_
    refine Z_if_ne (tgt := 10) dX5_both_5 (by decide) v_4dcc24baa7 (fun h55 => ?_) (fun h55 => absurd h55 v_3a47bfd896)
    refine Z_iconst (n := 0) dX5_both_10 ?_
    refine J_istore_n dX5_both_11 rfl (Nat.le_of_ble_eq_true rfl) rfl ?_
    refine J_ls (ls2 := [some (.ref 54), some (.int (zI 8)), some (.int (zI 0)), none]) rfl ?_
    have lp12 : ∀ (N12 : Nat) (i_12 : Int) (tx_12 : Int) (sx_12 : Int) (bx_12 : Int) (vx_12 : Int) (px_12 : Int) (zx_12 : Int) (cx_12 : Int → Int) (ti_12 : Int), (0 ≤ i_12) → (i_12 ≤ 400) → (zx_12 + st ≤ sz + sx_12) → (st ≤ sx_12) → (0 ≤ tx_12) → (tx_12 ≤ 355) → (0 ≤ sx_12) → (sx_12 ≤ bx_12) → (bx_12 ≤ ln) → (0 ≤ vx_12) → (vx_12 ≤ 1001) → (TokL tx_12 sx_12 bx_12) → (Rg cx_12 412 (-2147483648) 2147483647) → (0 ≤ zx_12) → (zx_12 ≤ 412) → (0 ≤ px_12) → (px_12 ≤ 50) → (st + i_12 ≤ sx_12) → (TkX tp ln ti_12 tx_12 sx_12 bx_12 vx_12) → (0 ≤ ti_12) → (SeP (PnR (CTk tp ln) (LF tp ln) 0) opN (CTk tp ln) ti pa ti_12 px_12) → (pa ≤ px_12) → (SgP (PnD (CTk tp ln) (VT tp ln) 0) opN (fun _ => anC) (CTk tp ln) cd cx_12 ti sz pa ti_12 zx_12 px_12) → (400 - i_12).toNat < N12 → J l G MX5_both { frames := 10, cells := 0, slots := 0, locals := 222 } jE (jMQ G { frames := 10, cells := 0, slots := 0, locals := 222 } (fun rr h9 => (∃ tk2 : Int, ∃ st2 : Int, ∃ bh2 : Int, ∃ va2 : Int, ∃ pa2 : Int, ∃ sz2 : Int, ∃ cd2 : Int → Int, ∃ ti2 : Int, rr = some (.int (zI 1)) ∧ h9 = (nh, hc fh [(54, .inr (5, [.ref 55, .int (zI ln), .int (zI tk2), .int (zI st2), .int (zI bh2), .int (zI va2), .int (zI pa2), .int (zI fl), .ref 56, .int (zI sz2)])), (56, .inl (0, 412, .inl (zA cd2)))]) ∧ (0 ≤ tk2) ∧ (tk2 ≤ 355) ∧ (0 ≤ st2) ∧ (st2 ≤ bh2) ∧ (bh2 ≤ ln) ∧ (0 ≤ va2) ∧ (va2 ≤ 1001) ∧ (0 ≤ pa2) ∧ (pa2 ≤ 50) ∧ (0 ≤ sz2) ∧ (sz2 ≤ 412) ∧ (TokL tk2 st2 bh2) ∧ (Rg cd2 412 (-2147483648) 2147483647) ∧ (sz2 + st ≤ sz + st2) ∧ (st ≤ st2) ∧ (TkX tp ln ti2 tk2 st2 bh2 va2) ∧ (0 ≤ ti2) ∧ (BoR (CTk tp ln) (LF tp ln) 0 ti pa 1 ti2 pa2) ∧ (pa ≤ pa2) ∧ (SgS (BoD (CTk tp ln) (VT tp ln) 0) cd cd2 ti ti2 sz sz2 pa pa2)) ∨ (∃ tk2 : Int, ∃ st2 : Int, ∃ bh2 : Int, ∃ va2 : Int, ∃ pa2 : Int, ∃ sz2 : Int, ∃ cd2 : Int → Int, ∃ fl2 : Int, ∃ ti2 : Int, rr = some (.int (zI 0)) ∧ h9 = (nh, hc fh [(54, .inr (5, [.ref 55, .int (zI ln), .int (zI tk2), .int (zI st2), .int (zI bh2), .int (zI va2), .int (zI pa2), .int (zI fl2), .ref 56, .int (zI sz2)])), (56, .inl (0, 412, .inl (zA cd2)))]) ∧ (0 ≤ tk2) ∧ (tk2 ≤ 355) ∧ (0 ≤ st2) ∧ (st2 ≤ bh2) ∧ (bh2 ≤ ln) ∧ (0 ≤ va2) ∧ (va2 ≤ 1001) ∧ (0 ≤ pa2) ∧ (pa2 ≤ 50) ∧ (0 ≤ sz2) ∧ (sz2 ≤ 412) ∧ (TokL tk2 st2 bh2) ∧ (Rg cd2 412 (-2147483648) 2147483647) ∧ (0 ≤ fl2) ∧ (fl2 ≤ 400) ∧ (FlX tp ln ti2 fl2) ∧ (BoR (CTk tp ln) (LF tp ln) 0 ti pa 0 ti2 0)))) (nh, hc fh [(54, .inr (5, [.ref 55, .int (zI ln), .int (zI tx_12), .int (zI sx_12), .int (zI bx_12), .int (zI vx_12), .int (zI px_12), .int (zI fl), .ref 56, .int (zI zx_12)])), (56, .inl (0, 412, .inl (zA cx_12)))]) 0 0 12 [some (.ref 54), some (.int (zI 8)), some (.int (zI i_12)), none] [] := by
      intro N12
      induction N12 with
      | zero => intro i_12 tx_12 sx_12 bx_12 vx_12 px_12 zx_12 cx_12 ti_12 i12_0 i12_1 i12_2 i12_3 i12_4 i12_5 i12_6 i12_7 i12_8 i12_9 i12_10 i12_11 i12_12 i12_13 i12_14 i12_15 i12_16 i12_17 i12_18 i12_19 i12_20 i12_21 i12_22 hm; exact absurd hm (Nat.not_lt_zero _)
      | succ N12 ih12 =>
        intro i_12 tx_12 sx_12 bx_12 vx_12 px_12 zx_12 cx_12 ti_12 i12_0 i12_1 i12_2 i12_3 i12_4 i12_5 i12_6 i12_7 i12_8 i12_9 i12_10 i12_11 i12_12 i12_13 i12_14 i12_15 i12_16 i12_17 i12_18 i12_19 i12_20 i12_21 i12_22 hm12
        refine J_iload_n dX5_both_12 rfl rfl ?_
        refine Z_sipush (n := 400) dX5_both_13 (by decide +kernel) ?_
        refine Z_icmp_ge (tgt := 60) dX5_both_16 (by decide) (v_d7389cde0f i12_0 i12_1) v_d8dcd4dd52 (fun h56 => ?_) (fun h56 => ?_)
        · have g57 : tx_12 = 17 := TkX.lo i12_18 (v_96ef693267 q1 q4 i12_7 i12_8 i12_17 h56)
          refine Z_iconst (n := 1) dX5_both_60 ?_
          exact J_iret dX5_both_61 rfl (jbn v_316afd7d0b v_bbcfac9b7d) (Nat.le_of_ble_eq_true rfl) (Nat.le_of_ble_eq_true rfl) (Or.inl ⟨tx_12, sx_12, bx_12, vx_12, px_12, zx_12, cx_12, ti_12, rfl, rfl, i12_4, i12_5, i12_6, i12_7, i12_8, i12_9, i12_10, i12_15, i12_16, i12_13, i12_14, i12_11, i12_12, i12_2, i12_3, i12_18, i12_19, (SeP.end i12_20 (fun w => absurd ((TkX.wd i12_18 (v := 5) (c := 6) (by decide) (by decide) (by decide)).mp w) (v_ffc4fbfbcd g57))), i12_21, (SgP.end i12_22 (fun w => absurd ((TkX.wd i12_18 (v := 5) (c := 6) (by decide) (by decide) (by decide)).mp w) (v_ffc4fbfbcd g57)))⟩)
        · refine J_aload_n dX5_both_19 rfl rfl ?_
          refine J_get (v := .int (zI tx_12)) dX5_both_20 fl_X5_19 rfl rfl ?_
          refine Z_iconst (n := 5) dX5_both_23 ?_
          refine Z_icmp_ne (tgt := 60) dX5_both_24 (by decide) (v_96bf6f782e i12_4 i12_5) v_3961fe0d0d (fun h58 => ?_) (fun h58 => ?_)
          · refine Z_iconst (n := 1) dX5_both_60 ?_
            exact J_iret dX5_both_61 rfl (jbn v_316afd7d0b v_bbcfac9b7d) (Nat.le_of_ble_eq_true rfl) (Nat.le_of_ble_eq_true rfl) (Or.inl ⟨tx_12, sx_12, bx_12, vx_12, px_12, zx_12, cx_12, ti_12, rfl, rfl, i12_4, i12_5, i12_6, i12_7, i12_8, i12_9, i12_10, i12_15, i12_16, i12_13, i12_14, i12_11, i12_12, i12_2, i12_3, i12_18, i12_19, (SeP.end i12_20 (fun w => absurd ((TkX.wd i12_18 (v := 5) (c := 6) (by decide) (by decide) (by decide)).mp w) (v_6cacba8012 h58))), i12_21, (SgP.end i12_22 (fun w => absurd ((TkX.wd i12_18 (v := 5) (c := 6) (by decide) (by decide) (by decide)).mp w) (v_6cacba8012 h58)))⟩)
          · refine J_aload_n dX5_both_27 rfl rfl ?_
            have g59 := TokL.lt i12_11 (v_9ad38f4709 h58)
            refine J_callV (st := []) dX5_both_28 cv_X5_43 (d_advance (ti_12 + 1) ln tx_12 sx_12 bx_12 vx_12 px_12 fl zx_12 tp q0 q1 (v_d253cb2c59 i12_6 g59) i12_8 i12_9 i12_10 q15 (TkX.ps i12_18 (v_2b02420001 i12_19)) rfl hk55) rfl rfl rfl (Nat.le_of_ble_eq_true rfl) ⟨(Nat.le_of_ble_eq_true rfl), (Nat.le_of_ble_eq_true rfl)⟩ ⟨(Nat.le_of_ble_eq_true rfl), (Nat.le_of_ble_eq_true rfl)⟩ (fun r h9 hp => ?_)
            obtain ⟨z60, z61, z62, z63, rfl, rfl, h64, h65, h66, h67, h68, h69, h70, h71, h72⟩ := hp
            refine J_nf (nh2 := nh) (ck2 := 0) (sk2 := 0) (st2 := []) rfl rfl rfl rfl ?_
            refine J_app (L3 := [(54, .inr (5, [.ref 55, .int (zI ln), .int (zI z60), .int (zI z61), .int (zI z62), .int (zI z63), .int (zI px_12), .int (zI fl), .ref 56, .int (zI zx_12)])), (54, .inr (5, [.ref 55, .int (zI ln), .int (zI tx_12), .int (zI sx_12), .int (zI bx_12), .int (zI vx_12), .int (zI px_12), .int (zI fl), .ref 56, .int (zI zx_12)])), (56, .inl (0, 412, .inl (zA cx_12)))]) rfl ?_
            refine J_mask (L2 := [(54, .inr (5, [.ref 55, .int (zI ln), .int (zI z60), .int (zI z61), .int (zI z62), .int (zI z63), .int (zI px_12), .int (zI fl), .ref 56, .int (zI zx_12)])), (56, .inl (0, 412, .inl (zA cx_12)))]) (ks := [54, 54, 56]) [true, false, true] rfl (by decide +kernel) rfl ?_
            refine J_aload_n dX5_both_31 rfl rfl ?_
            refine Z_bipush (n := 11) dX5_both_32 (by decide +kernel) ?_
            refine Z_iconst (n := 0) dX5_both_34 ?_
            refine J_callV (st := []) dX5_both_35 cv_X5_72 (d_emit 11 0 ln z60 z61 z62 z63 px_12 fl zx_12 cx_12 v_d58e110b81 v_b17331891f v_86fcb050e7 v_ce8cdb034b v_939070ca3f v_e30af74f14 i12_13 (v_d175cef4e1 q1 q19 i12_2 i12_8 g59) i12_12 rfl rfl) rfl rfl rfl (Nat.le_of_ble_eq_true rfl) ⟨(Nat.le_of_ble_eq_true rfl), (Nat.le_of_ble_eq_true rfl)⟩ ⟨(Nat.le_of_ble_eq_true rfl), (Nat.le_of_ble_eq_true rfl)⟩ (fun r h9 hp => ?_)
            obtain ⟨f73, z74, rfl, rfl, h75, h76, h77, h78⟩ := hp
            refine J_nf (nh2 := nh) (ck2 := 0) (sk2 := 0) (st2 := [.int (zI zx_12)]) rfl rfl rfl rfl ?_
            refine J_app (L3 := [(54, .inr (5, [.ref 55, .int (zI ln), .int (zI z60), .int (zI z61), .int (zI z62), .int (zI z63), .int (zI px_12), .int (zI fl), .ref 56, .int (zI (zx_12 + 1))])), (56, .inl (0, 412, .inl (zA f73))), (54, .inr (5, [.ref 55, .int (zI ln), .int (zI z60), .int (zI z61), .int (zI z62), .int (zI z63), .int (zI px_12), .int (zI fl), .ref 56, .int (zI zx_12)])), (56, .inl (0, 412, .inl (zA cx_12)))]) (by first | rfl | (simp only [Int.add_assoc]; rfl)) ?_
            refine J_mask (L2 := [(54, .inr (5, [.ref 55, .int (zI ln), .int (zI z60), .int (zI z61), .int (zI z62), .int (zI z63), .int (zI px_12), .int (zI fl), .ref 56, .int (zI (zx_12 + 1))])), (56, .inl (0, 412, .inl (zA f73)))]) (ks := [54, 56, 54, 56]) [true, true, false, false] rfl (by decide +kernel) rfl ?_
            refine J_istore_n dX5_both_38 rfl (Nat.le_of_ble_eq_true rfl) rfl ?_
            refine J_ls (ls2 := [some (.ref 54), some (.int (zI 8)), some (.int (zI i_12)), some (.int (zI zx_12))]) rfl ?_
            refine J_aload_n dX5_both_39 rfl rfl ?_
            refine J_iload_n dX5_both_40 rfl rfl ?_
            refine J_callV (st := []) dX5_both_41 cv_X5_83 (d_plain8 ln z60 z61 z62 z63 px_12 fl (zx_12 + 1) tp f73 (ti_12 + 1) q0 q1 h64 h65 (v_9b2e2070a2 i12_6 g59 h66) h67 h68 h69 h70 i12_15 i12_16 q11 (v_da458fa48a i12_13) (v_be245ba567 q1 q19 i12_2 i12_8 g59) h71 q15 h77 h72 (v_da458fa48a i12_19) (v_e47300f8f6 q19 i12_2 g59 h66) rfl hk55 rfl) rfl rfl rfl (Nat.le_of_ble_eq_true rfl) ⟨(Nat.le_of_ble_eq_true rfl), (Nat.le_of_ble_eq_true rfl)⟩ ⟨(Nat.le_of_ble_eq_true rfl), (Nat.le_of_ble_eq_true rfl)⟩ (fun r h9 hp => ?_)
            rcases hp with ⟨z79, z80, z81, z82, z83, z84, f85, z86, rfl, rfl, h87, h88, h89, h90, h91, h92, h93, h94, h95, h96, h97, h98, h99, h100, h101, h102, h103, h104, h105, h106⟩ | ⟨z107, z108, z109, z110, z111, z112, f113, z114, z115, rfl, rfl, h116, h117, h118, h119, h120, h121, h122, h123, h124, h125, h126, h127, h128, h129, h130, h131, h132⟩
            · refine J_nf (nh2 := nh) (ck2 := 0) (sk2 := 0) (st2 := [.int (zI 1)]) rfl rfl rfl rfl ?_
              refine J_app (L3 := [(54, .inr (5, [.ref 55, .int (zI ln), .int (zI z79), .int (zI z80), .int (zI z81), .int (zI z82), .int (zI z83), .int (zI fl), .ref 56, .int (zI z84)])), (56, .inl (0, 412, .inl (zA f85))), (54, .inr (5, [.ref 55, .int (zI ln), .int (zI z60), .int (zI z61), .int (zI z62), .int (zI z63), .int (zI px_12), .int (zI fl), .ref 56, .int (zI (zx_12 + 1))])), (56, .inl (0, 412, .inl (zA f73)))]) rfl ?_
              refine J_mask (L2 := [(54, .inr (5, [.ref 55, .int (zI ln), .int (zI z79), .int (zI z80), .int (zI z81), .int (zI z82), .int (zI z83), .int (zI fl), .ref 56, .int (zI z84)])), (56, .inl (0, 412, .inl (zA f85)))]) (ks := [54, 56, 54, 56]) [true, true, false, false] rfl (by decide +kernel) rfl ?_
              refine Z_if_ne (tgt := 49) dX5_both_44 (by decide) v_4dcc24baa7 (fun h133 => ?_) (fun h133 => absurd h133 v_3a47bfd896)
              have g134 : f85 zx_12 = 11 := by rw [h106.1 zx_12 (by omega), h75, up_same, ← h78]; decide +kernel
              have g135 : zx_12 + 1 ≤ z84 := SgS.le h106
              refine J_aload_n dX5_both_49 rfl rfl ?_
              refine J_iload_n dX5_both_50 rfl rfl ?_
              refine J_callV (st := []) dX5_both_51 cv_X5_79 (d_aim zx_12 11 ln z79 z80 z81 z82 z83 fl z84 f85 (v_9099852440 i12_13 i12_14) i12_13 (v_b4ac995fb8 g135) h96 h97 h99 g134 v_86fcb050e7 v_ce8cdb034b rfl rfl) rfl rfl rfl (Nat.le_of_ble_eq_true rfl) ⟨(Nat.le_of_ble_eq_true rfl), (Nat.le_of_ble_eq_true rfl)⟩ ⟨(Nat.le_of_ble_eq_true rfl), (Nat.le_of_ble_eq_true rfl)⟩ (fun r h9 hp => ?_)
              obtain ⟨f136, z137, rfl, rfl, h138, h139, h140⟩ := hp
              refine J_nf (nh2 := nh) (ck2 := 0) (sk2 := 0) (st2 := []) rfl rfl rfl rfl ?_
              refine J_app (L3 := [(56, .inl (0, 412, .inl (zA f136))), (54, .inr (5, [.ref 55, .int (zI ln), .int (zI z79), .int (zI z80), .int (zI z81), .int (zI z82), .int (zI z83), .int (zI fl), .ref 56, .int (zI z84)])), (56, .inl (0, 412, .inl (zA f85)))]) rfl ?_
              refine J_mask (L2 := [(56, .inl (0, 412, .inl (zA f136))), (54, .inr (5, [.ref 55, .int (zI ln), .int (zI z79), .int (zI z80), .int (zI z81), .int (zI z82), .int (zI z83), .int (zI fl), .ref 56, .int (zI z84)]))]) (ks := [56, 54, 56]) [true, true, false] rfl (by decide +kernel) rfl ?_
              refine Z_iinc (c := i_12 + 1) (ls2 := [some (.ref 54), some (.int (zI 8)), some (.int (zI (i_12 + 1))), some (.int (zI zx_12))]) dX5_both_54 rfl (Nat.le_of_ble_eq_true rfl) rfl rfl rfl ?_
              refine J_goto (tgt := 12) dX5_both_57 (by decide) ?_
              refine J_touch (k := 56) (e := .inl (0, 412, .inl (zA f136))) rfl ?_
              refine J_touch (k := 54) (e := .inr (5, [.ref 55, .int (zI ln), .int (zI z79), .int (zI z80), .int (zI z81), .int (zI z82), .int (zI z83), .int (zI fl), .ref 56, .int (zI z84)])) rfl ?_
              refine J_mask (L2 := [(54, .inr (5, [.ref 55, .int (zI ln), .int (zI z79), .int (zI z80), .int (zI z81), .int (zI z82), .int (zI z83), .int (zI fl), .ref 56, .int (zI z84)])), (56, .inl (0, 412, .inl (zA f136)))]) (ks := [54, 56, 56, 54]) [true, true, false, false] rfl (by decide +kernel) rfl ?_
              refine J_drop (ls2 := [some (.ref 54), some (.int (zI 8)), some (.int (zI (i_12 + 1))), none]) [true, true, true, false] rfl ?_
              exact ih12 (i_12 + 1) z79 z80 z81 z82 z83 z84 f136 z86 (v_da458fa48a i12_0) (v_6924477667 h56) (v_e3be02b6c6 i12_2 g59 h66 h100) (v_269579bf42 i12_3 g59 h66 h101) h87 h88 h89 h90 h91 h92 h93 h98 h138 h96 h97 h94 h95 (v_974edc800f i12_17 g59 h66 h101) h102 h103 (SeP.add i12_20 ((TkX.wd i12_18 (v := 5) (c := 6) (by decide) (by decide) (by decide)).mpr (v_666cdbe95c h58)) h104) (v_8fadc7eb76 i12_21 h105) (SgP.and i12_22 ((TkX.wd i12_18 (v := 5) (c := 6) (by decide) (by decide) (by decide)).mpr (v_666cdbe95c h58)) h75 h106 h139 h140) (meas_lt v_ceb2ed6d2b (v_44ddc35e90 h56) hm12)
            · refine J_nf (nh2 := nh) (ck2 := 0) (sk2 := 0) (st2 := [.int (zI 0)]) rfl rfl rfl rfl ?_
              refine J_app (L3 := [(54, .inr (5, [.ref 55, .int (zI ln), .int (zI z107), .int (zI z108), .int (zI z109), .int (zI z110), .int (zI z111), .int (zI z114), .ref 56, .int (zI z112)])), (56, .inl (0, 412, .inl (zA f113))), (54, .inr (5, [.ref 55, .int (zI ln), .int (zI z60), .int (zI z61), .int (zI z62), .int (zI z63), .int (zI px_12), .int (zI fl), .ref 56, .int (zI (zx_12 + 1))])), (56, .inl (0, 412, .inl (zA f73)))]) rfl ?_
              refine J_mask (L2 := [(54, .inr (5, [.ref 55, .int (zI ln), .int (zI z107), .int (zI z108), .int (zI z109), .int (zI z110), .int (zI z111), .int (zI z114), .ref 56, .int (zI z112)])), (56, .inl (0, 412, .inl (zA f113)))]) (ks := [54, 56, 54, 56]) [true, true, false, false] rfl (by decide +kernel) rfl ?_
              refine Z_if_ne (tgt := 49) dX5_both_44 (by decide) v_b17331891f (fun h141 => absurd h141 (fun q => q v_2ca2bbca1f)) (fun h141 => ?_)
              refine Z_iconst (n := 0) dX5_both_47 ?_
              exact J_iret dX5_both_48 rfl (jbn v_939070ca3f v_316afd7d0b) (Nat.le_of_ble_eq_true rfl) (Nat.le_of_ble_eq_true rfl) (Or.inr ⟨z107, z108, z109, z110, z111, z112, f113, z114, z115, rfl, rfl, h116, h117, h118, h119, h120, h121, h122, h123, h124, h125, h126, h127, h128, h129, h130, (h131), (SeP.bad i12_20 ((TkX.wd i12_18 (v := 5) (c := 6) (by decide) (by decide) (by decide)).mpr (v_666cdbe95c h58)) h132)⟩)
    exact lp12 _ 0 z1 z2 z3 z4 z5 z6 f7 z8 v_939070ca3f v_5ab96f7b5e h22 h23 h9 h10 h11 h12 h13 h14 h15 h20 h21 h18 h19 h16 h17 (v_3c1faf939c h23) h24 h25 (SeP.one h26) h27 (SgP.one h28) (Nat.lt_succ_self _)
  · refine J_nf (nh2 := nh) (ck2 := 0) (sk2 := 0) (st2 := [.int (zI 0)]) rfl rfl rfl rfl ?_
    refine J_app (L3 := [(54, .inr (5, [.ref 55, .int (zI ln), .int (zI z29), .int (zI z30), .int (zI z31), .int (zI z32), .int (zI z33), .int (zI z36), .ref 56, .int (zI z34)])), (56, .inl (0, 412, .inl (zA f35)))]) rfl ?_
    refine Z_if_ne (tgt := 10) dX5_both_5 (by decide) v_b17331891f (fun h142 => absurd h142 (fun q => q v_2ca2bbca1f)) (fun h142 => ?_)
    refine Z_iconst (n := 0) dX5_both_8 ?_
    exact J_iret dX5_both_9 rfl (jbn v_939070ca3f v_316afd7d0b) (Nat.le_of_ble_eq_true rfl) (Nat.le_of_ble_eq_true rfl) (Or.inr ⟨z29, z30, z31, z32, z33, z34, f35, z36, z37, rfl, rfl, h38, h39, h40, h41, h42, h43, h44, h45, h46, h47, h48, h49, h50, h51, h52, (h53), (SeR.b h54)⟩)
set_option maxHeartbeats 4000000 in
set_option maxRecDepth 100000 in
theorem d_test8 {l : Launch} {G : jG} {nh : Nat} {fh : Nat → Option va_E} (ln : Int) (tk : Int) (st : Int) (bh : Int) (va : Int) (pa : Int) (fl : Int) (sz : Int) (tp : Int → Int) (cd : Int → Int) (ti : Int) (q0 : 0 ≤ ln) (q1 : ln ≤ 400) (q2 : 0 ≤ tk) (q3 : tk ≤ 355) (q4 : 0 ≤ st) (q5 : st ≤ bh) (q6 : bh ≤ ln) (q7 : 0 ≤ va) (q8 : va ≤ 1001) (q9 : 0 ≤ pa) (q10 : pa ≤ 50) (q11 : zr fl) (q12 : 0 ≤ sz) (q13 : sz ≤ 412) (q14 : TokL tk st bh) (q15 : Rg tp 400 0 255) (q16 : Rg cd 412 (-2147483648) 2147483647) (q17 : TkX tp ln ti tk st bh va) (q18 : 0 ≤ ti) (q19 : sz ≤ st + 1) (hk54 : fh 54 = some (.inr (5, [.ref 55, .int (zI ln), .int (zI tk), .int (zI st), .int (zI bh), .int (zI va), .int (zI pa), .int (zI fl), .ref 56, .int (zI sz)]))) (hk55 : fh 55 = some (.inl (0, 400, .inl (zA tp)))) (hk56 : fh 56 = some (.inl (0, 412, .inl (zA cd)))) : JM l G yX5_test MX5_test { frames := 11, cells := 0, slots := 0, locals := 245 } [.ref 54, .int (zI 8)] (nh, fh) (fun rr h9 => (∃ tk2 : Int, ∃ st2 : Int, ∃ bh2 : Int, ∃ va2 : Int, ∃ pa2 : Int, ∃ sz2 : Int, ∃ cd2 : Int → Int, ∃ ti2 : Int, rr = some (.int (zI 1)) ∧ h9 = (nh, hc fh [(54, .inr (5, [.ref 55, .int (zI ln), .int (zI tk2), .int (zI st2), .int (zI bh2), .int (zI va2), .int (zI pa2), .int (zI fl), .ref 56, .int (zI sz2)])), (56, .inl (0, 412, .inl (zA cd2)))]) ∧ (0 ≤ tk2) ∧ (tk2 ≤ 355) ∧ (0 ≤ st2) ∧ (st2 ≤ bh2) ∧ (bh2 ≤ ln) ∧ (0 ≤ va2) ∧ (va2 ≤ 1001) ∧ (0 ≤ pa2) ∧ (pa2 ≤ 50) ∧ (0 ≤ sz2) ∧ (sz2 ≤ 412) ∧ (TokL tk2 st2 bh2) ∧ (Rg cd2 412 (-2147483648) 2147483647) ∧ (sz2 + st ≤ sz + st2) ∧ (st ≤ st2) ∧ (TkX tp ln ti2 tk2 st2 bh2 va2) ∧ (0 ≤ ti2) ∧ (TeR (CTk tp ln) (LF tp ln) 0 ti pa 1 ti2 pa2) ∧ (pa ≤ pa2) ∧ (SgS (TeD (CTk tp ln) (VT tp ln) 0) cd cd2 ti ti2 sz sz2 pa pa2)) ∨ (∃ tk2 : Int, ∃ st2 : Int, ∃ bh2 : Int, ∃ va2 : Int, ∃ pa2 : Int, ∃ sz2 : Int, ∃ cd2 : Int → Int, ∃ fl2 : Int, ∃ ti2 : Int, rr = some (.int (zI 0)) ∧ h9 = (nh, hc fh [(54, .inr (5, [.ref 55, .int (zI ln), .int (zI tk2), .int (zI st2), .int (zI bh2), .int (zI va2), .int (zI pa2), .int (zI fl2), .ref 56, .int (zI sz2)])), (56, .inl (0, 412, .inl (zA cd2)))]) ∧ (0 ≤ tk2) ∧ (tk2 ≤ 355) ∧ (0 ≤ st2) ∧ (st2 ≤ bh2) ∧ (bh2 ≤ ln) ∧ (0 ≤ va2) ∧ (va2 ≤ 1001) ∧ (0 ≤ pa2) ∧ (pa2 ≤ 50) ∧ (0 ≤ sz2) ∧ (sz2 ≤ 412) ∧ (TokL tk2 st2 bh2) ∧ (Rg cd2 412 (-2147483648) 2147483647) ∧ (0 ≤ fl2) ∧ (fl2 ≤ 400) ∧ (FlX tp ln ti2 fl2) ∧ (TeR (CTk tp ln) (LF tp ln) 0 ti pa 0 ti2 0))) := by
  refine JM.of (by decide) rfl (fun h => by cases h) (Nat.le_of_ble_eq_true rfl) ⟨2, rfl⟩ ?_
  refine J_hc0 (J_ls (ls2 := [some (.ref 54), some (.int (zI 8)), none, none]) rfl ?_)
  refine J_aload_n dX5_test_0 rfl rfl ?_
  refine J_iload_n dX5_test_1 rfl rfl ?_
  refine J_callV (st := []) dX5_test_2 cv_X5_76 (d_both8 ln tk st bh va pa fl sz tp cd ti q0 q1 q2 q3 q4 q5 q6 q7 q8 q9 q10 q11 q12 q13 q14 q15 q16 q17 q18 q19 hk54 hk55 hk56) hk54 rfl rfl (Nat.le_of_ble_eq_true rfl) ⟨(Nat.le_of_ble_eq_true rfl), (Nat.le_of_ble_eq_true rfl)⟩ ⟨(Nat.le_of_ble_eq_true rfl), (Nat.le_of_ble_eq_true rfl)⟩ (fun r h9 hp => ?_)
  rcases hp with ⟨z1, z2, z3, z4, z5, z6, f7, z8, rfl, rfl, h9, h10, h11, h12, h13, h14, h15, h16, h17, h18, h19, h20, h21, h22, h23, h24, h25, h26, h27, h28⟩ | ⟨z29, z30, z31, z32, z33, z34, f35, z36, z37, rfl, rfl, h38, h39, h40, h41, h42, h43, h44, h45, h46, h47, h48, h49, h50, h51, h52, h53, h54⟩
  · refine J_nf (nh2 := nh) (ck2 := 0) (sk2 := 0) (st2 := [.int (zI 1)]) rfl rfl rfl rfl ?_
    refine J_app (L3 := [(54, .inr (5, [.ref 55, .int (zI ln), .int (zI z1), .int (zI z2), .int (zI z3), .int (zI z4), .int (zI z5), .int (zI fl), .ref 56, .int (zI z6)])), (56, .inl (0, 412, .inl (zA f7)))]) rfl ?_
    refine Z_if_ne (tgt := 10) dX5_test_5 (by decide) v_4dcc24baa7 (fun h55 => ?_) (fun h55 => absurd h55 v_3a47bfd896)
    refine Z_iconst (n := 0) dX5_test_10 ?_
    refine J_istore_n dX5_test_11 rfl (Nat.le_of_ble_eq_true rfl) rfl ?_
    refine J_ls (ls2 := [some (.ref 54), some (.int (zI 8)), some (.int (zI 0)), none]) rfl ?_
    have lp12 : ∀ (N12 : Nat) (i_12 : Int) (tx_12 : Int) (sx_12 : Int) (bx_12 : Int) (vx_12 : Int) (px_12 : Int) (zx_12 : Int) (cx_12 : Int → Int) (ti_12 : Int), (0 ≤ i_12) → (i_12 ≤ 400) → (zx_12 + st ≤ sz + sx_12) → (st ≤ sx_12) → (0 ≤ tx_12) → (tx_12 ≤ 355) → (0 ≤ sx_12) → (sx_12 ≤ bx_12) → (bx_12 ≤ ln) → (0 ≤ vx_12) → (vx_12 ≤ 1001) → (TokL tx_12 sx_12 bx_12) → (Rg cx_12 412 (-2147483648) 2147483647) → (0 ≤ zx_12) → (zx_12 ≤ 412) → (0 ≤ px_12) → (px_12 ≤ 50) → (st + i_12 ≤ sx_12) → (TkX tp ln ti_12 tx_12 sx_12 bx_12 vx_12) → (0 ≤ ti_12) → (SeP (BoR (CTk tp ln) (LF tp ln) 0) opO (CTk tp ln) ti pa ti_12 px_12) → (pa ≤ px_12) → (SgP (BoD (CTk tp ln) (VT tp ln) 0) opO (fun _ => orC) (CTk tp ln) cd cx_12 ti sz pa ti_12 zx_12 px_12) → (400 - i_12).toNat < N12 → J l G MX5_test { frames := 11, cells := 0, slots := 0, locals := 245 } jE (jMQ G { frames := 11, cells := 0, slots := 0, locals := 245 } (fun rr h9 => (∃ tk2 : Int, ∃ st2 : Int, ∃ bh2 : Int, ∃ va2 : Int, ∃ pa2 : Int, ∃ sz2 : Int, ∃ cd2 : Int → Int, ∃ ti2 : Int, rr = some (.int (zI 1)) ∧ h9 = (nh, hc fh [(54, .inr (5, [.ref 55, .int (zI ln), .int (zI tk2), .int (zI st2), .int (zI bh2), .int (zI va2), .int (zI pa2), .int (zI fl), .ref 56, .int (zI sz2)])), (56, .inl (0, 412, .inl (zA cd2)))]) ∧ (0 ≤ tk2) ∧ (tk2 ≤ 355) ∧ (0 ≤ st2) ∧ (st2 ≤ bh2) ∧ (bh2 ≤ ln) ∧ (0 ≤ va2) ∧ (va2 ≤ 1001) ∧ (0 ≤ pa2) ∧ (pa2 ≤ 50) ∧ (0 ≤ sz2) ∧ (sz2 ≤ 412) ∧ (TokL tk2 st2 bh2) ∧ (Rg cd2 412 (-2147483648) 2147483647) ∧ (sz2 + st ≤ sz + st2) ∧ (st ≤ st2) ∧ (TkX tp ln ti2 tk2 st2 bh2 va2) ∧ (0 ≤ ti2) ∧ (TeR (CTk tp ln) (LF tp ln) 0 ti pa 1 ti2 pa2) ∧ (pa ≤ pa2) ∧ (SgS (TeD (CTk tp ln) (VT tp ln) 0) cd cd2 ti ti2 sz sz2 pa pa2)) ∨ (∃ tk2 : Int, ∃ st2 : Int, ∃ bh2 : Int, ∃ va2 : Int, ∃ pa2 : Int, ∃ sz2 : Int, ∃ cd2 : Int → Int, ∃ fl2 : Int, ∃ ti2 : Int, rr = some (.int (zI 0)) ∧ h9 = (nh, hc fh [(54, .inr (5, [.ref 55, .int (zI ln), .int (zI tk2), .int (zI st2), .int (zI bh2), .int (zI va2), .int (zI pa2), .int (zI fl2), .ref 56, .int (zI sz2)])), (56, .inl (0, 412, .inl (zA cd2)))]) ∧ (0 ≤ tk2) ∧ (tk2 ≤ 355) ∧ (0 ≤ st2) ∧ (st2 ≤ bh2) ∧ (bh2 ≤ ln) ∧ (0 ≤ va2) ∧ (va2 ≤ 1001) ∧ (0 ≤ pa2) ∧ (pa2 ≤ 50) ∧ (0 ≤ sz2) ∧ (sz2 ≤ 412) ∧ (TokL tk2 st2 bh2) ∧ (Rg cd2 412 (-2147483648) 2147483647) ∧ (0 ≤ fl2) ∧ (fl2 ≤ 400) ∧ (FlX tp ln ti2 fl2) ∧ (TeR (CTk tp ln) (LF tp ln) 0 ti pa 0 ti2 0)))) (nh, hc fh [(54, .inr (5, [.ref 55, .int (zI ln), .int (zI tx_12), .int (zI sx_12), .int (zI bx_12), .int (zI vx_12), .int (zI px_12), .int (zI fl), .ref 56, .int (zI zx_12)])), (56, .inl (0, 412, .inl (zA cx_12)))]) 0 0 12 [some (.ref 54), some (.int (zI 8)), some (.int (zI i_12)), none] [] := by
      intro N12
      induction N12 with
      | zero => intro i_12 tx_12 sx_12 bx_12 vx_12 px_12 zx_12 cx_12 ti_12 i12_0 i12_1 i12_2 i12_3 i12_4 i12_5 i12_6 i12_7 i12_8 i12_9 i12_10 i12_11 i12_12 i12_13 i12_14 i12_15 i12_16 i12_17 i12_18 i12_19 i12_20 i12_21 i12_22 hm; exact absurd hm (Nat.not_lt_zero _)
      | succ N12 ih12 =>
        intro i_12 tx_12 sx_12 bx_12 vx_12 px_12 zx_12 cx_12 ti_12 i12_0 i12_1 i12_2 i12_3 i12_4 i12_5 i12_6 i12_7 i12_8 i12_9 i12_10 i12_11 i12_12 i12_13 i12_14 i12_15 i12_16 i12_17 i12_18 i12_19 i12_20 i12_21 i12_22 hm12
        refine J_iload_n dX5_test_12 rfl rfl ?_
        refine Z_sipush (n := 400) dX5_test_13 (by decide +kernel) ?_
        refine Z_icmp_ge (tgt := 60) dX5_test_16 (by decide) (v_d7389cde0f i12_0 i12_1) v_d8dcd4dd52 (fun h56 => ?_) (fun h56 => ?_)
        · have g57 : tx_12 = 17 := TkX.lo i12_18 (v_96ef693267 q1 q4 i12_7 i12_8 i12_17 h56)
          refine Z_iconst (n := 1) dX5_test_60 ?_
          exact J_iret dX5_test_61 rfl (jbn v_316afd7d0b v_bbcfac9b7d) (Nat.le_of_ble_eq_true rfl) (Nat.le_of_ble_eq_true rfl) (Or.inl ⟨tx_12, sx_12, bx_12, vx_12, px_12, zx_12, cx_12, ti_12, rfl, rfl, i12_4, i12_5, i12_6, i12_7, i12_8, i12_9, i12_10, i12_15, i12_16, i12_13, i12_14, i12_11, i12_12, i12_2, i12_3, i12_18, i12_19, (SeP.end i12_20 (fun w => absurd ((TkX.wd i12_18 (v := 4) (c := 5) (by decide) (by decide) (by decide)).mp w) (v_6cdd333bcc g57))), i12_21, (SgP.end i12_22 (fun w => absurd ((TkX.wd i12_18 (v := 4) (c := 5) (by decide) (by decide) (by decide)).mp w) (v_6cdd333bcc g57)))⟩)
        · refine J_aload_n dX5_test_19 rfl rfl ?_
          refine J_get (v := .int (zI tx_12)) dX5_test_20 fl_X5_19 rfl rfl ?_
          refine Z_iconst (n := 4) dX5_test_23 ?_
          refine Z_icmp_ne (tgt := 60) dX5_test_24 (by decide) (v_96bf6f782e i12_4 i12_5) v_ffb526fa28 (fun h58 => ?_) (fun h58 => ?_)
          · refine Z_iconst (n := 1) dX5_test_60 ?_
            exact J_iret dX5_test_61 rfl (jbn v_316afd7d0b v_bbcfac9b7d) (Nat.le_of_ble_eq_true rfl) (Nat.le_of_ble_eq_true rfl) (Or.inl ⟨tx_12, sx_12, bx_12, vx_12, px_12, zx_12, cx_12, ti_12, rfl, rfl, i12_4, i12_5, i12_6, i12_7, i12_8, i12_9, i12_10, i12_15, i12_16, i12_13, i12_14, i12_11, i12_12, i12_2, i12_3, i12_18, i12_19, (SeP.end i12_20 (fun w => absurd ((TkX.wd i12_18 (v := 4) (c := 5) (by decide) (by decide) (by decide)).mp w) (v_77b8f78401 h58))), i12_21, (SgP.end i12_22 (fun w => absurd ((TkX.wd i12_18 (v := 4) (c := 5) (by decide) (by decide) (by decide)).mp w) (v_77b8f78401 h58)))⟩)
          · refine J_aload_n dX5_test_27 rfl rfl ?_
            have g59 := TokL.lt i12_11 (v_5ca91df03c h58)
            refine J_callV (st := []) dX5_test_28 cv_X5_43 (d_advance (ti_12 + 1) ln tx_12 sx_12 bx_12 vx_12 px_12 fl zx_12 tp q0 q1 (v_d253cb2c59 i12_6 g59) i12_8 i12_9 i12_10 q15 (TkX.ps i12_18 (v_2b02420001 i12_19)) rfl hk55) rfl rfl rfl (Nat.le_of_ble_eq_true rfl) ⟨(Nat.le_of_ble_eq_true rfl), (Nat.le_of_ble_eq_true rfl)⟩ ⟨(Nat.le_of_ble_eq_true rfl), (Nat.le_of_ble_eq_true rfl)⟩ (fun r h9 hp => ?_)
            obtain ⟨z60, z61, z62, z63, rfl, rfl, h64, h65, h66, h67, h68, h69, h70, h71, h72⟩ := hp
            refine J_nf (nh2 := nh) (ck2 := 0) (sk2 := 0) (st2 := []) rfl rfl rfl rfl ?_
            refine J_app (L3 := [(54, .inr (5, [.ref 55, .int (zI ln), .int (zI z60), .int (zI z61), .int (zI z62), .int (zI z63), .int (zI px_12), .int (zI fl), .ref 56, .int (zI zx_12)])), (54, .inr (5, [.ref 55, .int (zI ln), .int (zI tx_12), .int (zI sx_12), .int (zI bx_12), .int (zI vx_12), .int (zI px_12), .int (zI fl), .ref 56, .int (zI zx_12)])), (56, .inl (0, 412, .inl (zA cx_12)))]) rfl ?_
            refine J_mask (L2 := [(54, .inr (5, [.ref 55, .int (zI ln), .int (zI z60), .int (zI z61), .int (zI z62), .int (zI z63), .int (zI px_12), .int (zI fl), .ref 56, .int (zI zx_12)])), (56, .inl (0, 412, .inl (zA cx_12)))]) (ks := [54, 54, 56]) [true, false, true] rfl (by decide +kernel) rfl ?_
            refine J_aload_n dX5_test_31 rfl rfl ?_
            refine Z_bipush (n := 10) dX5_test_32 (by decide +kernel) ?_
            refine Z_iconst (n := 0) dX5_test_34 ?_
            refine J_callV (st := []) dX5_test_35 cv_X5_72 (d_emit 10 0 ln z60 z61 z62 z63 px_12 fl zx_12 cx_12 v_2388fd5833 v_b17331891f v_e624b9b685 v_35f6a207fd v_939070ca3f v_e30af74f14 i12_13 (v_d175cef4e1 q1 q19 i12_2 i12_8 g59) i12_12 rfl rfl) rfl rfl rfl (Nat.le_of_ble_eq_true rfl) ⟨(Nat.le_of_ble_eq_true rfl), (Nat.le_of_ble_eq_true rfl)⟩ ⟨(Nat.le_of_ble_eq_true rfl), (Nat.le_of_ble_eq_true rfl)⟩ (fun r h9 hp => ?_)
            obtain ⟨f73, z74, rfl, rfl, h75, h76, h77, h78⟩ := hp
            refine J_nf (nh2 := nh) (ck2 := 0) (sk2 := 0) (st2 := [.int (zI zx_12)]) rfl rfl rfl rfl ?_
            refine J_app (L3 := [(54, .inr (5, [.ref 55, .int (zI ln), .int (zI z60), .int (zI z61), .int (zI z62), .int (zI z63), .int (zI px_12), .int (zI fl), .ref 56, .int (zI (zx_12 + 1))])), (56, .inl (0, 412, .inl (zA f73))), (54, .inr (5, [.ref 55, .int (zI ln), .int (zI z60), .int (zI z61), .int (zI z62), .int (zI z63), .int (zI px_12), .int (zI fl), .ref 56, .int (zI zx_12)])), (56, .inl (0, 412, .inl (zA cx_12)))]) (by first | rfl | (simp only [Int.add_assoc]; rfl)) ?_
            refine J_mask (L2 := [(54, .inr (5, [.ref 55, .int (zI ln), .int (zI z60), .int (zI z61), .int (zI z62), .int (zI z63), .int (zI px_12), .int (zI fl), .ref 56, .int (zI (zx_12 + 1))])), (56, .inl (0, 412, .inl (zA f73)))]) (ks := [54, 56, 54, 56]) [true, true, false, false] rfl (by decide +kernel) rfl ?_
            refine J_istore_n dX5_test_38 rfl (Nat.le_of_ble_eq_true rfl) rfl ?_
            refine J_ls (ls2 := [some (.ref 54), some (.int (zI 8)), some (.int (zI i_12)), some (.int (zI zx_12))]) rfl ?_
            refine J_aload_n dX5_test_39 rfl rfl ?_
            refine J_iload_n dX5_test_40 rfl rfl ?_
            refine J_callV (st := []) dX5_test_41 cv_X5_76 (d_both8 ln z60 z61 z62 z63 px_12 fl (zx_12 + 1) tp f73 (ti_12 + 1) q0 q1 h64 h65 (v_9b2e2070a2 i12_6 g59 h66) h67 h68 h69 h70 i12_15 i12_16 q11 (v_da458fa48a i12_13) (v_be245ba567 q1 q19 i12_2 i12_8 g59) h71 q15 h77 h72 (v_da458fa48a i12_19) (v_e47300f8f6 q19 i12_2 g59 h66) rfl hk55 rfl) rfl rfl rfl (Nat.le_of_ble_eq_true rfl) ⟨(Nat.le_of_ble_eq_true rfl), (Nat.le_of_ble_eq_true rfl)⟩ ⟨(Nat.le_of_ble_eq_true rfl), (Nat.le_of_ble_eq_true rfl)⟩ (fun r h9 hp => ?_)
            rcases hp with ⟨z79, z80, z81, z82, z83, z84, f85, z86, rfl, rfl, h87, h88, h89, h90, h91, h92, h93, h94, h95, h96, h97, h98, h99, h100, h101, h102, h103, h104, h105, h106⟩ | ⟨z107, z108, z109, z110, z111, z112, f113, z114, z115, rfl, rfl, h116, h117, h118, h119, h120, h121, h122, h123, h124, h125, h126, h127, h128, h129, h130, h131, h132⟩
            · refine J_nf (nh2 := nh) (ck2 := 0) (sk2 := 0) (st2 := [.int (zI 1)]) rfl rfl rfl rfl ?_
              refine J_app (L3 := [(54, .inr (5, [.ref 55, .int (zI ln), .int (zI z79), .int (zI z80), .int (zI z81), .int (zI z82), .int (zI z83), .int (zI fl), .ref 56, .int (zI z84)])), (56, .inl (0, 412, .inl (zA f85))), (54, .inr (5, [.ref 55, .int (zI ln), .int (zI z60), .int (zI z61), .int (zI z62), .int (zI z63), .int (zI px_12), .int (zI fl), .ref 56, .int (zI (zx_12 + 1))])), (56, .inl (0, 412, .inl (zA f73)))]) rfl ?_
              refine J_mask (L2 := [(54, .inr (5, [.ref 55, .int (zI ln), .int (zI z79), .int (zI z80), .int (zI z81), .int (zI z82), .int (zI z83), .int (zI fl), .ref 56, .int (zI z84)])), (56, .inl (0, 412, .inl (zA f85)))]) (ks := [54, 56, 54, 56]) [true, true, false, false] rfl (by decide +kernel) rfl ?_
              refine Z_if_ne (tgt := 49) dX5_test_44 (by decide) v_4dcc24baa7 (fun h133 => ?_) (fun h133 => absurd h133 v_3a47bfd896)
              have g134 : f85 zx_12 = 10 := by rw [h106.1 zx_12 (by omega), h75, up_same, ← h78]; decide +kernel
              have g135 : zx_12 + 1 ≤ z84 := SgS.le h106
              refine J_aload_n dX5_test_49 rfl rfl ?_
              refine J_iload_n dX5_test_50 rfl rfl ?_
              refine J_callV (st := []) dX5_test_51 cv_X5_79 (d_aim zx_12 10 ln z79 z80 z81 z82 z83 fl z84 f85 (v_9099852440 i12_13 i12_14) i12_13 (v_b4ac995fb8 g135) h96 h97 h99 g134 v_e624b9b685 v_35f6a207fd rfl rfl) rfl rfl rfl (Nat.le_of_ble_eq_true rfl) ⟨(Nat.le_of_ble_eq_true rfl), (Nat.le_of_ble_eq_true rfl)⟩ ⟨(Nat.le_of_ble_eq_true rfl), (Nat.le_of_ble_eq_true rfl)⟩ (fun r h9 hp => ?_)
              obtain ⟨f136, z137, rfl, rfl, h138, h139, h140⟩ := hp
              refine J_nf (nh2 := nh) (ck2 := 0) (sk2 := 0) (st2 := []) rfl rfl rfl rfl ?_
              refine J_app (L3 := [(56, .inl (0, 412, .inl (zA f136))), (54, .inr (5, [.ref 55, .int (zI ln), .int (zI z79), .int (zI z80), .int (zI z81), .int (zI z82), .int (zI z83), .int (zI fl), .ref 56, .int (zI z84)])), (56, .inl (0, 412, .inl (zA f85)))]) rfl ?_
              refine J_mask (L2 := [(56, .inl (0, 412, .inl (zA f136))), (54, .inr (5, [.ref 55, .int (zI ln), .int (zI z79), .int (zI z80), .int (zI z81), .int (zI z82), .int (zI z83), .int (zI fl), .ref 56, .int (zI z84)]))]) (ks := [56, 54, 56]) [true, true, false] rfl (by decide +kernel) rfl ?_
              refine Z_iinc (c := i_12 + 1) (ls2 := [some (.ref 54), some (.int (zI 8)), some (.int (zI (i_12 + 1))), some (.int (zI zx_12))]) dX5_test_54 rfl (Nat.le_of_ble_eq_true rfl) rfl rfl rfl ?_
              refine J_goto (tgt := 12) dX5_test_57 (by decide) ?_
              refine J_touch (k := 56) (e := .inl (0, 412, .inl (zA f136))) rfl ?_
              refine J_touch (k := 54) (e := .inr (5, [.ref 55, .int (zI ln), .int (zI z79), .int (zI z80), .int (zI z81), .int (zI z82), .int (zI z83), .int (zI fl), .ref 56, .int (zI z84)])) rfl ?_
              refine J_mask (L2 := [(54, .inr (5, [.ref 55, .int (zI ln), .int (zI z79), .int (zI z80), .int (zI z81), .int (zI z82), .int (zI z83), .int (zI fl), .ref 56, .int (zI z84)])), (56, .inl (0, 412, .inl (zA f136)))]) (ks := [54, 56, 56, 54]) [true, true, false, false] rfl (by decide +kernel) rfl ?_
              refine J_drop (ls2 := [some (.ref 54), some (.int (zI 8)), some (.int (zI (i_12 + 1))), none]) [true, true, true, false] rfl ?_
              exact ih12 (i_12 + 1) z79 z80 z81 z82 z83 z84 f136 z86 (v_da458fa48a i12_0) (v_6924477667 h56) (v_e3be02b6c6 i12_2 g59 h66 h100) (v_269579bf42 i12_3 g59 h66 h101) h87 h88 h89 h90 h91 h92 h93 h98 h138 h96 h97 h94 h95 (v_974edc800f i12_17 g59 h66 h101) h102 h103 (SeP.add i12_20 ((TkX.wd i12_18 (v := 4) (c := 5) (by decide) (by decide) (by decide)).mpr (v_e7bb9e21ac h58)) h104) (v_8fadc7eb76 i12_21 h105) (SgP.or i12_22 ((TkX.wd i12_18 (v := 4) (c := 5) (by decide) (by decide) (by decide)).mpr (v_e7bb9e21ac h58)) h75 h106 h139 h140) (meas_lt v_ceb2ed6d2b (v_44ddc35e90 h56) hm12)
            · refine J_nf (nh2 := nh) (ck2 := 0) (sk2 := 0) (st2 := [.int (zI 0)]) rfl rfl rfl rfl ?_
              refine J_app (L3 := [(54, .inr (5, [.ref 55, .int (zI ln), .int (zI z107), .int (zI z108), .int (zI z109), .int (zI z110), .int (zI z111), .int (zI z114), .ref 56, .int (zI z112)])), (56, .inl (0, 412, .inl (zA f113))), (54, .inr (5, [.ref 55, .int (zI ln), .int (zI z60), .int (zI z61), .int (zI z62), .int (zI z63), .int (zI px_12), .int (zI fl), .ref 56, .int (zI (zx_12 + 1))])), (56, .inl (0, 412, .inl (zA f73)))]) rfl ?_
              refine J_mask (L2 := [(54, .inr (5, [.ref 55, .int (zI ln), .int (zI z107), .int (zI z108), .int (zI z109), .int (zI z110), .int (zI z111), .int (zI z114), .ref 56, .int (zI z112)])), (56, .inl (0, 412, .inl (zA f113)))]) (ks := [54, 56, 54, 56]) [true, true, false, false] rfl (by decide +kernel) rfl ?_
              refine Z_if_ne (tgt := 49) dX5_test_44 (by decide) v_b17331891f (fun h141 => absurd h141 (fun q => q v_2ca2bbca1f)) (fun h141 => ?_)
              refine Z_iconst (n := 0) dX5_test_47 ?_
              exact J_iret dX5_test_48 rfl (jbn v_939070ca3f v_316afd7d0b) (Nat.le_of_ble_eq_true rfl) (Nat.le_of_ble_eq_true rfl) (Or.inr ⟨z107, z108, z109, z110, z111, z112, f113, z114, z115, rfl, rfl, h116, h117, h118, h119, h120, h121, h122, h123, h124, h125, h126, h127, h128, h129, h130, (h131), (SeP.bad i12_20 ((TkX.wd i12_18 (v := 4) (c := 5) (by decide) (by decide) (by decide)).mpr (v_e7bb9e21ac h58)) h132)⟩)
    exact lp12 _ 0 z1 z2 z3 z4 z5 z6 f7 z8 v_939070ca3f v_5ab96f7b5e h22 h23 h9 h10 h11 h12 h13 h14 h15 h20 h21 h18 h19 h16 h17 (v_3c1faf939c h23) h24 h25 (SeP.one h26) h27 (SgP.one h28) (Nat.lt_succ_self _)
  · refine J_nf (nh2 := nh) (ck2 := 0) (sk2 := 0) (st2 := [.int (zI 0)]) rfl rfl rfl rfl ?_
    refine J_app (L3 := [(54, .inr (5, [.ref 55, .int (zI ln), .int (zI z29), .int (zI z30), .int (zI z31), .int (zI z32), .int (zI z33), .int (zI z36), .ref 56, .int (zI z34)])), (56, .inl (0, 412, .inl (zA f35)))]) rfl ?_
    refine Z_if_ne (tgt := 10) dX5_test_5 (by decide) v_b17331891f (fun h142 => absurd h142 (fun q => q v_2ca2bbca1f)) (fun h142 => ?_)
    refine Z_iconst (n := 0) dX5_test_8 ?_
    exact J_iret dX5_test_9 rfl (jbn v_939070ca3f v_316afd7d0b) (Nat.le_of_ble_eq_true rfl) (Nat.le_of_ble_eq_true rfl) (Or.inr ⟨z29, z30, z31, z32, z33, z34, f35, z36, z37, rfl, rfl, h38, h39, h40, h41, h42, h43, h44, h45, h46, h47, h48, h49, h50, h51, h52, (h53), (SeR.b h54)⟩)
set_option maxHeartbeats 4000000 in
set_option maxRecDepth 100000 in
theorem d_bracketedSum7 {l : Launch} {G : jG} {nh : Nat} {fh : Nat → Option va_E} (ln : Int) (tk : Int) (st : Int) (bh : Int) (va : Int) (pa : Int) (fl : Int) (sz : Int) (tp : Int → Int) (cd : Int → Int) (ti : Int) (q0 : 0 ≤ ln) (q1 : ln ≤ 400) (q2 : 0 ≤ tk) (q3 : tk ≤ 355) (q4 : 0 ≤ st) (q5 : st ≤ bh) (q6 : bh ≤ ln) (q7 : 0 ≤ va) (q8 : va ≤ 1001) (q9 : 0 ≤ pa) (q10 : pa ≤ 50) (q11 : zr fl) (q12 : 0 ≤ sz) (q13 : sz ≤ 412) (q14 : TokL tk st bh) (q15 : Rg tp 400 0 255) (q16 : Rg cd 412 (-2147483648) 2147483647) (q17 : TkX tp ln ti tk st bh va) (q18 : 0 ≤ ti) (q19 : sz ≤ st + 1) (hk54 : fh 54 = some (.inr (5, [.ref 55, .int (zI ln), .int (zI tk), .int (zI st), .int (zI bh), .int (zI va), .int (zI pa), .int (zI fl), .ref 56, .int (zI sz)]))) (hk55 : fh 55 = some (.inl (0, 400, .inl (zA tp)))) (hk56 : fh 56 = some (.inl (0, 412, .inl (zA cd)))) : JM l G yX5_bracketedSum MX5_bracketedSum { frames := 9, cells := 0, slots := 0, locals := 199 } [.ref 54, .int (zI 7)] (nh, fh) (fun rr h9 => (∃ tk2 : Int, ∃ st2 : Int, ∃ bh2 : Int, ∃ va2 : Int, ∃ pa2 : Int, ∃ sz2 : Int, ∃ cd2 : Int → Int, ∃ ti2 : Int, rr = some (.int (zI 1)) ∧ h9 = (nh, hc fh [(54, .inr (5, [.ref 55, .int (zI ln), .int (zI tk2), .int (zI st2), .int (zI bh2), .int (zI va2), .int (zI pa2), .int (zI fl), .ref 56, .int (zI sz2)])), (56, .inl (0, 412, .inl (zA cd2)))]) ∧ (0 ≤ tk2) ∧ (tk2 ≤ 355) ∧ (0 ≤ st2) ∧ (st2 ≤ bh2) ∧ (bh2 ≤ ln) ∧ (0 ≤ va2) ∧ (va2 ≤ 1001) ∧ (0 ≤ pa2) ∧ (pa2 ≤ 50) ∧ (0 ≤ sz2) ∧ (sz2 ≤ 412) ∧ (TokL tk2 st2 bh2) ∧ (Rg cd2 412 (-2147483648) 2147483647) ∧ (sz2 + st ≤ sz + st2) ∧ (st ≤ st2) ∧ (TkX tp ln ti2 tk2 st2 bh2 va2) ∧ (0 ≤ ti2) ∧ (BsR (CTk tp ln) (LF tp ln) 1 ti pa 1 ti2 pa2) ∧ (pa ≤ pa2) ∧ (SgS (BsD (CTk tp ln) (VT tp ln) 1) cd cd2 ti ti2 sz sz2 pa pa2)) ∨ (∃ tk2 : Int, ∃ st2 : Int, ∃ bh2 : Int, ∃ va2 : Int, ∃ pa2 : Int, ∃ sz2 : Int, ∃ cd2 : Int → Int, ∃ fl2 : Int, ∃ ti2 : Int, rr = some (.int (zI 0)) ∧ h9 = (nh, hc fh [(54, .inr (5, [.ref 55, .int (zI ln), .int (zI tk2), .int (zI st2), .int (zI bh2), .int (zI va2), .int (zI pa2), .int (zI fl2), .ref 56, .int (zI sz2)])), (56, .inl (0, 412, .inl (zA cd2)))]) ∧ (0 ≤ tk2) ∧ (tk2 ≤ 355) ∧ (0 ≤ st2) ∧ (st2 ≤ bh2) ∧ (bh2 ≤ ln) ∧ (0 ≤ va2) ∧ (va2 ≤ 1001) ∧ (0 ≤ pa2) ∧ (pa2 ≤ 50) ∧ (0 ≤ sz2) ∧ (sz2 ≤ 412) ∧ (TokL tk2 st2 bh2) ∧ (Rg cd2 412 (-2147483648) 2147483647) ∧ (0 ≤ fl2) ∧ (fl2 ≤ 400) ∧ (FlX tp ln ti2 fl2) ∧ (BsR (CTk tp ln) (LF tp ln) 1 ti pa 0 ti2 0))) := by
  refine JM.of (by decide) rfl (fun h => by cases h) (Nat.le_of_ble_eq_true rfl) ⟨0, rfl⟩ ?_
  refine J_hc0 (J_ls (ls2 := [some (.ref 54), some (.int (zI 7))]) rfl ?_)
  refine J_iload_n dX5_bracketedSum_0 rfl rfl ?_
  refine Z_bipush (n := 8) dX5_bracketedSum_1 (by decide +kernel) ?_
  refine Z_icmp_lt (tgt := 11) dX5_bracketedSum_3 (by decide) v_c3fe1a091f v_665891e294 (fun h1 => ?_) (fun h1 => absurd h1 (fun q => q v_1f6d31d0c4))
  refine J_aload_n dX5_bracketedSum_11 rfl rfl ?_
  refine J_callV (st := []) dX5_bracketedSum_12 cv_X5_43 (d_advance (ti + 1) ln tk st bh va pa fl sz tp q0 q1 (v_21976c7318 q4 q5) q6 q7 q8 q15 (TkX.ps q17 (v_2b02420001 q18)) hk54 hk55) hk54 rfl rfl (Nat.le_of_ble_eq_true rfl) ⟨(Nat.le_of_ble_eq_true rfl), (Nat.le_of_ble_eq_true rfl)⟩ ⟨(Nat.le_of_ble_eq_true rfl), (Nat.le_of_ble_eq_true rfl)⟩ (fun r h9 hp => ?_)
  obtain ⟨z2, z3, z4, z5, rfl, rfl, h6, h7, h8, h9, h10, h11, h12, h13, h14⟩ := hp
  refine J_nf (nh2 := nh) (ck2 := 0) (sk2 := 0) (st2 := []) rfl rfl rfl rfl ?_
  refine J_app (L3 := [(54, .inr (5, [.ref 55, .int (zI ln), .int (zI z2), .int (zI z3), .int (zI z4), .int (zI z5), .int (zI pa), .int (zI fl), .ref 56, .int (zI sz)]))]) rfl ?_
  refine J_aload_n dX5_bracketedSum_15 rfl rfl ?_
  refine J_iload_n dX5_bracketedSum_16 rfl rfl ?_
  refine Z_iconst (n := 1) dX5_bracketedSum_17 ?_
  refine Z_iadd (c := 8) dX5_bracketedSum_18 v_0f26919f92 ?_
  refine J_callV (st := []) dX5_bracketedSum_19 cv_X5_63 (d_sum8 ln z2 z3 z4 z5 pa fl sz tp cd (ti + 1) q0 q1 h6 h7 (v_7eaccd6eb1 q4 q5 h8) h9 h10 h11 h12 q9 q10 q11 q12 q13 h13 q15 q16 h14 (v_da458fa48a q18) (v_42e933a8b3 q5 q19 h8) rfl hk55 hk56) rfl rfl rfl (Nat.le_of_ble_eq_true rfl) ⟨(Nat.le_of_ble_eq_true rfl), (Nat.le_of_ble_eq_true rfl)⟩ ⟨(Nat.le_of_ble_eq_true rfl), (Nat.le_of_ble_eq_true rfl)⟩ (fun r h9 hp => ?_)
  rcases hp with ⟨z15, z16, z17, z18, z19, z20, f21, z22, rfl, rfl, h23, h24, h25, h26, h27, h28, h29, h30, h31, h32, h33, h34, h35, h36, h37, h38, h39, h40, h41, h42⟩ | ⟨z43, z44, z45, z46, z47, z48, f49, z50, z51, rfl, rfl, h52, h53, h54, h55, h56, h57, h58, h59, h60, h61, h62, h63, h64, h65, h66, h67, h68⟩
  · refine J_nf (nh2 := nh) (ck2 := 0) (sk2 := 0) (st2 := [.int (zI 1)]) rfl rfl rfl rfl ?_
    refine J_app (L3 := [(54, .inr (5, [.ref 55, .int (zI ln), .int (zI z15), .int (zI z16), .int (zI z17), .int (zI z18), .int (zI z19), .int (zI fl), .ref 56, .int (zI z20)])), (56, .inl (0, 412, .inl (zA f21))), (54, .inr (5, [.ref 55, .int (zI ln), .int (zI z2), .int (zI z3), .int (zI z4), .int (zI z5), .int (zI pa), .int (zI fl), .ref 56, .int (zI sz)]))]) rfl ?_
    refine J_mask (L2 := [(54, .inr (5, [.ref 55, .int (zI ln), .int (zI z15), .int (zI z16), .int (zI z17), .int (zI z18), .int (zI z19), .int (zI fl), .ref 56, .int (zI z20)])), (56, .inl (0, 412, .inl (zA f21)))]) (ks := [54, 56, 54]) [true, true, false] rfl (by decide +kernel) rfl ?_
    refine Z_if_ne (tgt := 27) dX5_bracketedSum_22 (by decide) v_4dcc24baa7 (fun h69 => ?_) (fun h69 => absurd h69 v_3a47bfd896)
    refine J_aload_n dX5_bracketedSum_27 rfl rfl ?_
    refine Z_bipush (n := 93) dX5_bracketedSum_28 (by decide +kernel) ?_
    refine J_callV (st := []) dX5_bracketedSum_30 cv_X5_50 (d_isSign 93 ln z15 z16 z17 z18 z19 fl z20 v_57eea63119 v_eeebb5ff41 h23 h24 rfl) rfl rfl rfl (Nat.le_of_ble_eq_true rfl) ⟨(Nat.le_of_ble_eq_true rfl), (Nat.le_of_ble_eq_true rfl)⟩ ⟨(Nat.le_of_ble_eq_true rfl), (Nat.le_of_ble_eq_true rfl)⟩ (fun r h9 hp => ?_)
    rcases hp with ⟨rfl, rfl, h70⟩ | ⟨rfl, rfl, h71⟩
    · refine J_nf (nh2 := nh) (ck2 := 0) (sk2 := 0) (st2 := [.int (zI 1)]) rfl rfl rfl rfl ?_
      refine Z_if_ne (tgt := 41) dX5_bracketedSum_33 (by decide) v_4dcc24baa7 (fun h72 => ?_) (fun h72 => absurd h72 v_3a47bfd896)
      refine J_aload_n dX5_bracketedSum_41 rfl rfl ?_
      have g73 := TokL.lt h34 (v_0603afac7b h70)
      refine J_callV (st := []) dX5_bracketedSum_42 cv_X5_43 (d_advance (z22 + 1) ln z15 z16 z17 z18 z19 fl z20 tp q0 q1 (v_d253cb2c59 h25 g73) h27 h28 h29 q15 (TkX.ps h38 (v_2b02420001 h39)) rfl hk55) rfl rfl rfl (Nat.le_of_ble_eq_true rfl) ⟨(Nat.le_of_ble_eq_true rfl), (Nat.le_of_ble_eq_true rfl)⟩ ⟨(Nat.le_of_ble_eq_true rfl), (Nat.le_of_ble_eq_true rfl)⟩ (fun r h9 hp => ?_)
      obtain ⟨z74, z75, z76, z77, rfl, rfl, h78, h79, h80, h81, h82, h83, h84, h85, h86⟩ := hp
      refine J_nf (nh2 := nh) (ck2 := 0) (sk2 := 0) (st2 := []) rfl rfl rfl rfl ?_
      refine J_app (L3 := [(54, .inr (5, [.ref 55, .int (zI ln), .int (zI z74), .int (zI z75), .int (zI z76), .int (zI z77), .int (zI z19), .int (zI fl), .ref 56, .int (zI z20)])), (54, .inr (5, [.ref 55, .int (zI ln), .int (zI z15), .int (zI z16), .int (zI z17), .int (zI z18), .int (zI z19), .int (zI fl), .ref 56, .int (zI z20)])), (56, .inl (0, 412, .inl (zA f21)))]) rfl ?_
      refine J_mask (L2 := [(54, .inr (5, [.ref 55, .int (zI ln), .int (zI z74), .int (zI z75), .int (zI z76), .int (zI z77), .int (zI z19), .int (zI fl), .ref 56, .int (zI z20)])), (56, .inl (0, 412, .inl (zA f21)))]) (ks := [54, 54, 56]) [true, false, true] rfl (by decide +kernel) rfl ?_
      refine Z_iconst (n := 1) dX5_bracketedSum_45 ?_
      exact J_iret dX5_bracketedSum_46 rfl (jbn v_316afd7d0b v_bbcfac9b7d) (Nat.le_of_ble_eq_true rfl) (Nat.le_of_ble_eq_true rfl) (Or.inl ⟨z74, z75, z76, z77, z19, z20, f21, (z22 + 1), rfl, rfl, h78, h79, (v_9b2e2070a2 h25 g73 h80), h81, h82, h83, h84, h30, h31, h32, h33, h85, h35, (v_a156850946 q5 h8 h36 g73 h80), (v_b3d66fcd45 q5 h8 h37 g73 h80), h86, (v_da458fa48a h39), (BrR.y h40 ((TkX.sg h38 (v := 193) (by decide)).mpr (v_878a2e7c0a h70))), h41, (SgS.br1 h42 ((TkX.sg h38 (v := 193) (by decide)).mpr (v_878a2e7c0a h70)))⟩)
    · refine J_nf (nh2 := nh) (ck2 := 0) (sk2 := 0) (st2 := [.int (zI 0)]) rfl rfl rfl rfl ?_
      refine Z_if_ne (tgt := 41) dX5_bracketedSum_33 (by decide) v_b17331891f (fun h87 => absurd h87 (fun q => q v_2ca2bbca1f)) (fun h87 => ?_)
      refine J_aload_n dX5_bracketedSum_36 rfl rfl ?_
      refine J_callV (st := []) dX5_bracketedSum_37 cv_X5_54 (d_wrong ln z15 z16 z17 z18 z19 fl z20 h25 (v_1adcfdfee5 q1 h26 h27) rfl) rfl rfl rfl (Nat.le_of_ble_eq_true rfl) ⟨(Nat.le_of_ble_eq_true rfl), (Nat.le_of_ble_eq_true rfl)⟩ ⟨(Nat.le_of_ble_eq_true rfl), (Nat.le_of_ble_eq_true rfl)⟩ (fun r h9 hp => ?_)
      obtain ⟨rfl, rfl⟩ := hp
      refine J_nf (nh2 := nh) (ck2 := 0) (sk2 := 0) (st2 := [.int (zI 0)]) rfl rfl rfl rfl ?_
      refine J_app (L3 := [(54, .inr (5, [.ref 55, .int (zI ln), .int (zI z15), .int (zI z16), .int (zI z17), .int (zI z18), .int (zI z19), .int (zI z16), .ref 56, .int (zI z20)])), (54, .inr (5, [.ref 55, .int (zI ln), .int (zI z15), .int (zI z16), .int (zI z17), .int (zI z18), .int (zI z19), .int (zI fl), .ref 56, .int (zI z20)])), (56, .inl (0, 412, .inl (zA f21)))]) rfl ?_
      refine J_mask (L2 := [(54, .inr (5, [.ref 55, .int (zI ln), .int (zI z15), .int (zI z16), .int (zI z17), .int (zI z18), .int (zI z19), .int (zI z16), .ref 56, .int (zI z20)])), (56, .inl (0, 412, .inl (zA f21)))]) (ks := [54, 54, 56]) [true, false, true] rfl (by decide +kernel) rfl ?_
      exact J_iret dX5_bracketedSum_40 rfl (jbn v_939070ca3f v_316afd7d0b) (Nat.le_of_ble_eq_true rfl) (Nat.le_of_ble_eq_true rfl) (Or.inr ⟨z15, z16, z17, z18, z19, z20, f21, z16, z22, rfl, rfl, h23, h24, h25, h26, h27, h28, h29, h30, h31, h32, h33, h34, h35, h25, (v_1adcfdfee5 q1 h26 h27), ((TkX.s h38)), (BrR.w h40 (fun w => absurd ((TkX.sg h38 (v := 193) (by decide)).mp w) (v_ce1099fe70 h71)))⟩)
  · refine J_nf (nh2 := nh) (ck2 := 0) (sk2 := 0) (st2 := [.int (zI 0)]) rfl rfl rfl rfl ?_
    refine J_app (L3 := [(54, .inr (5, [.ref 55, .int (zI ln), .int (zI z43), .int (zI z44), .int (zI z45), .int (zI z46), .int (zI z47), .int (zI z50), .ref 56, .int (zI z48)])), (56, .inl (0, 412, .inl (zA f49))), (54, .inr (5, [.ref 55, .int (zI ln), .int (zI z2), .int (zI z3), .int (zI z4), .int (zI z5), .int (zI pa), .int (zI fl), .ref 56, .int (zI sz)]))]) rfl ?_
    refine J_mask (L2 := [(54, .inr (5, [.ref 55, .int (zI ln), .int (zI z43), .int (zI z44), .int (zI z45), .int (zI z46), .int (zI z47), .int (zI z50), .ref 56, .int (zI z48)])), (56, .inl (0, 412, .inl (zA f49)))]) (ks := [54, 56, 54]) [true, true, false] rfl (by decide +kernel) rfl ?_
    refine Z_if_ne (tgt := 27) dX5_bracketedSum_22 (by decide) v_b17331891f (fun h88 => absurd h88 (fun q => q v_2ca2bbca1f)) (fun h88 => ?_)
    refine Z_iconst (n := 0) dX5_bracketedSum_25 ?_
    exact J_iret dX5_bracketedSum_26 rfl (jbn v_939070ca3f v_316afd7d0b) (Nat.le_of_ble_eq_true rfl) (Nat.le_of_ble_eq_true rfl) (Or.inr ⟨z43, z44, z45, z46, z47, z48, f49, z50, z51, rfl, rfl, h52, h53, h54, h55, h56, h57, h58, h59, h60, h61, h62, h63, h64, h65, h66, (h67), (BrR.b h68)⟩)
set_option maxHeartbeats 4000000 in
set_option maxRecDepth 100000 in
theorem d_part7 {l : Launch} {G : jG} {nh : Nat} {fh : Nat → Option va_E} (ln : Int) (tk : Int) (st : Int) (bh : Int) (va : Int) (pa : Int) (fl : Int) (sz : Int) (tp : Int → Int) (cd : Int → Int) (ti : Int) (q0 : 0 ≤ ln) (q1 : ln ≤ 400) (q2 : 0 ≤ tk) (q3 : tk ≤ 355) (q4 : 0 ≤ st) (q5 : st ≤ bh) (q6 : bh ≤ ln) (q7 : 0 ≤ va) (q8 : va ≤ 1001) (q9 : 0 ≤ pa) (q10 : pa ≤ 50) (q11 : zr fl) (q12 : 0 ≤ sz) (q13 : sz ≤ 412) (q14 : TokL tk st bh) (q15 : Rg tp 400 0 255) (q16 : Rg cd 412 (-2147483648) 2147483647) (q17 : TkX tp ln ti tk st bh va) (q18 : 0 ≤ ti) (q19 : sz ≤ st + 1) (hk54 : fh 54 = some (.inr (5, [.ref 55, .int (zI ln), .int (zI tk), .int (zI st), .int (zI bh), .int (zI va), .int (zI pa), .int (zI fl), .ref 56, .int (zI sz)]))) (hk55 : fh 55 = some (.inl (0, 400, .inl (zA tp)))) (hk56 : fh 56 = some (.inl (0, 412, .inl (zA cd)))) : JM l G yX5_part MX5_part { frames := 10, cells := 0, slots := 0, locals := 220 } [.ref 54, .int (zI 7)] (nh, fh) (fun rr h9 => (∃ tk2 : Int, ∃ st2 : Int, ∃ bh2 : Int, ∃ va2 : Int, ∃ pa2 : Int, ∃ sz2 : Int, ∃ cd2 : Int → Int, ∃ ti2 : Int, rr = some (.int (zI 1)) ∧ h9 = (nh, hc fh [(54, .inr (5, [.ref 55, .int (zI ln), .int (zI tk2), .int (zI st2), .int (zI bh2), .int (zI va2), .int (zI pa2), .int (zI fl), .ref 56, .int (zI sz2)])), (56, .inl (0, 412, .inl (zA cd2)))]) ∧ (0 ≤ tk2) ∧ (tk2 ≤ 355) ∧ (0 ≤ st2) ∧ (st2 ≤ bh2) ∧ (bh2 ≤ ln) ∧ (0 ≤ va2) ∧ (va2 ≤ 1001) ∧ (0 ≤ pa2) ∧ (pa2 ≤ 50) ∧ (0 ≤ sz2) ∧ (sz2 ≤ 412) ∧ (TokL tk2 st2 bh2) ∧ (Rg cd2 412 (-2147483648) 2147483647) ∧ (sz2 + st ≤ sz + st2) ∧ (st ≤ st2) ∧ (TkX tp ln ti2 tk2 st2 bh2 va2) ∧ (0 ≤ ti2) ∧ (PtR (CTk tp ln) (LF tp ln) 1 ti pa 1 ti2 pa2) ∧ (pa ≤ pa2) ∧ (SgS (PtD (CTk tp ln) (VT tp ln) 1) cd cd2 ti ti2 sz sz2 pa pa2)) ∨ (∃ tk2 : Int, ∃ st2 : Int, ∃ bh2 : Int, ∃ va2 : Int, ∃ pa2 : Int, ∃ sz2 : Int, ∃ cd2 : Int → Int, ∃ fl2 : Int, ∃ ti2 : Int, rr = some (.int (zI 0)) ∧ h9 = (nh, hc fh [(54, .inr (5, [.ref 55, .int (zI ln), .int (zI tk2), .int (zI st2), .int (zI bh2), .int (zI va2), .int (zI pa2), .int (zI fl2), .ref 56, .int (zI sz2)])), (56, .inl (0, 412, .inl (zA cd2)))]) ∧ (0 ≤ tk2) ∧ (tk2 ≤ 355) ∧ (0 ≤ st2) ∧ (st2 ≤ bh2) ∧ (bh2 ≤ ln) ∧ (0 ≤ va2) ∧ (va2 ≤ 1001) ∧ (0 ≤ pa2) ∧ (pa2 ≤ 50) ∧ (0 ≤ sz2) ∧ (sz2 ≤ 412) ∧ (TokL tk2 st2 bh2) ∧ (Rg cd2 412 (-2147483648) 2147483647) ∧ (0 ≤ fl2) ∧ (fl2 ≤ 400) ∧ (FlX tp ln ti2 fl2) ∧ (PtR (CTk tp ln) (LF tp ln) 1 ti pa 0 ti2 0))) := by
  refine JM.of (by decide) rfl (fun h => by cases h) (Nat.le_of_ble_eq_true rfl) ⟨2, rfl⟩ ?_
  refine J_hc0 (J_ls (ls2 := [some (.ref 54), some (.int (zI 7)), none, none]) rfl ?_)
  refine J_aload_n dX5_part_0 rfl rfl ?_
  refine Z_bipush (n := 91) dX5_part_1 (by decide +kernel) ?_
  refine J_callV (st := []) dX5_part_3 cv_X5_50 (d_isSign 91 ln tk st bh va pa fl sz v_df2cb83190 v_d563f19a9d q2 q3 hk54) hk54 rfl rfl (Nat.le_of_ble_eq_true rfl) ⟨(Nat.le_of_ble_eq_true rfl), (Nat.le_of_ble_eq_true rfl)⟩ ⟨(Nat.le_of_ble_eq_true rfl), (Nat.le_of_ble_eq_true rfl)⟩ (fun r h9 hp => ?_)
  rcases hp with ⟨rfl, rfl, h1⟩ | ⟨rfl, rfl, h2⟩
  · refine J_nf (nh2 := nh) (ck2 := 0) (sk2 := 0) (st2 := [.int (zI 1)]) rfl rfl rfl rfl ?_
    refine Z_if_eq (tgt := 15) dX5_part_6 (by decide) v_4dcc24baa7 (fun h3 => absurd h3 v_3a47bfd896) (fun h3 => ?_)
    refine J_aload_n dX5_part_9 rfl rfl ?_
    refine J_iload_n dX5_part_10 rfl rfl ?_
    refine J_callV (st := []) dX5_part_11 cv_X5_95 (d_bracketedSum7 ln tk st bh va pa fl sz tp cd ti q0 q1 q2 q3 q4 q5 q6 q7 q8 q9 q10 q11 q12 q13 q14 q15 q16 q17 q18 q19 hk54 hk55 hk56) hk54 rfl rfl (Nat.le_of_ble_eq_true rfl) ⟨(Nat.le_of_ble_eq_true rfl), (Nat.le_of_ble_eq_true rfl)⟩ ⟨(Nat.le_of_ble_eq_true rfl), (Nat.le_of_ble_eq_true rfl)⟩ (fun r h9 hp => ?_)
    rcases hp with ⟨z4, z5, z6, z7, z8, z9, f10, z11, rfl, rfl, h12, h13, h14, h15, h16, h17, h18, h19, h20, h21, h22, h23, h24, h25, h26, h27, h28, h29, h30, h31⟩ | ⟨z32, z33, z34, z35, z36, z37, f38, z39, z40, rfl, rfl, h41, h42, h43, h44, h45, h46, h47, h48, h49, h50, h51, h52, h53, h54, h55, h56, h57⟩
    · refine J_nf (nh2 := nh) (ck2 := 0) (sk2 := 0) (st2 := [.int (zI 1)]) rfl rfl rfl rfl ?_
      refine J_app (L3 := [(54, .inr (5, [.ref 55, .int (zI ln), .int (zI z4), .int (zI z5), .int (zI z6), .int (zI z7), .int (zI z8), .int (zI fl), .ref 56, .int (zI z9)])), (56, .inl (0, 412, .inl (zA f10)))]) rfl ?_
      exact J_iret dX5_part_14 rfl (jbn v_316afd7d0b v_bbcfac9b7d) (Nat.le_of_ble_eq_true rfl) (Nat.le_of_ble_eq_true rfl) (Or.inl ⟨z4, z5, z6, z7, z8, z9, f10, z11, rfl, rfl, h12, h13, h14, h15, h16, h17, h18, h19, h20, h21, h22, h23, h24, h25, h26, h27, h28, (PaR.br ((TkX.sg q17 (v := 191) (by decide)).mpr (v_eae1bbf095 h1)) h29), h30, (SgS.pbr ((TkX.sg q17 (v := 191) (by decide)).mpr (v_eae1bbf095 h1)) h31)⟩)
    · refine J_nf (nh2 := nh) (ck2 := 0) (sk2 := 0) (st2 := [.int (zI 0)]) rfl rfl rfl rfl ?_
      refine J_app (L3 := [(54, .inr (5, [.ref 55, .int (zI ln), .int (zI z32), .int (zI z33), .int (zI z34), .int (zI z35), .int (zI z36), .int (zI z39), .ref 56, .int (zI z37)])), (56, .inl (0, 412, .inl (zA f38)))]) rfl ?_
      exact J_iret dX5_part_14 rfl (jbn v_939070ca3f v_316afd7d0b) (Nat.le_of_ble_eq_true rfl) (Nat.le_of_ble_eq_true rfl) (Or.inr ⟨z32, z33, z34, z35, z36, z37, f38, z39, z40, rfl, rfl, h41, h42, h43, h44, h45, h46, h47, h48, h49, h50, h51, h52, h53, h54, h55, (h56), (PaR.br ((TkX.sg q17 (v := 191) (by decide)).mpr (v_eae1bbf095 h1)) h57)⟩)
  · refine J_nf (nh2 := nh) (ck2 := 0) (sk2 := 0) (st2 := [.int (zI 0)]) rfl rfl rfl rfl ?_
    refine Z_if_eq (tgt := 15) dX5_part_6 (by decide) v_b17331891f (fun h58 => ?_) (fun h58 => absurd h58 (fun q => q v_2ca2bbca1f))
    refine J_aload_n dX5_part_15 rfl rfl ?_
    refine J_get (v := .int (zI tk)) dX5_part_16 fl_X5_19 hk54 rfl ?_
    refine Z_bipush (n := 16) dX5_part_19 (by decide +kernel) ?_
    refine Z_icmp_ne (tgt := 38) dX5_part_21 (by decide) (v_96bf6f782e q2 q3) v_1b6115d470 (fun h59 => ?_) (fun h59 => ?_)
    · refine Z_iconst (n := 0) dX5_part_38 ?_
      refine J_istore_n dX5_part_39 rfl (Nat.le_of_ble_eq_true rfl) rfl ?_
      refine J_ls (ls2 := [some (.ref 54), some (.int (zI 7)), some (.int (zI 0)), none]) rfl ?_
      refine J_aload_n dX5_part_40 rfl rfl ?_
      refine J_get (v := .int (zI tk)) dX5_part_41 fl_X5_19 hk54 rfl ?_
      refine Z_bipush (n := 7) dX5_part_44 (by decide +kernel) ?_
      refine Z_icmp_lt (tgt := 62) dX5_part_46 (by decide) (v_96bf6f782e q2 q3) v_c3fe1a091f (fun h60 => ?_) (fun h60 => ?_)
      · refine Z_iconst (n := 0) dX5_part_62 ?_
        refine J_istore_n dX5_part_63 rfl (Nat.le_of_ble_eq_true rfl) rfl ?_
        refine J_ls (ls2 := [some (.ref 54), some (.int (zI 7)), some (.int (zI 0)), some (.int (zI 0))]) rfl ?_
        refine J_iload_n dX5_part_64 rfl rfl ?_
        refine Z_if_ne (tgt := 72) dX5_part_65 (by decide) v_b17331891f (fun h61 => absurd h61 (fun q => q v_2ca2bbca1f)) (fun h61 => ?_)
        refine J_iload_n dX5_part_68 rfl rfl ?_
        refine Z_if_eq (tgt := 81) dX5_part_69 (by decide) v_b17331891f (fun h62 => ?_) (fun h62 => absurd h62 (fun q => q v_2ca2bbca1f))
        refine J_aload_n dX5_part_81 rfl rfl ?_
        refine J_callV (st := []) dX5_part_82 cv_X5_54 (d_wrong ln tk st bh va pa fl sz q4 (v_1adcfdfee5 q1 q5 q6) hk54) hk54 rfl rfl (Nat.le_of_ble_eq_true rfl) ⟨(Nat.le_of_ble_eq_true rfl), (Nat.le_of_ble_eq_true rfl)⟩ ⟨(Nat.le_of_ble_eq_true rfl), (Nat.le_of_ble_eq_true rfl)⟩ (fun r h9 hp => ?_)
        obtain ⟨rfl, rfl⟩ := hp
        refine J_nf (nh2 := nh) (ck2 := 0) (sk2 := 0) (st2 := [.int (zI 0)]) rfl rfl rfl rfl ?_
        refine J_app (L3 := [(54, .inr (5, [.ref 55, .int (zI ln), .int (zI tk), .int (zI st), .int (zI bh), .int (zI va), .int (zI pa), .int (zI st), .ref 56, .int (zI sz)]))]) rfl ?_
        refine J_touch (k := 56) (e := .inl (0, 412, .inl (zA cd))) hk56 ?_
        refine J_touch (k := 54) (e := .inr (5, [.ref 55, .int (zI ln), .int (zI tk), .int (zI st), .int (zI bh), .int (zI va), .int (zI pa), .int (zI st), .ref 56, .int (zI sz)])) rfl ?_
        refine J_mask (L2 := [(54, .inr (5, [.ref 55, .int (zI ln), .int (zI tk), .int (zI st), .int (zI bh), .int (zI va), .int (zI pa), .int (zI st), .ref 56, .int (zI sz)])), (56, .inl (0, 412, .inl (zA cd)))]) (ks := [54, 56, 54]) [true, true, false] rfl (by decide +kernel) rfl ?_
        exact J_iret dX5_part_85 rfl (jbn v_939070ca3f v_316afd7d0b) (Nat.le_of_ble_eq_true rfl) (Nat.le_of_ble_eq_true rfl) (Or.inr ⟨tk, st, bh, va, pa, sz, cd, st, ti, rfl, rfl, q2, q3, q4, q5, q6, q7, q8, q9, q10, q12, q13, q14, q16, q4, (v_1adcfdfee5 q1 q5 q6), ((TkX.s q17)), (PaR.w (fun w => absurd ((TkX.sg q17 (v := 191) (by decide)).mp w) (v_2e180fcab9 h60)) (fun w => by have u := (TkX.lf q17).mp w.1; have u0 := h2; have u1 := h59; have u2 := h60; omega))⟩)
      · refine J_aload_n dX5_part_49 rfl rfl ?_
        refine J_get (v := .int (zI tk)) dX5_part_50 fl_X5_19 hk54 rfl ?_
        refine Z_bipush (n := 14) dX5_part_53 (by decide +kernel) ?_
        refine Z_icmp_gt (tgt := 62) dX5_part_55 (by decide) (v_e33259c014 q3 h60) v_2a4719925a (fun h63 => ?_) (fun h63 => ?_)
        · refine Z_iconst (n := 0) dX5_part_62 ?_
          refine J_istore_n dX5_part_63 rfl (Nat.le_of_ble_eq_true rfl) rfl ?_
          refine J_ls (ls2 := [some (.ref 54), some (.int (zI 7)), some (.int (zI 0)), some (.int (zI 0))]) rfl ?_
          refine J_iload_n dX5_part_64 rfl rfl ?_
          refine Z_if_ne (tgt := 72) dX5_part_65 (by decide) v_b17331891f (fun h64 => absurd h64 (fun q => q v_2ca2bbca1f)) (fun h64 => ?_)
          refine J_iload_n dX5_part_68 rfl rfl ?_
          refine Z_if_eq (tgt := 81) dX5_part_69 (by decide) v_b17331891f (fun h65 => ?_) (fun h65 => absurd h65 (fun q => q v_2ca2bbca1f))
          refine J_aload_n dX5_part_81 rfl rfl ?_
          refine J_callV (st := []) dX5_part_82 cv_X5_54 (d_wrong ln tk st bh va pa fl sz q4 (v_1adcfdfee5 q1 q5 q6) hk54) hk54 rfl rfl (Nat.le_of_ble_eq_true rfl) ⟨(Nat.le_of_ble_eq_true rfl), (Nat.le_of_ble_eq_true rfl)⟩ ⟨(Nat.le_of_ble_eq_true rfl), (Nat.le_of_ble_eq_true rfl)⟩ (fun r h9 hp => ?_)
          obtain ⟨rfl, rfl⟩ := hp
          refine J_nf (nh2 := nh) (ck2 := 0) (sk2 := 0) (st2 := [.int (zI 0)]) rfl rfl rfl rfl ?_
          refine J_app (L3 := [(54, .inr (5, [.ref 55, .int (zI ln), .int (zI tk), .int (zI st), .int (zI bh), .int (zI va), .int (zI pa), .int (zI st), .ref 56, .int (zI sz)]))]) rfl ?_
          refine J_touch (k := 56) (e := .inl (0, 412, .inl (zA cd))) hk56 ?_
          refine J_touch (k := 54) (e := .inr (5, [.ref 55, .int (zI ln), .int (zI tk), .int (zI st), .int (zI bh), .int (zI va), .int (zI pa), .int (zI st), .ref 56, .int (zI sz)])) rfl ?_
          refine J_mask (L2 := [(54, .inr (5, [.ref 55, .int (zI ln), .int (zI tk), .int (zI st), .int (zI bh), .int (zI va), .int (zI pa), .int (zI st), .ref 56, .int (zI sz)])), (56, .inl (0, 412, .inl (zA cd)))]) (ks := [54, 56, 54]) [true, true, false] rfl (by decide +kernel) rfl ?_
          exact J_iret dX5_part_85 rfl (jbn v_939070ca3f v_316afd7d0b) (Nat.le_of_ble_eq_true rfl) (Nat.le_of_ble_eq_true rfl) (Or.inr ⟨tk, st, bh, va, pa, sz, cd, st, ti, rfl, rfl, q2, q3, q4, q5, q6, q7, q8, q9, q10, q12, q13, q14, q16, q4, (v_1adcfdfee5 q1 q5 q6), ((TkX.s q17)), (PaR.w (fun w => absurd ((TkX.sg q17 (v := 191) (by decide)).mp w) (v_9327ef7f5d h2)) (fun w => by have u := (TkX.lf q17).mp w.1; have u0 := h2; have u1 := h59; have u2 := h60; have u3 := h63; omega))⟩)
        · refine Z_iconst (n := 1) dX5_part_58 ?_
          refine J_goto (tgt := 63) dX5_part_59 (by decide) ?_
          refine J_istore_n dX5_part_63 rfl (Nat.le_of_ble_eq_true rfl) rfl ?_
          refine J_ls (ls2 := [some (.ref 54), some (.int (zI 7)), some (.int (zI 0)), some (.int (zI 1))]) rfl ?_
          refine J_iload_n dX5_part_64 rfl rfl ?_
          refine Z_if_ne (tgt := 72) dX5_part_65 (by decide) v_b17331891f (fun h66 => absurd h66 (fun q => q v_2ca2bbca1f)) (fun h66 => ?_)
          refine J_iload_n dX5_part_68 rfl rfl ?_
          refine Z_if_eq (tgt := 81) dX5_part_69 (by decide) v_4dcc24baa7 (fun h67 => absurd h67 v_3a47bfd896) (fun h67 => ?_)
          refine J_aload_n dX5_part_72 rfl rfl ?_
          refine J_get (v := .int (zI pa)) dX5_part_73 fl_X5_31 hk54 rfl ?_
          refine Z_bipush (n := 50) dX5_part_76 (by decide +kernel) ?_
          refine Z_icmp_lt (tgt := 86) dX5_part_78 (by decide) (v_196348439e q9 q10) v_e1e0ea2c24 (fun h68 => ?_) (fun h68 => ?_)
          · refine J_aload_n dX5_part_86 rfl rfl ?_
            refine J_dup dX5_part_87 rfl ?_
            refine J_get (v := .int (zI pa)) dX5_part_88 fl_X5_31 hk54 rfl ?_
            refine Z_iconst (n := 1) dX5_part_91 ?_
            refine Z_iadd (c := pa + 1) dX5_part_92 rfl ?_
            refine K_put (fs2 := [.ref 55, .int (zI ln), .int (zI tk), .int (zI st), .int (zI bh), .int (zI va), .int (zI (pa + 1)), .int (zI fl), .ref 56, .int (zI sz)]) dX5_part_93 fw_X5_31 hk54 (Nat.le_of_ble_eq_true rfl) (fun _ => ⟨rfl, rfl⟩) rfl ?_
            refine J_iload_n dX5_part_96 rfl rfl ?_
            refine Z_if_eq (tgt := 113) dX5_part_97 (by decide) v_b17331891f (fun h69 => ?_) (fun h69 => absurd h69 (fun q => q v_2ca2bbca1f))
            refine J_aload_n dX5_part_113 rfl rfl ?_
            refine Z_iconst (n := 1) dX5_part_114 ?_
            refine J_aload_n dX5_part_115 rfl rfl ?_
            refine J_get (v := .int (zI tk)) dX5_part_116 fl_X5_19 rfl rfl ?_
            refine Z_bipush (n := 7) dX5_part_119 (by decide +kernel) ?_
            refine Z_isub (c := tk - 7) dX5_part_121 rfl ?_
            refine J_callV (st := []) dX5_part_122 cv_X5_72 (d_emit 1 (tk - 7) ln tk st bh va (pa + 1) fl sz cd v_4dcc24baa7 (v_2b807321aa h60 h63) v_316afd7d0b v_d7156942e4 (v_708afb58d7 h60) (v_16f8dd37ad h63) q12 (v_f2b062d3d4 q1 q5 q6 q19) q16 rfl hk56) rfl rfl rfl (Nat.le_of_ble_eq_true rfl) ⟨(Nat.le_of_ble_eq_true rfl), (Nat.le_of_ble_eq_true rfl)⟩ ⟨(Nat.le_of_ble_eq_true rfl), (Nat.le_of_ble_eq_true rfl)⟩ (fun r h9 hp => ?_)
            obtain ⟨f70, z71, rfl, rfl, h72, h73, h74, h75⟩ := hp
            refine J_nf (nh2 := nh) (ck2 := 0) (sk2 := 0) (st2 := [.int (zI sz)]) rfl rfl rfl rfl ?_
            refine J_app (L3 := [(54, .inr (5, [.ref 55, .int (zI ln), .int (zI tk), .int (zI st), .int (zI bh), .int (zI va), .int (zI (pa + 1)), .int (zI fl), .ref 56, .int (zI (sz + 1))])), (56, .inl (0, 412, .inl (zA f70))), (54, .inr (5, [.ref 55, .int (zI ln), .int (zI tk), .int (zI st), .int (zI bh), .int (zI va), .int (zI (pa + 1)), .int (zI fl), .ref 56, .int (zI sz)]))]) (by first | rfl | (simp only [Int.add_assoc]; rfl)) ?_
            refine J_mask (L2 := [(54, .inr (5, [.ref 55, .int (zI ln), .int (zI tk), .int (zI st), .int (zI bh), .int (zI va), .int (zI (pa + 1)), .int (zI fl), .ref 56, .int (zI (sz + 1))])), (56, .inl (0, 412, .inl (zA f70)))]) (ks := [54, 56, 54]) [true, true, false] rfl (by decide +kernel) rfl ?_
            refine J_pop dX5_part_125 rfl ?_
            refine J_aload_n dX5_part_126 rfl rfl ?_
            have g76 := TokL.lt q14 (v_b0bfd58e62 h63)
            refine J_callV (st := []) dX5_part_127 cv_X5_43 (d_advance (ti + 1) ln tk st bh va (pa + 1) fl (sz + 1) tp q0 q1 (v_d253cb2c59 q4 g76) q6 q7 q8 q15 (TkX.ps q17 (v_2b02420001 q18)) rfl hk55) rfl rfl rfl (Nat.le_of_ble_eq_true rfl) ⟨(Nat.le_of_ble_eq_true rfl), (Nat.le_of_ble_eq_true rfl)⟩ ⟨(Nat.le_of_ble_eq_true rfl), (Nat.le_of_ble_eq_true rfl)⟩ (fun r h9 hp => ?_)
            obtain ⟨z77, z78, z79, z80, rfl, rfl, h81, h82, h83, h84, h85, h86, h87, h88, h89⟩ := hp
            refine J_nf (nh2 := nh) (ck2 := 0) (sk2 := 0) (st2 := []) rfl rfl rfl rfl ?_
            refine J_app (L3 := [(54, .inr (5, [.ref 55, .int (zI ln), .int (zI z77), .int (zI z78), .int (zI z79), .int (zI z80), .int (zI (pa + 1)), .int (zI fl), .ref 56, .int (zI (sz + 1))])), (54, .inr (5, [.ref 55, .int (zI ln), .int (zI tk), .int (zI st), .int (zI bh), .int (zI va), .int (zI (pa + 1)), .int (zI fl), .ref 56, .int (zI (sz + 1))])), (56, .inl (0, 412, .inl (zA f70)))]) rfl ?_
            refine J_mask (L2 := [(54, .inr (5, [.ref 55, .int (zI ln), .int (zI z77), .int (zI z78), .int (zI z79), .int (zI z80), .int (zI (pa + 1)), .int (zI fl), .ref 56, .int (zI (sz + 1))])), (56, .inl (0, 412, .inl (zA f70)))]) (ks := [54, 54, 56]) [true, false, true] rfl (by decide +kernel) rfl ?_
            refine Z_iconst (n := 1) dX5_part_130 ?_
            exact J_iret dX5_part_131 rfl (jbn v_316afd7d0b v_bbcfac9b7d) (Nat.le_of_ble_eq_true rfl) (Nat.le_of_ble_eq_true rfl) (Or.inl ⟨z77, z78, z79, z80, (pa + 1), (sz + 1), f70, (ti + 1), rfl, rfl, h81, h82, (v_9b2e2070a2 q4 g76 h83), h84, h85, h86, h87, (v_da458fa48a q9), (v_dc0d6dc503 h68), (v_da458fa48a q12), (v_efdc60f808 q1 q6 q19 g76), h88, h74, (v_3a52fbe90f g76 h83), (v_016485883e g76 h83), h89, (v_da458fa48a q18), (PaR.y (fun w => absurd ((TkX.sg q17 (v := 191) (by decide)).mp w) (v_9d80ef7c91 h63)) ((TkX.lf q17).mpr (Or.inr ⟨(v_14fb5ed6b5 h60), (v_fd1ff53b5c h63)⟩)) (v_ba201db0a2 h68)), v_32a28518ee, (SgS.word (fun w => absurd ((TkX.sg q17 (v := 191) (by decide)).mp w) (v_9d80ef7c91 h63)) (by rw [(TkX.ct q17 (v_ec0ac2e815 h60) (v_fd1ff53b5c h63))]; exact (v_ec2a4dea25 h60)) (by rw [(TkX.ct q17 (v_ec0ac2e815 h60) (v_fd1ff53b5c h63))]; exact (v_bec5aa9605 h63)) h72 h73 (by rw [(TkX.ct q17 (v_ec0ac2e815 h60) (v_fd1ff53b5c h63))]; exact v_22037acd2e) v_e828b09c4d)⟩)
          · refine J_aload_n dX5_part_81 rfl rfl ?_
            refine J_callV (st := []) dX5_part_82 cv_X5_54 (d_wrong ln tk st bh va pa fl sz q4 (v_1adcfdfee5 q1 q5 q6) hk54) hk54 rfl rfl (Nat.le_of_ble_eq_true rfl) ⟨(Nat.le_of_ble_eq_true rfl), (Nat.le_of_ble_eq_true rfl)⟩ ⟨(Nat.le_of_ble_eq_true rfl), (Nat.le_of_ble_eq_true rfl)⟩ (fun r h9 hp => ?_)
            obtain ⟨rfl, rfl⟩ := hp
            refine J_nf (nh2 := nh) (ck2 := 0) (sk2 := 0) (st2 := [.int (zI 0)]) rfl rfl rfl rfl ?_
            refine J_app (L3 := [(54, .inr (5, [.ref 55, .int (zI ln), .int (zI tk), .int (zI st), .int (zI bh), .int (zI va), .int (zI pa), .int (zI st), .ref 56, .int (zI sz)]))]) rfl ?_
            refine J_touch (k := 56) (e := .inl (0, 412, .inl (zA cd))) hk56 ?_
            refine J_touch (k := 54) (e := .inr (5, [.ref 55, .int (zI ln), .int (zI tk), .int (zI st), .int (zI bh), .int (zI va), .int (zI pa), .int (zI st), .ref 56, .int (zI sz)])) rfl ?_
            refine J_mask (L2 := [(54, .inr (5, [.ref 55, .int (zI ln), .int (zI tk), .int (zI st), .int (zI bh), .int (zI va), .int (zI pa), .int (zI st), .ref 56, .int (zI sz)])), (56, .inl (0, 412, .inl (zA cd)))]) (ks := [54, 56, 54]) [true, true, false] rfl (by decide +kernel) rfl ?_
            exact J_iret dX5_part_85 rfl (jbn v_939070ca3f v_316afd7d0b) (Nat.le_of_ble_eq_true rfl) (Nat.le_of_ble_eq_true rfl) (Or.inr ⟨tk, st, bh, va, pa, sz, cd, st, ti, rfl, rfl, q2, q3, q4, q5, q6, q7, q8, q9, q10, q12, q13, q14, q16, q4, (v_1adcfdfee5 q1 q5 q6), ((TkX.s q17)), (PaR.w (fun w => absurd ((TkX.sg q17 (v := 191) (by decide)).mp w) (v_9d80ef7c91 h63)) (fun w => absurd w.2 (v_6f05a3a39a h68)))⟩)
    · refine J_aload_n dX5_part_24 rfl rfl ?_
      refine J_get (v := .int (zI va)) dX5_part_25 fl_X5_28 hk54 rfl ?_
      refine Z_sipush (n := 1000) dX5_part_28 (by decide +kernel) ?_
      refine Z_icmp_gt (tgt := 38) dX5_part_31 (by decide) (v_c986789e97 q7 q8) v_822edaa202 (fun h90 => ?_) (fun h90 => ?_)
      · refine Z_iconst (n := 0) dX5_part_38 ?_
        refine J_istore_n dX5_part_39 rfl (Nat.le_of_ble_eq_true rfl) rfl ?_
        refine J_ls (ls2 := [some (.ref 54), some (.int (zI 7)), some (.int (zI 0)), none]) rfl ?_
        refine J_aload_n dX5_part_40 rfl rfl ?_
        refine J_get (v := .int (zI tk)) dX5_part_41 fl_X5_19 hk54 rfl ?_
        refine Z_bipush (n := 7) dX5_part_44 (by decide +kernel) ?_
        refine Z_icmp_lt (tgt := 62) dX5_part_46 (by decide) (v_87f911991b h59) v_c3fe1a091f (fun h91 => absurd h91 (v_a610ec54f4 h59)) (fun h91 => ?_)
        refine J_aload_n dX5_part_49 rfl rfl ?_
        refine J_get (v := .int (zI tk)) dX5_part_50 fl_X5_19 hk54 rfl ?_
        refine Z_bipush (n := 14) dX5_part_53 (by decide +kernel) ?_
        refine Z_icmp_gt (tgt := 62) dX5_part_55 (by decide) (v_87f911991b h59) v_2a4719925a (fun h92 => ?_) (fun h92 => absurd h92 (fun q => q (v_8a408c96ed h59)))
        refine Z_iconst (n := 0) dX5_part_62 ?_
        refine J_istore_n dX5_part_63 rfl (Nat.le_of_ble_eq_true rfl) rfl ?_
        refine J_ls (ls2 := [some (.ref 54), some (.int (zI 7)), some (.int (zI 0)), some (.int (zI 0))]) rfl ?_
        refine J_iload_n dX5_part_64 rfl rfl ?_
        refine Z_if_ne (tgt := 72) dX5_part_65 (by decide) v_b17331891f (fun h93 => absurd h93 (fun q => q v_2ca2bbca1f)) (fun h93 => ?_)
        refine J_iload_n dX5_part_68 rfl rfl ?_
        refine Z_if_eq (tgt := 81) dX5_part_69 (by decide) v_b17331891f (fun h94 => ?_) (fun h94 => absurd h94 (fun q => q v_2ca2bbca1f))
        refine J_aload_n dX5_part_81 rfl rfl ?_
        refine J_callV (st := []) dX5_part_82 cv_X5_54 (d_wrong ln tk st bh va pa fl sz q4 (v_1adcfdfee5 q1 q5 q6) hk54) hk54 rfl rfl (Nat.le_of_ble_eq_true rfl) ⟨(Nat.le_of_ble_eq_true rfl), (Nat.le_of_ble_eq_true rfl)⟩ ⟨(Nat.le_of_ble_eq_true rfl), (Nat.le_of_ble_eq_true rfl)⟩ (fun r h9 hp => ?_)
        obtain ⟨rfl, rfl⟩ := hp
        refine J_nf (nh2 := nh) (ck2 := 0) (sk2 := 0) (st2 := [.int (zI 0)]) rfl rfl rfl rfl ?_
        refine J_app (L3 := [(54, .inr (5, [.ref 55, .int (zI ln), .int (zI tk), .int (zI st), .int (zI bh), .int (zI va), .int (zI pa), .int (zI st), .ref 56, .int (zI sz)]))]) rfl ?_
        refine J_touch (k := 56) (e := .inl (0, 412, .inl (zA cd))) hk56 ?_
        refine J_touch (k := 54) (e := .inr (5, [.ref 55, .int (zI ln), .int (zI tk), .int (zI st), .int (zI bh), .int (zI va), .int (zI pa), .int (zI st), .ref 56, .int (zI sz)])) rfl ?_
        refine J_mask (L2 := [(54, .inr (5, [.ref 55, .int (zI ln), .int (zI tk), .int (zI st), .int (zI bh), .int (zI va), .int (zI pa), .int (zI st), .ref 56, .int (zI sz)])), (56, .inl (0, 412, .inl (zA cd)))]) (ks := [54, 56, 54]) [true, true, false] rfl (by decide +kernel) rfl ?_
        exact J_iret dX5_part_85 rfl (jbn v_939070ca3f v_316afd7d0b) (Nat.le_of_ble_eq_true rfl) (Nat.le_of_ble_eq_true rfl) (Or.inr ⟨tk, st, bh, va, pa, sz, cd, st, ti, rfl, rfl, q2, q3, q4, q5, q6, q7, q8, q9, q10, q12, q13, q14, q16, q4, (v_1adcfdfee5 q1 q5 q6), ((TkX.s q17)), (PaR.w (fun w => absurd ((TkX.sg q17 (v := 191) (by decide)).mp w) (v_ba43a80476 h59)) (fun w => by have u := (TkX.lf q17).mp w.1; have u0 := h2; have u1 := h59; have u2 := h90; have u3 := h91; have u4 := h92; omega))⟩)
      · refine Z_iconst (n := 1) dX5_part_34 ?_
        refine J_goto (tgt := 39) dX5_part_35 (by decide) ?_
        refine J_istore_n dX5_part_39 rfl (Nat.le_of_ble_eq_true rfl) rfl ?_
        refine J_ls (ls2 := [some (.ref 54), some (.int (zI 7)), some (.int (zI 1)), none]) rfl ?_
        refine J_aload_n dX5_part_40 rfl rfl ?_
        refine J_get (v := .int (zI tk)) dX5_part_41 fl_X5_19 hk54 rfl ?_
        refine Z_bipush (n := 7) dX5_part_44 (by decide +kernel) ?_
        refine Z_icmp_lt (tgt := 62) dX5_part_46 (by decide) (v_87f911991b h59) v_c3fe1a091f (fun h95 => absurd h95 (v_a610ec54f4 h59)) (fun h95 => ?_)
        refine J_aload_n dX5_part_49 rfl rfl ?_
        refine J_get (v := .int (zI tk)) dX5_part_50 fl_X5_19 hk54 rfl ?_
        refine Z_bipush (n := 14) dX5_part_53 (by decide +kernel) ?_
        refine Z_icmp_gt (tgt := 62) dX5_part_55 (by decide) (v_87f911991b h59) v_2a4719925a (fun h96 => ?_) (fun h96 => absurd h96 (fun q => q (v_8a408c96ed h59)))
        refine Z_iconst (n := 0) dX5_part_62 ?_
        refine J_istore_n dX5_part_63 rfl (Nat.le_of_ble_eq_true rfl) rfl ?_
        refine J_ls (ls2 := [some (.ref 54), some (.int (zI 7)), some (.int (zI 1)), some (.int (zI 0))]) rfl ?_
        refine J_iload_n dX5_part_64 rfl rfl ?_
        refine Z_if_ne (tgt := 72) dX5_part_65 (by decide) v_4dcc24baa7 (fun h97 => ?_) (fun h97 => absurd h97 v_3a47bfd896)
        refine J_aload_n dX5_part_72 rfl rfl ?_
        refine J_get (v := .int (zI pa)) dX5_part_73 fl_X5_31 hk54 rfl ?_
        refine Z_bipush (n := 50) dX5_part_76 (by decide +kernel) ?_
        refine Z_icmp_lt (tgt := 86) dX5_part_78 (by decide) (v_196348439e q9 q10) v_e1e0ea2c24 (fun h98 => ?_) (fun h98 => ?_)
        · refine J_aload_n dX5_part_86 rfl rfl ?_
          refine J_dup dX5_part_87 rfl ?_
          refine J_get (v := .int (zI pa)) dX5_part_88 fl_X5_31 hk54 rfl ?_
          refine Z_iconst (n := 1) dX5_part_91 ?_
          refine Z_iadd (c := pa + 1) dX5_part_92 rfl ?_
          refine K_put (fs2 := [.ref 55, .int (zI ln), .int (zI tk), .int (zI st), .int (zI bh), .int (zI va), .int (zI (pa + 1)), .int (zI fl), .ref 56, .int (zI sz)]) dX5_part_93 fw_X5_31 hk54 (Nat.le_of_ble_eq_true rfl) (fun _ => ⟨rfl, rfl⟩) rfl ?_
          refine J_iload_n dX5_part_96 rfl rfl ?_
          refine Z_if_eq (tgt := 113) dX5_part_97 (by decide) v_4dcc24baa7 (fun h99 => absurd h99 v_3a47bfd896) (fun h99 => ?_)
          refine J_aload_n dX5_part_100 rfl rfl ?_
          refine Z_iconst (n := 0) dX5_part_101 ?_
          refine J_aload_n dX5_part_102 rfl rfl ?_
          refine J_get (v := .int (zI va)) dX5_part_103 fl_X5_28 rfl rfl ?_
          refine J_callV (st := []) dX5_part_106 cv_X5_72 (d_emit 0 va ln tk st bh va (pa + 1) fl sz cd v_b17331891f (v_3f1e82a223 q7 h90) v_939070ca3f v_d71a1868af q7 (v_50f9918ec4 h90) q12 (v_f2b062d3d4 q1 q5 q6 q19) q16 rfl hk56) rfl rfl rfl (Nat.le_of_ble_eq_true rfl) ⟨(Nat.le_of_ble_eq_true rfl), (Nat.le_of_ble_eq_true rfl)⟩ ⟨(Nat.le_of_ble_eq_true rfl), (Nat.le_of_ble_eq_true rfl)⟩ (fun r h9 hp => ?_)
          obtain ⟨f100, z101, rfl, rfl, h102, h103, h104, h105⟩ := hp
          refine J_nf (nh2 := nh) (ck2 := 0) (sk2 := 0) (st2 := [.int (zI sz)]) rfl rfl rfl rfl ?_
          refine J_app (L3 := [(54, .inr (5, [.ref 55, .int (zI ln), .int (zI tk), .int (zI st), .int (zI bh), .int (zI va), .int (zI (pa + 1)), .int (zI fl), .ref 56, .int (zI (sz + 1))])), (56, .inl (0, 412, .inl (zA f100))), (54, .inr (5, [.ref 55, .int (zI ln), .int (zI tk), .int (zI st), .int (zI bh), .int (zI va), .int (zI (pa + 1)), .int (zI fl), .ref 56, .int (zI sz)]))]) (by first | rfl | (simp only [Int.add_assoc]; rfl)) ?_
          refine J_mask (L2 := [(54, .inr (5, [.ref 55, .int (zI ln), .int (zI tk), .int (zI st), .int (zI bh), .int (zI va), .int (zI (pa + 1)), .int (zI fl), .ref 56, .int (zI (sz + 1))])), (56, .inl (0, 412, .inl (zA f100)))]) (ks := [54, 56, 54]) [true, true, false] rfl (by decide +kernel) rfl ?_
          refine J_pop dX5_part_109 rfl ?_
          refine J_goto (tgt := 126) dX5_part_110 (by decide) ?_
          refine J_aload_n dX5_part_126 rfl rfl ?_
          have g106 := TokL.lt q14 (v_842fc1ac99 h59)
          refine J_callV (st := []) dX5_part_127 cv_X5_43 (d_advance (ti + 1) ln tk st bh va (pa + 1) fl (sz + 1) tp q0 q1 (v_d253cb2c59 q4 g106) q6 q7 q8 q15 (TkX.ps q17 (v_2b02420001 q18)) rfl hk55) rfl rfl rfl (Nat.le_of_ble_eq_true rfl) ⟨(Nat.le_of_ble_eq_true rfl), (Nat.le_of_ble_eq_true rfl)⟩ ⟨(Nat.le_of_ble_eq_true rfl), (Nat.le_of_ble_eq_true rfl)⟩ (fun r h9 hp => ?_)
          obtain ⟨z107, z108, z109, z110, rfl, rfl, h111, h112, h113, h114, h115, h116, h117, h118, h119⟩ := hp
          refine J_nf (nh2 := nh) (ck2 := 0) (sk2 := 0) (st2 := []) rfl rfl rfl rfl ?_
          refine J_app (L3 := [(54, .inr (5, [.ref 55, .int (zI ln), .int (zI z107), .int (zI z108), .int (zI z109), .int (zI z110), .int (zI (pa + 1)), .int (zI fl), .ref 56, .int (zI (sz + 1))])), (54, .inr (5, [.ref 55, .int (zI ln), .int (zI tk), .int (zI st), .int (zI bh), .int (zI va), .int (zI (pa + 1)), .int (zI fl), .ref 56, .int (zI (sz + 1))])), (56, .inl (0, 412, .inl (zA f100)))]) rfl ?_
          refine J_mask (L2 := [(54, .inr (5, [.ref 55, .int (zI ln), .int (zI z107), .int (zI z108), .int (zI z109), .int (zI z110), .int (zI (pa + 1)), .int (zI fl), .ref 56, .int (zI (sz + 1))])), (56, .inl (0, 412, .inl (zA f100)))]) (ks := [54, 54, 56]) [true, false, true] rfl (by decide +kernel) rfl ?_
          refine Z_iconst (n := 1) dX5_part_130 ?_
          exact J_iret dX5_part_131 rfl (jbn v_316afd7d0b v_bbcfac9b7d) (Nat.le_of_ble_eq_true rfl) (Nat.le_of_ble_eq_true rfl) (Or.inl ⟨z107, z108, z109, z110, (pa + 1), (sz + 1), f100, (ti + 1), rfl, rfl, h111, h112, (v_9b2e2070a2 q4 g106 h113), h114, h115, h116, h117, (v_da458fa48a q9), (v_dc0d6dc503 h98), (v_da458fa48a q12), (v_efdc60f808 q1 q6 q19 g106), h118, h104, (v_3a52fbe90f g106 h113), (v_016485883e g106 h113), h119, (v_da458fa48a q18), (PaR.y (fun w => absurd ((TkX.sg q17 (v := 191) (by decide)).mp w) (v_ba43a80476 h59)) ((TkX.lf q17).mpr (Or.inl ⟨(v_c5b5cc5484 h59), (v_34f25c0213 h90)⟩)) (v_ba201db0a2 h98)), v_32a28518ee, (SgS.num (fun w => absurd ((TkX.sg q17 (v := 191) (by decide)).mp w) (v_ba43a80476 h59)) (TkX.c50 q17 (v_c5b5cc5484 h59)) (by rw [← (TkX.v q17 (TkX.c50 q17 (v_c5b5cc5484 h59)))]; exact (v_34f25c0213 h90)) (by rw [← (TkX.v q17 (TkX.c50 q17 (v_c5b5cc5484 h59)))]; exact (v_2b02420001 q7)) h102 h103 ((show va = va from v_a0572702c4).trans (TkX.v q17 (TkX.c50 q17 (v_c5b5cc5484 h59)))) v_e828b09c4d)⟩)
        · refine J_aload_n dX5_part_81 rfl rfl ?_
          refine J_callV (st := []) dX5_part_82 cv_X5_54 (d_wrong ln tk st bh va pa fl sz q4 (v_1adcfdfee5 q1 q5 q6) hk54) hk54 rfl rfl (Nat.le_of_ble_eq_true rfl) ⟨(Nat.le_of_ble_eq_true rfl), (Nat.le_of_ble_eq_true rfl)⟩ ⟨(Nat.le_of_ble_eq_true rfl), (Nat.le_of_ble_eq_true rfl)⟩ (fun r h9 hp => ?_)
          obtain ⟨rfl, rfl⟩ := hp
          refine J_nf (nh2 := nh) (ck2 := 0) (sk2 := 0) (st2 := [.int (zI 0)]) rfl rfl rfl rfl ?_
          refine J_app (L3 := [(54, .inr (5, [.ref 55, .int (zI ln), .int (zI tk), .int (zI st), .int (zI bh), .int (zI va), .int (zI pa), .int (zI st), .ref 56, .int (zI sz)]))]) rfl ?_
          refine J_touch (k := 56) (e := .inl (0, 412, .inl (zA cd))) hk56 ?_
          refine J_touch (k := 54) (e := .inr (5, [.ref 55, .int (zI ln), .int (zI tk), .int (zI st), .int (zI bh), .int (zI va), .int (zI pa), .int (zI st), .ref 56, .int (zI sz)])) rfl ?_
          refine J_mask (L2 := [(54, .inr (5, [.ref 55, .int (zI ln), .int (zI tk), .int (zI st), .int (zI bh), .int (zI va), .int (zI pa), .int (zI st), .ref 56, .int (zI sz)])), (56, .inl (0, 412, .inl (zA cd)))]) (ks := [54, 56, 54]) [true, true, false] rfl (by decide +kernel) rfl ?_
          exact J_iret dX5_part_85 rfl (jbn v_939070ca3f v_316afd7d0b) (Nat.le_of_ble_eq_true rfl) (Nat.le_of_ble_eq_true rfl) (Or.inr ⟨tk, st, bh, va, pa, sz, cd, st, ti, rfl, rfl, q2, q3, q4, q5, q6, q7, q8, q9, q10, q12, q13, q14, q16, q4, (v_1adcfdfee5 q1 q5 q6), ((TkX.s q17)), (PaR.w (fun w => absurd ((TkX.sg q17 (v := 191) (by decide)).mp w) (v_ba43a80476 h59)) (fun w => absurd w.2 (v_6f05a3a39a h98)))⟩)
