abbrev MX1_setPlaces : jM := (RX1, cX1_setPlaces, 3, none, false)
set_option maxRecDepth 20000 in
theorem iX1_at : ∀ k : Nat, k < 8 → u_lay RX1 TX1 k ∈ jtb
  | 0, _ => jt1 177 rfl rfl
  | 1, _ => jt1 179 rfl rfl
  | 2, _ => jt1 181 rfl rfl
  | 3, _ => jt1 183 rfl rfl
  | 4, _ => jt1 185 rfl rfl
  | 5, _ => jt1 187 rfl rfl
  | 6, _ => jt1 189 rfl rfl
  | 7, _ => jt1 191 rfl rfl
  | (n + 8), h => absurd h (by omega)
theorem iX1 : ∀ w ∈ u_ws RX1 TX1 8, w ∈ jtb := fun w hw => by
  obtain ⟨k, hk, rfl⟩ := List.mem_map.mp hw
  exact iX1_at k (List.mem_range.mp hk)
theorem fl_X1_9 : jFL RX1 9 1 0 := ⟨_, _, _, rfl, iX1, by decide, Or.inl (jt1 169 rfl rfl)⟩
abbrev MX1_setColours : jM := (RX1, cX1_setColours, 4, none, false)
abbrev MX1_setTimes : jM := (RX1, cX1_setTimes, 3, none, false)
abbrev MX1_begin : jM := (RX1, cX1_begin, 1, none, false)
theorem fw_X1_17 : jFW RX1 17 1 2 (.int) false := ⟨_, _, _, tyX1, rfl, iX1, tyX1_ok, nmX1, by decide, rfl, rfl, (fun h => by cases h), Or.inl (jt1 171 rfl rfl)⟩
theorem fw_X1_21 : jFW RX1 21 1 3 (.boolean) false := ⟨_, _, _, tyX1, rfl, iX1, tyX1_ok, nmX1, by decide, rfl, rfl, (fun h => by cases h), Or.inl (jt1 172 rfl rfl)⟩
theorem fw_X1_25 : jFW RX1 25 1 4 (.boolean) false := ⟨_, _, _, tyX1, rfl, iX1, tyX1_ok, nmX1, by decide, rfl, rfl, (fun h => by cases h), Or.inl (jt1 173 rfl rfl)⟩
theorem fw_X1_28 : jFW RX1 28 1 5 (.boolean) false := ⟨_, _, _, tyX1, rfl, iX1, tyX1_ok, nmX1, by decide, rfl, rfl, (fun h => by cases h), Or.inl (jt1 174 rfl rfl)⟩
theorem fw_X1_31 : jFW RX1 31 1 6 (.boolean) false := ⟨_, _, _, tyX1, rfl, iX1, tyX1_ok, nmX1, by decide, rfl, rfl, (fun h => by cases h), Or.inl (jt1 175 rfl rfl)⟩
theorem fw_X1_34 : jFW RX1 34 1 7 (.int) false := ⟨_, _, _, tyX1, rfl, iX1, tyX1_ok, nmX1, by decide, rfl, rfl, (fun h => by cases h), Or.inl (jt1 176 rfl rfl)⟩
abbrev MX1_top : jM := (RX1, cX1_top, 1, some .long, false)
theorem fl_X1_17 : jFL RX1 17 1 2 := ⟨_, _, _, rfl, iX1, by decide, Or.inl (jt1 171 rfl rfl)⟩
theorem fl_X1_13 : jFL RX1 13 1 1 := ⟨_, _, _, rfl, iX1, by decide, Or.inl (jt1 170 rfl rfl)⟩
abbrev MX1_push : jM := (RX1, cX1_push, 3, none, false)
abbrev MX1_pop : jM := (RX1, cX1_pop, 1, some .long, false)
abbrev MX1_bounded : jM := (RX1, cX1_bounded, 3, some .long, false)
theorem fl_X1_21 : jFL RX1 21 1 3 := ⟨_, _, _, rfl, iX1, by decide, Or.inl (jt1 172 rfl rfl)⟩
abbrev MX1_joined : jM := (RX1, cX1_joined, 6, some .long, false)
theorem cv_X1_77 : jCV RX1 77 1 yX1_bounded MX1_bounded 1 := ⟨_, _, rfl, (jt4 165 rfl rfl), (jt4 164 rfl rfl), (jtp (q := (⟨"BeanStreet$Judge", "bounded", "(J)J"⟩, 8)) (List.mem_of_getElem? (i := 30) rfl)), (jt1 6 rfl rfl), ⟨by decide, by decide, by decide +kernel⟩, Or.inl (jt4 162 rfl rfl)⟩
abbrev MX1_run : jM := (RX1, cX1_run, 5, none, false)
theorem cv_X1_70 : jCV RX1 70 1 yX1_pop MX1_pop 0 := ⟨_, _, rfl, (jt4 157 rfl rfl), (jt4 156 rfl rfl), (jtp (q := (⟨"BeanStreet$Judge", "pop", "()J"⟩, 8)) (List.mem_of_getElem? (i := 28) rfl)), (jt1 6 rfl rfl), ⟨by decide, by decide, by decide +kernel⟩, Or.inl (jt4 154 rfl rfl)⟩
theorem cv_X1_73 : jCV RX1 73 1 yX1_joined MX1_joined 3 := ⟨_, _, rfl, (jt4 161 rfl rfl), (jt4 160 rfl rfl), (jtp (q := (⟨"BeanStreet$Judge", "joined", "(IJJ)J"⟩, 8)) (List.mem_of_getElem? (i := 29) rfl)), (jt1 6 rfl rfl), ⟨by decide, by decide, by decide +kernel⟩, Or.inl (jt4 158 rfl rfl)⟩
theorem cv_X1_66 : jCV RX1 66 1 yX1_push MX1_push 1 := ⟨_, _, rfl, (jt4 153 rfl rfl), (jt4 152 rfl rfl), (jtp (q := (⟨"BeanStreet$Judge", "push", "(J)V"⟩, 8)) (List.mem_of_getElem? (i := 27) rfl)), (jt1 6 rfl rfl), ⟨by decide, by decide, by decide +kernel⟩, Or.inl (jt4 150 rfl rfl)⟩
abbrev MX1_close : jM := (RX1, cX1_close, 3, none, false)
theorem fl_X1_31 : jFL RX1 31 1 6 := ⟨_, _, _, rfl, iX1, by decide, Or.inl (jt1 175 rfl rfl)⟩
theorem fl_X1_28 : jFL RX1 28 1 5 := ⟨_, _, _, rfl, iX1, by decide, Or.inl (jt1 174 rfl rfl)⟩
theorem cv_X1_44 : jCV RX1 44 1 yX1_top MX1_top 0 := ⟨_, _, rfl, (jt4 135 rfl rfl), (jt4 134 rfl rfl), (jtp (q := (⟨"BeanStreet$Judge", "top", "()J"⟩, 8)) (List.mem_of_getElem? (i := 25) rfl)), (jt1 6 rfl rfl), ⟨by decide, by decide, by decide +kernel⟩, Or.inl (jt4 132 rfl rfl)⟩
abbrev MX1_verdict : jM := (RX1, cX1_verdict, 5, some .int, false)
theorem cv_X1_37 : jCV RX1 37 1 yX1_begin MX1_begin 0 := ⟨_, _, rfl, (jt4 127 rfl rfl), (jt4 126 rfl rfl), (jtp (q := (⟨"BeanStreet$Judge", "begin", "()V"⟩, 8)) (List.mem_of_getElem? (i := 23) rfl)), (jt1 6 rfl rfl), ⟨by decide, by decide, by decide +kernel⟩, Or.inl (jt4 124 rfl rfl)⟩
theorem fl_X1_25 : jFL RX1 25 1 4 := ⟨_, _, _, rfl, iX1, by decide, Or.inl (jt1 173 rfl rfl)⟩
theorem fl_X1_34 : jFL RX1 34 1 7 := ⟨_, _, _, rfl, iX1, by decide, Or.inl (jt1 176 rfl rfl)⟩
theorem cv_X1_54 : jCV RX1 54 1 yX1_run MX1_run 2 := ⟨_, _, rfl, (jt4 149 rfl rfl), (jt4 148 rfl rfl), (jtp (q := (⟨"BeanStreet$Judge", "run", "(II)V"⟩, 8)) (List.mem_of_getElem? (i := 26) rfl)), (jt1 6 rfl rfl), ⟨by decide, by decide, by decide +kernel⟩, Or.inl (jt4 146 rfl rfl)⟩
theorem cv_X1_40 : jCV RX1 40 1 yX1_close MX1_close 1 := ⟨_, _, rfl, (jt4 131 rfl rfl), (jt4 130 rfl rfl), (jtp (q := (⟨"BeanStreet$Judge", "close", "(I)V"⟩, 8)) (List.mem_of_getElem? (i := 24) rfl)), (jt1 6 rfl rfl), ⟨by decide, by decide, by decide +kernel⟩, Or.inl (jt4 128 rfl rfl)⟩
theorem dX1_setPlaces_0 : decode cX1_setPlaces 0 = .ok (.aload_n 0, 1) := by decide +kernel
theorem dX1_setPlaces_1 : decode cX1_setPlaces 1 = .ok (.getfield 9, 3) := by decide +kernel
theorem dX1_setPlaces_4 : decode cX1_setPlaces 4 = .ok (.iconst 0, 1) := by decide +kernel
theorem dX1_setPlaces_5 : decode cX1_setPlaces 5 = .ok (.iload_n 1, 1) := by decide +kernel
theorem dX1_setPlaces_6 : decode cX1_setPlaces 6 = .ok (.iastore, 1) := by decide +kernel
theorem dX1_setPlaces_7 : decode cX1_setPlaces 7 = .ok (.aload_n 0, 1) := by decide +kernel
theorem dX1_setPlaces_8 : decode cX1_setPlaces 8 = .ok (.getfield 9, 3) := by decide +kernel
theorem dX1_setPlaces_11 : decode cX1_setPlaces 11 = .ok (.iconst 1, 1) := by decide +kernel
theorem dX1_setPlaces_12 : decode cX1_setPlaces 12 = .ok (.iload_n 2, 1) := by decide +kernel
theorem dX1_setPlaces_13 : decode cX1_setPlaces 13 = .ok (.iastore, 1) := by decide +kernel
theorem dX1_setPlaces_14 : decode cX1_setPlaces 14 = .ok (.aload_n 0, 1) := by decide +kernel
theorem dX1_setPlaces_15 : decode cX1_setPlaces 15 = .ok (.getfield 9, 3) := by decide +kernel
theorem dX1_setPlaces_18 : decode cX1_setPlaces 18 = .ok (.iconst 4, 1) := by decide +kernel
theorem dX1_setPlaces_19 : decode cX1_setPlaces 19 = .ok (.iload_n 2, 1) := by decide +kernel
theorem dX1_setPlaces_20 : decode cX1_setPlaces 20 = .ok (.iload_n 1, 1) := by decide +kernel
theorem dX1_setPlaces_21 : decode cX1_setPlaces 21 = .ok (.isub, 1) := by decide +kernel
theorem dX1_setPlaces_22 : decode cX1_setPlaces 22 = .ok (.iastore, 1) := by decide +kernel
theorem dX1_setPlaces_23 : decode cX1_setPlaces 23 = .ok (.return_, 1) := by decide +kernel
theorem dX1_setColours_0 : decode cX1_setColours 0 = .ok (.aload_n 0, 1) := by decide +kernel
theorem dX1_setColours_1 : decode cX1_setColours 1 = .ok (.getfield 9, 3) := by decide +kernel
theorem dX1_setColours_4 : decode cX1_setColours 4 = .ok (.iconst 2, 1) := by decide +kernel
theorem dX1_setColours_5 : decode cX1_setColours 5 = .ok (.iload_n 1, 1) := by decide +kernel
theorem dX1_setColours_6 : decode cX1_setColours 6 = .ok (.iastore, 1) := by decide +kernel
theorem dX1_setColours_7 : decode cX1_setColours 7 = .ok (.aload_n 0, 1) := by decide +kernel
theorem dX1_setColours_8 : decode cX1_setColours 8 = .ok (.getfield 9, 3) := by decide +kernel
theorem dX1_setColours_11 : decode cX1_setColours 11 = .ok (.iconst 3, 1) := by decide +kernel
theorem dX1_setColours_12 : decode cX1_setColours 12 = .ok (.iload_n 2, 1) := by decide +kernel
theorem dX1_setColours_13 : decode cX1_setColours 13 = .ok (.iastore, 1) := by decide +kernel
theorem dX1_setColours_14 : decode cX1_setColours 14 = .ok (.aload_n 0, 1) := by decide +kernel
theorem dX1_setColours_15 : decode cX1_setColours 15 = .ok (.getfield 9, 3) := by decide +kernel
theorem dX1_setColours_18 : decode cX1_setColours 18 = .ok (.iconst 5, 1) := by decide +kernel
theorem dX1_setColours_19 : decode cX1_setColours 19 = .ok (.iload_n 3, 1) := by decide +kernel
theorem dX1_setColours_20 : decode cX1_setColours 20 = .ok (.iastore, 1) := by decide +kernel
theorem dX1_setColours_21 : decode cX1_setColours 21 = .ok (.return_, 1) := by decide +kernel
theorem dX1_setTimes_0 : decode cX1_setTimes 0 = .ok (.aload_n 0, 1) := by decide +kernel
theorem dX1_setTimes_1 : decode cX1_setTimes 1 = .ok (.getfield 9, 3) := by decide +kernel
theorem dX1_setTimes_4 : decode cX1_setTimes 4 = .ok (.bipush 6, 2) := by decide +kernel
theorem dX1_setTimes_6 : decode cX1_setTimes 6 = .ok (.iload_n 1, 1) := by decide +kernel
theorem dX1_setTimes_7 : decode cX1_setTimes 7 = .ok (.iastore, 1) := by decide +kernel
theorem dX1_setTimes_8 : decode cX1_setTimes 8 = .ok (.aload_n 0, 1) := by decide +kernel
theorem dX1_setTimes_9 : decode cX1_setTimes 9 = .ok (.getfield 9, 3) := by decide +kernel
theorem dX1_setTimes_12 : decode cX1_setTimes 12 = .ok (.bipush 7, 2) := by decide +kernel
theorem dX1_setTimes_14 : decode cX1_setTimes 14 = .ok (.iload_n 2, 1) := by decide +kernel
theorem dX1_setTimes_15 : decode cX1_setTimes 15 = .ok (.iastore, 1) := by decide +kernel
theorem dX1_setTimes_16 : decode cX1_setTimes 16 = .ok (.return_, 1) := by decide +kernel
theorem dX1_begin_0 : decode cX1_begin 0 = .ok (.aload_n 0, 1) := by decide +kernel
theorem dX1_begin_1 : decode cX1_begin 1 = .ok (.iconst 0, 1) := by decide +kernel
theorem dX1_begin_2 : decode cX1_begin 2 = .ok (.putfield 17, 3) := by decide +kernel
theorem dX1_begin_5 : decode cX1_begin 5 = .ok (.aload_n 0, 1) := by decide +kernel
theorem dX1_begin_6 : decode cX1_begin 6 = .ok (.iconst 0, 1) := by decide +kernel
theorem dX1_begin_7 : decode cX1_begin 7 = .ok (.putfield 21, 3) := by decide +kernel
theorem dX1_begin_10 : decode cX1_begin 10 = .ok (.aload_n 0, 1) := by decide +kernel
theorem dX1_begin_11 : decode cX1_begin 11 = .ok (.iconst 0, 1) := by decide +kernel
theorem dX1_begin_12 : decode cX1_begin 12 = .ok (.putfield 25, 3) := by decide +kernel
theorem dX1_begin_15 : decode cX1_begin 15 = .ok (.aload_n 0, 1) := by decide +kernel
theorem dX1_begin_16 : decode cX1_begin 16 = .ok (.iconst 0, 1) := by decide +kernel
theorem dX1_begin_17 : decode cX1_begin 17 = .ok (.putfield 28, 3) := by decide +kernel
theorem dX1_begin_20 : decode cX1_begin 20 = .ok (.aload_n 0, 1) := by decide +kernel
theorem dX1_begin_21 : decode cX1_begin 21 = .ok (.iconst 0, 1) := by decide +kernel
theorem dX1_begin_22 : decode cX1_begin 22 = .ok (.putfield 31, 3) := by decide +kernel
theorem dX1_begin_25 : decode cX1_begin 25 = .ok (.aload_n 0, 1) := by decide +kernel
theorem dX1_begin_26 : decode cX1_begin 26 = .ok (.iconst 1, 1) := by decide +kernel
theorem dX1_begin_27 : decode cX1_begin 27 = .ok (.putfield 34, 3) := by decide +kernel
theorem dX1_begin_30 : decode cX1_begin 30 = .ok (.return_, 1) := by decide +kernel
theorem dX1_top_0 : decode cX1_top 0 = .ok (.aload_n 0, 1) := by decide +kernel
theorem dX1_top_1 : decode cX1_top 1 = .ok (.getfield 17, 3) := by decide +kernel
theorem dX1_top_4 : decode cX1_top 4 = .ok (.ifCond .le 17, 3) := by decide +kernel
theorem dX1_top_21 : decode cX1_top 21 = .ok (.lconst 0, 1) := by decide +kernel
theorem dX1_top_22 : decode cX1_top 22 = .ok (.lreturn, 1) := by decide +kernel
theorem dX1_top_7 : decode cX1_top 7 = .ok (.aload_n 0, 1) := by decide +kernel
theorem dX1_top_8 : decode cX1_top 8 = .ok (.getfield 13, 3) := by decide +kernel
theorem dX1_top_11 : decode cX1_top 11 = .ok (.aload_n 0, 1) := by decide +kernel
theorem dX1_top_12 : decode cX1_top 12 = .ok (.getfield 17, 3) := by decide +kernel
theorem dX1_top_15 : decode cX1_top 15 = .ok (.iconst 1, 1) := by decide +kernel
theorem dX1_top_16 : decode cX1_top 16 = .ok (.isub, 1) := by decide +kernel
theorem dX1_top_17 : decode cX1_top 17 = .ok (.laload, 1) := by decide +kernel
theorem dX1_top_18 : decode cX1_top 18 = .ok (.goto 4, 3) := by decide +kernel
theorem dX1_push_0 : decode cX1_push 0 = .ok (.aload_n 0, 1) := by decide +kernel
theorem dX1_push_1 : decode cX1_push 1 = .ok (.getfield 17, 3) := by decide +kernel
theorem dX1_push_4 : decode cX1_push 4 = .ok (.bipush 64, 2) := by decide +kernel
theorem dX1_push_6 : decode cX1_push 6 = .ok (.if_icmp .ge 23, 3) := by decide +kernel
theorem dX1_push_29 : decode cX1_push 29 = .ok (.return_, 1) := by decide +kernel
theorem dX1_push_9 : decode cX1_push 9 = .ok (.aload_n 0, 1) := by decide +kernel
theorem dX1_push_10 : decode cX1_push 10 = .ok (.getfield 13, 3) := by decide +kernel
theorem dX1_push_13 : decode cX1_push 13 = .ok (.aload_n 0, 1) := by decide +kernel
theorem dX1_push_14 : decode cX1_push 14 = .ok (.getfield 17, 3) := by decide +kernel
theorem dX1_push_17 : decode cX1_push 17 = .ok (.lload_n 1, 1) := by decide +kernel
theorem dX1_push_18 : decode cX1_push 18 = .ok (.lastore, 1) := by decide +kernel
theorem dX1_push_19 : decode cX1_push 19 = .ok (.aload_n 0, 1) := by decide +kernel
theorem dX1_push_20 : decode cX1_push 20 = .ok (.dup, 1) := by decide +kernel
theorem dX1_push_21 : decode cX1_push 21 = .ok (.getfield 17, 3) := by decide +kernel
theorem dX1_push_24 : decode cX1_push 24 = .ok (.iconst 1, 1) := by decide +kernel
theorem dX1_push_25 : decode cX1_push 25 = .ok (.iadd, 1) := by decide +kernel
theorem dX1_push_26 : decode cX1_push 26 = .ok (.putfield 17, 3) := by decide +kernel
theorem dX1_pop_0 : decode cX1_pop 0 = .ok (.aload_n 0, 1) := by decide +kernel
theorem dX1_pop_1 : decode cX1_pop 1 = .ok (.getfield 17, 3) := by decide +kernel
theorem dX1_pop_4 : decode cX1_pop 4 = .ok (.ifCond .gt 5, 3) := by decide +kernel
theorem dX1_pop_9 : decode cX1_pop 9 = .ok (.aload_n 0, 1) := by decide +kernel
theorem dX1_pop_10 : decode cX1_pop 10 = .ok (.dup, 1) := by decide +kernel
theorem dX1_pop_11 : decode cX1_pop 11 = .ok (.getfield 17, 3) := by decide +kernel
theorem dX1_pop_14 : decode cX1_pop 14 = .ok (.iconst 1, 1) := by decide +kernel
theorem dX1_pop_15 : decode cX1_pop 15 = .ok (.isub, 1) := by decide +kernel
theorem dX1_pop_16 : decode cX1_pop 16 = .ok (.putfield 17, 3) := by decide +kernel
theorem dX1_pop_19 : decode cX1_pop 19 = .ok (.aload_n 0, 1) := by decide +kernel
theorem dX1_pop_20 : decode cX1_pop 20 = .ok (.getfield 13, 3) := by decide +kernel
theorem dX1_pop_23 : decode cX1_pop 23 = .ok (.aload_n 0, 1) := by decide +kernel
theorem dX1_pop_24 : decode cX1_pop 24 = .ok (.getfield 17, 3) := by decide +kernel
theorem dX1_pop_27 : decode cX1_pop 27 = .ok (.laload, 1) := by decide +kernel
theorem dX1_pop_28 : decode cX1_pop 28 = .ok (.lreturn, 1) := by decide +kernel
theorem dX1_pop_7 : decode cX1_pop 7 = .ok (.lconst 0, 1) := by decide +kernel
theorem dX1_pop_8 : decode cX1_pop 8 = .ok (.lreturn, 1) := by decide +kernel
theorem dX1_bounded_0 : decode cX1_bounded 0 = .ok (.aload_n 0, 1) := by decide +kernel
theorem dX1_bounded_1 : decode cX1_bounded 1 = .ok (.aload_n 0, 1) := by decide +kernel
theorem dX1_bounded_2 : decode cX1_bounded 2 = .ok (.getfield 21, 3) := by decide +kernel
theorem dX1_bounded_5 : decode cX1_bounded 5 = .ok (.ifCond .ne 19, 3) := by decide +kernel
theorem dX1_bounded_24 : decode cX1_bounded 24 = .ok (.iconst 1, 1) := by decide +kernel
theorem dX1_bounded_25 : decode cX1_bounded 25 = .ok (.goto 4, 3) := by decide +kernel
theorem dX1_bounded_29 : decode cX1_bounded 29 = .ok (.putfield 21, 3) := by decide +kernel
theorem dX1_bounded_32 : decode cX1_bounded 32 = .ok (.aload_n 0, 1) := by decide +kernel
theorem dX1_bounded_33 : decode cX1_bounded 33 = .ok (.getfield 21, 3) := by decide +kernel
theorem dX1_bounded_36 : decode cX1_bounded 36 = .ok (.ifCond .eq 7, 3) := by decide +kernel
theorem dX1_bounded_39 : decode cX1_bounded 39 = .ok (.lconst 0, 1) := by decide +kernel
theorem dX1_bounded_40 : decode cX1_bounded 40 = .ok (.goto 4, 3) := by decide +kernel
theorem dX1_bounded_44 : decode cX1_bounded 44 = .ok (.lreturn, 1) := by decide +kernel
theorem dX1_bounded_8 : decode cX1_bounded 8 = .ok (.lload_n 1, 1) := by decide +kernel
theorem dX1_bounded_9 : decode cX1_bounded 9 = .ok (.ldc2_w 81, 3) := by decide +kernel
theorem dX1_bounded_12 : decode cX1_bounded 12 = .ok (.lcmp, 1) := by decide +kernel
theorem dX1_bounded_13 : decode cX1_bounded 13 = .ok (.ifCond .gt 11, 3) := by decide +kernel
theorem dX1_bounded_16 : decode cX1_bounded 16 = .ok (.lload_n 1, 1) := by decide +kernel
theorem dX1_bounded_17 : decode cX1_bounded 17 = .ok (.ldc2_w 83, 3) := by decide +kernel
theorem dX1_bounded_20 : decode cX1_bounded 20 = .ok (.lcmp, 1) := by decide +kernel
theorem dX1_bounded_21 : decode cX1_bounded 21 = .ok (.ifCond .ge 7, 3) := by decide +kernel
theorem dX1_bounded_28 : decode cX1_bounded 28 = .ok (.iconst 0, 1) := by decide +kernel
theorem dX1_bounded_43 : decode cX1_bounded 43 = .ok (.lload_n 1, 1) := by decide +kernel
theorem dX1_joined_0 : decode cX1_joined 0 = .ok (.iload_n 1, 1) := by decide +kernel
theorem dX1_joined_1 : decode cX1_joined 1 = .ok (.tableswitch 131 2 7 #[39, 48, 57, 66, 105, 118], 39) := by decide +kernel
theorem dX1_joined_40 : decode cX1_joined 40 = .ok (.aload_n 0, 1) := by decide +kernel
theorem dX1_joined_41 : decode cX1_joined 41 = .ok (.lload_n 2, 1) := by decide +kernel
theorem dX1_joined_42 : decode cX1_joined 42 = .ok (.lload 4, 2) := by decide +kernel
theorem dX1_joined_44 : decode cX1_joined 44 = .ok (.ladd, 1) := by decide +kernel
theorem dX1_joined_45 : decode cX1_joined 45 = .ok (.invokevirtual 77, 3) := by decide +kernel
theorem dX1_joined_48 : decode cX1_joined 48 = .ok (.lreturn, 1) := by decide +kernel
theorem dX1_joined_49 : decode cX1_joined 49 = .ok (.aload_n 0, 1) := by decide +kernel
theorem dX1_joined_50 : decode cX1_joined 50 = .ok (.lload_n 2, 1) := by decide +kernel
theorem dX1_joined_51 : decode cX1_joined 51 = .ok (.lload 4, 2) := by decide +kernel
theorem dX1_joined_53 : decode cX1_joined 53 = .ok (.lsub, 1) := by decide +kernel
theorem dX1_joined_54 : decode cX1_joined 54 = .ok (.invokevirtual 77, 3) := by decide +kernel
theorem dX1_joined_57 : decode cX1_joined 57 = .ok (.lreturn, 1) := by decide +kernel
theorem dX1_joined_58 : decode cX1_joined 58 = .ok (.aload_n 0, 1) := by decide +kernel
theorem dX1_joined_59 : decode cX1_joined 59 = .ok (.lload_n 2, 1) := by decide +kernel
theorem dX1_joined_60 : decode cX1_joined 60 = .ok (.lload 4, 2) := by decide +kernel
theorem dX1_joined_62 : decode cX1_joined 62 = .ok (.lmul, 1) := by decide +kernel
theorem dX1_joined_63 : decode cX1_joined 63 = .ok (.invokevirtual 77, 3) := by decide +kernel
theorem dX1_joined_66 : decode cX1_joined 66 = .ok (.lreturn, 1) := by decide +kernel
theorem dX1_joined_67 : decode cX1_joined 67 = .ok (.aload_n 0, 1) := by decide +kernel
theorem dX1_joined_68 : decode cX1_joined 68 = .ok (.aload_n 0, 1) := by decide +kernel
theorem dX1_joined_69 : decode cX1_joined 69 = .ok (.getfield 21, 3) := by decide +kernel
theorem dX1_joined_72 : decode cX1_joined 72 = .ok (.ifCond .ne 10, 3) := by decide +kernel
theorem dX1_joined_82 : decode cX1_joined 82 = .ok (.iconst 1, 1) := by decide +kernel
theorem dX1_joined_83 : decode cX1_joined 83 = .ok (.goto 4, 3) := by decide +kernel
theorem dX1_joined_87 : decode cX1_joined 87 = .ok (.putfield 21, 3) := by decide +kernel
theorem dX1_joined_90 : decode cX1_joined 90 = .ok (.lload 4, 2) := by decide +kernel
theorem dX1_joined_92 : decode cX1_joined 92 = .ok (.lconst 0, 1) := by decide +kernel
theorem dX1_joined_93 : decode cX1_joined 93 = .ok (.lcmp, 1) := by decide +kernel
theorem dX1_joined_94 : decode cX1_joined 94 = .ok (.ifCond .ne 7, 3) := by decide +kernel
theorem dX1_joined_101 : decode cX1_joined 101 = .ok (.lload_n 2, 1) := by decide +kernel
theorem dX1_joined_102 : decode cX1_joined 102 = .ok (.lload 4, 2) := by decide +kernel
theorem dX1_joined_104 : decode cX1_joined 104 = .ok (.ldiv, 1) := by decide +kernel
theorem dX1_joined_105 : decode cX1_joined 105 = .ok (.lreturn, 1) := by decide +kernel
theorem dX1_joined_97 : decode cX1_joined 97 = .ok (.lconst 0, 1) := by decide +kernel
theorem dX1_joined_98 : decode cX1_joined 98 = .ok (.goto 7, 3) := by decide +kernel
theorem dX1_joined_75 : decode cX1_joined 75 = .ok (.lload 4, 2) := by decide +kernel
theorem dX1_joined_77 : decode cX1_joined 77 = .ok (.lconst 0, 1) := by decide +kernel
theorem dX1_joined_78 : decode cX1_joined 78 = .ok (.lcmp, 1) := by decide +kernel
theorem dX1_joined_79 : decode cX1_joined 79 = .ok (.ifCond .ne 7, 3) := by decide +kernel
theorem dX1_joined_86 : decode cX1_joined 86 = .ok (.iconst 0, 1) := by decide +kernel
theorem dX1_joined_106 : decode cX1_joined 106 = .ok (.lload_n 2, 1) := by decide +kernel
theorem dX1_joined_107 : decode cX1_joined 107 = .ok (.lload 4, 2) := by decide +kernel
theorem dX1_joined_109 : decode cX1_joined 109 = .ok (.lcmp, 1) := by decide +kernel
theorem dX1_joined_110 : decode cX1_joined 110 = .ok (.ifCond .ge 7, 3) := by decide +kernel
theorem dX1_joined_117 : decode cX1_joined 117 = .ok (.lconst 0, 1) := by decide +kernel
theorem dX1_joined_118 : decode cX1_joined 118 = .ok (.lreturn, 1) := by decide +kernel
theorem dX1_joined_113 : decode cX1_joined 113 = .ok (.lconst 1, 1) := by decide +kernel
theorem dX1_joined_114 : decode cX1_joined 114 = .ok (.goto 4, 3) := by decide +kernel
theorem dX1_joined_119 : decode cX1_joined 119 = .ok (.lload_n 2, 1) := by decide +kernel
theorem dX1_joined_120 : decode cX1_joined 120 = .ok (.lload 4, 2) := by decide +kernel
theorem dX1_joined_122 : decode cX1_joined 122 = .ok (.lcmp, 1) := by decide +kernel
theorem dX1_joined_123 : decode cX1_joined 123 = .ok (.ifCond .le 7, 3) := by decide +kernel
theorem dX1_joined_130 : decode cX1_joined 130 = .ok (.lconst 0, 1) := by decide +kernel
theorem dX1_joined_131 : decode cX1_joined 131 = .ok (.lreturn, 1) := by decide +kernel
theorem dX1_joined_126 : decode cX1_joined 126 = .ok (.lconst 1, 1) := by decide +kernel
theorem dX1_joined_127 : decode cX1_joined 127 = .ok (.goto 4, 3) := by decide +kernel
theorem dX1_joined_132 : decode cX1_joined 132 = .ok (.lload_n 2, 1) := by decide +kernel
theorem dX1_joined_133 : decode cX1_joined 133 = .ok (.lload 4, 2) := by decide +kernel
theorem dX1_joined_135 : decode cX1_joined 135 = .ok (.lcmp, 1) := by decide +kernel
theorem dX1_joined_136 : decode cX1_joined 136 = .ok (.ifCond .ne 7, 3) := by decide +kernel
theorem dX1_joined_143 : decode cX1_joined 143 = .ok (.lconst 0, 1) := by decide +kernel
theorem dX1_joined_144 : decode cX1_joined 144 = .ok (.lreturn, 1) := by decide +kernel
theorem dX1_joined_139 : decode cX1_joined 139 = .ok (.lconst 1, 1) := by decide +kernel
theorem dX1_joined_140 : decode cX1_joined 140 = .ok (.goto 4, 3) := by decide +kernel
theorem dX1_run_0 : decode cX1_run 0 = .ok (.iload_n 1, 1) := by decide +kernel
theorem dX1_run_1 : decode cX1_run 1 = .ok (.ifCond .ne 12, 3) := by decide +kernel
theorem dX1_run_13 : decode cX1_run 13 = .ok (.iload_n 1, 1) := by decide +kernel
theorem dX1_run_14 : decode cX1_run 14 = .ok (.iconst 1, 1) := by decide +kernel
theorem dX1_run_15 : decode cX1_run 15 = .ok (.if_icmp .ne 31, 3) := by decide +kernel
theorem dX1_run_46 : decode cX1_run 46 = .ok (.iload_n 1, 1) := by decide +kernel
theorem dX1_run_47 : decode cX1_run 47 = .ok (.bipush 9, 2) := by decide +kernel
theorem dX1_run_49 : decode cX1_run 49 = .ok (.if_icmp .ne 24, 3) := by decide +kernel
theorem dX1_run_73 : decode cX1_run 73 = .ok (.aload_n 0, 1) := by decide +kernel
theorem dX1_run_74 : decode cX1_run 74 = .ok (.invokevirtual 70, 3) := by decide +kernel
theorem dX1_run_77 : decode cX1_run 77 = .ok (.lstore_n 3, 1) := by decide +kernel
theorem dX1_run_78 : decode cX1_run 78 = .ok (.aload_n 0, 1) := by decide +kernel
theorem dX1_run_79 : decode cX1_run 79 = .ok (.aload_n 0, 1) := by decide +kernel
theorem dX1_run_80 : decode cX1_run 80 = .ok (.iload_n 1, 1) := by decide +kernel
theorem dX1_run_81 : decode cX1_run 81 = .ok (.aload_n 0, 1) := by decide +kernel
theorem dX1_run_82 : decode cX1_run 82 = .ok (.invokevirtual 70, 3) := by decide +kernel
theorem dX1_run_85 : decode cX1_run 85 = .ok (.lload_n 3, 1) := by decide +kernel
theorem dX1_run_86 : decode cX1_run 86 = .ok (.invokevirtual 73, 3) := by decide +kernel
theorem dX1_run_89 : decode cX1_run 89 = .ok (.invokevirtual 66, 3) := by decide +kernel
theorem dX1_run_92 : decode cX1_run 92 = .ok (.return_, 1) := by decide +kernel
theorem dX1_run_52 : decode cX1_run 52 = .ok (.aload_n 0, 1) := by decide +kernel
theorem dX1_run_53 : decode cX1_run 53 = .ok (.aload_n 0, 1) := by decide +kernel
theorem dX1_run_54 : decode cX1_run 54 = .ok (.invokevirtual 70, 3) := by decide +kernel
theorem dX1_run_57 : decode cX1_run 57 = .ok (.lconst 0, 1) := by decide +kernel
theorem dX1_run_58 : decode cX1_run 58 = .ok (.lcmp, 1) := by decide +kernel
theorem dX1_run_59 : decode cX1_run 59 = .ok (.ifCond .ne 7, 3) := by decide +kernel
theorem dX1_run_66 : decode cX1_run 66 = .ok (.lconst 0, 1) := by decide +kernel
theorem dX1_run_67 : decode cX1_run 67 = .ok (.invokevirtual 66, 3) := by decide +kernel
theorem dX1_run_70 : decode cX1_run 70 = .ok (.goto 22, 3) := by decide +kernel
theorem dX1_run_62 : decode cX1_run 62 = .ok (.lconst 1, 1) := by decide +kernel
theorem dX1_run_63 : decode cX1_run 63 = .ok (.goto 4, 3) := by decide +kernel
theorem dX1_run_18 : decode cX1_run 18 = .ok (.aload_n 0, 1) := by decide +kernel
theorem dX1_run_19 : decode cX1_run 19 = .ok (.iload_n 2, 1) := by decide +kernel
theorem dX1_run_20 : decode cX1_run 20 = .ok (.ifCond .lt 19, 3) := by decide +kernel
theorem dX1_run_39 : decode cX1_run 39 = .ok (.lconst 0, 1) := by decide +kernel
theorem dX1_run_40 : decode cX1_run 40 = .ok (.invokevirtual 66, 3) := by decide +kernel
theorem dX1_run_43 : decode cX1_run 43 = .ok (.goto 49, 3) := by decide +kernel
theorem dX1_run_23 : decode cX1_run 23 = .ok (.iload_n 2, 1) := by decide +kernel
theorem dX1_run_24 : decode cX1_run 24 = .ok (.bipush 8, 2) := by decide +kernel
theorem dX1_run_26 : decode cX1_run 26 = .ok (.if_icmp .ge 13, 3) := by decide +kernel
theorem dX1_run_29 : decode cX1_run 29 = .ok (.aload_n 0, 1) := by decide +kernel
theorem dX1_run_30 : decode cX1_run 30 = .ok (.getfield 9, 3) := by decide +kernel
theorem dX1_run_33 : decode cX1_run 33 = .ok (.iload_n 2, 1) := by decide +kernel
theorem dX1_run_34 : decode cX1_run 34 = .ok (.iaload, 1) := by decide +kernel
theorem dX1_run_35 : decode cX1_run 35 = .ok (.i2l, 1) := by decide +kernel
theorem dX1_run_36 : decode cX1_run 36 = .ok (.goto 4, 3) := by decide +kernel
theorem dX1_run_4 : decode cX1_run 4 = .ok (.aload_n 0, 1) := by decide +kernel
theorem dX1_run_5 : decode cX1_run 5 = .ok (.iload_n 2, 1) := by decide +kernel
theorem dX1_run_6 : decode cX1_run 6 = .ok (.i2l, 1) := by decide +kernel
theorem dX1_run_7 : decode cX1_run 7 = .ok (.invokevirtual 66, 3) := by decide +kernel
theorem dX1_run_10 : decode cX1_run 10 = .ok (.goto 82, 3) := by decide +kernel
theorem dX1_close_0 : decode cX1_close 0 = .ok (.aload_n 0, 1) := by decide +kernel
theorem dX1_close_1 : decode cX1_close 1 = .ok (.getfield 21, 3) := by decide +kernel
theorem dX1_close_4 : decode cX1_close 4 = .ok (.ifCond .ne 16, 3) := by decide +kernel
theorem dX1_close_20 : decode cX1_close 20 = .ok (.iconst 0, 1) := by decide +kernel
theorem dX1_close_21 : decode cX1_close 21 = .ok (.istore_n 2, 1) := by decide +kernel
theorem dX1_close_22 : decode cX1_close 22 = .ok (.iload_n 1, 1) := by decide +kernel
theorem dX1_close_23 : decode cX1_close 23 = .ok (.bipush 13, 2) := by decide +kernel
theorem dX1_close_25 : decode cX1_close 25 = .ok (.if_icmp .ne 31, 3) := by decide +kernel
theorem dX1_close_56 : decode cX1_close 56 = .ok (.iload_n 1, 1) := by decide +kernel
theorem dX1_close_57 : decode cX1_close 57 = .ok (.bipush 14, 2) := by decide +kernel
theorem dX1_close_59 : decode cX1_close 59 = .ok (.if_icmp .ne 26, 3) := by decide +kernel
theorem dX1_close_85 : decode cX1_close 85 = .ok (.iload_n 2, 1) := by decide +kernel
theorem dX1_close_86 : decode cX1_close 86 = .ok (.ifCond .eq 24, 3) := by decide +kernel
theorem dX1_close_110 : decode cX1_close 110 = .ok (.aload_n 0, 1) := by decide +kernel
theorem dX1_close_111 : decode cX1_close 111 = .ok (.iconst 0, 1) := by decide +kernel
theorem dX1_close_112 : decode cX1_close 112 = .ok (.putfield 17, 3) := by decide +kernel
theorem dX1_close_115 : decode cX1_close 115 = .ok (.aload_n 0, 1) := by decide +kernel
theorem dX1_close_116 : decode cX1_close 116 = .ok (.iconst 0, 1) := by decide +kernel
theorem dX1_close_117 : decode cX1_close 117 = .ok (.putfield 21, 3) := by decide +kernel
theorem dX1_close_120 : decode cX1_close 120 = .ok (.return_, 1) := by decide +kernel
theorem dX1_close_62 : decode cX1_close 62 = .ok (.aload_n 0, 1) := by decide +kernel
theorem dX1_close_63 : decode cX1_close 63 = .ok (.aload_n 0, 1) := by decide +kernel
theorem dX1_close_64 : decode cX1_close 64 = .ok (.getfield 31, 3) := by decide +kernel
theorem dX1_close_67 : decode cX1_close 67 = .ok (.ifCond .ne 7, 3) := by decide +kernel
theorem dX1_close_74 : decode cX1_close 74 = .ok (.iconst 1, 1) := by decide +kernel
theorem dX1_close_75 : decode cX1_close 75 = .ok (.goto 4, 3) := by decide +kernel
theorem dX1_close_79 : decode cX1_close 79 = .ok (.putfield 31, 3) := by decide +kernel
theorem dX1_close_82 : decode cX1_close 82 = .ok (.goto 28, 3) := by decide +kernel
theorem dX1_close_70 : decode cX1_close 70 = .ok (.iload_n 2, 1) := by decide +kernel
theorem dX1_close_71 : decode cX1_close 71 = .ok (.ifCond .eq 7, 3) := by decide +kernel
theorem dX1_close_78 : decode cX1_close 78 = .ok (.iconst 0, 1) := by decide +kernel
theorem dX1_close_28 : decode cX1_close 28 = .ok (.aload_n 0, 1) := by decide +kernel
theorem dX1_close_29 : decode cX1_close 29 = .ok (.iconst 1, 1) := by decide +kernel
theorem dX1_close_30 : decode cX1_close 30 = .ok (.putfield 25, 3) := by decide +kernel
theorem dX1_close_33 : decode cX1_close 33 = .ok (.aload_n 0, 1) := by decide +kernel
theorem dX1_close_34 : decode cX1_close 34 = .ok (.aload_n 0, 1) := by decide +kernel
theorem dX1_close_35 : decode cX1_close 35 = .ok (.getfield 28, 3) := by decide +kernel
theorem dX1_close_38 : decode cX1_close 38 = .ok (.ifCond .ne 7, 3) := by decide +kernel
theorem dX1_close_45 : decode cX1_close 45 = .ok (.iconst 1, 1) := by decide +kernel
theorem dX1_close_46 : decode cX1_close 46 = .ok (.goto 4, 3) := by decide +kernel
theorem dX1_close_50 : decode cX1_close 50 = .ok (.putfield 28, 3) := by decide +kernel
theorem dX1_close_53 : decode cX1_close 53 = .ok (.goto 57, 3) := by decide +kernel
theorem dX1_close_41 : decode cX1_close 41 = .ok (.iload_n 2, 1) := by decide +kernel
theorem dX1_close_42 : decode cX1_close 42 = .ok (.ifCond .eq 7, 3) := by decide +kernel
theorem dX1_close_49 : decode cX1_close 49 = .ok (.iconst 0, 1) := by decide +kernel
theorem dX1_close_7 : decode cX1_close 7 = .ok (.aload_n 0, 1) := by decide +kernel
theorem dX1_close_8 : decode cX1_close 8 = .ok (.invokevirtual 44, 3) := by decide +kernel
theorem dX1_close_11 : decode cX1_close 11 = .ok (.lconst 0, 1) := by decide +kernel
theorem dX1_close_12 : decode cX1_close 12 = .ok (.lcmp, 1) := by decide +kernel
theorem dX1_close_13 : decode cX1_close 13 = .ok (.ifCond .eq 7, 3) := by decide +kernel
theorem dX1_close_16 : decode cX1_close 16 = .ok (.iconst 1, 1) := by decide +kernel
theorem dX1_close_17 : decode cX1_close 17 = .ok (.goto 4, 3) := by decide +kernel
theorem dX1_close_89 : decode cX1_close 89 = .ok (.aload_n 0, 1) := by decide +kernel
theorem dX1_close_90 : decode cX1_close 90 = .ok (.lconst 1, 1) := by decide +kernel
theorem dX1_close_91 : decode cX1_close 91 = .ok (.ldc2_w 58, 3) := by decide +kernel
theorem dX1_close_94 : decode cX1_close 94 = .ok (.aload_n 0, 1) := by decide +kernel
theorem dX1_close_95 : decode cX1_close 95 = .ok (.getfield 13, 3) := by decide +kernel
theorem dX1_close_98 : decode cX1_close 98 = .ok (.iconst 0, 1) := by decide +kernel
theorem dX1_close_99 : decode cX1_close 99 = .ok (.laload, 1) := by decide +kernel
theorem dX1_close_100 : decode cX1_close 100 = .ok (.invokestatic 60, 3) := by decide +kernel
theorem dX1_close_103 : decode cX1_close 103 = .ok (.invokestatic 64, 3) := by decide +kernel
theorem dX1_close_106 : decode cX1_close 106 = .ok (.l2i, 1) := by decide +kernel
theorem dX1_close_107 : decode cX1_close 107 = .ok (.putfield 34, 3) := by decide +kernel
theorem dX1_verdict_0 : decode cX1_verdict 0 = .ok (.aload_n 0, 1) := by decide +kernel
theorem dX1_verdict_1 : decode cX1_verdict 1 = .ok (.invokevirtual 37, 3) := by decide +kernel
theorem dX1_verdict_4 : decode cX1_verdict 4 = .ok (.iconst 0, 1) := by decide +kernel
theorem dX1_verdict_5 : decode cX1_verdict 5 = .ok (.istore_n 2, 1) := by decide +kernel
theorem dX1_verdict_6 : decode cX1_verdict 6 = .ok (.iload_n 2, 1) := by decide +kernel
theorem dX1_verdict_7 : decode cX1_verdict 7 = .ok (.aload_n 1, 1) := by decide +kernel
theorem dX1_verdict_8 : decode cX1_verdict 8 = .ok (.arraylength, 1) := by decide +kernel
theorem dX1_verdict_9 : decode cX1_verdict 9 = .ok (.if_icmp .ge 113, 3) := by decide +kernel
theorem dX1_verdict_122 : decode cX1_verdict 122 = .ok (.aload_n 0, 1) := by decide +kernel
theorem dX1_verdict_123 : decode cX1_verdict 123 = .ok (.getfield 25, 3) := by decide +kernel
theorem dX1_verdict_126 : decode cX1_verdict 126 = .ok (.ifCond .eq 10, 3) := by decide +kernel
theorem dX1_verdict_136 : decode cX1_verdict 136 = .ok (.aload_n 0, 1) := by decide +kernel
theorem dX1_verdict_137 : decode cX1_verdict 137 = .ok (.getfield 9, 3) := by decide +kernel
theorem dX1_verdict_140 : decode cX1_verdict 140 = .ok (.iconst 4, 1) := by decide +kernel
theorem dX1_verdict_141 : decode cX1_verdict 141 = .ok (.iaload, 1) := by decide +kernel
theorem dX1_verdict_142 : decode cX1_verdict 142 = .ok (.iconst 1, 1) := by decide +kernel
theorem dX1_verdict_143 : decode cX1_verdict 143 = .ok (.if_icmp .ne 7, 3) := by decide +kernel
theorem dX1_verdict_150 : decode cX1_verdict 150 = .ok (.iconst 0, 1) := by decide +kernel
theorem dX1_verdict_151 : decode cX1_verdict 151 = .ok (.istore_n 2, 1) := by decide +kernel
theorem dX1_verdict_152 : decode cX1_verdict 152 = .ok (.iload_n 2, 1) := by decide +kernel
theorem dX1_verdict_153 : decode cX1_verdict 153 = .ok (.ifCond .eq 17, 3) := by decide +kernel
theorem dX1_verdict_170 : decode cX1_verdict 170 = .ok (.iconst 0, 1) := by decide +kernel
theorem dX1_verdict_171 : decode cX1_verdict 171 = .ok (.ireturn, 1) := by decide +kernel
theorem dX1_verdict_146 : decode cX1_verdict 146 = .ok (.iconst 1, 1) := by decide +kernel
theorem dX1_verdict_147 : decode cX1_verdict 147 = .ok (.goto 4, 3) := by decide +kernel
theorem dX1_verdict_156 : decode cX1_verdict 156 = .ok (.aload_n 0, 1) := by decide +kernel
theorem dX1_verdict_157 : decode cX1_verdict 157 = .ok (.getfield 31, 3) := by decide +kernel
theorem dX1_verdict_160 : decode cX1_verdict 160 = .ok (.ifCond .ne 10, 3) := by decide +kernel
theorem dX1_verdict_163 : decode cX1_verdict 163 = .ok (.aload_n 0, 1) := by decide +kernel
theorem dX1_verdict_164 : decode cX1_verdict 164 = .ok (.getfield 34, 3) := by decide +kernel
theorem dX1_verdict_167 : decode cX1_verdict 167 = .ok (.goto 4, 3) := by decide +kernel
theorem dX1_verdict_129 : decode cX1_verdict 129 = .ok (.aload_n 0, 1) := by decide +kernel
theorem dX1_verdict_130 : decode cX1_verdict 130 = .ok (.getfield 28, 3) := by decide +kernel
theorem dX1_verdict_133 : decode cX1_verdict 133 = .ok (.goto 18, 3) := by decide +kernel
theorem dX1_verdict_12 : decode cX1_verdict 12 = .ok (.aload_n 1, 1) := by decide +kernel
theorem dX1_verdict_13 : decode cX1_verdict 13 = .ok (.iload_n 2, 1) := by decide +kernel
theorem dX1_verdict_14 : decode cX1_verdict 14 = .ok (.iaload, 1) := by decide +kernel
theorem dX1_verdict_15 : decode cX1_verdict 15 = .ok (.bipush 31, 2) := by decide +kernel
theorem dX1_verdict_17 : decode cX1_verdict 17 = .ok (.iand, 1) := by decide +kernel
theorem dX1_verdict_18 : decode cX1_verdict 18 = .ok (.istore_n 3, 1) := by decide +kernel
theorem dX1_verdict_19 : decode cX1_verdict 19 = .ok (.aload_n 1, 1) := by decide +kernel
theorem dX1_verdict_20 : decode cX1_verdict 20 = .ok (.iload_n 2, 1) := by decide +kernel
theorem dX1_verdict_21 : decode cX1_verdict 21 = .ok (.iaload, 1) := by decide +kernel
theorem dX1_verdict_22 : decode cX1_verdict 22 = .ok (.iconst 5, 1) := by decide +kernel
theorem dX1_verdict_23 : decode cX1_verdict 23 = .ok (.ishr, 1) := by decide +kernel
theorem dX1_verdict_24 : decode cX1_verdict 24 = .ok (.istore 4, 2) := by decide +kernel
theorem dX1_verdict_26 : decode cX1_verdict 26 = .ok (.iload_n 3, 1) := by decide +kernel
theorem dX1_verdict_27 : decode cX1_verdict 27 = .ok (.bipush 12, 2) := by decide +kernel
theorem dX1_verdict_29 : decode cX1_verdict 29 = .ok (.if_icmp .lt 11, 3) := by decide +kernel
theorem dX1_verdict_40 : decode cX1_verdict 40 = .ok (.iload_n 3, 1) := by decide +kernel
theorem dX1_verdict_41 : decode cX1_verdict 41 = .ok (.bipush 10, 2) := by decide +kernel
theorem dX1_verdict_43 : decode cX1_verdict 43 = .ok (.if_icmp .eq 9, 3) := by decide +kernel
theorem dX1_verdict_52 : decode cX1_verdict 52 = .ok (.aload_n 0, 1) := by decide +kernel
theorem dX1_verdict_53 : decode cX1_verdict 53 = .ok (.invokevirtual 44, 3) := by decide +kernel
theorem dX1_verdict_56 : decode cX1_verdict 56 = .ok (.lconst 0, 1) := by decide +kernel
theorem dX1_verdict_57 : decode cX1_verdict 57 = .ok (.lcmp, 1) := by decide +kernel
theorem dX1_verdict_58 : decode cX1_verdict 58 = .ok (.ifCond .eq 7, 3) := by decide +kernel
theorem dX1_verdict_65 : decode cX1_verdict 65 = .ok (.iconst 0, 1) := by decide +kernel
theorem dX1_verdict_66 : decode cX1_verdict 66 = .ok (.iload_n 3, 1) := by decide +kernel
theorem dX1_verdict_67 : decode cX1_verdict 67 = .ok (.bipush 10, 2) := by decide +kernel
theorem dX1_verdict_69 : decode cX1_verdict 69 = .ok (.if_icmp .ne 7, 3) := by decide +kernel
theorem dX1_verdict_72 : decode cX1_verdict 72 = .ok (.iconst 1, 1) := by decide +kernel
theorem dX1_verdict_73 : decode cX1_verdict 73 = .ok (.goto 4, 3) := by decide +kernel
theorem dX1_verdict_77 : decode cX1_verdict 77 = .ok (.if_icmp .ne 15, 3) := by decide +kernel
theorem dX1_verdict_92 : decode cX1_verdict 92 = .ok (.aload_n 0, 1) := by decide +kernel
theorem dX1_verdict_93 : decode cX1_verdict 93 = .ok (.iconst 0, 1) := by decide +kernel
theorem dX1_verdict_94 : decode cX1_verdict 94 = .ok (.aload_n 0, 1) := by decide +kernel
theorem dX1_verdict_95 : decode cX1_verdict 95 = .ok (.getfield 17, 3) := by decide +kernel
theorem dX1_verdict_98 : decode cX1_verdict 98 = .ok (.iconst 1, 1) := by decide +kernel
theorem dX1_verdict_99 : decode cX1_verdict 99 = .ok (.isub, 1) := by decide +kernel
theorem dX1_verdict_100 : decode cX1_verdict 100 = .ok (.invokestatic 48, 3) := by decide +kernel
theorem dX1_verdict_103 : decode cX1_verdict 103 = .ok (.putfield 17, 3) := by decide +kernel
theorem dX1_verdict_106 : decode cX1_verdict 106 = .ok (.goto 10, 3) := by decide +kernel
theorem dX1_verdict_116 : decode cX1_verdict 116 = .ok (.iinc 2 1, 3) := by decide +kernel
theorem dX1_verdict_119 : decode cX1_verdict 119 = .ok (.goto (-113), 3) := by decide +kernel
theorem dX1_verdict_61 : decode cX1_verdict 61 = .ok (.iconst 1, 1) := by decide +kernel
theorem dX1_verdict_62 : decode cX1_verdict 62 = .ok (.goto 4, 3) := by decide +kernel
theorem dX1_verdict_80 : decode cX1_verdict 80 = .ok (.iload_n 2, 1) := by decide +kernel
theorem dX1_verdict_81 : decode cX1_verdict 81 = .ok (.iload 4, 2) := by decide +kernel
theorem dX1_verdict_83 : decode cX1_verdict 83 = .ok (.iconst 1, 1) := by decide +kernel
theorem dX1_verdict_84 : decode cX1_verdict 84 = .ok (.isub, 1) := by decide +kernel
theorem dX1_verdict_85 : decode cX1_verdict 85 = .ok (.invokestatic 48, 3) := by decide +kernel
theorem dX1_verdict_88 : decode cX1_verdict 88 = .ok (.istore_n 2, 1) := by decide +kernel
theorem dX1_verdict_89 : decode cX1_verdict 89 = .ok (.goto 27, 3) := by decide +kernel
theorem dX1_verdict_46 : decode cX1_verdict 46 = .ok (.iload_n 3, 1) := by decide +kernel
theorem dX1_verdict_47 : decode cX1_verdict 47 = .ok (.bipush 11, 2) := by decide +kernel
theorem dX1_verdict_49 : decode cX1_verdict 49 = .ok (.if_icmp .ne 60, 3) := by decide +kernel
theorem dX1_verdict_109 : decode cX1_verdict 109 = .ok (.aload_n 0, 1) := by decide +kernel
theorem dX1_verdict_110 : decode cX1_verdict 110 = .ok (.iload_n 3, 1) := by decide +kernel
theorem dX1_verdict_111 : decode cX1_verdict 111 = .ok (.iload 4, 2) := by decide +kernel
theorem dX1_verdict_113 : decode cX1_verdict 113 = .ok (.invokevirtual 54, 3) := by decide +kernel
theorem dX1_verdict_76 : decode cX1_verdict 76 = .ok (.iconst 0, 1) := by decide +kernel
theorem dX1_verdict_32 : decode cX1_verdict 32 = .ok (.aload_n 0, 1) := by decide +kernel
theorem dX1_verdict_33 : decode cX1_verdict 33 = .ok (.iload_n 3, 1) := by decide +kernel
theorem dX1_verdict_34 : decode cX1_verdict 34 = .ok (.invokevirtual 40, 3) := by decide +kernel
theorem dX1_verdict_37 : decode cX1_verdict 37 = .ok (.goto 79, 3) := by decide +kernel
theorem v_d437d0a088 : (0 : Int) < 8 := by omega
theorem v_a1b5d97753 {a0 : Int} (h0 : 0 ≤ a0) : -1000000000 ≤ a0 := by omega
theorem v_ab15de459c {a0 : Int} (h0 : a0 ≤ 7) : a0 ≤ 1000000000 := by omega
theorem v_d89e2b4e60 : (1 : Int) < 8 := by omega
theorem v_0b505d131c {a0 a1 : Int} : a0 - a1 = -a1 + a0 := by omega
theorem v_92ab544b5f : (0 : Int) ≤ 4 := by omega
theorem v_c1c1c5fa1b : (4 : Int) < 8 := by omega
theorem v_a08f0f7019 {a0 a1 : Int} (h0 : a0 ≤ 7) (h1 : 0 ≤ a1) : -1000000000 ≤ -a0 + a1 := by omega
theorem v_d89d6dcbfb {a0 a1 : Int} (h0 : 0 ≤ a0) (h1 : a1 ≤ 7) : -a0 + a1 ≤ 1000000000 := by omega
theorem v_06d31e7a75 : (0 : Int) ≤ 2 := by omega
theorem v_d49066c1ea : (2 : Int) < 8 := by omega
theorem v_c33180d5d7 : (0 : Int) ≤ 3 := by omega
theorem v_58b9537003 : (3 : Int) < 8 := by omega
theorem v_ae46e08265 : (5 : Int) < 8 := by omega
theorem v_54997b3cd8 : (0 : Int) ≤ 6 := by omega
theorem v_a39c716f51 : (6 : Int) < 8 := by omega
theorem v_ba75b8fd0e {a0 : Int} (h0 : -1000000000 ≤ a0) : -1000000000 ≤ a0 := by omega
theorem v_17fa43f9b8 {a0 : Int} (h0 : a0 ≤ 1000000000) : a0 ≤ 1000000000 := by omega
theorem v_1f6d31d0c4 : (7 : Int) < 8 := by omega
theorem v_dbf0c94dfa {a0 : Int} (h0 : 0 ≤ a0) (h1 : a0 ≤ 64) : zr a0 := by omega
theorem v_fe93de6226 {a0 : Int} (h0 : a0 ≤ 0) : a0 ≤ 0 := by omega
theorem v_3239e84df7 : -(1000000000 : Int) ≤ 0 := by omega
theorem v_375680e715 : (0 : Int) ≤ 1000000000 := by omega
theorem v_35349f94cd {a0 : Int} (h0 : ¬ a0 ≤ 0) : 0 ≤ a0 - 1 := by omega
theorem v_256b48430e {a0 : Int} (h0 : a0 ≤ 64) : a0 - 1 < 64 := by omega
theorem v_8d20adab6a {a0 : Int} (h0 : ¬ a0 ≤ 0) : 0 < a0 := by omega
theorem v_27b619c293 : zr 64 := by omega
theorem v_6b018ca361 {a0 : Int} (h0 : 64 ≤ a0) : 64 ≤ a0 := by omega
theorem v_dd17145130 {a0 : Int} (h0 : ¬ 64 ≤ a0) : a0 < 64 := by omega
theorem v_686e488407 {a0 : Int} (h0 : ¬ 64 ≤ a0) : (a0 + 1) ≤ 64 := by omega
theorem v_7a2f8f4445 {a0 : Int} (h0 : 0 < a0) : 0 ≤ a0 - 1 := by omega
theorem v_8f660c35c5 {a0 : Int} (h0 : 0 < a0) : 0 < a0 := by omega
theorem v_05d2fe76bc {a0 : Int} (h0 : 0 < a0) : 0 ≤ (a0 - 1) := by omega
theorem v_053d5b1993 {a0 : Int} (h0 : a0 ≤ 64) : (a0 - 1) ≤ 64 := by omega
theorem v_5ce54e4ec3 {a0 : Int} (h0 : ¬ 0 < a0) : a0 ≤ 0 := by omega
theorem v_082ba2fd17 {a0 : Int} (h0 : zr64 a0) : zr64 a0 := by omega
theorem v_288b67a6a5 : zr64 1000000000 := by omega
theorem v_51ccf7ebfa {a0 : Int} (h0 : -1 ≤ a0) (h1 : a0 ≤ 1) : zr a0 := by omega
theorem v_33be91acd5 {a0 : Int} (h0 : 1000000000 < a0) : 1000000000 < a0 := by omega
theorem v_ebc4f1cff2 {a0 : Int} (h0 : zr64 a0) (h1 : a0 ≤ 1000000000) : zr64 a0 := by omega
theorem v_db2388b587 : zr64 ((-1000000000)) := by omega
theorem v_98daf06987 {a0 : Int} (h0 : a0 < -1000000000) : a0 < -1000000000 := by omega
theorem v_b7ed5c1d53 {a0 : Int} (h0 : a0 = 2) : a0 = 2 := by omega
theorem v_98c31d82bf {a0 a1 : Int} (h0 : -1000000000 ≤ a0) (h1 : a0 ≤ 1000000000) (h2 : -1000000000 ≤ a1) (h3 : a1 ≤ 1000000000) : zr64 ((a0 + a1)) := by omega
theorem v_24d6576c2f {a0 : Int} (h0 : a0 = 3) : a0 = 3 := by omega
theorem v_8d22173226 {a0 a1 : Int} (h0 : -1000000000 ≤ a0) (h1 : a0 ≤ 1000000000) (h2 : -1000000000 ≤ a1) (h3 : a1 ≤ 1000000000) : zr64 ((a0 - a1)) := by omega
theorem v_e7bb9e21ac {a0 : Int} (h0 : a0 = 4) : a0 = 4 := by omega
theorem v_4c7cfa5d77 {a0 : Int} (h0 : -1000000000000000000 ≤ a0) (h1 : a0 ≤ 1000000000000000000) : zr64 a0 := by omega
theorem v_666cdbe95c {a0 : Int} (h0 : a0 = 5) : a0 = 5 := by omega
theorem v_ce139c3fca {a0 : Int} (h0 : -1000000000 ≤ a0) (h1 : a0 ≤ 1000000000) : zr64 a0 := by omega
theorem v_648c9410ae : zr64 0 := by omega
theorem v_7502709ab7 {a0 : Int} (h0 : ¬ a0 = 0) : ¬ a0 = 0 := by omega
theorem v_2b2aa55e09 {a0 : Int} (h0 : a0 = 0) : a0 = 0 := by omega
theorem v_6e127b7bcc {a0 : Int} (h0 : a0 = 0) : zr64 a0 := by omega
theorem v_b29b8faf05 {a0 : Int} (h0 : a0 = 0) (h1 : ¬ a0 = 0) : ¬ a0 = 0 := by omega
theorem v_2e044925d6 {a0 : Int} (h0 : a0 = 6) : a0 = 6 := by omega
theorem v_d5fda4a597 : -(1000000000 : Int) ≤ 1 := by omega
theorem v_0cb1f8781c : (1 : Int) ≤ 1000000000 := by omega
theorem v_2f5adcf1cf {a0 : Int} (h0 : a0 = 7) : a0 = 7 := by omega
theorem v_c4a725e90c {a0 : Int} (h0 : ¬ a0 = 2) : ¬ a0 = 2 := by omega
theorem v_de0e5a04fb {a0 : Int} (h0 : ¬ a0 = 3) : ¬ a0 = 3 := by omega
theorem v_77b8f78401 {a0 : Int} (h0 : ¬ a0 = 4) : ¬ a0 = 4 := by omega
theorem v_6cacba8012 {a0 : Int} (h0 : ¬ a0 = 5) : ¬ a0 = 5 := by omega
theorem v_9810b78d9a {a0 : Int} (h0 : ¬ a0 = 6) : ¬ a0 = 6 := by omega
theorem v_d915069636 {a0 : Int} (h0 : ¬ a0 = 7) : ¬ a0 = 7 := by omega
theorem v_da5cc3277e {a0 a1 : Int} (h0 : ¬ a0 = a1) : ¬ a0 = a1 := by omega
theorem v_00f9f00cc1 : zr 9 := by omega
theorem v_9c549312fa {a0 : Int} (h0 : ¬ a0 = 1) : ¬ a0 = 1 := by omega
theorem v_e664a28ed0 {a0 : Int} (h0 : ¬ a0 = 9) : ¬ a0 = 9 := by omega
theorem v_953f52f1fe {a0 : Int} (h0 : a0 = 9) : a0 = 9 := by omega
theorem v_3ce1d98944 {a0 : Int} (h0 : -1000000000 ≤ a0) (h1 : a0 ≤ 1000000000) : zr a0 := by omega
theorem v_b757d97f93 {a0 : Int} (h0 : a0 = 1) : a0 = 1 := by omega
theorem v_ec2b319604 {a0 : Int} (h0 : a0 ≤ 1000000000) (h1 : ¬ a0 < 0) : zr a0 := by omega
theorem v_2793fca44f {a0 : Int} (h0 : 8 ≤ a0) : 8 ≤ a0 := by omega
theorem v_9c1fa5e798 : zr 13 := by omega
theorem v_2a4719925a : zr 14 := by omega
theorem v_2f24bcead4 {a0 : Int} (h0 : ¬ a0 = 13) : ¬ a0 = 13 := by omega
theorem v_459daf68aa {a0 : Int} (h0 : ¬ a0 = 14) : ¬ a0 = 14 := by omega
theorem v_2ea180581b {a0 : Int} (h0 : a0 = 14) : a0 = 14 := by omega
theorem v_486f5fb9bb {a0 : Int} (h0 : a0 = 13) : a0 = 13 := by omega
theorem v_29cf2762c2 : (0 : Int) < 64 := by omega
theorem v_a436dc5554 : zr64 99 := by omega
theorem v_c87c4d349e : zr64 1 := by omega
theorem v_5b67f62cd2 {a0 : Int} (h0 : a0 ≤ 99) (h1 : -9223372036854775808 ≤ a0) : zr64 a0 := by omega
theorem v_436b5826f5 {a0 : Int} (h0 : 1 ≤ a0) (h1 : a0 ≤ 99) : zr a0 := by omega
theorem v_9e75938c00 : (0 : Int) ≤ 100000000 := by omega
theorem v_c663bcd230 : (0 : Int) ≤ 64 := by omega
theorem v_561ce076da : (1 : Int) ≤ 99 := by omega
theorem v_49a98948d1 {a0 : Int} (h0 : a0 ≤ 100000) : a0 ≤ 2147483647 := by omega
theorem v_e6f0527522 {a0 : Int} (h0 : 0 ≤ a0) (h1 : a0 ≤ 100000000) : zr a0 := by omega
theorem v_df877c3443 {a0 : Int} (h0 : 0 ≤ a0) (h1 : a0 ≤ 100000) : zr a0 := by omega
theorem v_3176ed3c91 : (0 : Int) ≤ 99 := by omega
theorem v_09d14296a9 {a0 : Int} (h0 : a0 = 0) : ¬ a0 = 1 := by omega
theorem v_b0b962d47e {a0 : Int} (h0 : 0 ≤ a0) (h1 : a0 ≤ 31) : zr a0 := by omega
theorem v_62f826df90 {a0 : Int} (h0 : 0 ≤ a0) (h1 : a0 < 12) : zr a0 := by omega
theorem v_2388fd5833 : zr 10 := by omega
theorem v_14763cd496 {a0 : Int} (h0 : a0 = 10) : zr a0 := by omega
theorem v_9473638d03 {a0 : Int} (h0 : a0 = 10) : a0 = 10 := by omega
theorem v_bdb4d0aa01 : ¬ (0 : Int) = 1 := by omega
theorem v_c2f7ff7d04 {a0 : Int} (h0 : 0 ≤ a0) (h1 : a0 ≤ 64) : zr ((a0 - 1)) := by omega
theorem v_e94bc95826 {a0 a1 : Int} (h0 : a0 ≤ 100000) (h1 : ¬ a0 ≤ a1) : (a1 + 1) ≤ 100000000 := by omega
theorem v_d1c5b1b617 {a0 : Int} (h0 : a0 ≤ 63) : a0 ≤ 64 := by omega
theorem v_0cde637f83 : (1 : Int) = 1 := by omega
theorem v_0800612b1c {a0 a1 : Int} (h0 : -2147483648 ≤ a0) (h1 : zr a1) (h2 : a0 ≤ 32 * a1 + 31) : zr ((a1 - 1)) := by omega
theorem v_797a0596d0 {a0 a1 : Int} (h0 : 0 ≤ a0) (h1 : a0 ≤ a1) : 0 ≤ (a1 + 1) := by omega
theorem v_1e73b16a5c {a0 : Int} (h0 : a0 ≤ 67108864) : (a0 + 1) ≤ 100000000 := by omega
theorem v_a969c14ad4 {a0 a1 a2 : Int} (h0 : a0 ≤ a1) : a2 - (a1 + 1) < (a2 - a0) := by omega
theorem v_d58e110b81 : zr 11 := by omega
theorem v_939dc3be1e {a0 a1 : Int} (h0 : -2147483648 ≤ a0) (h1 : a0 ≤ 32 * a1 + 31) : -1000000000 ≤ a1 := by omega
theorem v_5f1edcd1d7 {a0 a1 : Int} (h0 : a0 ≤ 2147483647) (h1 : 32 * a1 ≤ a0) : a1 ≤ 1000000000 := by omega
theorem v_15ef8a6ca5 {a0 : Int} (h0 : a0 < 12) : a0 < 12 := by omega
theorem v_0282874415 {a0 : Int} (h0 : ¬ a0 = 10) : ¬ a0 = 10 := by omega
theorem v_8d20f4046d {a0 : Int} (h0 : a0 < 12) (h1 : ¬ a0 = 11) : ¬ a0 = 11 := by omega
theorem v_5ffbb452f1 {a0 : Int} (h0 : a0 < 12) (h1 : a0 = 11) : zr a0 := by omega
theorem v_9426cb96a7 {a0 : Int} (h0 : a0 = 11) : ¬ a0 = 10 := by omega
theorem v_e7c2e60e04 {a0 : Int} (h0 : a0 < 12) (h1 : a0 = 11) : a0 = 11 := by omega
theorem v_218a8bd85e {a0 : Int} (h0 : ¬ a0 < 12) : 12 ≤ a0 := by omega
set_option maxHeartbeats 4000000 in
set_option maxRecDepth 100000 in
theorem j_setPlaces {l : Launch} {G : jG} {nh : Nat} {fh : Nat → Option va_E} (x : Int) (y : Int) (wf : Int → Int) (ht : Int) (br : Int) (hl : Int) (le : Int) (ba : Int) (tk : Int) (q0 : 0 ≤ x) (q1 : x ≤ 7) (q2 : 0 ≤ y) (q3 : y ≤ 7) (q4 : Rg wf 8 (-1000000000) 1000000000) (hk58 : fh 58 = some (.inr (1, [.ref 59, .ref 60, .int (zI ht), .int (zI br), .int (zI hl), .int (zI le), .int (zI ba), .int (zI tk)]))) (hk59 : fh 59 = some (.inl (0, 8, .inl (zA wf)))) : JM l G yX1_setPlaces MX1_setPlaces { frames := 0, cells := 0, slots := 0, locals := 0 } [.ref 58, .int (zI x), .int (zI y)] (nh, fh) (fun rr h9 => ∃ wg : Int → Int, rr = none ∧ h9 = (nh, hc fh [(59, .inl (0, 8, .inl (zA wg)))]) ∧ (Rg wg 8 (-1000000000) 1000000000) ∧ (jsP x y wf = wg)) := by
  refine JM.of (by decide) rfl (fun h => by cases h) (Nat.le_of_ble_eq_true rfl) ⟨0, rfl⟩ ?_
  refine J_hc0 (J_ls (ls2 := [some (.ref 58), some (.int (zI x)), some (.int (zI y))]) rfl ?_)
  refine J_aload_n dX1_setPlaces_0 rfl rfl ?_
  refine J_get (v := .ref 59) dX1_setPlaces_1 fl_X1_9 hk58 rfl ?_
  refine Z_iconst (n := 0) dX1_setPlaces_4 ?_
  refine J_iload_n dX1_setPlaces_5 rfl rfl ?_
  refine Y_iast (v := x) 8 dX1_setPlaces_6 hk59 rfl (by decide) v_939070ca3f v_d437d0a088 (fun f1 ef1 => ?_)
  have h2 : Rg f1 8 (-1000000000) 1000000000 := Rg.ups q4 ef1 (v_a1b5d97753 q0) (v_ab15de459c q1)
  refine J_aload_n dX1_setPlaces_7 rfl rfl ?_
  refine J_get (v := .ref 59) dX1_setPlaces_8 fl_X1_9 hk58 rfl ?_
  refine Z_iconst (n := 1) dX1_setPlaces_11 ?_
  refine J_iload_n dX1_setPlaces_12 rfl rfl ?_
  refine Y_iast (v := y) 8 dX1_setPlaces_13 rfl rfl (by decide) v_316afd7d0b v_d89e2b4e60 (fun f3 ef3 => ?_)
  have h4 : Rg f3 8 (-1000000000) 1000000000 := Rg.ups h2 ef3 (v_a1b5d97753 q2) (v_ab15de459c q3)
  refine J_aload_n dX1_setPlaces_14 rfl rfl ?_
  refine J_get (v := .ref 59) dX1_setPlaces_15 fl_X1_9 hk58 rfl ?_
  refine Z_iconst (n := 4) dX1_setPlaces_18 ?_
  refine J_iload_n dX1_setPlaces_19 rfl rfl ?_
  refine J_iload_n dX1_setPlaces_20 rfl rfl ?_
  refine Z_isub (c := -x + y) dX1_setPlaces_21 v_0b505d131c ?_
  refine Y_iast (v := -x + y) 8 dX1_setPlaces_22 rfl rfl (by decide) v_92ab544b5f v_c1c1c5fa1b (fun f5 ef5 => ?_)
  have h6 : Rg f5 8 (-1000000000) 1000000000 := Rg.ups h4 ef5 (v_a08f0f7019 q1 q2) (v_d89d6dcbfb q0 q3)
  refine J_mask (L2 := [(59, .inl (0, 8, .inl (zA f5)))]) (ks := [59, 59, 59]) [true, false, false] rfl (by decide +kernel) rfl ?_
  exact J_vret dX1_setPlaces_23 rfl (Nat.le_of_ble_eq_true rfl) (Nat.le_of_ble_eq_true rfl) ⟨f5, rfl, rfl, h6, (jsP_of ef1 ef3 ef5 (by omega))⟩
set_option maxHeartbeats 4000000 in
set_option maxRecDepth 100000 in
theorem j_setColours {l : Launch} {G : jG} {nh : Nat} {fh : Nat → Option va_E} (x : Int) (y : Int) (z : Int) (wf : Int → Int) (ht : Int) (br : Int) (hl : Int) (le : Int) (ba : Int) (tk : Int) (q0 : 0 ≤ x) (q1 : x ≤ 7) (q2 : 0 ≤ y) (q3 : y ≤ 7) (q4 : 0 ≤ z) (q5 : z ≤ 7) (q6 : Rg wf 8 (-1000000000) 1000000000) (hk58 : fh 58 = some (.inr (1, [.ref 59, .ref 60, .int (zI ht), .int (zI br), .int (zI hl), .int (zI le), .int (zI ba), .int (zI tk)]))) (hk59 : fh 59 = some (.inl (0, 8, .inl (zA wf)))) : JM l G yX1_setColours MX1_setColours { frames := 0, cells := 0, slots := 0, locals := 0 } [.ref 58, .int (zI x), .int (zI y), .int (zI z)] (nh, fh) (fun rr h9 => ∃ wg : Int → Int, rr = none ∧ h9 = (nh, hc fh [(59, .inl (0, 8, .inl (zA wg)))]) ∧ (Rg wg 8 (-1000000000) 1000000000) ∧ (jsC x y z wf = wg)) := by
  refine JM.of (by decide) rfl (fun h => by cases h) (Nat.le_of_ble_eq_true rfl) ⟨0, rfl⟩ ?_
  refine J_hc0 (J_ls (ls2 := [some (.ref 58), some (.int (zI x)), some (.int (zI y)), some (.int (zI z))]) rfl ?_)
  refine J_aload_n dX1_setColours_0 rfl rfl ?_
  refine J_get (v := .ref 59) dX1_setColours_1 fl_X1_9 hk58 rfl ?_
  refine Z_iconst (n := 2) dX1_setColours_4 ?_
  refine J_iload_n dX1_setColours_5 rfl rfl ?_
  refine Y_iast (v := x) 8 dX1_setColours_6 hk59 rfl (by decide) v_06d31e7a75 v_d49066c1ea (fun f1 ef1 => ?_)
  have h2 : Rg f1 8 (-1000000000) 1000000000 := Rg.ups q6 ef1 (v_a1b5d97753 q0) (v_ab15de459c q1)
  refine J_aload_n dX1_setColours_7 rfl rfl ?_
  refine J_get (v := .ref 59) dX1_setColours_8 fl_X1_9 hk58 rfl ?_
  refine Z_iconst (n := 3) dX1_setColours_11 ?_
  refine J_iload_n dX1_setColours_12 rfl rfl ?_
  refine Y_iast (v := y) 8 dX1_setColours_13 rfl rfl (by decide) v_c33180d5d7 v_58b9537003 (fun f3 ef3 => ?_)
  have h4 : Rg f3 8 (-1000000000) 1000000000 := Rg.ups h2 ef3 (v_a1b5d97753 q2) (v_ab15de459c q3)
  refine J_aload_n dX1_setColours_14 rfl rfl ?_
  refine J_get (v := .ref 59) dX1_setColours_15 fl_X1_9 hk58 rfl ?_
  refine Z_iconst (n := 5) dX1_setColours_18 ?_
  refine J_iload_n dX1_setColours_19 rfl rfl ?_
  refine Y_iast (v := z) 8 dX1_setColours_20 rfl rfl (by decide) v_17fcbbe8da v_ae46e08265 (fun f5 ef5 => ?_)
  have h6 : Rg f5 8 (-1000000000) 1000000000 := Rg.ups h4 ef5 (v_a1b5d97753 q4) (v_ab15de459c q5)
  refine J_mask (L2 := [(59, .inl (0, 8, .inl (zA f5)))]) (ks := [59, 59, 59]) [true, false, false] rfl (by decide +kernel) rfl ?_
  exact J_vret dX1_setColours_21 rfl (Nat.le_of_ble_eq_true rfl) (Nat.le_of_ble_eq_true rfl) ⟨f5, rfl, rfl, h6, (jsC_of ef1 ef3 ef5)⟩
set_option maxHeartbeats 4000000 in
set_option maxRecDepth 100000 in
theorem j_setTimes {l : Launch} {G : jG} {nh : Nat} {fh : Nat → Option va_E} (x : Int) (y : Int) (wf : Int → Int) (ht : Int) (br : Int) (hl : Int) (le : Int) (ba : Int) (tk : Int) (q0 : -1000000000 ≤ x) (q1 : x ≤ 1000000000) (q2 : -1000000000 ≤ y) (q3 : y ≤ 1000000000) (q4 : Rg wf 8 (-1000000000) 1000000000) (hk58 : fh 58 = some (.inr (1, [.ref 59, .ref 60, .int (zI ht), .int (zI br), .int (zI hl), .int (zI le), .int (zI ba), .int (zI tk)]))) (hk59 : fh 59 = some (.inl (0, 8, .inl (zA wf)))) : JM l G yX1_setTimes MX1_setTimes { frames := 0, cells := 0, slots := 0, locals := 0 } [.ref 58, .int (zI x), .int (zI y)] (nh, fh) (fun rr h9 => ∃ wg : Int → Int, rr = none ∧ h9 = (nh, hc fh [(59, .inl (0, 8, .inl (zA wg)))]) ∧ (Rg wg 8 (-1000000000) 1000000000) ∧ (jsT x y wf = wg)) := by
  refine JM.of (by decide) rfl (fun h => by cases h) (Nat.le_of_ble_eq_true rfl) ⟨0, rfl⟩ ?_
  refine J_hc0 (J_ls (ls2 := [some (.ref 58), some (.int (zI x)), some (.int (zI y))]) rfl ?_)
  refine J_aload_n dX1_setTimes_0 rfl rfl ?_
  refine J_get (v := .ref 59) dX1_setTimes_1 fl_X1_9 hk58 rfl ?_
  refine Z_bipush (n := 6) dX1_setTimes_4 (by decide +kernel) ?_
  refine J_iload_n dX1_setTimes_6 rfl rfl ?_
  refine Y_iast (v := x) 8 dX1_setTimes_7 hk59 rfl (by decide) v_54997b3cd8 v_a39c716f51 (fun f1 ef1 => ?_)
  have h2 : Rg f1 8 (-1000000000) 1000000000 := Rg.ups q4 ef1 (v_ba75b8fd0e q0) (v_17fa43f9b8 q1)
  refine J_aload_n dX1_setTimes_8 rfl rfl ?_
  refine J_get (v := .ref 59) dX1_setTimes_9 fl_X1_9 hk58 rfl ?_
  refine Z_bipush (n := 7) dX1_setTimes_12 (by decide +kernel) ?_
  refine J_iload_n dX1_setTimes_14 rfl rfl ?_
  refine Y_iast (v := y) 8 dX1_setTimes_15 rfl rfl (by decide) v_9801f0d3f8 v_1f6d31d0c4 (fun f3 ef3 => ?_)
  have h4 : Rg f3 8 (-1000000000) 1000000000 := Rg.ups h2 ef3 (v_ba75b8fd0e q2) (v_17fa43f9b8 q3)
  refine J_mask (L2 := [(59, .inl (0, 8, .inl (zA f3)))]) (ks := [59, 59]) [true, false] rfl (by decide +kernel) rfl ?_
  exact J_vret dX1_setTimes_16 rfl (Nat.le_of_ble_eq_true rfl) (Nat.le_of_ble_eq_true rfl) ⟨f3, rfl, rfl, h4, (jsT_of ef1 ef3)⟩
set_option maxHeartbeats 4000000 in
set_option maxRecDepth 100000 in
theorem j_begin {l : Launch} {G : jG} {nh : Nat} {fh : Nat → Option va_E} (ht : Int) (br : Int) (hl : Int) (le : Int) (ba : Int) (tk : Int) (hk58 : fh 58 = some (.inr (1, [.ref 59, .ref 60, .int (zI ht), .int (zI br), .int (zI hl), .int (zI le), .int (zI ba), .int (zI tk)]))) : JM l G yX1_begin MX1_begin { frames := 0, cells := 0, slots := 0, locals := 0 } [.ref 58] (nh, fh) (fun rr h9 => rr = none ∧ h9 = (nh, hc fh [(58, .inr (1, [.ref 59, .ref 60, .int (zI 0), .int (zI 0), .int (zI 0), .int (zI 0), .int (zI 0), .int (zI 1)]))])) := by
  refine JM.of (by decide) rfl (fun h => by cases h) (Nat.le_of_ble_eq_true rfl) ⟨0, rfl⟩ ?_
  refine J_hc0 (J_ls (ls2 := [some (.ref 58)]) rfl ?_)
  refine J_aload_n dX1_begin_0 rfl rfl ?_
  refine Z_iconst (n := 0) dX1_begin_1 ?_
  refine K_put (fs2 := [.ref 59, .ref 60, .int (zI 0), .int (zI br), .int (zI hl), .int (zI le), .int (zI ba), .int (zI tk)]) dX1_begin_2 fw_X1_17 hk58 (Nat.le_of_ble_eq_true rfl) (fun _ => ⟨rfl, rfl⟩) rfl ?_
  refine J_aload_n dX1_begin_5 rfl rfl ?_
  refine Z_iconst (n := 0) dX1_begin_6 ?_
  refine K_put (fs2 := [.ref 59, .ref 60, .int (zI 0), .int (zI 0), .int (zI hl), .int (zI le), .int (zI ba), .int (zI tk)]) dX1_begin_7 fw_X1_21 rfl (Nat.le_of_ble_eq_true rfl) (jbz v_939070ca3f v_316afd7d0b) rfl ?_
  refine J_aload_n dX1_begin_10 rfl rfl ?_
  refine Z_iconst (n := 0) dX1_begin_11 ?_
  refine K_put (fs2 := [.ref 59, .ref 60, .int (zI 0), .int (zI 0), .int (zI 0), .int (zI le), .int (zI ba), .int (zI tk)]) dX1_begin_12 fw_X1_25 rfl (Nat.le_of_ble_eq_true rfl) (jbz v_939070ca3f v_316afd7d0b) rfl ?_
  refine J_aload_n dX1_begin_15 rfl rfl ?_
  refine Z_iconst (n := 0) dX1_begin_16 ?_
  refine K_put (fs2 := [.ref 59, .ref 60, .int (zI 0), .int (zI 0), .int (zI 0), .int (zI 0), .int (zI ba), .int (zI tk)]) dX1_begin_17 fw_X1_28 rfl (Nat.le_of_ble_eq_true rfl) (jbz v_939070ca3f v_316afd7d0b) rfl ?_
  refine J_aload_n dX1_begin_20 rfl rfl ?_
  refine Z_iconst (n := 0) dX1_begin_21 ?_
  refine K_put (fs2 := [.ref 59, .ref 60, .int (zI 0), .int (zI 0), .int (zI 0), .int (zI 0), .int (zI 0), .int (zI tk)]) dX1_begin_22 fw_X1_31 rfl (Nat.le_of_ble_eq_true rfl) (jbz v_939070ca3f v_316afd7d0b) rfl ?_
  refine J_aload_n dX1_begin_25 rfl rfl ?_
  refine Z_iconst (n := 1) dX1_begin_26 ?_
  refine K_put (fs2 := [.ref 59, .ref 60, .int (zI 0), .int (zI 0), .int (zI 0), .int (zI 0), .int (zI 0), .int (zI 1)]) dX1_begin_27 fw_X1_34 rfl (Nat.le_of_ble_eq_true rfl) (fun _ => ⟨rfl, rfl⟩) rfl ?_
  refine J_mask (L2 := [(58, .inr (1, [.ref 59, .ref 60, .int (zI 0), .int (zI 0), .int (zI 0), .int (zI 0), .int (zI 0), .int (zI 1)]))]) (ks := [58, 58, 58, 58, 58, 58]) [true, false, false, false, false, false] rfl (by decide +kernel) rfl ?_
  exact J_vret dX1_begin_30 rfl (Nat.le_of_ble_eq_true rfl) (Nat.le_of_ble_eq_true rfl) ⟨rfl, rfl⟩
set_option maxHeartbeats 4000000 in
set_option maxRecDepth 100000 in
theorem j_top {l : Launch} {G : jG} {nh : Nat} {fh : Nat → Option va_E} (ht : Int) (br : Int) (hl : Int) (le : Int) (ba : Int) (tk : Int) (kf : Int → Int) (q0 : 0 ≤ ht) (q1 : ht ≤ 64) (q2 : 0 ≤ br) (q3 : br ≤ 1) (q4 : 0 ≤ hl) (q5 : hl ≤ 1) (q6 : 0 ≤ le) (q7 : le ≤ 1) (q8 : 0 ≤ ba) (q9 : ba ≤ 1) (q10 : 1 ≤ tk) (q11 : tk ≤ 99) (q12 : Rg kf 64 (-1000000000) 1000000000) (hk58 : fh 58 = some (.inr (1, [.ref 59, .ref 60, .int (zI ht), .int (zI br), .int (zI hl), .int (zI le), .int (zI ba), .int (zI tk)]))) (hk60 : fh 60 = some (.inl (1, 64, .inr (.inl (zAL kf))))) : JM l G yX1_top MX1_top { frames := 0, cells := 0, slots := 0, locals := 0 } [.ref 58] (nh, fh) (fun rr h9 => ∃ r : Int, rr = some (.long (zL r)) ∧ h9 = (nh, fh) ∧ (jpv ht kf = r) ∧ (-1000000000 ≤ r) ∧ (r ≤ 1000000000)) := by
  refine JM.of (by decide) rfl (fun h => by cases h) (Nat.le_of_ble_eq_true rfl) ⟨0, rfl⟩ ?_
  refine J_hc0 (J_ls (ls2 := [some (.ref 58)]) rfl ?_)
  refine J_aload_n dX1_top_0 rfl rfl ?_
  refine J_get (v := .int (zI ht)) dX1_top_1 fl_X1_17 hk58 rfl ?_
  refine Z_if_le (tgt := 21) dX1_top_4 (by decide) (v_dbf0c94dfa q0 q1) (fun h1 => ?_) (fun h1 => ?_)
  · refine J_lconst (v := zL 0) dX1_top_21 (by decide +kernel) ?_
    exact J_lret dX1_top_22 rfl (Nat.le_of_ble_eq_true rfl) (Nat.le_of_ble_eq_true rfl) ⟨0, rfl, rfl, (jpv_neg (v_fe93de6226 h1)), v_3239e84df7, v_375680e715⟩
  · refine J_aload_n dX1_top_7 rfl rfl ?_
    refine J_get (v := .ref 60) dX1_top_8 fl_X1_13 hk58 rfl ?_
    refine J_aload_n dX1_top_11 rfl rfl ?_
    refine J_get (v := .int (zI ht)) dX1_top_12 fl_X1_17 hk58 rfl ?_
    refine Z_iconst (n := 1) dX1_top_15 ?_
    refine Z_isub (c := ht - 1) dX1_top_16 rfl ?_
    obtain ⟨z2, ez2⟩ : ∃ z : Int, kf (ht - 1) = z := ⟨_, rfl⟩
    have h3 := Rg.at q12 (v_35349f94cd h1) (v_256b48430e q1) ez2
    refine Y_lald (z := z2) 64 dX1_top_17 hk60 rfl (by decide) (v_35349f94cd h1) (v_256b48430e q1) (congrArg zL ez2) ?_
    refine J_goto (tgt := 22) dX1_top_18 (by decide) ?_
    exact J_lret dX1_top_22 rfl (Nat.le_of_ble_eq_true rfl) (Nat.le_of_ble_eq_true rfl) ⟨z2, rfl, rfl, (jpv_pos (v_8d20adab6a h1) ez2), h3.1, h3.2⟩
set_option maxHeartbeats 4000000 in
set_option maxRecDepth 100000 in
theorem j_push {l : Launch} {G : jG} {nh : Nat} {fh : Nat → Option va_E} (x : Int) (ht : Int) (br : Int) (hl : Int) (le : Int) (ba : Int) (tk : Int) (kf : Int → Int) (q0 : -1000000000 ≤ x) (q1 : x ≤ 1000000000) (q2 : 0 ≤ ht) (q3 : ht ≤ 64) (q4 : 0 ≤ br) (q5 : br ≤ 1) (q6 : 0 ≤ hl) (q7 : hl ≤ 1) (q8 : 0 ≤ le) (q9 : le ≤ 1) (q10 : 0 ≤ ba) (q11 : ba ≤ 1) (q12 : 1 ≤ tk) (q13 : tk ≤ 99) (q14 : Rg kf 64 (-1000000000) 1000000000) (hk58 : fh 58 = some (.inr (1, [.ref 59, .ref 60, .int (zI ht), .int (zI br), .int (zI hl), .int (zI le), .int (zI ba), .int (zI tk)]))) (hk60 : fh 60 = some (.inl (1, 64, .inr (.inl (zAL kf))))) : JM l G yX1_push MX1_push { frames := 0, cells := 0, slots := 0, locals := 0 } [.ref 58, .long (zL x)] (nh, fh) (fun rr h9 => ∃ ht2 : Int, ∃ kg : Int → Int, rr = none ∧ h9 = (nh, hc fh [(58, .inr (1, [.ref 59, .ref 60, .int (zI ht2), .int (zI br), .int (zI hl), .int (zI le), .int (zI ba), .int (zI tk)])), (60, .inl (1, 64, .inr (.inl (zAL kg))))]) ∧ (jpu x ht kf = (ht2, kg)) ∧ (0 ≤ ht2) ∧ (ht2 ≤ 64) ∧ (Rg kg 64 (-1000000000) 1000000000)) := by
  refine JM.of (by decide) rfl (fun h => by cases h) (Nat.le_of_ble_eq_true rfl) ⟨0, rfl⟩ ?_
  refine J_hc0 (J_ls (ls2 := [some (.ref 58), some (.long (zL x)), none]) rfl ?_)
  refine J_aload_n dX1_push_0 rfl rfl ?_
  refine J_get (v := .int (zI ht)) dX1_push_1 fl_X1_17 hk58 rfl ?_
  refine Z_bipush (n := 64) dX1_push_4 (by decide +kernel) ?_
  refine Z_icmp_ge (tgt := 29) dX1_push_6 (by decide) (v_dbf0c94dfa q2 q3) v_27b619c293 (fun h1 => ?_) (fun h1 => ?_)
  · refine J_touch (k := 60) (e := .inl (1, 64, .inr (.inl (zAL kf)))) hk60 ?_
    refine J_touch (k := 58) (e := .inr (1, [.ref 59, .ref 60, .int (zI ht), .int (zI br), .int (zI hl), .int (zI le), .int (zI ba), .int (zI tk)])) hk58 ?_
    exact J_vret dX1_push_29 rfl (Nat.le_of_ble_eq_true rfl) (Nat.le_of_ble_eq_true rfl) ⟨ht, kf, rfl, rfl, (jpu_neg (v_6b018ca361 h1)), q2, q3, q14⟩
  · refine J_aload_n dX1_push_9 rfl rfl ?_
    refine J_get (v := .ref 60) dX1_push_10 fl_X1_13 hk58 rfl ?_
    refine J_aload_n dX1_push_13 rfl rfl ?_
    refine J_get (v := .int (zI ht)) dX1_push_14 fl_X1_17 hk58 rfl ?_
    refine J_lload_n dX1_push_17 rfl rfl ?_
    refine Y_last (v := x) 64 dX1_push_18 hk60 rfl (by decide) (v_2b02420001 q2) (v_dd17145130 h1) (fun f2 ef2 => ?_)
    have h3 : Rg f2 64 (-1000000000) 1000000000 := Rg.ups q14 ef2 (v_ba75b8fd0e q0) (v_17fa43f9b8 q1)
    refine J_aload_n dX1_push_19 rfl rfl ?_
    refine J_dup dX1_push_20 rfl ?_
    refine J_get (v := .int (zI ht)) dX1_push_21 fl_X1_17 hk58 rfl ?_
    refine Z_iconst (n := 1) dX1_push_24 ?_
    refine Z_iadd (c := ht + 1) dX1_push_25 rfl ?_
    refine K_put (fs2 := [.ref 59, .ref 60, .int (zI (ht + 1)), .int (zI br), .int (zI hl), .int (zI le), .int (zI ba), .int (zI tk)]) dX1_push_26 fw_X1_17 hk58 (Nat.le_of_ble_eq_true rfl) (fun _ => ⟨rfl, rfl⟩) rfl ?_
    exact J_vret dX1_push_29 rfl (Nat.le_of_ble_eq_true rfl) (Nat.le_of_ble_eq_true rfl) ⟨(ht + 1), f2, rfl, rfl, (jpu_pos (v_dd17145130 h1) ef2), (v_da458fa48a q2), (v_686e488407 h1), h3⟩
set_option maxHeartbeats 4000000 in
set_option maxRecDepth 100000 in
theorem j_pop {l : Launch} {G : jG} {nh : Nat} {fh : Nat → Option va_E} (ht : Int) (br : Int) (hl : Int) (le : Int) (ba : Int) (tk : Int) (kf : Int → Int) (q0 : 0 ≤ ht) (q1 : ht ≤ 64) (q2 : 0 ≤ br) (q3 : br ≤ 1) (q4 : 0 ≤ hl) (q5 : hl ≤ 1) (q6 : 0 ≤ le) (q7 : le ≤ 1) (q8 : 0 ≤ ba) (q9 : ba ≤ 1) (q10 : 1 ≤ tk) (q11 : tk ≤ 99) (q12 : Rg kf 64 (-1000000000) 1000000000) (hk58 : fh 58 = some (.inr (1, [.ref 59, .ref 60, .int (zI ht), .int (zI br), .int (zI hl), .int (zI le), .int (zI ba), .int (zI tk)]))) (hk60 : fh 60 = some (.inl (1, 64, .inr (.inl (zAL kf))))) : JM l G yX1_pop MX1_pop { frames := 0, cells := 0, slots := 0, locals := 0 } [.ref 58] (nh, fh) (fun rr h9 => ∃ r : Int, ∃ ht2 : Int, rr = some (.long (zL r)) ∧ h9 = (nh, hc fh [(58, .inr (1, [.ref 59, .ref 60, .int (zI ht2), .int (zI br), .int (zI hl), .int (zI le), .int (zI ba), .int (zI tk)]))]) ∧ (jpv ht kf = r) ∧ (jph ht = ht2) ∧ (0 ≤ ht2) ∧ (ht2 ≤ 64) ∧ (-1000000000 ≤ r) ∧ (r ≤ 1000000000)) := by
  refine JM.of (by decide) rfl (fun h => by cases h) (Nat.le_of_ble_eq_true rfl) ⟨0, rfl⟩ ?_
  refine J_hc0 (J_ls (ls2 := [some (.ref 58)]) rfl ?_)
  refine J_aload_n dX1_pop_0 rfl rfl ?_
  refine J_get (v := .int (zI ht)) dX1_pop_1 fl_X1_17 hk58 rfl ?_
  refine Z_if_gt (tgt := 9) dX1_pop_4 (by decide) (v_dbf0c94dfa q0 q1) (fun h1 => ?_) (fun h1 => ?_)
  · refine J_aload_n dX1_pop_9 rfl rfl ?_
    refine J_dup dX1_pop_10 rfl ?_
    refine J_get (v := .int (zI ht)) dX1_pop_11 fl_X1_17 hk58 rfl ?_
    refine Z_iconst (n := 1) dX1_pop_14 ?_
    refine Z_isub (c := ht - 1) dX1_pop_15 rfl ?_
    refine K_put (fs2 := [.ref 59, .ref 60, .int (zI (ht - 1)), .int (zI br), .int (zI hl), .int (zI le), .int (zI ba), .int (zI tk)]) dX1_pop_16 fw_X1_17 hk58 (Nat.le_of_ble_eq_true rfl) (fun _ => ⟨rfl, rfl⟩) rfl ?_
    refine J_aload_n dX1_pop_19 rfl rfl ?_
    refine J_get (v := .ref 60) dX1_pop_20 fl_X1_13 rfl rfl ?_
    refine J_aload_n dX1_pop_23 rfl rfl ?_
    refine J_get (v := .int (zI (ht - 1))) dX1_pop_24 fl_X1_17 rfl rfl ?_
    obtain ⟨z2, ez2⟩ : ∃ z : Int, kf (ht - 1) = z := ⟨_, rfl⟩
    have h3 := Rg.at q12 (v_7a2f8f4445 h1) (v_256b48430e q1) ez2
    refine Y_lald (z := z2) 64 dX1_pop_27 hk60 rfl (by decide) (v_7a2f8f4445 h1) (v_256b48430e q1) (congrArg zL ez2) ?_
    exact J_lret dX1_pop_28 rfl (Nat.le_of_ble_eq_true rfl) (Nat.le_of_ble_eq_true rfl) ⟨z2, (ht - 1), rfl, rfl, (jpv_pos (v_8f660c35c5 h1) ez2), (jph_pos (v_8f660c35c5 h1)), (v_05d2fe76bc h1), (v_053d5b1993 q1), h3.1, h3.2⟩
  · refine J_lconst (v := zL 0) dX1_pop_7 (by decide +kernel) ?_
    refine J_touch (k := 58) (e := .inr (1, [.ref 59, .ref 60, .int (zI ht), .int (zI br), .int (zI hl), .int (zI le), .int (zI ba), .int (zI tk)])) hk58 ?_
    exact J_lret dX1_pop_8 rfl (Nat.le_of_ble_eq_true rfl) (Nat.le_of_ble_eq_true rfl) ⟨0, ht, rfl, rfl, (jpv_neg (v_5ce54e4ec3 h1)), (jph_neg (v_5ce54e4ec3 h1)), q0, q1, v_3239e84df7, v_375680e715⟩
set_option maxHeartbeats 4000000 in
set_option maxRecDepth 100000 in
theorem j_bounded {l : Launch} {G : jG} {nh : Nat} {fh : Nat → Option va_E} (x : Int) (ht : Int) (br : Int) (hl : Int) (le : Int) (ba : Int) (tk : Int) (q0 : zr64 x) (q1 : 0 ≤ ht) (q2 : ht ≤ 64) (q3 : 0 ≤ br) (q4 : br ≤ 1) (q5 : 0 ≤ hl) (q6 : hl ≤ 1) (q7 : 0 ≤ le) (q8 : le ≤ 1) (q9 : 0 ≤ ba) (q10 : ba ≤ 1) (q11 : 1 ≤ tk) (q12 : tk ≤ 99) (hk58 : fh 58 = some (.inr (1, [.ref 59, .ref 60, .int (zI ht), .int (zI br), .int (zI hl), .int (zI le), .int (zI ba), .int (zI tk)]))) : JM l G yX1_bounded MX1_bounded { frames := 0, cells := 0, slots := 0, locals := 0 } [.ref 58, .long (zL x)] (nh, fh) (fun rr h9 => ∃ r : Int, ∃ br2 : Int, rr = some (.long (zL r)) ∧ h9 = (nh, hc fh [(58, .inr (1, [.ref 59, .ref 60, .int (zI ht), .int (zI br2), .int (zI hl), .int (zI le), .int (zI ba), .int (zI tk)]))]) ∧ (jbd x br = (r, br2)) ∧ (0 ≤ br2) ∧ (br2 ≤ 1) ∧ (-1000000000 ≤ r) ∧ (r ≤ 1000000000)) := by
  refine JM.of (by decide) rfl (fun h => by cases h) (Nat.le_of_ble_eq_true rfl) ⟨0, rfl⟩ ?_
  refine J_hc0 (J_ls (ls2 := [some (.ref 58), some (.long (zL x)), none]) rfl ?_)
  refine J_aload_n dX1_bounded_0 rfl rfl ?_
  refine J_aload_n dX1_bounded_1 rfl rfl ?_
  refine J_get (v := .int (zI br)) dX1_bounded_2 fl_X1_21 hk58 rfl ?_
  refine Z_if_ne (tgt := 24) dX1_bounded_5 (by decide) (v_5f10a759cd q3 q4) (fun h1 => ?_) (fun h1 => ?_)
  · refine Z_iconst (n := 1) dX1_bounded_24 ?_
    refine J_goto (tgt := 29) dX1_bounded_25 (by decide) ?_
    refine K_put (fs2 := [.ref 59, .ref 60, .int (zI ht), .int (zI 1), .int (zI hl), .int (zI le), .int (zI ba), .int (zI tk)]) dX1_bounded_29 fw_X1_21 hk58 (Nat.le_of_ble_eq_true rfl) (jbz v_316afd7d0b v_bbcfac9b7d) rfl ?_
    refine J_aload_n dX1_bounded_32 rfl rfl ?_
    refine J_get (v := .int (zI 1)) dX1_bounded_33 fl_X1_21 rfl rfl ?_
    refine Z_if_eq (tgt := 43) dX1_bounded_36 (by decide) v_4dcc24baa7 (fun h2 => absurd h2 v_3a47bfd896) (fun h2 => ?_)
    refine J_lconst (v := zL 0) dX1_bounded_39 (by decide +kernel) ?_
    refine J_goto (tgt := 44) dX1_bounded_40 (by decide) ?_
    exact J_lret dX1_bounded_44 rfl (Nat.le_of_ble_eq_true rfl) (Nat.le_of_ble_eq_true rfl) ⟨0, 1, rfl, rfl, (jbd_1 (v_8b15499c4b q3 q4 h1)), v_316afd7d0b, v_bbcfac9b7d, v_3239e84df7, v_375680e715⟩
  · refine J_lload_n dX1_bounded_8 rfl rfl ?_
    refine J_ldc2 (v := zL 1000000000) dX1_bounded_9 (jt4 166 rfl rfl) ?_
    refine Y_lcmp dX1_bounded_12 (v_082ba2fd17 q0) v_288b67a6a5 (fun z3 z3a z3b z3c z3d => ?_)
    refine Z_if_gt (tgt := 24) dX1_bounded_13 (by decide) (v_51ccf7ebfa z3a z3b) (fun h4 => ?_) (fun h4 => ?_)
    · have h5 : 1000000000 < x := by omega
      refine Z_iconst (n := 1) dX1_bounded_24 ?_
      refine J_goto (tgt := 29) dX1_bounded_25 (by decide) ?_
      refine K_put (fs2 := [.ref 59, .ref 60, .int (zI ht), .int (zI 1), .int (zI hl), .int (zI le), .int (zI ba), .int (zI tk)]) dX1_bounded_29 fw_X1_21 hk58 (Nat.le_of_ble_eq_true rfl) (jbz v_316afd7d0b v_bbcfac9b7d) rfl ?_
      refine J_aload_n dX1_bounded_32 rfl rfl ?_
      refine J_get (v := .int (zI 1)) dX1_bounded_33 fl_X1_21 rfl rfl ?_
      refine Z_if_eq (tgt := 43) dX1_bounded_36 (by decide) v_4dcc24baa7 (fun h6 => absurd h6 v_3a47bfd896) (fun h6 => ?_)
      refine J_lconst (v := zL 0) dX1_bounded_39 (by decide +kernel) ?_
      refine J_goto (tgt := 44) dX1_bounded_40 (by decide) ?_
      exact J_lret dX1_bounded_44 rfl (Nat.le_of_ble_eq_true rfl) (Nat.le_of_ble_eq_true rfl) ⟨0, 1, rfl, rfl, (jbd_2 (v_33be91acd5 h5)), v_316afd7d0b, v_bbcfac9b7d, v_3239e84df7, v_375680e715⟩
    · have h7 : x ≤ 1000000000 := by omega
      refine J_lload_n dX1_bounded_16 rfl rfl ?_
      refine J_ldc2 (v := zL (-1000000000)) dX1_bounded_17 (jt4 167 rfl rfl) ?_
      refine Y_lcmp dX1_bounded_20 (v_ebc4f1cff2 q0 h7) v_db2388b587 (fun z8 z8a z8b z8c z8d => ?_)
      refine Z_if_ge (tgt := 28) dX1_bounded_21 (by decide) (v_51ccf7ebfa z8a z8b) (fun h9 => ?_) (fun h9 => ?_)
      · have h10 : -1000000000 ≤ x := by omega
        refine Z_iconst (n := 0) dX1_bounded_28 ?_
        refine K_put (fs2 := [.ref 59, .ref 60, .int (zI ht), .int (zI 0), .int (zI hl), .int (zI le), .int (zI ba), .int (zI tk)]) dX1_bounded_29 fw_X1_21 hk58 (Nat.le_of_ble_eq_true rfl) (jbz v_939070ca3f v_316afd7d0b) rfl ?_
        refine J_aload_n dX1_bounded_32 rfl rfl ?_
        refine J_get (v := .int (zI 0)) dX1_bounded_33 fl_X1_21 rfl rfl ?_
        refine Z_if_eq (tgt := 43) dX1_bounded_36 (by decide) v_b17331891f (fun h11 => ?_) (fun h11 => absurd h11 (fun q => q v_2ca2bbca1f))
        refine J_lload_n dX1_bounded_43 rfl rfl ?_
        exact J_lret dX1_bounded_44 rfl (Nat.le_of_ble_eq_true rfl) (Nat.le_of_ble_eq_true rfl) ⟨x, 0, rfl, rfl, (jbd_0 (v_bd6c74a791 q3 h1) (v_ba75b8fd0e h10) (v_17fa43f9b8 h7)), v_939070ca3f, v_316afd7d0b, h10, h7⟩
      · have h12 : x < -1000000000 := by omega
        refine Z_iconst (n := 1) dX1_bounded_24 ?_
        refine J_goto (tgt := 29) dX1_bounded_25 (by decide) ?_
        refine K_put (fs2 := [.ref 59, .ref 60, .int (zI ht), .int (zI 1), .int (zI hl), .int (zI le), .int (zI ba), .int (zI tk)]) dX1_bounded_29 fw_X1_21 hk58 (Nat.le_of_ble_eq_true rfl) (jbz v_316afd7d0b v_bbcfac9b7d) rfl ?_
        refine J_aload_n dX1_bounded_32 rfl rfl ?_
        refine J_get (v := .int (zI 1)) dX1_bounded_33 fl_X1_21 rfl rfl ?_
        refine Z_if_eq (tgt := 43) dX1_bounded_36 (by decide) v_4dcc24baa7 (fun h13 => absurd h13 v_3a47bfd896) (fun h13 => ?_)
        refine J_lconst (v := zL 0) dX1_bounded_39 (by decide +kernel) ?_
        refine J_goto (tgt := 44) dX1_bounded_40 (by decide) ?_
        exact J_lret dX1_bounded_44 rfl (Nat.le_of_ble_eq_true rfl) (Nat.le_of_ble_eq_true rfl) ⟨0, 1, rfl, rfl, (jbd_3 (v_98daf06987 h12)), v_316afd7d0b, v_bbcfac9b7d, v_3239e84df7, v_375680e715⟩
set_option maxHeartbeats 4000000 in
set_option maxRecDepth 100000 in
theorem j_joined {l : Launch} {G : jG} {nh : Nat} {fh : Nat → Option va_E} (k : Int) (x : Int) (y : Int) (ht : Int) (br : Int) (hl : Int) (le : Int) (ba : Int) (tk : Int) (q0 : zr k) (q1 : -1000000000 ≤ x) (q2 : x ≤ 1000000000) (q3 : -1000000000 ≤ y) (q4 : y ≤ 1000000000) (q5 : 0 ≤ ht) (q6 : ht ≤ 64) (q7 : 0 ≤ br) (q8 : br ≤ 1) (q9 : 0 ≤ hl) (q10 : hl ≤ 1) (q11 : 0 ≤ le) (q12 : le ≤ 1) (q13 : 0 ≤ ba) (q14 : ba ≤ 1) (q15 : 1 ≤ tk) (q16 : tk ≤ 99) (hk58 : fh 58 = some (.inr (1, [.ref 59, .ref 60, .int (zI ht), .int (zI br), .int (zI hl), .int (zI le), .int (zI ba), .int (zI tk)]))) : JM l G yX1_joined MX1_joined { frames := 1, cells := 0, slots := 0, locals := 22 } [.ref 58, .int (zI k), .long (zL x), .long (zL y)] (nh, fh) (fun rr h9 => ∃ r : Int, ∃ br2 : Int, rr = some (.long (zL r)) ∧ h9 = (nh, hc fh [(58, .inr (1, [.ref 59, .ref 60, .int (zI ht), .int (zI br2), .int (zI hl), .int (zI le), .int (zI ba), .int (zI tk)]))]) ∧ (jjn k x y br = (r, br2)) ∧ (0 ≤ br2) ∧ (br2 ≤ 1) ∧ (-1000000000 ≤ r) ∧ (r ≤ 1000000000)) := by
  refine JM.of (by decide) rfl (fun h => by cases h) (Nat.le_of_ble_eq_true rfl) ⟨0, rfl⟩ ?_
  refine J_hc0 (J_ls (ls2 := [some (.ref 58), some (.int (zI k)), some (.long (zL x)), none, some (.long (zL y)), none]) rfl ?_)
  refine J_iload_n dX1_joined_0 rfl rfl ?_
  by_cases h1 : k = 2
  · refine Z_tableIn (tgt := 40) (off := 39) 2 dX1_joined_1 (v_b25fa51a85 q0) (v_b7ed5c1d53 h1) (by decide) (by decide) (by decide) (by decide) ?_
    refine J_aload_n dX1_joined_40 rfl rfl ?_
    refine J_lload_n dX1_joined_41 rfl rfl ?_
    refine J_lload dX1_joined_42 rfl ?_
    refine Y_ladd (c := x + y) dX1_joined_44 rfl ?_
    refine J_callV (st := []) dX1_joined_45 cv_X1_77 (j_bounded (x + y) ht br hl le ba tk (v_98c31d82bf q1 q2 q3 q4) q5 q6 q7 q8 q9 q10 q11 q12 q13 q14 q15 q16 hk58) hk58 rfl rfl (Nat.le_of_ble_eq_true rfl) ⟨(Nat.le_of_ble_eq_true rfl), (Nat.le_of_ble_eq_true rfl)⟩ ⟨(Nat.le_of_ble_eq_true rfl), (Nat.le_of_ble_eq_true rfl)⟩ (fun r h9 hp => ?_)
    obtain ⟨z2, z3, rfl, rfl, h4, h5, h6, h7, h8⟩ := hp
    refine J_nf (nh2 := nh) (ck2 := 0) (sk2 := 0) (st2 := [.long (zL z2)]) rfl rfl rfl rfl ?_
    refine J_app (L3 := [(58, .inr (1, [.ref 59, .ref 60, .int (zI ht), .int (zI z3), .int (zI hl), .int (zI le), .int (zI ba), .int (zI tk)]))]) rfl ?_
    exact J_lret dX1_joined_48 rfl (Nat.le_of_ble_eq_true rfl) (Nat.le_of_ble_eq_true rfl) ⟨z2, z3, rfl, rfl, (jjn_2 (v_b7ed5c1d53 h1) h4), h5, h6, h7, h8⟩
  by_cases h9 : k = 3
  · refine Z_tableIn (tgt := 49) (off := 48) 3 dX1_joined_1 (v_b25fa51a85 q0) (v_24d6576c2f h9) (by decide) (by decide) (by decide) (by decide) ?_
    refine J_aload_n dX1_joined_49 rfl rfl ?_
    refine J_lload_n dX1_joined_50 rfl rfl ?_
    refine J_lload dX1_joined_51 rfl ?_
    refine Y_lsub (c := x - y) dX1_joined_53 rfl ?_
    refine J_callV (st := []) dX1_joined_54 cv_X1_77 (j_bounded (x - y) ht br hl le ba tk (v_8d22173226 q1 q2 q3 q4) q5 q6 q7 q8 q9 q10 q11 q12 q13 q14 q15 q16 hk58) hk58 rfl rfl (Nat.le_of_ble_eq_true rfl) ⟨(Nat.le_of_ble_eq_true rfl), (Nat.le_of_ble_eq_true rfl)⟩ ⟨(Nat.le_of_ble_eq_true rfl), (Nat.le_of_ble_eq_true rfl)⟩ (fun r h9 hp => ?_)
    obtain ⟨z10, z11, rfl, rfl, h12, h13, h14, h15, h16⟩ := hp
    refine J_nf (nh2 := nh) (ck2 := 0) (sk2 := 0) (st2 := [.long (zL z10)]) rfl rfl rfl rfl ?_
    refine J_app (L3 := [(58, .inr (1, [.ref 59, .ref 60, .int (zI ht), .int (zI z11), .int (zI hl), .int (zI le), .int (zI ba), .int (zI tk)]))]) rfl ?_
    exact J_lret dX1_joined_57 rfl (Nat.le_of_ble_eq_true rfl) (Nat.le_of_ble_eq_true rfl) ⟨z10, z11, rfl, rfl, (jjn_3 (v_24d6576c2f h9) h12), h13, h14, h15, h16⟩
  by_cases h17 : k = 4
  · refine Z_tableIn (tgt := 58) (off := 57) 4 dX1_joined_1 (v_b25fa51a85 q0) (v_e7bb9e21ac h17) (by decide) (by decide) (by decide) (by decide) ?_
    refine J_aload_n dX1_joined_58 rfl rfl ?_
    refine J_lload_n dX1_joined_59 rfl rfl ?_
    refine J_lload dX1_joined_60 rfl ?_
    obtain ⟨z18, ez18⟩ : ∃ z : Int, x * y = z := ⟨_, rfl⟩
    refine Y_lmul (c := z18) dX1_joined_62 ez18 ?_
    have h19 := mul_bd ez18 (v_ba75b8fd0e q1) (v_17fa43f9b8 q2) (v_ba75b8fd0e q3) (v_17fa43f9b8 q4)
    refine J_callV (st := []) dX1_joined_63 cv_X1_77 (j_bounded z18 ht br hl le ba tk (v_4c7cfa5d77 h19.1 h19.2) q5 q6 q7 q8 q9 q10 q11 q12 q13 q14 q15 q16 hk58) hk58 rfl rfl (Nat.le_of_ble_eq_true rfl) ⟨(Nat.le_of_ble_eq_true rfl), (Nat.le_of_ble_eq_true rfl)⟩ ⟨(Nat.le_of_ble_eq_true rfl), (Nat.le_of_ble_eq_true rfl)⟩ (fun r h9 hp => ?_)
    obtain ⟨z20, z21, rfl, rfl, h22, h23, h24, h25, h26⟩ := hp
    refine J_nf (nh2 := nh) (ck2 := 0) (sk2 := 0) (st2 := [.long (zL z20)]) rfl rfl rfl rfl ?_
    refine J_app (L3 := [(58, .inr (1, [.ref 59, .ref 60, .int (zI ht), .int (zI z21), .int (zI hl), .int (zI le), .int (zI ba), .int (zI tk)]))]) rfl ?_
    exact J_lret dX1_joined_66 rfl (Nat.le_of_ble_eq_true rfl) (Nat.le_of_ble_eq_true rfl) ⟨z20, z21, rfl, rfl, (jjn_4 (v_e7bb9e21ac h17) ez18 h22), h23, h24, h25, h26⟩
  by_cases h27 : k = 5
  · refine Z_tableIn (tgt := 67) (off := 66) 5 dX1_joined_1 (v_b25fa51a85 q0) (v_666cdbe95c h27) (by decide) (by decide) (by decide) (by decide) ?_
    refine J_aload_n dX1_joined_67 rfl rfl ?_
    refine J_aload_n dX1_joined_68 rfl rfl ?_
    refine J_get (v := .int (zI br)) dX1_joined_69 fl_X1_21 hk58 rfl ?_
    refine Z_if_ne (tgt := 82) dX1_joined_72 (by decide) (v_5f10a759cd q7 q8) (fun h28 => ?_) (fun h28 => ?_)
    · refine Z_iconst (n := 1) dX1_joined_82 ?_
      refine J_goto (tgt := 87) dX1_joined_83 (by decide) ?_
      refine K_put (fs2 := [.ref 59, .ref 60, .int (zI ht), .int (zI 1), .int (zI hl), .int (zI le), .int (zI ba), .int (zI tk)]) dX1_joined_87 fw_X1_21 hk58 (Nat.le_of_ble_eq_true rfl) (jbz v_316afd7d0b v_bbcfac9b7d) rfl ?_
      refine J_lload dX1_joined_90 rfl ?_
      refine J_lconst (v := zL 0) dX1_joined_92 (by decide +kernel) ?_
      refine Y_lcmp dX1_joined_93 (v_ce139c3fca q3 q4) v_648c9410ae (fun z29 z29a z29b z29c z29d => ?_)
      refine Z_if_ne (tgt := 101) dX1_joined_94 (by decide) (v_51ccf7ebfa z29a z29b) (fun h30 => ?_) (fun h30 => ?_)
      · have h31 : ¬ y = 0 := by omega
        refine J_lload_n dX1_joined_101 rfl rfl ?_
        refine J_lload dX1_joined_102 rfl ?_
        obtain ⟨z32, ez32⟩ : ∃ z : Int, Int.tdiv x y = z := ⟨_, rfl⟩
        refine Y_ldivt dX1_joined_104 (v_ba75b8fd0e q1) (v_17fa43f9b8 q2) (v_ce139c3fca q3 q4) (v_7502709ab7 h31) ez32 ?_
        have h33 := tdiv_bd ez32 (v_ba75b8fd0e q1) (v_17fa43f9b8 q2)
        exact J_lret dX1_joined_105 rfl (Nat.le_of_ble_eq_true rfl) (Nat.le_of_ble_eq_true rfl) ⟨z32, 1, rfl, rfl, (jjn_5b (v_666cdbe95c h27) (v_7502709ab7 h31) ez32 (v_8b15499c4b q7 q8 h28)), v_316afd7d0b, v_bbcfac9b7d, h33.1, h33.2⟩
      · have h34 : y = 0 := by omega
        refine J_lconst (v := zL 0) dX1_joined_97 (by decide +kernel) ?_
        refine J_goto (tgt := 105) dX1_joined_98 (by decide) ?_
        exact J_lret dX1_joined_105 rfl (Nat.le_of_ble_eq_true rfl) (Nat.le_of_ble_eq_true rfl) ⟨0, 1, rfl, rfl, (jjn_5a (v_666cdbe95c h27) (v_2b2aa55e09 h34)), v_316afd7d0b, v_bbcfac9b7d, v_3239e84df7, v_375680e715⟩
    · refine J_lload dX1_joined_75 rfl ?_
      refine J_lconst (v := zL 0) dX1_joined_77 (by decide +kernel) ?_
      refine Y_lcmp dX1_joined_78 (v_ce139c3fca q3 q4) v_648c9410ae (fun z35 z35a z35b z35c z35d => ?_)
      refine Z_if_ne (tgt := 86) dX1_joined_79 (by decide) (v_51ccf7ebfa z35a z35b) (fun h36 => ?_) (fun h36 => ?_)
      · have h37 : ¬ y = 0 := by omega
        refine Z_iconst (n := 0) dX1_joined_86 ?_
        refine K_put (fs2 := [.ref 59, .ref 60, .int (zI ht), .int (zI 0), .int (zI hl), .int (zI le), .int (zI ba), .int (zI tk)]) dX1_joined_87 fw_X1_21 hk58 (Nat.le_of_ble_eq_true rfl) (jbz v_939070ca3f v_316afd7d0b) rfl ?_
        refine J_lload dX1_joined_90 rfl ?_
        refine J_lconst (v := zL 0) dX1_joined_92 (by decide +kernel) ?_
        refine Y_lcmp dX1_joined_93 (v_ce139c3fca q3 q4) v_648c9410ae (fun z38 z38a z38b z38c z38d => ?_)
        refine Z_if_ne (tgt := 101) dX1_joined_94 (by decide) (v_51ccf7ebfa z38a z38b) (fun h39 => ?_) (fun h39 => ?_)
        · have h40 : ¬ y = 0 := by omega
          refine J_lload_n dX1_joined_101 rfl rfl ?_
          refine J_lload dX1_joined_102 rfl ?_
          obtain ⟨z41, ez41⟩ : ∃ z : Int, Int.tdiv x y = z := ⟨_, rfl⟩
          refine Y_ldivt dX1_joined_104 (v_ba75b8fd0e q1) (v_17fa43f9b8 q2) (v_ce139c3fca q3 q4) (v_7502709ab7 h37) ez41 ?_
          have h42 := tdiv_bd ez41 (v_ba75b8fd0e q1) (v_17fa43f9b8 q2)
          exact J_lret dX1_joined_105 rfl (Nat.le_of_ble_eq_true rfl) (Nat.le_of_ble_eq_true rfl) ⟨z41, 0, rfl, rfl, (jjn_5b (v_666cdbe95c h27) (v_7502709ab7 h37) ez41 (v_bd6c74a791 q7 h28)), v_939070ca3f, v_316afd7d0b, h42.1, h42.2⟩
        · have h43 : y = 0 := by omega
          refine J_lconst (v := zL 0) dX1_joined_97 (by decide +kernel) ?_
          refine J_goto (tgt := 105) dX1_joined_98 (by decide) ?_
          exact J_lret dX1_joined_105 rfl (Nat.le_of_ble_eq_true rfl) (Nat.le_of_ble_eq_true rfl) ⟨0, 0, rfl, rfl, ((absurd ((v_2b2aa55e09 h43)) (h37))), v_939070ca3f, v_316afd7d0b, v_3239e84df7, v_375680e715⟩
      · have h44 : y = 0 := by omega
        refine Z_iconst (n := 1) dX1_joined_82 ?_
        refine J_goto (tgt := 87) dX1_joined_83 (by decide) ?_
        refine K_put (fs2 := [.ref 59, .ref 60, .int (zI ht), .int (zI 1), .int (zI hl), .int (zI le), .int (zI ba), .int (zI tk)]) dX1_joined_87 fw_X1_21 hk58 (Nat.le_of_ble_eq_true rfl) (jbz v_316afd7d0b v_bbcfac9b7d) rfl ?_
        refine J_lload dX1_joined_90 rfl ?_
        refine J_lconst (v := zL 0) dX1_joined_92 (by decide +kernel) ?_
        refine Y_lcmp dX1_joined_93 (v_6e127b7bcc h44) v_648c9410ae (fun z45 z45a z45b z45c z45d => ?_)
        refine Z_if_ne (tgt := 101) dX1_joined_94 (by decide) (v_51ccf7ebfa z45a z45b) (fun h46 => ?_) (fun h46 => ?_)
        · have h47 : ¬ y = 0 := by omega
          refine J_lload_n dX1_joined_101 rfl rfl ?_
          refine J_lload dX1_joined_102 rfl ?_
          obtain ⟨z48, ez48⟩ : ∃ z : Int, Int.tdiv x y = z := ⟨_, rfl⟩
          refine Y_ldivt dX1_joined_104 (v_ba75b8fd0e q1) (v_17fa43f9b8 q2) (v_6e127b7bcc h44) (v_b29b8faf05 h44 h47) ez48 ?_
          have h49 := tdiv_bd ez48 (v_ba75b8fd0e q1) (v_17fa43f9b8 q2)
          exact J_lret dX1_joined_105 rfl (Nat.le_of_ble_eq_true rfl) (Nat.le_of_ble_eq_true rfl) ⟨z48, 1, rfl, rfl, ((absurd ((v_2b2aa55e09 h44)) (h47))), v_316afd7d0b, v_bbcfac9b7d, h49.1, h49.2⟩
        · have h50 : y = 0 := by omega
          refine J_lconst (v := zL 0) dX1_joined_97 (by decide +kernel) ?_
          refine J_goto (tgt := 105) dX1_joined_98 (by decide) ?_
          exact J_lret dX1_joined_105 rfl (Nat.le_of_ble_eq_true rfl) (Nat.le_of_ble_eq_true rfl) ⟨0, 1, rfl, rfl, (jjn_5a (v_666cdbe95c h27) (v_2b2aa55e09 h44)), v_316afd7d0b, v_bbcfac9b7d, v_3239e84df7, v_375680e715⟩
  by_cases h51 : k = 6
  · refine Z_tableIn (tgt := 106) (off := 105) 6 dX1_joined_1 (v_b25fa51a85 q0) (v_2e044925d6 h51) (by decide) (by decide) (by decide) (by decide) ?_
    refine J_lload_n dX1_joined_106 rfl rfl ?_
    refine J_lload dX1_joined_107 rfl ?_
    refine Y_lcmp dX1_joined_109 (v_ce139c3fca q1 q2) (v_ce139c3fca q3 q4) (fun z52 z52a z52b z52c z52d => ?_)
    refine Z_if_ge (tgt := 117) dX1_joined_110 (by decide) (v_51ccf7ebfa z52a z52b) (fun h53 => ?_) (fun h53 => ?_)
    · have h54 : y ≤ x := by omega
      refine J_lconst (v := zL 0) dX1_joined_117 (by decide +kernel) ?_
      refine J_touch (k := 58) (e := .inr (1, [.ref 59, .ref 60, .int (zI ht), .int (zI br), .int (zI hl), .int (zI le), .int (zI ba), .int (zI tk)])) hk58 ?_
      exact J_lret dX1_joined_118 rfl (Nat.le_of_ble_eq_true rfl) (Nat.le_of_ble_eq_true rfl) ⟨0, br, rfl, rfl, (jjn_6b (v_2e044925d6 h51) (v_d464d4c634 h54)), q7, q8, v_3239e84df7, v_375680e715⟩
    · have h55 : x < y := by omega
      refine J_lconst (v := zL 1) dX1_joined_113 (by decide +kernel) ?_
      refine J_goto (tgt := 118) dX1_joined_114 (by decide) ?_
      refine J_touch (k := 58) (e := .inr (1, [.ref 59, .ref 60, .int (zI ht), .int (zI br), .int (zI hl), .int (zI le), .int (zI ba), .int (zI tk)])) hk58 ?_
      exact J_lret dX1_joined_118 rfl (Nat.le_of_ble_eq_true rfl) (Nat.le_of_ble_eq_true rfl) ⟨1, br, rfl, rfl, (jjn_6a (v_2e044925d6 h51) (v_b9aca61388 h55)), q7, q8, v_d5fda4a597, v_0cb1f8781c⟩
  by_cases h56 : k = 7
  · refine Z_tableIn (tgt := 119) (off := 118) 7 dX1_joined_1 (v_b25fa51a85 q0) (v_2f5adcf1cf h56) (by decide) (by decide) (by decide) (by decide) ?_
    refine J_lload_n dX1_joined_119 rfl rfl ?_
    refine J_lload dX1_joined_120 rfl ?_
    refine Y_lcmp dX1_joined_122 (v_ce139c3fca q1 q2) (v_ce139c3fca q3 q4) (fun z57 z57a z57b z57c z57d => ?_)
    refine Z_if_le (tgt := 130) dX1_joined_123 (by decide) (v_51ccf7ebfa z57a z57b) (fun h58 => ?_) (fun h58 => ?_)
    · have h59 : x ≤ y := by omega
      refine J_lconst (v := zL 0) dX1_joined_130 (by decide +kernel) ?_
      refine J_touch (k := 58) (e := .inr (1, [.ref 59, .ref 60, .int (zI ht), .int (zI br), .int (zI hl), .int (zI le), .int (zI ba), .int (zI tk)])) hk58 ?_
      exact J_lret dX1_joined_131 rfl (Nat.le_of_ble_eq_true rfl) (Nat.le_of_ble_eq_true rfl) ⟨0, br, rfl, rfl, (jjn_7b (v_2f5adcf1cf h56) (v_d464d4c634 h59)), q7, q8, v_3239e84df7, v_375680e715⟩
    · have h60 : y < x := by omega
      refine J_lconst (v := zL 1) dX1_joined_126 (by decide +kernel) ?_
      refine J_goto (tgt := 131) dX1_joined_127 (by decide) ?_
      refine J_touch (k := 58) (e := .inr (1, [.ref 59, .ref 60, .int (zI ht), .int (zI br), .int (zI hl), .int (zI le), .int (zI ba), .int (zI tk)])) hk58 ?_
      exact J_lret dX1_joined_131 rfl (Nat.le_of_ble_eq_true rfl) (Nat.le_of_ble_eq_true rfl) ⟨1, br, rfl, rfl, (jjn_7a (v_2f5adcf1cf h56) (v_b9aca61388 h60)), q7, q8, v_d5fda4a597, v_0cb1f8781c⟩
  refine Z_tableOut (tgt := 132) dX1_joined_1 (v_b25fa51a85 q0) (by omega) (by decide) ?_
  refine J_lload_n dX1_joined_132 rfl rfl ?_
  refine J_lload dX1_joined_133 rfl ?_
  refine Y_lcmp dX1_joined_135 (v_ce139c3fca q1 q2) (v_ce139c3fca q3 q4) (fun z61 z61a z61b z61c z61d => ?_)
  refine Z_if_ne (tgt := 143) dX1_joined_136 (by decide) (v_51ccf7ebfa z61a z61b) (fun h62 => ?_) (fun h62 => ?_)
  · have h63 : ¬ x = y := by omega
    refine J_lconst (v := zL 0) dX1_joined_143 (by decide +kernel) ?_
    refine J_touch (k := 58) (e := .inr (1, [.ref 59, .ref 60, .int (zI ht), .int (zI br), .int (zI hl), .int (zI le), .int (zI ba), .int (zI tk)])) hk58 ?_
    exact J_lret dX1_joined_144 rfl (Nat.le_of_ble_eq_true rfl) (Nat.le_of_ble_eq_true rfl) ⟨0, br, rfl, rfl, (jjn_8b (v_c4a725e90c h1) (v_de0e5a04fb h9) (v_77b8f78401 h17) (v_6cacba8012 h27) (v_9810b78d9a h51) (v_d915069636 h56) (v_da5cc3277e h63)), q7, q8, v_3239e84df7, v_375680e715⟩
  · have h64 : x = y := by omega
    refine J_lconst (v := zL 1) dX1_joined_139 (by decide +kernel) ?_
    refine J_goto (tgt := 144) dX1_joined_140 (by decide) ?_
    refine J_touch (k := 58) (e := .inr (1, [.ref 59, .ref 60, .int (zI ht), .int (zI br), .int (zI hl), .int (zI le), .int (zI ba), .int (zI tk)])) hk58 ?_
    exact J_lret dX1_joined_144 rfl (Nat.le_of_ble_eq_true rfl) (Nat.le_of_ble_eq_true rfl) ⟨1, br, rfl, rfl, (jjn_8a (v_c4a725e90c h1) (v_de0e5a04fb h9) (v_77b8f78401 h17) (v_6cacba8012 h27) (v_9810b78d9a h51) (v_d915069636 h56) (v_cd91a95e4e h64)), q7, q8, v_d5fda4a597, v_0cb1f8781c⟩
set_option maxHeartbeats 4000000 in
set_option maxRecDepth 100000 in
theorem j_run {l : Launch} {G : jG} {nh : Nat} {fh : Nat → Option va_E} (k : Int) (x : Int) (ht : Int) (br : Int) (hl : Int) (le : Int) (ba : Int) (tk : Int) (kf : Int → Int) (wf : Int → Int) (q0 : zr k) (q1 : -1000000000 ≤ x) (q2 : x ≤ 1000000000) (q3 : Rg wf 8 (-1000000000) 1000000000) (q4 : Rg kf 64 (-1000000000) 1000000000) (q5 : 0 ≤ ht) (q6 : ht ≤ 64) (q7 : 0 ≤ br) (q8 : br ≤ 1) (q9 : 0 ≤ hl) (q10 : hl ≤ 1) (q11 : 0 ≤ le) (q12 : le ≤ 1) (q13 : 0 ≤ ba) (q14 : ba ≤ 1) (q15 : 1 ≤ tk) (q16 : tk ≤ 99) (hk58 : fh 58 = some (.inr (1, [.ref 59, .ref 60, .int (zI ht), .int (zI br), .int (zI hl), .int (zI le), .int (zI ba), .int (zI tk)]))) (hk60 : fh 60 = some (.inl (1, 64, .inr (.inl (zAL kf))))) (hk59 : fh 59 = some (.inl (0, 8, .inl (zA wf)))) : JM l G yX1_run MX1_run { frames := 2, cells := 0, slots := 0, locals := 47 } [.ref 58, .int (zI k), .int (zI x)] (nh, fh) (fun rr h9 => ∃ ht2 : Int, ∃ br2 : Int, ∃ kg : Int → Int, rr = none ∧ h9 = (nh, hc fh [(58, .inr (1, [.ref 59, .ref 60, .int (zI ht2), .int (zI br2), .int (zI hl), .int (zI le), .int (zI ba), .int (zI tk)])), (60, .inl (1, 64, .inr (.inl (zAL kg))))]) ∧ (jrn k x ht br kf wf = (ht2, br2, kg)) ∧ (0 ≤ ht2) ∧ (ht2 ≤ 64) ∧ (0 ≤ br2) ∧ (br2 ≤ 1) ∧ (Rg kg 64 (-1000000000) 1000000000)) := by
  refine JM.of (by decide) rfl (fun h => by cases h) (Nat.le_of_ble_eq_true rfl) ⟨2, rfl⟩ ?_
  refine J_hc0 (J_ls (ls2 := [some (.ref 58), some (.int (zI k)), some (.int (zI x)), none, none]) rfl ?_)
  refine J_iload_n dX1_run_0 rfl rfl ?_
  refine Z_if_ne (tgt := 13) dX1_run_1 (by decide) (v_b25fa51a85 q0) (fun h1 => ?_) (fun h1 => ?_)
  · refine J_iload_n dX1_run_13 rfl rfl ?_
    refine Z_iconst (n := 1) dX1_run_14 ?_
    refine Z_icmp_ne (tgt := 46) dX1_run_15 (by decide) (v_b25fa51a85 q0) v_4dcc24baa7 (fun h2 => ?_) (fun h2 => ?_)
    · refine J_iload_n dX1_run_46 rfl rfl ?_
      refine Z_bipush (n := 9) dX1_run_47 (by decide +kernel) ?_
      refine Z_icmp_ne (tgt := 73) dX1_run_49 (by decide) (v_b25fa51a85 q0) v_00f9f00cc1 (fun h3 => ?_) (fun h3 => ?_)
      · refine J_aload_n dX1_run_73 rfl rfl ?_
        refine J_callV (st := []) dX1_run_74 cv_X1_70 (j_pop ht br hl le ba tk kf q5 q6 q7 q8 q9 q10 q11 q12 q13 q14 q15 q16 q4 hk58 hk60) hk58 rfl rfl (Nat.le_of_ble_eq_true rfl) ⟨(Nat.le_of_ble_eq_true rfl), (Nat.le_of_ble_eq_true rfl)⟩ ⟨(Nat.le_of_ble_eq_true rfl), (Nat.le_of_ble_eq_true rfl)⟩ (fun r h9 hp => ?_)
        obtain ⟨z4, z5, rfl, rfl, h6, h7, h8, h9, h10, h11⟩ := hp
        refine J_nf (nh2 := nh) (ck2 := 0) (sk2 := 0) (st2 := [.long (zL z4)]) rfl rfl rfl rfl ?_
        refine J_app (L3 := [(58, .inr (1, [.ref 59, .ref 60, .int (zI z5), .int (zI br), .int (zI hl), .int (zI le), .int (zI ba), .int (zI tk)]))]) rfl ?_
        refine J_lstore_n dX1_run_77 rfl (Nat.le_of_ble_eq_true rfl) rfl ?_
        refine J_ls (ls2 := [some (.ref 58), some (.int (zI k)), some (.int (zI x)), some (.long (zL z4)), none]) rfl ?_
        refine J_aload_n dX1_run_78 rfl rfl ?_
        refine J_aload_n dX1_run_79 rfl rfl ?_
        refine J_iload_n dX1_run_80 rfl rfl ?_
        refine J_aload_n dX1_run_81 rfl rfl ?_
        refine J_callV (st := [.int (zI k), .ref 58, .ref 58]) dX1_run_82 cv_X1_70 (j_pop z5 br hl le ba tk kf h8 h9 q7 q8 q9 q10 q11 q12 q13 q14 q15 q16 q4 rfl hk60) rfl rfl rfl (Nat.le_of_ble_eq_true rfl) ⟨(Nat.le_of_ble_eq_true rfl), (Nat.le_of_ble_eq_true rfl)⟩ ⟨(Nat.le_of_ble_eq_true rfl), (Nat.le_of_ble_eq_true rfl)⟩ (fun r h9 hp => ?_)
        obtain ⟨z12, z13, rfl, rfl, h14, h15, h16, h17, h18, h19⟩ := hp
        refine J_nf (nh2 := nh) (ck2 := 0) (sk2 := 0) (st2 := [.long (zL z12), .int (zI k), .ref 58, .ref 58]) rfl rfl rfl rfl ?_
        refine J_app (L3 := [(58, .inr (1, [.ref 59, .ref 60, .int (zI z13), .int (zI br), .int (zI hl), .int (zI le), .int (zI ba), .int (zI tk)])), (58, .inr (1, [.ref 59, .ref 60, .int (zI z5), .int (zI br), .int (zI hl), .int (zI le), .int (zI ba), .int (zI tk)]))]) rfl ?_
        refine J_mask (L2 := [(58, .inr (1, [.ref 59, .ref 60, .int (zI z13), .int (zI br), .int (zI hl), .int (zI le), .int (zI ba), .int (zI tk)]))]) (ks := [58, 58]) [true, false] rfl (by decide +kernel) rfl ?_
        refine J_lload_n dX1_run_85 rfl rfl ?_
        refine J_callV (st := [.ref 58]) dX1_run_86 cv_X1_73 (j_joined k z12 z4 z13 br hl le ba tk q0 h18 h19 h10 h11 h16 h17 q7 q8 q9 q10 q11 q12 q13 q14 q15 q16 rfl) rfl rfl rfl (Nat.le_of_ble_eq_true rfl) ⟨(Nat.le_of_ble_eq_true rfl), (Nat.le_of_ble_eq_true rfl)⟩ ⟨(Nat.le_of_ble_eq_true rfl), (Nat.le_of_ble_eq_true rfl)⟩ (fun r h9 hp => ?_)
        obtain ⟨z20, z21, rfl, rfl, h22, h23, h24, h25, h26⟩ := hp
        refine J_nf (nh2 := nh) (ck2 := 0) (sk2 := 0) (st2 := [.long (zL z20), .ref 58]) rfl rfl rfl rfl ?_
        refine J_app (L3 := [(58, .inr (1, [.ref 59, .ref 60, .int (zI z13), .int (zI z21), .int (zI hl), .int (zI le), .int (zI ba), .int (zI tk)])), (58, .inr (1, [.ref 59, .ref 60, .int (zI z13), .int (zI br), .int (zI hl), .int (zI le), .int (zI ba), .int (zI tk)]))]) rfl ?_
        refine J_mask (L2 := [(58, .inr (1, [.ref 59, .ref 60, .int (zI z13), .int (zI z21), .int (zI hl), .int (zI le), .int (zI ba), .int (zI tk)]))]) (ks := [58, 58]) [true, false] rfl (by decide +kernel) rfl ?_
        refine J_callV (st := []) dX1_run_89 cv_X1_66 (j_push z20 z13 z21 hl le ba tk kf h25 h26 h16 h17 h23 h24 q9 q10 q11 q12 q13 q14 q15 q16 q4 rfl hk60) rfl rfl rfl (Nat.le_of_ble_eq_true rfl) ⟨(Nat.le_of_ble_eq_true rfl), (Nat.le_of_ble_eq_true rfl)⟩ ⟨(Nat.le_of_ble_eq_true rfl), (Nat.le_of_ble_eq_true rfl)⟩ (fun r h9 hp => ?_)
        obtain ⟨z27, f28, rfl, rfl, h29, h30, h31, h32⟩ := hp
        refine J_nf (nh2 := nh) (ck2 := 0) (sk2 := 0) (st2 := []) rfl rfl rfl rfl ?_
        refine J_app (L3 := [(58, .inr (1, [.ref 59, .ref 60, .int (zI z27), .int (zI z21), .int (zI hl), .int (zI le), .int (zI ba), .int (zI tk)])), (60, .inl (1, 64, .inr (.inl (zAL f28)))), (58, .inr (1, [.ref 59, .ref 60, .int (zI z13), .int (zI z21), .int (zI hl), .int (zI le), .int (zI ba), .int (zI tk)]))]) rfl ?_
        refine J_mask (L2 := [(58, .inr (1, [.ref 59, .ref 60, .int (zI z27), .int (zI z21), .int (zI hl), .int (zI le), .int (zI ba), .int (zI tk)])), (60, .inl (1, 64, .inr (.inl (zAL f28))))]) (ks := [58, 60, 58]) [true, true, false] rfl (by decide +kernel) rfl ?_
        exact J_vret dX1_run_92 rfl (Nat.le_of_ble_eq_true rfl) (Nat.le_of_ble_eq_true rfl) ⟨z27, z21, f28, rfl, rfl, (jrn_d (v_7502709ab7 h1) (v_9c549312fa h2) (v_e664a28ed0 h3) h6 h7 h14 h15 h22 h29), h30, h31, h23, h24, h32⟩
      · refine J_aload_n dX1_run_52 rfl rfl ?_
        refine J_aload_n dX1_run_53 rfl rfl ?_
        refine J_callV (st := [.ref 58]) dX1_run_54 cv_X1_70 (j_pop ht br hl le ba tk kf q5 q6 q7 q8 q9 q10 q11 q12 q13 q14 q15 q16 q4 hk58 hk60) hk58 rfl rfl (Nat.le_of_ble_eq_true rfl) ⟨(Nat.le_of_ble_eq_true rfl), (Nat.le_of_ble_eq_true rfl)⟩ ⟨(Nat.le_of_ble_eq_true rfl), (Nat.le_of_ble_eq_true rfl)⟩ (fun r h9 hp => ?_)
        obtain ⟨z33, z34, rfl, rfl, h35, h36, h37, h38, h39, h40⟩ := hp
        refine J_nf (nh2 := nh) (ck2 := 0) (sk2 := 0) (st2 := [.long (zL z33), .ref 58]) rfl rfl rfl rfl ?_
        refine J_app (L3 := [(58, .inr (1, [.ref 59, .ref 60, .int (zI z34), .int (zI br), .int (zI hl), .int (zI le), .int (zI ba), .int (zI tk)]))]) rfl ?_
        refine J_lconst (v := zL 0) dX1_run_57 (by decide +kernel) ?_
        refine Y_lcmp dX1_run_58 (v_ce139c3fca h39 h40) v_648c9410ae (fun z41 z41a z41b z41c z41d => ?_)
        refine Z_if_ne (tgt := 66) dX1_run_59 (by decide) (v_51ccf7ebfa z41a z41b) (fun h42 => ?_) (fun h42 => ?_)
        · have h43 : ¬ z33 = 0 := by omega
          refine J_lconst (v := zL 0) dX1_run_66 (by decide +kernel) ?_
          refine J_callV (st := []) dX1_run_67 cv_X1_66 (j_push 0 z34 br hl le ba tk kf v_3239e84df7 v_375680e715 h37 h38 q7 q8 q9 q10 q11 q12 q13 q14 q15 q16 q4 rfl hk60) rfl rfl rfl (Nat.le_of_ble_eq_true rfl) ⟨(Nat.le_of_ble_eq_true rfl), (Nat.le_of_ble_eq_true rfl)⟩ ⟨(Nat.le_of_ble_eq_true rfl), (Nat.le_of_ble_eq_true rfl)⟩ (fun r h9 hp => ?_)
          obtain ⟨z44, f45, rfl, rfl, h46, h47, h48, h49⟩ := hp
          refine J_nf (nh2 := nh) (ck2 := 0) (sk2 := 0) (st2 := []) rfl rfl rfl rfl ?_
          refine J_app (L3 := [(58, .inr (1, [.ref 59, .ref 60, .int (zI z44), .int (zI br), .int (zI hl), .int (zI le), .int (zI ba), .int (zI tk)])), (60, .inl (1, 64, .inr (.inl (zAL f45)))), (58, .inr (1, [.ref 59, .ref 60, .int (zI z34), .int (zI br), .int (zI hl), .int (zI le), .int (zI ba), .int (zI tk)]))]) rfl ?_
          refine J_mask (L2 := [(58, .inr (1, [.ref 59, .ref 60, .int (zI z44), .int (zI br), .int (zI hl), .int (zI le), .int (zI ba), .int (zI tk)])), (60, .inl (1, 64, .inr (.inl (zAL f45))))]) (ks := [58, 60, 58]) [true, true, false] rfl (by decide +kernel) rfl ?_
          refine J_goto (tgt := 92) dX1_run_70 (by decide) ?_
          exact J_vret dX1_run_92 rfl (Nat.le_of_ble_eq_true rfl) (Nat.le_of_ble_eq_true rfl) ⟨z44, br, f45, rfl, rfl, (jrn_9b (v_953f52f1fe h3) h35 h36 (v_7502709ab7 h43) h46), h47, h48, q7, q8, h49⟩
        · have h50 : z33 = 0 := by omega
          refine J_lconst (v := zL 1) dX1_run_62 (by decide +kernel) ?_
          refine J_goto (tgt := 67) dX1_run_63 (by decide) ?_
          refine J_callV (st := []) dX1_run_67 cv_X1_66 (j_push 1 z34 br hl le ba tk kf v_d5fda4a597 v_0cb1f8781c h37 h38 q7 q8 q9 q10 q11 q12 q13 q14 q15 q16 q4 rfl hk60) rfl rfl rfl (Nat.le_of_ble_eq_true rfl) ⟨(Nat.le_of_ble_eq_true rfl), (Nat.le_of_ble_eq_true rfl)⟩ ⟨(Nat.le_of_ble_eq_true rfl), (Nat.le_of_ble_eq_true rfl)⟩ (fun r h9 hp => ?_)
          obtain ⟨z51, f52, rfl, rfl, h53, h54, h55, h56⟩ := hp
          refine J_nf (nh2 := nh) (ck2 := 0) (sk2 := 0) (st2 := []) rfl rfl rfl rfl ?_
          refine J_app (L3 := [(58, .inr (1, [.ref 59, .ref 60, .int (zI z51), .int (zI br), .int (zI hl), .int (zI le), .int (zI ba), .int (zI tk)])), (60, .inl (1, 64, .inr (.inl (zAL f52)))), (58, .inr (1, [.ref 59, .ref 60, .int (zI z34), .int (zI br), .int (zI hl), .int (zI le), .int (zI ba), .int (zI tk)]))]) rfl ?_
          refine J_mask (L2 := [(58, .inr (1, [.ref 59, .ref 60, .int (zI z51), .int (zI br), .int (zI hl), .int (zI le), .int (zI ba), .int (zI tk)])), (60, .inl (1, 64, .inr (.inl (zAL f52))))]) (ks := [58, 60, 58]) [true, true, false] rfl (by decide +kernel) rfl ?_
          refine J_goto (tgt := 92) dX1_run_70 (by decide) ?_
          exact J_vret dX1_run_92 rfl (Nat.le_of_ble_eq_true rfl) (Nat.le_of_ble_eq_true rfl) ⟨z51, br, f52, rfl, rfl, (jrn_9a (v_953f52f1fe h3) h35 h36 (v_2b2aa55e09 h50) h53), h54, h55, q7, q8, h56⟩
    · refine J_aload_n dX1_run_18 rfl rfl ?_
      refine J_iload_n dX1_run_19 rfl rfl ?_
      refine Z_if_lt (tgt := 39) dX1_run_20 (by decide) (v_3ce1d98944 q1 q2) (fun h57 => ?_) (fun h57 => ?_)
      · refine J_lconst (v := zL 0) dX1_run_39 (by decide +kernel) ?_
        refine J_callV (st := []) dX1_run_40 cv_X1_66 (j_push 0 ht br hl le ba tk kf v_3239e84df7 v_375680e715 q5 q6 q7 q8 q9 q10 q11 q12 q13 q14 q15 q16 q4 hk58 hk60) hk58 rfl rfl (Nat.le_of_ble_eq_true rfl) ⟨(Nat.le_of_ble_eq_true rfl), (Nat.le_of_ble_eq_true rfl)⟩ ⟨(Nat.le_of_ble_eq_true rfl), (Nat.le_of_ble_eq_true rfl)⟩ (fun r h9 hp => ?_)
        obtain ⟨z58, f59, rfl, rfl, h60, h61, h62, h63⟩ := hp
        refine J_nf (nh2 := nh) (ck2 := 0) (sk2 := 0) (st2 := []) rfl rfl rfl rfl ?_
        refine J_app (L3 := [(58, .inr (1, [.ref 59, .ref 60, .int (zI z58), .int (zI br), .int (zI hl), .int (zI le), .int (zI ba), .int (zI tk)])), (60, .inl (1, 64, .inr (.inl (zAL f59))))]) rfl ?_
        refine J_goto (tgt := 92) dX1_run_43 (by decide) ?_
        exact J_vret dX1_run_92 rfl (Nat.le_of_ble_eq_true rfl) (Nat.le_of_ble_eq_true rfl) ⟨z58, br, f59, rfl, rfl, (jrn_1b (v_b757d97f93 h2) (v_8b303f9981 h57) h60), h61, h62, q7, q8, h63⟩
      · refine J_iload_n dX1_run_23 rfl rfl ?_
        refine Z_bipush (n := 8) dX1_run_24 (by decide +kernel) ?_
        refine Z_icmp_ge (tgt := 39) dX1_run_26 (by decide) (v_ec2b319604 q2 h57) v_665891e294 (fun h64 => ?_) (fun h64 => ?_)
        · refine J_lconst (v := zL 0) dX1_run_39 (by decide +kernel) ?_
          refine J_callV (st := []) dX1_run_40 cv_X1_66 (j_push 0 ht br hl le ba tk kf v_3239e84df7 v_375680e715 q5 q6 q7 q8 q9 q10 q11 q12 q13 q14 q15 q16 q4 hk58 hk60) hk58 rfl rfl (Nat.le_of_ble_eq_true rfl) ⟨(Nat.le_of_ble_eq_true rfl), (Nat.le_of_ble_eq_true rfl)⟩ ⟨(Nat.le_of_ble_eq_true rfl), (Nat.le_of_ble_eq_true rfl)⟩ (fun r h9 hp => ?_)
          obtain ⟨z65, f66, rfl, rfl, h67, h68, h69, h70⟩ := hp
          refine J_nf (nh2 := nh) (ck2 := 0) (sk2 := 0) (st2 := []) rfl rfl rfl rfl ?_
          refine J_app (L3 := [(58, .inr (1, [.ref 59, .ref 60, .int (zI z65), .int (zI br), .int (zI hl), .int (zI le), .int (zI ba), .int (zI tk)])), (60, .inl (1, 64, .inr (.inl (zAL f66))))]) rfl ?_
          refine J_goto (tgt := 92) dX1_run_43 (by decide) ?_
          exact J_vret dX1_run_92 rfl (Nat.le_of_ble_eq_true rfl) (Nat.le_of_ble_eq_true rfl) ⟨z65, br, f66, rfl, rfl, (jrn_1c (v_b757d97f93 h2) (v_2793fca44f h64) h67), h68, h69, q7, q8, h70⟩
        · refine J_aload_n dX1_run_29 rfl rfl ?_
          refine J_get (v := .ref 59) dX1_run_30 fl_X1_9 hk58 rfl ?_
          refine J_iload_n dX1_run_33 rfl rfl ?_
          obtain ⟨z71, ez71⟩ : ∃ z : Int, wf x = z := ⟨_, rfl⟩
          have h72 := Rg.at q3 (v_b2d8922659 h57) (v_ac000772f3 h64) ez71
          refine Y_iald (z := z71) 8 dX1_run_34 hk59 rfl (by decide) (v_b2d8922659 h57) (v_ac000772f3 h64) ez71 ?_
          refine Y_i2l dX1_run_35 (v_3ce1d98944 h72.1 h72.2) ?_
          refine J_goto (tgt := 40) dX1_run_36 (by decide) ?_
          refine J_callV (st := []) dX1_run_40 cv_X1_66 (j_push z71 ht br hl le ba tk kf h72.1 h72.2 q5 q6 q7 q8 q9 q10 q11 q12 q13 q14 q15 q16 q4 hk58 hk60) hk58 rfl rfl (Nat.le_of_ble_eq_true rfl) ⟨(Nat.le_of_ble_eq_true rfl), (Nat.le_of_ble_eq_true rfl)⟩ ⟨(Nat.le_of_ble_eq_true rfl), (Nat.le_of_ble_eq_true rfl)⟩ (fun r h9 hp => ?_)
          obtain ⟨z73, f74, rfl, rfl, h75, h76, h77, h78⟩ := hp
          refine J_nf (nh2 := nh) (ck2 := 0) (sk2 := 0) (st2 := []) rfl rfl rfl rfl ?_
          refine J_app (L3 := [(58, .inr (1, [.ref 59, .ref 60, .int (zI z73), .int (zI br), .int (zI hl), .int (zI le), .int (zI ba), .int (zI tk)])), (60, .inl (1, 64, .inr (.inl (zAL f74))))]) rfl ?_
          refine J_goto (tgt := 92) dX1_run_43 (by decide) ?_
          exact J_vret dX1_run_92 rfl (Nat.le_of_ble_eq_true rfl) (Nat.le_of_ble_eq_true rfl) ⟨z73, br, f74, rfl, rfl, (jrn_1a (v_b757d97f93 h2) (v_b2d8922659 h57) (v_ac000772f3 h64) ez71 h75), h76, h77, q7, q8, h78⟩
  · refine J_aload_n dX1_run_4 rfl rfl ?_
    refine J_iload_n dX1_run_5 rfl rfl ?_
    refine Y_i2l dX1_run_6 (v_3ce1d98944 q1 q2) ?_
    refine J_callV (st := []) dX1_run_7 cv_X1_66 (j_push x ht br hl le ba tk kf q1 q2 q5 q6 q7 q8 q9 q10 q11 q12 q13 q14 q15 q16 q4 hk58 hk60) hk58 rfl rfl (Nat.le_of_ble_eq_true rfl) ⟨(Nat.le_of_ble_eq_true rfl), (Nat.le_of_ble_eq_true rfl)⟩ ⟨(Nat.le_of_ble_eq_true rfl), (Nat.le_of_ble_eq_true rfl)⟩ (fun r h9 hp => ?_)
    obtain ⟨z79, f80, rfl, rfl, h81, h82, h83, h84⟩ := hp
    refine J_nf (nh2 := nh) (ck2 := 0) (sk2 := 0) (st2 := []) rfl rfl rfl rfl ?_
    refine J_app (L3 := [(58, .inr (1, [.ref 59, .ref 60, .int (zI z79), .int (zI br), .int (zI hl), .int (zI le), .int (zI ba), .int (zI tk)])), (60, .inl (1, 64, .inr (.inl (zAL f80))))]) rfl ?_
    refine J_goto (tgt := 92) dX1_run_10 (by decide) ?_
    exact J_vret dX1_run_92 rfl (Nat.le_of_ble_eq_true rfl) (Nat.le_of_ble_eq_true rfl) ⟨z79, br, f80, rfl, rfl, (jrn_0 (v_2b2aa55e09 h1) h81), h82, h83, q7, q8, h84⟩
set_option maxHeartbeats 4000000 in
set_option maxRecDepth 100000 in
theorem j_close {l : Launch} {G : jG} {nh : Nat} {fh : Nat → Option va_E} (k : Int) (ht : Int) (br : Int) (hl : Int) (le : Int) (ba : Int) (tk : Int) (kf : Int → Int) (q0 : zr k) (q1 : 0 ≤ ht) (q2 : ht ≤ 64) (q3 : 0 ≤ br) (q4 : br ≤ 1) (q5 : 0 ≤ hl) (q6 : hl ≤ 1) (q7 : 0 ≤ le) (q8 : le ≤ 1) (q9 : 0 ≤ ba) (q10 : ba ≤ 1) (q11 : 1 ≤ tk) (q12 : tk ≤ 99) (q13 : Rg kf 64 (-1000000000) 1000000000) (hk58 : fh 58 = some (.inr (1, [.ref 59, .ref 60, .int (zI ht), .int (zI br), .int (zI hl), .int (zI le), .int (zI ba), .int (zI tk)]))) (hk60 : fh 60 = some (.inl (1, 64, .inr (.inl (zAL kf))))) : JM l G yX1_close MX1_close { frames := 1, cells := 0, slots := 0, locals := 23 } [.ref 58, .int (zI k)] (nh, fh) (fun rr h9 => ∃ hl2 : Int, ∃ le2 : Int, ∃ ba2 : Int, ∃ tk2 : Int, rr = none ∧ h9 = (nh, hc fh [(58, .inr (1, [.ref 59, .ref 60, .int (zI 0), .int (zI 0), .int (zI hl2), .int (zI le2), .int (zI ba2), .int (zI tk2)]))]) ∧ (jcl k ht br kf (hl, le, ba, tk) = (hl2, le2, ba2, tk2)) ∧ (0 ≤ hl2) ∧ (hl2 ≤ 1) ∧ (0 ≤ le2) ∧ (le2 ≤ 1) ∧ (0 ≤ ba2) ∧ (ba2 ≤ 1) ∧ (1 ≤ tk2) ∧ (tk2 ≤ 99)) := by
  refine JM.of (by decide) rfl (fun h => by cases h) (Nat.le_of_ble_eq_true rfl) ⟨1, rfl⟩ ?_
  refine J_hc0 (J_ls (ls2 := [some (.ref 58), some (.int (zI k)), none]) rfl ?_)
  refine J_aload_n dX1_close_0 rfl rfl ?_
  refine J_get (v := .int (zI br)) dX1_close_1 fl_X1_21 hk58 rfl ?_
  refine Z_if_ne (tgt := 20) dX1_close_4 (by decide) (v_5f10a759cd q3 q4) (fun h1 => ?_) (fun h1 => ?_)
  · refine Z_iconst (n := 0) dX1_close_20 ?_
    refine J_istore_n dX1_close_21 rfl (Nat.le_of_ble_eq_true rfl) rfl ?_
    refine J_ls (ls2 := [some (.ref 58), some (.int (zI k)), some (.int (zI 0))]) rfl ?_
    refine J_iload_n dX1_close_22 rfl rfl ?_
    refine Z_bipush (n := 13) dX1_close_23 (by decide +kernel) ?_
    refine Z_icmp_ne (tgt := 56) dX1_close_25 (by decide) (v_b25fa51a85 q0) v_9c1fa5e798 (fun h2 => ?_) (fun h2 => ?_)
    · refine J_iload_n dX1_close_56 rfl rfl ?_
      refine Z_bipush (n := 14) dX1_close_57 (by decide +kernel) ?_
      refine Z_icmp_ne (tgt := 85) dX1_close_59 (by decide) (v_b25fa51a85 q0) v_2a4719925a (fun h3 => ?_) (fun h3 => ?_)
      · refine J_iload_n dX1_close_85 rfl rfl ?_
        refine Z_if_eq (tgt := 110) dX1_close_86 (by decide) v_b17331891f (fun h4 => ?_) (fun h4 => absurd h4 (fun q => q v_2ca2bbca1f))
        refine J_aload_n dX1_close_110 rfl rfl ?_
        refine Z_iconst (n := 0) dX1_close_111 ?_
        refine K_put (fs2 := [.ref 59, .ref 60, .int (zI 0), .int (zI br), .int (zI hl), .int (zI le), .int (zI ba), .int (zI tk)]) dX1_close_112 fw_X1_17 hk58 (Nat.le_of_ble_eq_true rfl) (fun _ => ⟨rfl, rfl⟩) rfl ?_
        refine J_aload_n dX1_close_115 rfl rfl ?_
        refine Z_iconst (n := 0) dX1_close_116 ?_
        refine K_put (fs2 := [.ref 59, .ref 60, .int (zI 0), .int (zI 0), .int (zI hl), .int (zI le), .int (zI ba), .int (zI tk)]) dX1_close_117 fw_X1_21 rfl (Nat.le_of_ble_eq_true rfl) (jbz v_939070ca3f v_316afd7d0b) rfl ?_
        refine J_mask (L2 := [(58, .inr (1, [.ref 59, .ref 60, .int (zI 0), .int (zI 0), .int (zI hl), .int (zI le), .int (zI ba), .int (zI tk)]))]) (ks := [58, 58]) [true, false] rfl (by decide +kernel) rfl ?_
        exact J_vret dX1_close_120 rfl (Nat.le_of_ble_eq_true rfl) (Nat.le_of_ble_eq_true rfl) ⟨hl, le, ba, tk, rfl, rfl, (jcl_dn (v_2f24bcead4 h2) (v_459daf68aa h3) (jho_n1 (v_d47f715d39 q3 h1))), q5, q6, q7, q8, q9, q10, q11, q12⟩
      · refine J_aload_n dX1_close_62 rfl rfl ?_
        refine J_aload_n dX1_close_63 rfl rfl ?_
        refine J_get (v := .int (zI ba)) dX1_close_64 fl_X1_31 hk58 rfl ?_
        refine Z_if_ne (tgt := 74) dX1_close_67 (by decide) (v_5f10a759cd q9 q10) (fun h5 => ?_) (fun h5 => ?_)
        · refine Z_iconst (n := 1) dX1_close_74 ?_
          refine J_goto (tgt := 79) dX1_close_75 (by decide) ?_
          refine K_put (fs2 := [.ref 59, .ref 60, .int (zI ht), .int (zI br), .int (zI hl), .int (zI le), .int (zI 1), .int (zI tk)]) dX1_close_79 fw_X1_31 hk58 (Nat.le_of_ble_eq_true rfl) (jbz v_316afd7d0b v_bbcfac9b7d) rfl ?_
          refine J_goto (tgt := 110) dX1_close_82 (by decide) ?_
          refine J_aload_n dX1_close_110 rfl rfl ?_
          refine Z_iconst (n := 0) dX1_close_111 ?_
          refine K_put (fs2 := [.ref 59, .ref 60, .int (zI 0), .int (zI br), .int (zI hl), .int (zI le), .int (zI 1), .int (zI tk)]) dX1_close_112 fw_X1_17 rfl (Nat.le_of_ble_eq_true rfl) (fun _ => ⟨rfl, rfl⟩) rfl ?_
          refine J_aload_n dX1_close_115 rfl rfl ?_
          refine Z_iconst (n := 0) dX1_close_116 ?_
          refine K_put (fs2 := [.ref 59, .ref 60, .int (zI 0), .int (zI 0), .int (zI hl), .int (zI le), .int (zI 1), .int (zI tk)]) dX1_close_117 fw_X1_21 rfl (Nat.le_of_ble_eq_true rfl) (jbz v_939070ca3f v_316afd7d0b) rfl ?_
          refine J_mask (L2 := [(58, .inr (1, [.ref 59, .ref 60, .int (zI 0), .int (zI 0), .int (zI hl), .int (zI le), .int (zI 1), .int (zI tk)]))]) (ks := [58, 58, 58]) [true, false, false] rfl (by decide +kernel) rfl ?_
          exact J_vret dX1_close_120 rfl (Nat.le_of_ble_eq_true rfl) (Nat.le_of_ble_eq_true rfl) ⟨hl, le, 1, tk, rfl, rfl, (jcl_14n (v_2ea180581b h3) (jho_n1 (v_d47f715d39 q3 h1)) (v_8b15499c4b q9 q10 h5)), q5, q6, q7, q8, v_316afd7d0b, v_bbcfac9b7d, q11, q12⟩
        · refine J_iload_n dX1_close_70 rfl rfl ?_
          refine Z_if_eq (tgt := 78) dX1_close_71 (by decide) v_b17331891f (fun h6 => ?_) (fun h6 => absurd h6 (fun q => q v_2ca2bbca1f))
          refine Z_iconst (n := 0) dX1_close_78 ?_
          refine K_put (fs2 := [.ref 59, .ref 60, .int (zI ht), .int (zI br), .int (zI hl), .int (zI le), .int (zI 0), .int (zI tk)]) dX1_close_79 fw_X1_31 hk58 (Nat.le_of_ble_eq_true rfl) (jbz v_939070ca3f v_316afd7d0b) rfl ?_
          refine J_goto (tgt := 110) dX1_close_82 (by decide) ?_
          refine J_aload_n dX1_close_110 rfl rfl ?_
          refine Z_iconst (n := 0) dX1_close_111 ?_
          refine K_put (fs2 := [.ref 59, .ref 60, .int (zI 0), .int (zI br), .int (zI hl), .int (zI le), .int (zI 0), .int (zI tk)]) dX1_close_112 fw_X1_17 rfl (Nat.le_of_ble_eq_true rfl) (fun _ => ⟨rfl, rfl⟩) rfl ?_
          refine J_aload_n dX1_close_115 rfl rfl ?_
          refine Z_iconst (n := 0) dX1_close_116 ?_
          refine K_put (fs2 := [.ref 59, .ref 60, .int (zI 0), .int (zI 0), .int (zI hl), .int (zI le), .int (zI 0), .int (zI tk)]) dX1_close_117 fw_X1_21 rfl (Nat.le_of_ble_eq_true rfl) (jbz v_939070ca3f v_316afd7d0b) rfl ?_
          refine J_mask (L2 := [(58, .inr (1, [.ref 59, .ref 60, .int (zI 0), .int (zI 0), .int (zI hl), .int (zI le), .int (zI 0), .int (zI tk)]))]) (ks := [58, 58, 58]) [true, false, false] rfl (by decide +kernel) rfl ?_
          exact J_vret dX1_close_120 rfl (Nat.le_of_ble_eq_true rfl) (Nat.le_of_ble_eq_true rfl) ⟨hl, le, 0, tk, rfl, rfl, (jcl_14n (v_2ea180581b h3) (jho_n1 (v_d47f715d39 q3 h1)) (v_bd6c74a791 q9 h5)), q5, q6, q7, q8, v_939070ca3f, v_316afd7d0b, q11, q12⟩
    · refine J_aload_n dX1_close_28 rfl rfl ?_
      refine Z_iconst (n := 1) dX1_close_29 ?_
      refine K_put (fs2 := [.ref 59, .ref 60, .int (zI ht), .int (zI br), .int (zI 1), .int (zI le), .int (zI ba), .int (zI tk)]) dX1_close_30 fw_X1_25 hk58 (Nat.le_of_ble_eq_true rfl) (jbz v_316afd7d0b v_bbcfac9b7d) rfl ?_
      refine J_aload_n dX1_close_33 rfl rfl ?_
      refine J_aload_n dX1_close_34 rfl rfl ?_
      refine J_get (v := .int (zI le)) dX1_close_35 fl_X1_28 rfl rfl ?_
      refine Z_if_ne (tgt := 45) dX1_close_38 (by decide) (v_5f10a759cd q7 q8) (fun h7 => ?_) (fun h7 => ?_)
      · refine Z_iconst (n := 1) dX1_close_45 ?_
        refine J_goto (tgt := 50) dX1_close_46 (by decide) ?_
        refine K_put (fs2 := [.ref 59, .ref 60, .int (zI ht), .int (zI br), .int (zI 1), .int (zI 1), .int (zI ba), .int (zI tk)]) dX1_close_50 fw_X1_28 rfl (Nat.le_of_ble_eq_true rfl) (jbz v_316afd7d0b v_bbcfac9b7d) rfl ?_
        refine J_goto (tgt := 110) dX1_close_53 (by decide) ?_
        refine J_aload_n dX1_close_110 rfl rfl ?_
        refine Z_iconst (n := 0) dX1_close_111 ?_
        refine K_put (fs2 := [.ref 59, .ref 60, .int (zI 0), .int (zI br), .int (zI 1), .int (zI 1), .int (zI ba), .int (zI tk)]) dX1_close_112 fw_X1_17 rfl (Nat.le_of_ble_eq_true rfl) (fun _ => ⟨rfl, rfl⟩) rfl ?_
        refine J_aload_n dX1_close_115 rfl rfl ?_
        refine Z_iconst (n := 0) dX1_close_116 ?_
        refine K_put (fs2 := [.ref 59, .ref 60, .int (zI 0), .int (zI 0), .int (zI 1), .int (zI 1), .int (zI ba), .int (zI tk)]) dX1_close_117 fw_X1_21 rfl (Nat.le_of_ble_eq_true rfl) (jbz v_939070ca3f v_316afd7d0b) rfl ?_
        refine J_mask (L2 := [(58, .inr (1, [.ref 59, .ref 60, .int (zI 0), .int (zI 0), .int (zI 1), .int (zI 1), .int (zI ba), .int (zI tk)]))]) (ks := [58, 58, 58, 58]) [true, false, false, false] rfl (by decide +kernel) rfl ?_
        exact J_vret dX1_close_120 rfl (Nat.le_of_ble_eq_true rfl) (Nat.le_of_ble_eq_true rfl) ⟨1, 1, ba, tk, rfl, rfl, (jcl_13n (v_486f5fb9bb h2) (jho_n1 (v_d47f715d39 q3 h1)) (v_8b15499c4b q7 q8 h7)), v_316afd7d0b, v_bbcfac9b7d, v_316afd7d0b, v_bbcfac9b7d, q9, q10, q11, q12⟩
      · refine J_iload_n dX1_close_41 rfl rfl ?_
        refine Z_if_eq (tgt := 49) dX1_close_42 (by decide) v_b17331891f (fun h8 => ?_) (fun h8 => absurd h8 (fun q => q v_2ca2bbca1f))
        refine Z_iconst (n := 0) dX1_close_49 ?_
        refine K_put (fs2 := [.ref 59, .ref 60, .int (zI ht), .int (zI br), .int (zI 1), .int (zI 0), .int (zI ba), .int (zI tk)]) dX1_close_50 fw_X1_28 rfl (Nat.le_of_ble_eq_true rfl) (jbz v_939070ca3f v_316afd7d0b) rfl ?_
        refine J_goto (tgt := 110) dX1_close_53 (by decide) ?_
        refine J_aload_n dX1_close_110 rfl rfl ?_
        refine Z_iconst (n := 0) dX1_close_111 ?_
        refine K_put (fs2 := [.ref 59, .ref 60, .int (zI 0), .int (zI br), .int (zI 1), .int (zI 0), .int (zI ba), .int (zI tk)]) dX1_close_112 fw_X1_17 rfl (Nat.le_of_ble_eq_true rfl) (fun _ => ⟨rfl, rfl⟩) rfl ?_
        refine J_aload_n dX1_close_115 rfl rfl ?_
        refine Z_iconst (n := 0) dX1_close_116 ?_
        refine K_put (fs2 := [.ref 59, .ref 60, .int (zI 0), .int (zI 0), .int (zI 1), .int (zI 0), .int (zI ba), .int (zI tk)]) dX1_close_117 fw_X1_21 rfl (Nat.le_of_ble_eq_true rfl) (jbz v_939070ca3f v_316afd7d0b) rfl ?_
        refine J_mask (L2 := [(58, .inr (1, [.ref 59, .ref 60, .int (zI 0), .int (zI 0), .int (zI 1), .int (zI 0), .int (zI ba), .int (zI tk)]))]) (ks := [58, 58, 58, 58]) [true, false, false, false] rfl (by decide +kernel) rfl ?_
        exact J_vret dX1_close_120 rfl (Nat.le_of_ble_eq_true rfl) (Nat.le_of_ble_eq_true rfl) ⟨1, 0, ba, tk, rfl, rfl, (jcl_13n (v_486f5fb9bb h2) (jho_n1 (v_d47f715d39 q3 h1)) (v_bd6c74a791 q7 h7)), v_316afd7d0b, v_bbcfac9b7d, v_939070ca3f, v_316afd7d0b, q9, q10, q11, q12⟩
  · refine J_aload_n dX1_close_7 rfl rfl ?_
    refine J_callV (st := []) dX1_close_8 cv_X1_44 (j_top ht br hl le ba tk kf q1 q2 q3 q4 q5 q6 q7 q8 q9 q10 q11 q12 q13 hk58 hk60) hk58 rfl rfl (Nat.le_of_ble_eq_true rfl) ⟨(Nat.le_of_ble_eq_true rfl), (Nat.le_of_ble_eq_true rfl)⟩ ⟨(Nat.le_of_ble_eq_true rfl), (Nat.le_of_ble_eq_true rfl)⟩ (fun r h9 hp => ?_)
    obtain ⟨z9, rfl, rfl, h10, h11, h12⟩ := hp
    refine J_nf (nh2 := nh) (ck2 := 0) (sk2 := 0) (st2 := [.long (zL z9)]) rfl rfl rfl rfl ?_
    refine J_lconst (v := zL 0) dX1_close_11 (by decide +kernel) ?_
    refine Y_lcmp dX1_close_12 (v_ce139c3fca h11 h12) v_648c9410ae (fun z13 z13a z13b z13c z13d => ?_)
    refine Z_if_eq (tgt := 20) dX1_close_13 (by decide) (v_51ccf7ebfa z13a z13b) (fun h14 => ?_) (fun h14 => ?_)
    · have h15 : z9 = 0 := by omega
      refine Z_iconst (n := 0) dX1_close_20 ?_
      refine J_istore_n dX1_close_21 rfl (Nat.le_of_ble_eq_true rfl) rfl ?_
      refine J_ls (ls2 := [some (.ref 58), some (.int (zI k)), some (.int (zI 0))]) rfl ?_
      refine J_iload_n dX1_close_22 rfl rfl ?_
      refine Z_bipush (n := 13) dX1_close_23 (by decide +kernel) ?_
      refine Z_icmp_ne (tgt := 56) dX1_close_25 (by decide) (v_b25fa51a85 q0) v_9c1fa5e798 (fun h16 => ?_) (fun h16 => ?_)
      · refine J_iload_n dX1_close_56 rfl rfl ?_
        refine Z_bipush (n := 14) dX1_close_57 (by decide +kernel) ?_
        refine Z_icmp_ne (tgt := 85) dX1_close_59 (by decide) (v_b25fa51a85 q0) v_2a4719925a (fun h17 => ?_) (fun h17 => ?_)
        · refine J_iload_n dX1_close_85 rfl rfl ?_
          refine Z_if_eq (tgt := 110) dX1_close_86 (by decide) v_b17331891f (fun h18 => ?_) (fun h18 => absurd h18 (fun q => q v_2ca2bbca1f))
          refine J_aload_n dX1_close_110 rfl rfl ?_
          refine Z_iconst (n := 0) dX1_close_111 ?_
          refine K_put (fs2 := [.ref 59, .ref 60, .int (zI 0), .int (zI br), .int (zI hl), .int (zI le), .int (zI ba), .int (zI tk)]) dX1_close_112 fw_X1_17 hk58 (Nat.le_of_ble_eq_true rfl) (fun _ => ⟨rfl, rfl⟩) rfl ?_
          refine J_aload_n dX1_close_115 rfl rfl ?_
          refine Z_iconst (n := 0) dX1_close_116 ?_
          refine K_put (fs2 := [.ref 59, .ref 60, .int (zI 0), .int (zI 0), .int (zI hl), .int (zI le), .int (zI ba), .int (zI tk)]) dX1_close_117 fw_X1_21 rfl (Nat.le_of_ble_eq_true rfl) (jbz v_939070ca3f v_316afd7d0b) rfl ?_
          refine J_mask (L2 := [(58, .inr (1, [.ref 59, .ref 60, .int (zI 0), .int (zI 0), .int (zI hl), .int (zI le), .int (zI ba), .int (zI tk)]))]) (ks := [58, 58]) [true, false] rfl (by decide +kernel) rfl ?_
          exact J_vret dX1_close_120 rfl (Nat.le_of_ble_eq_true rfl) (Nat.le_of_ble_eq_true rfl) ⟨hl, le, ba, tk, rfl, rfl, (jcl_dn (v_2f24bcead4 h16) (v_459daf68aa h17) (jho_n2 h10 (v_2b2aa55e09 h15))), q5, q6, q7, q8, q9, q10, q11, q12⟩
        · refine J_aload_n dX1_close_62 rfl rfl ?_
          refine J_aload_n dX1_close_63 rfl rfl ?_
          refine J_get (v := .int (zI ba)) dX1_close_64 fl_X1_31 hk58 rfl ?_
          refine Z_if_ne (tgt := 74) dX1_close_67 (by decide) (v_5f10a759cd q9 q10) (fun h19 => ?_) (fun h19 => ?_)
          · refine Z_iconst (n := 1) dX1_close_74 ?_
            refine J_goto (tgt := 79) dX1_close_75 (by decide) ?_
            refine K_put (fs2 := [.ref 59, .ref 60, .int (zI ht), .int (zI br), .int (zI hl), .int (zI le), .int (zI 1), .int (zI tk)]) dX1_close_79 fw_X1_31 hk58 (Nat.le_of_ble_eq_true rfl) (jbz v_316afd7d0b v_bbcfac9b7d) rfl ?_
            refine J_goto (tgt := 110) dX1_close_82 (by decide) ?_
            refine J_aload_n dX1_close_110 rfl rfl ?_
            refine Z_iconst (n := 0) dX1_close_111 ?_
            refine K_put (fs2 := [.ref 59, .ref 60, .int (zI 0), .int (zI br), .int (zI hl), .int (zI le), .int (zI 1), .int (zI tk)]) dX1_close_112 fw_X1_17 rfl (Nat.le_of_ble_eq_true rfl) (fun _ => ⟨rfl, rfl⟩) rfl ?_
            refine J_aload_n dX1_close_115 rfl rfl ?_
            refine Z_iconst (n := 0) dX1_close_116 ?_
            refine K_put (fs2 := [.ref 59, .ref 60, .int (zI 0), .int (zI 0), .int (zI hl), .int (zI le), .int (zI 1), .int (zI tk)]) dX1_close_117 fw_X1_21 rfl (Nat.le_of_ble_eq_true rfl) (jbz v_939070ca3f v_316afd7d0b) rfl ?_
            refine J_mask (L2 := [(58, .inr (1, [.ref 59, .ref 60, .int (zI 0), .int (zI 0), .int (zI hl), .int (zI le), .int (zI 1), .int (zI tk)]))]) (ks := [58, 58, 58]) [true, false, false] rfl (by decide +kernel) rfl ?_
            exact J_vret dX1_close_120 rfl (Nat.le_of_ble_eq_true rfl) (Nat.le_of_ble_eq_true rfl) ⟨hl, le, 1, tk, rfl, rfl, (jcl_14n (v_2ea180581b h17) (jho_n2 h10 (v_2b2aa55e09 h15)) (v_8b15499c4b q9 q10 h19)), q5, q6, q7, q8, v_316afd7d0b, v_bbcfac9b7d, q11, q12⟩
          · refine J_iload_n dX1_close_70 rfl rfl ?_
            refine Z_if_eq (tgt := 78) dX1_close_71 (by decide) v_b17331891f (fun h20 => ?_) (fun h20 => absurd h20 (fun q => q v_2ca2bbca1f))
            refine Z_iconst (n := 0) dX1_close_78 ?_
            refine K_put (fs2 := [.ref 59, .ref 60, .int (zI ht), .int (zI br), .int (zI hl), .int (zI le), .int (zI 0), .int (zI tk)]) dX1_close_79 fw_X1_31 hk58 (Nat.le_of_ble_eq_true rfl) (jbz v_939070ca3f v_316afd7d0b) rfl ?_
            refine J_goto (tgt := 110) dX1_close_82 (by decide) ?_
            refine J_aload_n dX1_close_110 rfl rfl ?_
            refine Z_iconst (n := 0) dX1_close_111 ?_
            refine K_put (fs2 := [.ref 59, .ref 60, .int (zI 0), .int (zI br), .int (zI hl), .int (zI le), .int (zI 0), .int (zI tk)]) dX1_close_112 fw_X1_17 rfl (Nat.le_of_ble_eq_true rfl) (fun _ => ⟨rfl, rfl⟩) rfl ?_
            refine J_aload_n dX1_close_115 rfl rfl ?_
            refine Z_iconst (n := 0) dX1_close_116 ?_
            refine K_put (fs2 := [.ref 59, .ref 60, .int (zI 0), .int (zI 0), .int (zI hl), .int (zI le), .int (zI 0), .int (zI tk)]) dX1_close_117 fw_X1_21 rfl (Nat.le_of_ble_eq_true rfl) (jbz v_939070ca3f v_316afd7d0b) rfl ?_
            refine J_mask (L2 := [(58, .inr (1, [.ref 59, .ref 60, .int (zI 0), .int (zI 0), .int (zI hl), .int (zI le), .int (zI 0), .int (zI tk)]))]) (ks := [58, 58, 58]) [true, false, false] rfl (by decide +kernel) rfl ?_
            exact J_vret dX1_close_120 rfl (Nat.le_of_ble_eq_true rfl) (Nat.le_of_ble_eq_true rfl) ⟨hl, le, 0, tk, rfl, rfl, (jcl_14n (v_2ea180581b h17) (jho_n2 h10 (v_2b2aa55e09 h15)) (v_bd6c74a791 q9 h19)), q5, q6, q7, q8, v_939070ca3f, v_316afd7d0b, q11, q12⟩
      · refine J_aload_n dX1_close_28 rfl rfl ?_
        refine Z_iconst (n := 1) dX1_close_29 ?_
        refine K_put (fs2 := [.ref 59, .ref 60, .int (zI ht), .int (zI br), .int (zI 1), .int (zI le), .int (zI ba), .int (zI tk)]) dX1_close_30 fw_X1_25 hk58 (Nat.le_of_ble_eq_true rfl) (jbz v_316afd7d0b v_bbcfac9b7d) rfl ?_
        refine J_aload_n dX1_close_33 rfl rfl ?_
        refine J_aload_n dX1_close_34 rfl rfl ?_
        refine J_get (v := .int (zI le)) dX1_close_35 fl_X1_28 rfl rfl ?_
        refine Z_if_ne (tgt := 45) dX1_close_38 (by decide) (v_5f10a759cd q7 q8) (fun h21 => ?_) (fun h21 => ?_)
        · refine Z_iconst (n := 1) dX1_close_45 ?_
          refine J_goto (tgt := 50) dX1_close_46 (by decide) ?_
          refine K_put (fs2 := [.ref 59, .ref 60, .int (zI ht), .int (zI br), .int (zI 1), .int (zI 1), .int (zI ba), .int (zI tk)]) dX1_close_50 fw_X1_28 rfl (Nat.le_of_ble_eq_true rfl) (jbz v_316afd7d0b v_bbcfac9b7d) rfl ?_
          refine J_goto (tgt := 110) dX1_close_53 (by decide) ?_
          refine J_aload_n dX1_close_110 rfl rfl ?_
          refine Z_iconst (n := 0) dX1_close_111 ?_
          refine K_put (fs2 := [.ref 59, .ref 60, .int (zI 0), .int (zI br), .int (zI 1), .int (zI 1), .int (zI ba), .int (zI tk)]) dX1_close_112 fw_X1_17 rfl (Nat.le_of_ble_eq_true rfl) (fun _ => ⟨rfl, rfl⟩) rfl ?_
          refine J_aload_n dX1_close_115 rfl rfl ?_
          refine Z_iconst (n := 0) dX1_close_116 ?_
          refine K_put (fs2 := [.ref 59, .ref 60, .int (zI 0), .int (zI 0), .int (zI 1), .int (zI 1), .int (zI ba), .int (zI tk)]) dX1_close_117 fw_X1_21 rfl (Nat.le_of_ble_eq_true rfl) (jbz v_939070ca3f v_316afd7d0b) rfl ?_
          refine J_mask (L2 := [(58, .inr (1, [.ref 59, .ref 60, .int (zI 0), .int (zI 0), .int (zI 1), .int (zI 1), .int (zI ba), .int (zI tk)]))]) (ks := [58, 58, 58, 58]) [true, false, false, false] rfl (by decide +kernel) rfl ?_
          exact J_vret dX1_close_120 rfl (Nat.le_of_ble_eq_true rfl) (Nat.le_of_ble_eq_true rfl) ⟨1, 1, ba, tk, rfl, rfl, (jcl_13n (v_486f5fb9bb h16) (jho_n2 h10 (v_2b2aa55e09 h15)) (v_8b15499c4b q7 q8 h21)), v_316afd7d0b, v_bbcfac9b7d, v_316afd7d0b, v_bbcfac9b7d, q9, q10, q11, q12⟩
        · refine J_iload_n dX1_close_41 rfl rfl ?_
          refine Z_if_eq (tgt := 49) dX1_close_42 (by decide) v_b17331891f (fun h22 => ?_) (fun h22 => absurd h22 (fun q => q v_2ca2bbca1f))
          refine Z_iconst (n := 0) dX1_close_49 ?_
          refine K_put (fs2 := [.ref 59, .ref 60, .int (zI ht), .int (zI br), .int (zI 1), .int (zI 0), .int (zI ba), .int (zI tk)]) dX1_close_50 fw_X1_28 rfl (Nat.le_of_ble_eq_true rfl) (jbz v_939070ca3f v_316afd7d0b) rfl ?_
          refine J_goto (tgt := 110) dX1_close_53 (by decide) ?_
          refine J_aload_n dX1_close_110 rfl rfl ?_
          refine Z_iconst (n := 0) dX1_close_111 ?_
          refine K_put (fs2 := [.ref 59, .ref 60, .int (zI 0), .int (zI br), .int (zI 1), .int (zI 0), .int (zI ba), .int (zI tk)]) dX1_close_112 fw_X1_17 rfl (Nat.le_of_ble_eq_true rfl) (fun _ => ⟨rfl, rfl⟩) rfl ?_
          refine J_aload_n dX1_close_115 rfl rfl ?_
          refine Z_iconst (n := 0) dX1_close_116 ?_
          refine K_put (fs2 := [.ref 59, .ref 60, .int (zI 0), .int (zI 0), .int (zI 1), .int (zI 0), .int (zI ba), .int (zI tk)]) dX1_close_117 fw_X1_21 rfl (Nat.le_of_ble_eq_true rfl) (jbz v_939070ca3f v_316afd7d0b) rfl ?_
          refine J_mask (L2 := [(58, .inr (1, [.ref 59, .ref 60, .int (zI 0), .int (zI 0), .int (zI 1), .int (zI 0), .int (zI ba), .int (zI tk)]))]) (ks := [58, 58, 58, 58]) [true, false, false, false] rfl (by decide +kernel) rfl ?_
          exact J_vret dX1_close_120 rfl (Nat.le_of_ble_eq_true rfl) (Nat.le_of_ble_eq_true rfl) ⟨1, 0, ba, tk, rfl, rfl, (jcl_13n (v_486f5fb9bb h16) (jho_n2 h10 (v_2b2aa55e09 h15)) (v_bd6c74a791 q7 h21)), v_316afd7d0b, v_bbcfac9b7d, v_939070ca3f, v_316afd7d0b, q9, q10, q11, q12⟩
    · have h23 : ¬ z9 = 0 := by omega
      refine Z_iconst (n := 1) dX1_close_16 ?_
      refine J_goto (tgt := 21) dX1_close_17 (by decide) ?_
      refine J_istore_n dX1_close_21 rfl (Nat.le_of_ble_eq_true rfl) rfl ?_
      refine J_ls (ls2 := [some (.ref 58), some (.int (zI k)), some (.int (zI 1))]) rfl ?_
      refine J_iload_n dX1_close_22 rfl rfl ?_
      refine Z_bipush (n := 13) dX1_close_23 (by decide +kernel) ?_
      refine Z_icmp_ne (tgt := 56) dX1_close_25 (by decide) (v_b25fa51a85 q0) v_9c1fa5e798 (fun h24 => ?_) (fun h24 => ?_)
      · refine J_iload_n dX1_close_56 rfl rfl ?_
        refine Z_bipush (n := 14) dX1_close_57 (by decide +kernel) ?_
        refine Z_icmp_ne (tgt := 85) dX1_close_59 (by decide) (v_b25fa51a85 q0) v_2a4719925a (fun h25 => ?_) (fun h25 => ?_)
        · refine J_iload_n dX1_close_85 rfl rfl ?_
          refine Z_if_eq (tgt := 110) dX1_close_86 (by decide) v_4dcc24baa7 (fun h26 => absurd h26 v_3a47bfd896) (fun h26 => ?_)
          refine J_aload_n dX1_close_89 rfl rfl ?_
          refine J_lconst (v := zL 1) dX1_close_90 (by decide +kernel) ?_
          refine J_ldc2 (v := zL 99) dX1_close_91 (jt4 136 rfl rfl) ?_
          refine J_aload_n dX1_close_94 rfl rfl ?_
          refine J_get (v := .ref 60) dX1_close_95 fl_X1_13 hk58 rfl ?_
          refine Z_iconst (n := 0) dX1_close_98 ?_
          obtain ⟨z27, ez27⟩ : ∃ z : Int, kf 0 = z := ⟨_, rfl⟩
          have h28 := Rg.at q13 v_939070ca3f v_29cf2762c2 ez27
          refine Y_lald (z := z27) 64 dX1_close_99 hk60 rfl (by decide) v_939070ca3f v_29cf2762c2 (congrArg zL ez27) ?_
          refine Y_minl dX1_close_100 (jt4 137 rfl rfl) (jt4 138 rfl rfl) (jt1 19 rfl rfl) (jt4 139 rfl rfl) (Nat.le_of_ble_eq_true rfl) (Nat.le_of_ble_eq_true rfl) (Nat.le_of_ble_eq_true rfl) (Nat.le_of_ble_eq_true rfl) v_a436dc5554 (v_ce139c3fca h28.1 h28.2) (fun w29 w29a w29b w29c => ?_)
          have h30 : -9223372036854775808 ≤ w29 := by omega
          refine Y_maxl dX1_close_103 (jt4 140 rfl rfl) (jt4 141 rfl rfl) (jt1 19 rfl rfl) (jt4 142 rfl rfl) (Nat.le_of_ble_eq_true rfl) (Nat.le_of_ble_eq_true rfl) (Nat.le_of_ble_eq_true rfl) (Nat.le_of_ble_eq_true rfl) v_c87c4d349e (v_5b67f62cd2 w29a h30) (fun w31 w31a w31b w31c => ?_)
          have h32 : w31 ≤ 99 := by omega
          refine Y_l2i dX1_close_106 (v_436b5826f5 w31a h32) ?_
          refine K_put (fs2 := [.ref 59, .ref 60, .int (zI ht), .int (zI br), .int (zI hl), .int (zI le), .int (zI ba), .int (zI w31)]) dX1_close_107 fw_X1_34 hk58 (Nat.le_of_ble_eq_true rfl) (fun _ => ⟨rfl, rfl⟩) rfl ?_
          refine J_aload_n dX1_close_110 rfl rfl ?_
          refine Z_iconst (n := 0) dX1_close_111 ?_
          refine K_put (fs2 := [.ref 59, .ref 60, .int (zI 0), .int (zI br), .int (zI hl), .int (zI le), .int (zI ba), .int (zI w31)]) dX1_close_112 fw_X1_17 rfl (Nat.le_of_ble_eq_true rfl) (fun _ => ⟨rfl, rfl⟩) rfl ?_
          refine J_aload_n dX1_close_115 rfl rfl ?_
          refine Z_iconst (n := 0) dX1_close_116 ?_
          refine K_put (fs2 := [.ref 59, .ref 60, .int (zI 0), .int (zI 0), .int (zI hl), .int (zI le), .int (zI ba), .int (zI w31)]) dX1_close_117 fw_X1_21 rfl (Nat.le_of_ble_eq_true rfl) (jbz v_939070ca3f v_316afd7d0b) rfl ?_
          refine J_mask (L2 := [(58, .inr (1, [.ref 59, .ref 60, .int (zI 0), .int (zI 0), .int (zI hl), .int (zI le), .int (zI ba), .int (zI w31)]))]) (ks := [58, 58, 58]) [true, false, false] rfl (by decide +kernel) rfl ?_
          exact J_vret dX1_close_120 rfl (Nat.le_of_ble_eq_true rfl) (Nat.le_of_ble_eq_true rfl) ⟨hl, le, ba, w31, rfl, rfl, (jcl_dy (v_2f24bcead4 h24) (v_459daf68aa h25) (jho_y (v_bd6c74a791 q3 h1) h10 (v_7502709ab7 h23)) (clmp_of ez27 w29a w29b w29c w31a w31b w31c)), q5, q6, q7, q8, q9, q10, w31a, h32⟩
        · refine J_aload_n dX1_close_62 rfl rfl ?_
          refine J_aload_n dX1_close_63 rfl rfl ?_
          refine J_get (v := .int (zI ba)) dX1_close_64 fl_X1_31 hk58 rfl ?_
          refine Z_if_ne (tgt := 74) dX1_close_67 (by decide) (v_5f10a759cd q9 q10) (fun h33 => ?_) (fun h33 => ?_)
          · refine Z_iconst (n := 1) dX1_close_74 ?_
            refine J_goto (tgt := 79) dX1_close_75 (by decide) ?_
            refine K_put (fs2 := [.ref 59, .ref 60, .int (zI ht), .int (zI br), .int (zI hl), .int (zI le), .int (zI 1), .int (zI tk)]) dX1_close_79 fw_X1_31 hk58 (Nat.le_of_ble_eq_true rfl) (jbz v_316afd7d0b v_bbcfac9b7d) rfl ?_
            refine J_goto (tgt := 110) dX1_close_82 (by decide) ?_
            refine J_aload_n dX1_close_110 rfl rfl ?_
            refine Z_iconst (n := 0) dX1_close_111 ?_
            refine K_put (fs2 := [.ref 59, .ref 60, .int (zI 0), .int (zI br), .int (zI hl), .int (zI le), .int (zI 1), .int (zI tk)]) dX1_close_112 fw_X1_17 rfl (Nat.le_of_ble_eq_true rfl) (fun _ => ⟨rfl, rfl⟩) rfl ?_
            refine J_aload_n dX1_close_115 rfl rfl ?_
            refine Z_iconst (n := 0) dX1_close_116 ?_
            refine K_put (fs2 := [.ref 59, .ref 60, .int (zI 0), .int (zI 0), .int (zI hl), .int (zI le), .int (zI 1), .int (zI tk)]) dX1_close_117 fw_X1_21 rfl (Nat.le_of_ble_eq_true rfl) (jbz v_939070ca3f v_316afd7d0b) rfl ?_
            refine J_mask (L2 := [(58, .inr (1, [.ref 59, .ref 60, .int (zI 0), .int (zI 0), .int (zI hl), .int (zI le), .int (zI 1), .int (zI tk)]))]) (ks := [58, 58, 58]) [true, false, false] rfl (by decide +kernel) rfl ?_
            exact J_vret dX1_close_120 rfl (Nat.le_of_ble_eq_true rfl) (Nat.le_of_ble_eq_true rfl) ⟨hl, le, 1, tk, rfl, rfl, (jcl_14y (v_2ea180581b h25) (jho_y (v_bd6c74a791 q3 h1) h10 (v_7502709ab7 h23))), q5, q6, q7, q8, v_316afd7d0b, v_bbcfac9b7d, q11, q12⟩
          · refine J_iload_n dX1_close_70 rfl rfl ?_
            refine Z_if_eq (tgt := 78) dX1_close_71 (by decide) v_4dcc24baa7 (fun h34 => absurd h34 v_3a47bfd896) (fun h34 => ?_)
            refine Z_iconst (n := 1) dX1_close_74 ?_
            refine J_goto (tgt := 79) dX1_close_75 (by decide) ?_
            refine K_put (fs2 := [.ref 59, .ref 60, .int (zI ht), .int (zI br), .int (zI hl), .int (zI le), .int (zI 1), .int (zI tk)]) dX1_close_79 fw_X1_31 hk58 (Nat.le_of_ble_eq_true rfl) (jbz v_316afd7d0b v_bbcfac9b7d) rfl ?_
            refine J_goto (tgt := 110) dX1_close_82 (by decide) ?_
            refine J_aload_n dX1_close_110 rfl rfl ?_
            refine Z_iconst (n := 0) dX1_close_111 ?_
            refine K_put (fs2 := [.ref 59, .ref 60, .int (zI 0), .int (zI br), .int (zI hl), .int (zI le), .int (zI 1), .int (zI tk)]) dX1_close_112 fw_X1_17 rfl (Nat.le_of_ble_eq_true rfl) (fun _ => ⟨rfl, rfl⟩) rfl ?_
            refine J_aload_n dX1_close_115 rfl rfl ?_
            refine Z_iconst (n := 0) dX1_close_116 ?_
            refine K_put (fs2 := [.ref 59, .ref 60, .int (zI 0), .int (zI 0), .int (zI hl), .int (zI le), .int (zI 1), .int (zI tk)]) dX1_close_117 fw_X1_21 rfl (Nat.le_of_ble_eq_true rfl) (jbz v_939070ca3f v_316afd7d0b) rfl ?_
            refine J_mask (L2 := [(58, .inr (1, [.ref 59, .ref 60, .int (zI 0), .int (zI 0), .int (zI hl), .int (zI le), .int (zI 1), .int (zI tk)]))]) (ks := [58, 58, 58]) [true, false, false] rfl (by decide +kernel) rfl ?_
            exact J_vret dX1_close_120 rfl (Nat.le_of_ble_eq_true rfl) (Nat.le_of_ble_eq_true rfl) ⟨hl, le, 1, tk, rfl, rfl, (jcl_14y (v_2ea180581b h25) (jho_y (v_bd6c74a791 q3 h1) h10 (v_7502709ab7 h23))), q5, q6, q7, q8, v_316afd7d0b, v_bbcfac9b7d, q11, q12⟩
      · refine J_aload_n dX1_close_28 rfl rfl ?_
        refine Z_iconst (n := 1) dX1_close_29 ?_
        refine K_put (fs2 := [.ref 59, .ref 60, .int (zI ht), .int (zI br), .int (zI 1), .int (zI le), .int (zI ba), .int (zI tk)]) dX1_close_30 fw_X1_25 hk58 (Nat.le_of_ble_eq_true rfl) (jbz v_316afd7d0b v_bbcfac9b7d) rfl ?_
        refine J_aload_n dX1_close_33 rfl rfl ?_
        refine J_aload_n dX1_close_34 rfl rfl ?_
        refine J_get (v := .int (zI le)) dX1_close_35 fl_X1_28 rfl rfl ?_
        refine Z_if_ne (tgt := 45) dX1_close_38 (by decide) (v_5f10a759cd q7 q8) (fun h35 => ?_) (fun h35 => ?_)
        · refine Z_iconst (n := 1) dX1_close_45 ?_
          refine J_goto (tgt := 50) dX1_close_46 (by decide) ?_
          refine K_put (fs2 := [.ref 59, .ref 60, .int (zI ht), .int (zI br), .int (zI 1), .int (zI 1), .int (zI ba), .int (zI tk)]) dX1_close_50 fw_X1_28 rfl (Nat.le_of_ble_eq_true rfl) (jbz v_316afd7d0b v_bbcfac9b7d) rfl ?_
          refine J_goto (tgt := 110) dX1_close_53 (by decide) ?_
          refine J_aload_n dX1_close_110 rfl rfl ?_
          refine Z_iconst (n := 0) dX1_close_111 ?_
          refine K_put (fs2 := [.ref 59, .ref 60, .int (zI 0), .int (zI br), .int (zI 1), .int (zI 1), .int (zI ba), .int (zI tk)]) dX1_close_112 fw_X1_17 rfl (Nat.le_of_ble_eq_true rfl) (fun _ => ⟨rfl, rfl⟩) rfl ?_
          refine J_aload_n dX1_close_115 rfl rfl ?_
          refine Z_iconst (n := 0) dX1_close_116 ?_
          refine K_put (fs2 := [.ref 59, .ref 60, .int (zI 0), .int (zI 0), .int (zI 1), .int (zI 1), .int (zI ba), .int (zI tk)]) dX1_close_117 fw_X1_21 rfl (Nat.le_of_ble_eq_true rfl) (jbz v_939070ca3f v_316afd7d0b) rfl ?_
          refine J_mask (L2 := [(58, .inr (1, [.ref 59, .ref 60, .int (zI 0), .int (zI 0), .int (zI 1), .int (zI 1), .int (zI ba), .int (zI tk)]))]) (ks := [58, 58, 58, 58]) [true, false, false, false] rfl (by decide +kernel) rfl ?_
          exact J_vret dX1_close_120 rfl (Nat.le_of_ble_eq_true rfl) (Nat.le_of_ble_eq_true rfl) ⟨1, 1, ba, tk, rfl, rfl, (jcl_13y (v_486f5fb9bb h24) (jho_y (v_bd6c74a791 q3 h1) h10 (v_7502709ab7 h23))), v_316afd7d0b, v_bbcfac9b7d, v_316afd7d0b, v_bbcfac9b7d, q9, q10, q11, q12⟩
        · refine J_iload_n dX1_close_41 rfl rfl ?_
          refine Z_if_eq (tgt := 49) dX1_close_42 (by decide) v_4dcc24baa7 (fun h36 => absurd h36 v_3a47bfd896) (fun h36 => ?_)
          refine Z_iconst (n := 1) dX1_close_45 ?_
          refine J_goto (tgt := 50) dX1_close_46 (by decide) ?_
          refine K_put (fs2 := [.ref 59, .ref 60, .int (zI ht), .int (zI br), .int (zI 1), .int (zI 1), .int (zI ba), .int (zI tk)]) dX1_close_50 fw_X1_28 rfl (Nat.le_of_ble_eq_true rfl) (jbz v_316afd7d0b v_bbcfac9b7d) rfl ?_
          refine J_goto (tgt := 110) dX1_close_53 (by decide) ?_
          refine J_aload_n dX1_close_110 rfl rfl ?_
          refine Z_iconst (n := 0) dX1_close_111 ?_
          refine K_put (fs2 := [.ref 59, .ref 60, .int (zI 0), .int (zI br), .int (zI 1), .int (zI 1), .int (zI ba), .int (zI tk)]) dX1_close_112 fw_X1_17 rfl (Nat.le_of_ble_eq_true rfl) (fun _ => ⟨rfl, rfl⟩) rfl ?_
          refine J_aload_n dX1_close_115 rfl rfl ?_
          refine Z_iconst (n := 0) dX1_close_116 ?_
          refine K_put (fs2 := [.ref 59, .ref 60, .int (zI 0), .int (zI 0), .int (zI 1), .int (zI 1), .int (zI ba), .int (zI tk)]) dX1_close_117 fw_X1_21 rfl (Nat.le_of_ble_eq_true rfl) (jbz v_939070ca3f v_316afd7d0b) rfl ?_
          refine J_mask (L2 := [(58, .inr (1, [.ref 59, .ref 60, .int (zI 0), .int (zI 0), .int (zI 1), .int (zI 1), .int (zI ba), .int (zI tk)]))]) (ks := [58, 58, 58, 58]) [true, false, false, false] rfl (by decide +kernel) rfl ?_
          exact J_vret dX1_close_120 rfl (Nat.le_of_ble_eq_true rfl) (Nat.le_of_ble_eq_true rfl) ⟨1, 1, ba, tk, rfl, rfl, (jcl_13y (v_486f5fb9bb h24) (jho_y (v_bd6c74a791 q3 h1) h10 (v_7502709ab7 h23))), v_316afd7d0b, v_bbcfac9b7d, v_316afd7d0b, v_bbcfac9b7d, q9, q10, q11, q12⟩
set_option maxHeartbeats 4000000 in
set_option maxRecDepth 100000 in
theorem j_verdict {l : Launch} {G : jG} {nh : Nat} {fh : Nat → Option va_E} (r : Nat) (n : Int) (cf : Int → Int) (ht : Int) (br : Int) (hl : Int) (le : Int) (ba : Int) (tk : Int) (kf : Int → Int) (wf : Int → Int) (q0 : 0 ≤ n) (q1 : n ≤ 100000) (q2 : Rg cf n (-2147483648) 2147483647) (q3 : Rg wf 8 (-1000000000) 1000000000) (q4 : Rg kf 64 (-1000000000) 1000000000) (q5 : 0 ≤ ht) (q6 : ht ≤ 64) (q7 : 0 ≤ br) (q8 : br ≤ 1) (q9 : 0 ≤ hl) (q10 : hl ≤ 1) (q11 : 0 ≤ le) (q12 : le ≤ 1) (q13 : 0 ≤ ba) (q14 : ba ≤ 1) (q15 : 1 ≤ tk) (q16 : tk ≤ 99) (hk58 : fh 58 = some (.inr (1, [.ref 59, .ref 60, .int (zI ht), .int (zI br), .int (zI hl), .int (zI le), .int (zI ba), .int (zI tk)]))) (hk60 : fh 60 = some (.inl (1, 64, .inr (.inl (zAL kf))))) (hk59 : fh 59 = some (.inl (0, 8, .inl (zA wf)))) (hkr : fh r = some (.inl (0, (n).toNat, .inl (zA cf)))) (hr : Fx r) : JM l G yX1_verdict MX1_verdict { frames := 3, cells := 0, slots := 0, locals := 71 } [.ref 58, .ref r] (nh, fh) (fun rr h9 => ∃ v : Int, ∃ kg : Int → Int, ∃ ht2 : Int, ∃ br2 : Int, ∃ hl2 : Int, ∃ le2 : Int, ∃ ba2 : Int, ∃ tk2 : Int, rr = some (.int (zI v)) ∧ h9 = (nh, hc fh [(58, .inr (1, [.ref 59, .ref 60, .int (zI ht2), .int (zI br2), .int (zI hl2), .int (zI le2), .int (zI ba2), .int (zI tk2)])), (60, .inl (1, 64, .inr (.inl (zAL kg))))]) ∧ (0 ≤ v) ∧ (v ≤ 99) ∧ (0 ≤ ht2) ∧ (ht2 ≤ 64) ∧ (0 ≤ br2) ∧ (br2 ≤ 1) ∧ (0 ≤ hl2) ∧ (hl2 ≤ 1) ∧ (0 ≤ le2) ∧ (le2 ≤ 1) ∧ (0 ≤ ba2) ∧ (ba2 ≤ 1) ∧ (1 ≤ tk2) ∧ (tk2 ≤ 99) ∧ (Rg kg 64 (-1000000000) 1000000000) ∧ (∀ R, PrG cf n R → vdR R wf = v)) := by
  refine JM.of (by decide) rfl (fun h => by cases h) (Nat.le_of_ble_eq_true rfl) ⟨3, rfl⟩ ?_
  refine J_hc0 (J_ls (ls2 := [some (.ref 58), some (.ref r), none, none, none]) rfl ?_)
  refine J_aload_n dX1_verdict_0 rfl rfl ?_
  refine J_callV (st := []) dX1_verdict_1 cv_X1_37 (j_begin ht br hl le ba tk hk58) hk58 rfl rfl (Nat.le_of_ble_eq_true rfl) ⟨(Nat.le_of_ble_eq_true rfl), (Nat.le_of_ble_eq_true rfl)⟩ ⟨(Nat.le_of_ble_eq_true rfl), (Nat.le_of_ble_eq_true rfl)⟩ (fun r h9 hp => ?_)
  obtain ⟨rfl, rfl⟩ := hp
  refine J_nf (nh2 := nh) (ck2 := 0) (sk2 := 0) (st2 := []) rfl rfl rfl rfl ?_
  refine J_app (L3 := [(58, .inr (1, [.ref 59, .ref 60, .int (zI 0), .int (zI 0), .int (zI 0), .int (zI 0), .int (zI 0), .int (zI 1)]))]) rfl ?_
  refine Z_iconst (n := 0) dX1_verdict_4 ?_
  refine J_istore_n dX1_verdict_5 rfl (Nat.le_of_ble_eq_true rfl) rfl ?_
  refine J_ls (ls2 := [some (.ref 58), some (.ref r), some (.int (zI 0)), none, none]) rfl ?_
  refine J_touch (k := 60) (e := .inl (1, 64, .inr (.inl (zAL kf)))) hk60 ?_
  have lp6 : ∀ (N6 : Nat) (at_6 : Int) (ht_6 : Int) (br_6 : Int) (hl_6 : Int) (le_6 : Int) (ba_6 : Int) (tk_6 : Int) (kk_6 : Int → Int), (0 ≤ at_6) → (at_6 ≤ 100000000) → (0 ≤ ht_6) → (ht_6 ≤ 64) → (0 ≤ br_6) → (br_6 ≤ 1) → (0 ≤ hl_6) → (hl_6 ≤ 1) → (0 ≤ le_6) → (le_6 ≤ 1) → (0 ≤ ba_6) → (ba_6 ≤ 1) → (1 ≤ tk_6) → (tk_6 ≤ 99) → (Rg kk_6 64 (-1000000000) 1000000000) → (JzV cf wf n (0, 0, 0, kf, 0, 0, 0, 1) (at_6, ht_6, br_6, kk_6, hl_6, le_6, ba_6, tk_6)) → (n - at_6).toNat < N6 → J l G MX1_verdict { frames := 3, cells := 0, slots := 0, locals := 71 } jE (jMQ G { frames := 3, cells := 0, slots := 0, locals := 71 } (fun rr h9 => ∃ v : Int, ∃ kg : Int → Int, ∃ ht2 : Int, ∃ br2 : Int, ∃ hl2 : Int, ∃ le2 : Int, ∃ ba2 : Int, ∃ tk2 : Int, rr = some (.int (zI v)) ∧ h9 = (nh, hc fh [(58, .inr (1, [.ref 59, .ref 60, .int (zI ht2), .int (zI br2), .int (zI hl2), .int (zI le2), .int (zI ba2), .int (zI tk2)])), (60, .inl (1, 64, .inr (.inl (zAL kg))))]) ∧ (0 ≤ v) ∧ (v ≤ 99) ∧ (0 ≤ ht2) ∧ (ht2 ≤ 64) ∧ (0 ≤ br2) ∧ (br2 ≤ 1) ∧ (0 ≤ hl2) ∧ (hl2 ≤ 1) ∧ (0 ≤ le2) ∧ (le2 ≤ 1) ∧ (0 ≤ ba2) ∧ (ba2 ≤ 1) ∧ (1 ≤ tk2) ∧ (tk2 ≤ 99) ∧ (Rg kg 64 (-1000000000) 1000000000) ∧ (∀ R, PrG cf n R → vdR R wf = v))) (nh, hc fh [(60, .inl (1, 64, .inr (.inl (zAL kk_6)))), (58, .inr (1, [.ref 59, .ref 60, .int (zI ht_6), .int (zI br_6), .int (zI hl_6), .int (zI le_6), .int (zI ba_6), .int (zI tk_6)]))]) 0 0 6 [some (.ref 58), some (.ref r), some (.int (zI at_6)), none, none] [] := by
    intro N6
    induction N6 with
    | zero => intro at_6 ht_6 br_6 hl_6 le_6 ba_6 tk_6 kk_6 i6_0 i6_1 i6_2 i6_3 i6_4 i6_5 i6_6 i6_7 i6_8 i6_9 i6_10 i6_11 i6_12 i6_13 i6_14 i6_15 hm; exact absurd hm (Nat.not_lt_zero _)
    | succ N6 ih6 =>
      intro at_6 ht_6 br_6 hl_6 le_6 ba_6 tk_6 kk_6 i6_0 i6_1 i6_2 i6_3 i6_4 i6_5 i6_6 i6_7 i6_8 i6_9 i6_10 i6_11 i6_12 i6_13 i6_14 i6_15 hm6
      refine J_iload_n dX1_verdict_6 rfl rfl ?_
      refine J_aload_n dX1_verdict_7 rfl rfl ?_
      refine Y_alen n dX1_verdict_8 (hcn (hr 60 (by decide)) (hcn (hr 58 (by decide)) hkr)) rfl (Int.toNat_of_nonneg (v_2b02420001 q0)) ?_
      refine Z_icmp_ge (tgt := 122) dX1_verdict_9 (by decide) (v_e6f0527522 i6_0 i6_1) (v_df877c3443 q0 q1) (fun h1 => ?_) (fun h1 => ?_)
      · refine J_aload_n dX1_verdict_122 rfl rfl ?_
        refine J_get (v := .int (zI hl_6)) dX1_verdict_123 fl_X1_25 rfl rfl ?_
        refine Z_if_eq (tgt := 136) dX1_verdict_126 (by decide) (v_5f10a759cd i6_6 i6_7) (fun h2 => ?_) (fun h2 => ?_)
        · refine J_aload_n dX1_verdict_136 rfl rfl ?_
          refine J_get (v := .ref 59) dX1_verdict_137 fl_X1_9 rfl rfl ?_
          refine Z_iconst (n := 4) dX1_verdict_140 ?_
          obtain ⟨z3, ez3⟩ : ∃ z : Int, wf 4 = z := ⟨_, rfl⟩
          have h4 := Rg.at q3 v_92ab544b5f v_c1c1c5fa1b ez3
          refine Y_iald (z := z3) 8 dX1_verdict_141 hk59 rfl (by decide) v_92ab544b5f v_c1c1c5fa1b ez3 ?_
          refine Z_iconst (n := 1) dX1_verdict_142 ?_
          refine Z_icmp_ne (tgt := 150) dX1_verdict_143 (by decide) (v_3ce1d98944 h4.1 h4.2) v_4dcc24baa7 (fun h5 => ?_) (fun h5 => ?_)
          · refine Z_iconst (n := 0) dX1_verdict_150 ?_
            refine J_istore_n dX1_verdict_151 rfl (Nat.le_of_ble_eq_true rfl) rfl ?_
            refine J_ls (ls2 := [some (.ref 58), some (.ref r), some (.int (zI 0)), none, none]) rfl ?_
            refine J_iload_n dX1_verdict_152 rfl rfl ?_
            refine Z_if_eq (tgt := 170) dX1_verdict_153 (by decide) v_b17331891f (fun h6 => ?_) (fun h6 => absurd h6 (fun q => q v_2ca2bbca1f))
            refine Z_iconst (n := 0) dX1_verdict_170 ?_
            refine J_touch (k := 60) (e := .inl (1, 64, .inr (.inl (zAL kk_6)))) rfl ?_
            refine J_touch (k := 58) (e := .inr (1, [.ref 59, .ref 60, .int (zI ht_6), .int (zI br_6), .int (zI hl_6), .int (zI le_6), .int (zI ba_6), .int (zI tk_6)])) rfl ?_
            refine J_mask (L2 := [(58, .inr (1, [.ref 59, .ref 60, .int (zI ht_6), .int (zI br_6), .int (zI hl_6), .int (zI le_6), .int (zI ba_6), .int (zI tk_6)])), (60, .inl (1, 64, .inr (.inl (zAL kk_6))))]) (ks := [58, 60, 60, 58]) [true, true, false, false] rfl (by decide +kernel) rfl ?_
            exact J_iret dX1_verdict_171 rfl rfl (Nat.le_of_ble_eq_true rfl) (Nat.le_of_ble_eq_true rfl) ⟨0, kk_6, ht_6, br_6, hl_6, le_6, ba_6, tk_6, rfl, rfl, v_939070ca3f, v_3176ed3c91, i6_2, i6_3, i6_4, i6_5, i6_6, i6_7, i6_8, i6_9, i6_10, i6_11, i6_12, i6_13, i6_14, (JzV.vd i6_15 (v_d464d4c634 h1) q3 (vq_n (vo_d (v_09d14296a9 h2) ez3 (v_9c549312fa h5))))⟩
          · refine Z_iconst (n := 1) dX1_verdict_146 ?_
            refine J_goto (tgt := 151) dX1_verdict_147 (by decide) ?_
            refine J_istore_n dX1_verdict_151 rfl (Nat.le_of_ble_eq_true rfl) rfl ?_
            refine J_ls (ls2 := [some (.ref 58), some (.ref r), some (.int (zI 1)), none, none]) rfl ?_
            refine J_iload_n dX1_verdict_152 rfl rfl ?_
            refine Z_if_eq (tgt := 170) dX1_verdict_153 (by decide) v_4dcc24baa7 (fun h7 => absurd h7 v_3a47bfd896) (fun h7 => ?_)
            refine J_aload_n dX1_verdict_156 rfl rfl ?_
            refine J_get (v := .int (zI ba_6)) dX1_verdict_157 fl_X1_31 rfl rfl ?_
            refine Z_if_ne (tgt := 170) dX1_verdict_160 (by decide) (v_5f10a759cd i6_10 i6_11) (fun h8 => ?_) (fun h8 => ?_)
            · refine Z_iconst (n := 0) dX1_verdict_170 ?_
              refine J_touch (k := 60) (e := .inl (1, 64, .inr (.inl (zAL kk_6)))) rfl ?_
              refine J_touch (k := 58) (e := .inr (1, [.ref 59, .ref 60, .int (zI ht_6), .int (zI br_6), .int (zI hl_6), .int (zI le_6), .int (zI ba_6), .int (zI tk_6)])) rfl ?_
              refine J_mask (L2 := [(58, .inr (1, [.ref 59, .ref 60, .int (zI ht_6), .int (zI br_6), .int (zI hl_6), .int (zI le_6), .int (zI ba_6), .int (zI tk_6)])), (60, .inl (1, 64, .inr (.inl (zAL kk_6))))]) (ks := [58, 60, 60, 58]) [true, true, false, false] rfl (by decide +kernel) rfl ?_
              exact J_iret dX1_verdict_171 rfl rfl (Nat.le_of_ble_eq_true rfl) (Nat.le_of_ble_eq_true rfl) ⟨0, kk_6, ht_6, br_6, hl_6, le_6, ba_6, tk_6, rfl, rfl, v_939070ca3f, v_3176ed3c91, i6_2, i6_3, i6_4, i6_5, i6_6, i6_7, i6_8, i6_9, i6_10, i6_11, i6_12, i6_13, i6_14, (JzV.vd i6_15 (v_d464d4c634 h1) q3 (vq_b (v_8b15499c4b i6_10 i6_11 h8)))⟩
            · refine J_aload_n dX1_verdict_163 rfl rfl ?_
              refine J_get (v := .int (zI tk_6)) dX1_verdict_164 fl_X1_34 rfl rfl ?_
              refine J_goto (tgt := 171) dX1_verdict_167 (by decide) ?_
              refine J_touch (k := 60) (e := .inl (1, 64, .inr (.inl (zAL kk_6)))) rfl ?_
              refine J_touch (k := 58) (e := .inr (1, [.ref 59, .ref 60, .int (zI ht_6), .int (zI br_6), .int (zI hl_6), .int (zI le_6), .int (zI ba_6), .int (zI tk_6)])) rfl ?_
              refine J_mask (L2 := [(58, .inr (1, [.ref 59, .ref 60, .int (zI ht_6), .int (zI br_6), .int (zI hl_6), .int (zI le_6), .int (zI ba_6), .int (zI tk_6)])), (60, .inl (1, 64, .inr (.inl (zAL kk_6))))]) (ks := [58, 60, 60, 58]) [true, true, false, false] rfl (by decide +kernel) rfl ?_
              exact J_iret dX1_verdict_171 rfl rfl (Nat.le_of_ble_eq_true rfl) (Nat.le_of_ble_eq_true rfl) ⟨tk_6, kk_6, ht_6, br_6, hl_6, le_6, ba_6, tk_6, rfl, rfl, (v_632d2dbe78 i6_12), i6_13, i6_2, i6_3, i6_4, i6_5, i6_6, i6_7, i6_8, i6_9, i6_10, i6_11, i6_12, i6_13, i6_14, (JzV.vd i6_15 (v_d464d4c634 h1) q3 (vq_y (vo_b (v_09d14296a9 h2) ez3 (v_b757d97f93 h5)) (v_09d14296a9 h8)))⟩
        · refine J_aload_n dX1_verdict_129 rfl rfl ?_
          refine J_get (v := .int (zI le_6)) dX1_verdict_130 fl_X1_28 rfl rfl ?_
          refine J_goto (tgt := 151) dX1_verdict_133 (by decide) ?_
          refine J_istore_n dX1_verdict_151 rfl (Nat.le_of_ble_eq_true rfl) rfl ?_
          refine J_ls (ls2 := [some (.ref 58), some (.ref r), some (.int (zI le_6)), none, none]) rfl ?_
          refine J_iload_n dX1_verdict_152 rfl rfl ?_
          refine Z_if_eq (tgt := 170) dX1_verdict_153 (by decide) (v_5f10a759cd i6_8 i6_9) (fun h9 => ?_) (fun h9 => ?_)
          · refine Z_iconst (n := 0) dX1_verdict_170 ?_
            refine J_touch (k := 60) (e := .inl (1, 64, .inr (.inl (zAL kk_6)))) rfl ?_
            refine J_touch (k := 58) (e := .inr (1, [.ref 59, .ref 60, .int (zI ht_6), .int (zI br_6), .int (zI hl_6), .int (zI le_6), .int (zI ba_6), .int (zI tk_6)])) rfl ?_
            refine J_mask (L2 := [(58, .inr (1, [.ref 59, .ref 60, .int (zI ht_6), .int (zI br_6), .int (zI hl_6), .int (zI le_6), .int (zI ba_6), .int (zI tk_6)])), (60, .inl (1, 64, .inr (.inl (zAL kk_6))))]) (ks := [58, 60, 60, 58]) [true, true, false, false] rfl (by decide +kernel) rfl ?_
            exact J_iret dX1_verdict_171 rfl rfl (Nat.le_of_ble_eq_true rfl) (Nat.le_of_ble_eq_true rfl) ⟨0, kk_6, ht_6, br_6, hl_6, le_6, ba_6, tk_6, rfl, rfl, v_939070ca3f, v_3176ed3c91, i6_2, i6_3, i6_4, i6_5, i6_6, i6_7, i6_8, i6_9, i6_10, i6_11, i6_12, i6_13, i6_14, (JzV.vd i6_15 (v_d464d4c634 h1) q3 (vq_n (vo_c (v_8b15499c4b i6_6 i6_7 h2) (v_09d14296a9 h9))))⟩
          · refine J_aload_n dX1_verdict_156 rfl rfl ?_
            refine J_get (v := .int (zI ba_6)) dX1_verdict_157 fl_X1_31 rfl rfl ?_
            refine Z_if_ne (tgt := 170) dX1_verdict_160 (by decide) (v_5f10a759cd i6_10 i6_11) (fun h10 => ?_) (fun h10 => ?_)
            · refine Z_iconst (n := 0) dX1_verdict_170 ?_
              refine J_touch (k := 60) (e := .inl (1, 64, .inr (.inl (zAL kk_6)))) rfl ?_
              refine J_touch (k := 58) (e := .inr (1, [.ref 59, .ref 60, .int (zI ht_6), .int (zI br_6), .int (zI hl_6), .int (zI le_6), .int (zI ba_6), .int (zI tk_6)])) rfl ?_
              refine J_mask (L2 := [(58, .inr (1, [.ref 59, .ref 60, .int (zI ht_6), .int (zI br_6), .int (zI hl_6), .int (zI le_6), .int (zI ba_6), .int (zI tk_6)])), (60, .inl (1, 64, .inr (.inl (zAL kk_6))))]) (ks := [58, 60, 60, 58]) [true, true, false, false] rfl (by decide +kernel) rfl ?_
              exact J_iret dX1_verdict_171 rfl rfl (Nat.le_of_ble_eq_true rfl) (Nat.le_of_ble_eq_true rfl) ⟨0, kk_6, ht_6, br_6, hl_6, le_6, ba_6, tk_6, rfl, rfl, v_939070ca3f, v_3176ed3c91, i6_2, i6_3, i6_4, i6_5, i6_6, i6_7, i6_8, i6_9, i6_10, i6_11, i6_12, i6_13, i6_14, (JzV.vd i6_15 (v_d464d4c634 h1) q3 (vq_b (v_8b15499c4b i6_10 i6_11 h10)))⟩
            · refine J_aload_n dX1_verdict_163 rfl rfl ?_
              refine J_get (v := .int (zI tk_6)) dX1_verdict_164 fl_X1_34 rfl rfl ?_
              refine J_goto (tgt := 171) dX1_verdict_167 (by decide) ?_
              refine J_touch (k := 60) (e := .inl (1, 64, .inr (.inl (zAL kk_6)))) rfl ?_
              refine J_touch (k := 58) (e := .inr (1, [.ref 59, .ref 60, .int (zI ht_6), .int (zI br_6), .int (zI hl_6), .int (zI le_6), .int (zI ba_6), .int (zI tk_6)])) rfl ?_
              refine J_mask (L2 := [(58, .inr (1, [.ref 59, .ref 60, .int (zI ht_6), .int (zI br_6), .int (zI hl_6), .int (zI le_6), .int (zI ba_6), .int (zI tk_6)])), (60, .inl (1, 64, .inr (.inl (zAL kk_6))))]) (ks := [58, 60, 60, 58]) [true, true, false, false] rfl (by decide +kernel) rfl ?_
              exact J_iret dX1_verdict_171 rfl rfl (Nat.le_of_ble_eq_true rfl) (Nat.le_of_ble_eq_true rfl) ⟨tk_6, kk_6, ht_6, br_6, hl_6, le_6, ba_6, tk_6, rfl, rfl, (v_632d2dbe78 i6_12), i6_13, i6_2, i6_3, i6_4, i6_5, i6_6, i6_7, i6_8, i6_9, i6_10, i6_11, i6_12, i6_13, i6_14, (JzV.vd i6_15 (v_d464d4c634 h1) q3 (vq_y (vo_a (v_8b15499c4b i6_6 i6_7 h2) (v_8b15499c4b i6_8 i6_9 h9)) (v_09d14296a9 h10)))⟩
      · refine J_aload_n dX1_verdict_12 rfl rfl ?_
        refine J_iload_n dX1_verdict_13 rfl rfl ?_
        obtain ⟨z11, ez11⟩ : ∃ z : Int, cf at_6 = z := ⟨_, rfl⟩
        have h12 := Rg.at q2 (v_2b02420001 i6_0) (v_fe9ea41faa h1) ez11
        refine Y_iald (z := z11) n dX1_verdict_14 (hcn (hr 60 (by decide)) (hcn (hr 58 (by decide)) hkr)) (Int.toNat_of_nonneg (v_2b02420001 q0)) (v_49a98948d1 q1) (v_2b02420001 i6_0) (v_fe9ea41faa h1) ez11 ?_
        refine Z_bipush (n := 31) dX1_verdict_15 (by decide +kernel) ?_
        obtain ⟨z13, ez13⟩ : ∃ z : Int, zand z11 31 = z := ⟨_, rfl⟩
        refine Y_iand (z := z13) dX1_verdict_17 ez13 ?_
        have h14 : zr z13 := by rw [← ez13]; exact zr_toInt _
        have h15 : 0 ≤ z13 ∧ z13 ≤ 31 := zand_mask 5 (by decide) (by decide +kernel) (by decide) ez13
        refine J_istore_n dX1_verdict_18 rfl (Nat.le_of_ble_eq_true rfl) rfl ?_
        refine J_ls (ls2 := [some (.ref 58), some (.ref r), some (.int (zI at_6)), some (.int (zI z13)), none]) rfl ?_
        refine J_aload_n dX1_verdict_19 rfl rfl ?_
        refine J_iload_n dX1_verdict_20 rfl rfl ?_
        refine Y_iald (z := z11) n dX1_verdict_21 (hcn (hr 60 (by decide)) (hcn (hr 58 (by decide)) hkr)) (Int.toNat_of_nonneg (v_2b02420001 q0)) (v_49a98948d1 q1) (v_2b02420001 i6_0) (v_fe9ea41faa h1) ez11 ?_
        refine Z_iconst (n := 5) dX1_verdict_22 ?_
        obtain ⟨z16, ez16⟩ : ∃ z : Int, zshr z11 5 = z := ⟨_, rfl⟩
        refine Y_ishr (z := z16) dX1_verdict_23 ez16 ?_
        have h17 : zr z16 := by rw [← ez16]; exact zr_toInt _
        have h18 : 32 * z16 ≤ z11 ∧ z11 ≤ 32 * z16 + 31 := dv_lem (zshr_div (p := 32) 5 5 (v_f306e1cdb8 h12.1 h12.2) (by decide +kernel) (by decide) ez16).symm (by decide)
        refine J_istore dX1_verdict_24 (Nat.le_of_ble_eq_true rfl) rfl ?_
        refine J_ls (ls2 := [some (.ref 58), some (.ref r), some (.int (zI at_6)), some (.int (zI z13)), some (.int (zI z16))]) rfl ?_
        refine J_iload_n dX1_verdict_26 rfl rfl ?_
        refine Z_bipush (n := 12) dX1_verdict_27 (by decide +kernel) ?_
        refine Z_icmp_lt (tgt := 40) dX1_verdict_29 (by decide) (v_b0b962d47e h15.1 h15.2) v_1288359c70 (fun h19 => ?_) (fun h19 => ?_)
        · refine J_iload_n dX1_verdict_40 rfl rfl ?_
          refine Z_bipush (n := 10) dX1_verdict_41 (by decide +kernel) ?_
          refine Z_icmp_eq (tgt := 52) dX1_verdict_43 (by decide) (v_62f826df90 h15.1 h19) v_2388fd5833 (fun h20 => ?_) (fun h20 => ?_)
          · refine J_aload_n dX1_verdict_52 rfl rfl ?_
            refine J_callV (st := []) dX1_verdict_53 cv_X1_44 (j_top ht_6 br_6 hl_6 le_6 ba_6 tk_6 kk_6 i6_2 i6_3 i6_4 i6_5 i6_6 i6_7 i6_8 i6_9 i6_10 i6_11 i6_12 i6_13 i6_14 rfl rfl) rfl rfl rfl (Nat.le_of_ble_eq_true rfl) ⟨(Nat.le_of_ble_eq_true rfl), (Nat.le_of_ble_eq_true rfl)⟩ ⟨(Nat.le_of_ble_eq_true rfl), (Nat.le_of_ble_eq_true rfl)⟩ (fun r h9 hp => ?_)
            obtain ⟨z21, rfl, rfl, h22, h23, h24⟩ := hp
            refine J_nf (nh2 := nh) (ck2 := 0) (sk2 := 0) (st2 := [.long (zL z21)]) rfl rfl rfl rfl ?_
            refine J_lconst (v := zL 0) dX1_verdict_56 (by decide +kernel) ?_
            refine Y_lcmp dX1_verdict_57 (v_ce139c3fca h23 h24) v_648c9410ae (fun z25 z25a z25b z25c z25d => ?_)
            refine Z_if_eq (tgt := 65) dX1_verdict_58 (by decide) (v_51ccf7ebfa z25a z25b) (fun h26 => ?_) (fun h26 => ?_)
            · have h27 : z21 = 0 := by omega
              refine Z_iconst (n := 0) dX1_verdict_65 ?_
              refine J_iload_n dX1_verdict_66 rfl rfl ?_
              refine Z_bipush (n := 10) dX1_verdict_67 (by decide +kernel) ?_
              refine Z_icmp_ne (tgt := 76) dX1_verdict_69 (by decide) (v_14763cd496 h20) v_2388fd5833 (fun h28 => absurd h28 (fun q => q (v_9473638d03 h20))) (fun h28 => ?_)
              refine Z_iconst (n := 1) dX1_verdict_72 ?_
              refine J_goto (tgt := 77) dX1_verdict_73 (by decide) ?_
              refine Z_icmp_ne (tgt := 92) dX1_verdict_77 (by decide) v_b17331891f v_4dcc24baa7 (fun h29 => ?_) (fun h29 => absurd h29 v_bdb4d0aa01)
              refine J_aload_n dX1_verdict_92 rfl rfl ?_
              refine Z_iconst (n := 0) dX1_verdict_93 ?_
              refine J_aload_n dX1_verdict_94 rfl rfl ?_
              refine J_get (v := .int (zI ht_6)) dX1_verdict_95 fl_X1_17 rfl rfl ?_
              refine Z_iconst (n := 1) dX1_verdict_98 ?_
              refine Z_isub (c := ht_6 - 1) dX1_verdict_99 rfl ?_
              obtain ⟨z30, ez30⟩ : ∃ z : Int, max 0 (ht_6 - 1) = z := ⟨_, rfl⟩
              refine J_mmax (z := zI z30) dX1_verdict_100 (jt4 143 rfl rfl) (jt4 144 rfl rfl) (jt1 19 rfl rfl) (jt4 145 rfl rfl) (Nat.le_of_ble_eq_true rfl) (Nat.le_of_ble_eq_true rfl) (Nat.le_of_ble_eq_true rfl) (Nat.le_of_ble_eq_true rfl) (by rw [zI_max v_b17331891f (v_c2f7ff7d04 i6_2 i6_3), ez30]) ?_
              have h31 : 0 ≤ z30 ∧ ht_6 - 1 ≤ z30 ∧ (z30 = 0 ∨ z30 = ht_6 - 1) := by omega
              have h32 : z30 ≤ 63 := by omega
              refine K_put (fs2 := [.ref 59, .ref 60, .int (zI z30), .int (zI br_6), .int (zI hl_6), .int (zI le_6), .int (zI ba_6), .int (zI tk_6)]) dX1_verdict_103 fw_X1_17 rfl (Nat.le_of_ble_eq_true rfl) (fun _ => ⟨rfl, rfl⟩) rfl ?_
              refine J_goto (tgt := 116) dX1_verdict_106 (by decide) ?_
              refine Z_iinc (c := at_6 + 1) (ls2 := [some (.ref 58), some (.ref r), some (.int (zI (at_6 + 1))), some (.int (zI z13)), some (.int (zI z16))]) dX1_verdict_116 rfl (Nat.le_of_ble_eq_true rfl) rfl rfl rfl ?_
              refine J_goto (tgt := 6) dX1_verdict_119 (by decide) ?_
              refine J_mask (L2 := [(58, .inr (1, [.ref 59, .ref 60, .int (zI z30), .int (zI br_6), .int (zI hl_6), .int (zI le_6), .int (zI ba_6), .int (zI tk_6)])), (60, .inl (1, 64, .inr (.inl (zAL kk_6))))]) (ks := [58, 60, 58]) [true, true, false] rfl (by decide +kernel) rfl ?_
              refine J_touch (k := 58) (e := .inr (1, [.ref 59, .ref 60, .int (zI z30), .int (zI br_6), .int (zI hl_6), .int (zI le_6), .int (zI ba_6), .int (zI tk_6)])) rfl ?_
              refine J_touch (k := 60) (e := .inl (1, 64, .inr (.inl (zAL kk_6)))) rfl ?_
              refine J_mask (L2 := [(60, .inl (1, 64, .inr (.inl (zAL kk_6)))), (58, .inr (1, [.ref 59, .ref 60, .int (zI z30), .int (zI br_6), .int (zI hl_6), .int (zI le_6), .int (zI ba_6), .int (zI tk_6)]))]) (ks := [60, 58, 58, 60]) [true, true, false, false] rfl (by decide +kernel) rfl ?_
              refine J_drop (ls2 := [some (.ref 58), some (.ref r), some (.int (zI (at_6 + 1))), none, none]) [true, true, true, false, false] rfl ?_
              exact ih6 (at_6 + 1) z30 br_6 hl_6 le_6 ba_6 tk_6 kk_6 (v_da458fa48a i6_0) (v_e94bc95826 q1 h1) h31.1 (v_d1c5b1b617 h32) i6_4 i6_5 i6_6 i6_7 i6_8 i6_9 i6_10 i6_11 i6_12 i6_13 i6_14 (JzV.step i6_15 (v_fe9ea41faa h1) (jst_g ez11 ez13 (Or.inl (v_9473638d03 h20)) h22 (ft_jm (v_2b2aa55e09 h27) (v_9473638d03 h20)) ez30)) (meas_lt v_90eacd6fd4 (v_8b7dd7d486 h1) hm6)
            · have h33 : ¬ z21 = 0 := by omega
              refine Z_iconst (n := 1) dX1_verdict_61 ?_
              refine J_goto (tgt := 66) dX1_verdict_62 (by decide) ?_
              refine J_iload_n dX1_verdict_66 rfl rfl ?_
              refine Z_bipush (n := 10) dX1_verdict_67 (by decide +kernel) ?_
              refine Z_icmp_ne (tgt := 76) dX1_verdict_69 (by decide) (v_14763cd496 h20) v_2388fd5833 (fun h34 => absurd h34 (fun q => q (v_9473638d03 h20))) (fun h34 => ?_)
              refine Z_iconst (n := 1) dX1_verdict_72 ?_
              refine J_goto (tgt := 77) dX1_verdict_73 (by decide) ?_
              refine Z_icmp_ne (tgt := 92) dX1_verdict_77 (by decide) v_4dcc24baa7 v_4dcc24baa7 (fun h35 => absurd h35 (fun q => q v_0cde637f83)) (fun h35 => ?_)
              refine J_iload_n dX1_verdict_80 rfl rfl ?_
              refine J_iload dX1_verdict_81 rfl ?_
              refine Z_iconst (n := 1) dX1_verdict_83 ?_
              refine Z_isub (c := z16 - 1) dX1_verdict_84 rfl ?_
              obtain ⟨z36, ez36⟩ : ∃ z : Int, max at_6 (z16 - 1) = z := ⟨_, rfl⟩
              refine J_mmax (z := zI z36) dX1_verdict_85 (jt4 143 rfl rfl) (jt4 144 rfl rfl) (jt1 19 rfl rfl) (jt4 145 rfl rfl) (Nat.le_of_ble_eq_true rfl) (Nat.le_of_ble_eq_true rfl) (Nat.le_of_ble_eq_true rfl) (Nat.le_of_ble_eq_true rfl) (by rw [zI_max (v_e6f0527522 i6_0 i6_1) (v_0800612b1c h12.1 h17 h18.2), ez36]) ?_
              have h37 : at_6 ≤ z36 ∧ z16 - 1 ≤ z36 ∧ (z36 = at_6 ∨ z36 = z16 - 1) := by omega
              have h38 : z36 ≤ 67108864 := by omega
              refine J_istore_n dX1_verdict_88 rfl (Nat.le_of_ble_eq_true rfl) rfl ?_
              refine J_ls (ls2 := [some (.ref 58), some (.ref r), some (.int (zI z36)), some (.int (zI z13)), some (.int (zI z16))]) rfl ?_
              refine J_goto (tgt := 116) dX1_verdict_89 (by decide) ?_
              refine Z_iinc (c := z36 + 1) (ls2 := [some (.ref 58), some (.ref r), some (.int (zI (z36 + 1))), some (.int (zI z13)), some (.int (zI z16))]) dX1_verdict_116 rfl (Nat.le_of_ble_eq_true rfl) rfl rfl rfl ?_
              refine J_goto (tgt := 6) dX1_verdict_119 (by decide) ?_
              refine J_drop (ls2 := [some (.ref 58), some (.ref r), some (.int (zI (z36 + 1))), none, none]) [true, true, true, false, false] rfl ?_
              exact ih6 (z36 + 1) ht_6 br_6 hl_6 le_6 ba_6 tk_6 kk_6 (v_797a0596d0 i6_0 h37.1) (v_1e73b16a5c h38) i6_2 i6_3 i6_4 i6_5 i6_6 i6_7 i6_8 i6_9 i6_10 i6_11 i6_12 i6_13 i6_14 (JzV.step i6_15 (v_fe9ea41faa h1) (jst_s ez11 ez13 ez16 (Or.inl (v_9473638d03 h20)) h22 (tt_jm (v_7502709ab7 h33) (v_9473638d03 h20)) ez36)) (meas_lt (v_a969c14ad4 h37.1) (v_8b7dd7d486 h1) hm6)
          · refine J_iload_n dX1_verdict_46 rfl rfl ?_
            refine Z_bipush (n := 11) dX1_verdict_47 (by decide +kernel) ?_
            refine Z_icmp_ne (tgt := 109) dX1_verdict_49 (by decide) (v_62f826df90 h15.1 h19) v_d58e110b81 (fun h39 => ?_) (fun h39 => ?_)
            · refine J_aload_n dX1_verdict_109 rfl rfl ?_
              refine J_iload_n dX1_verdict_110 rfl rfl ?_
              refine J_iload dX1_verdict_111 rfl ?_
              refine J_callV (st := []) dX1_verdict_113 cv_X1_54 (j_run z13 z16 ht_6 br_6 hl_6 le_6 ba_6 tk_6 kk_6 wf h14 (v_939dc3be1e h12.1 h18.2) (v_5f1edcd1d7 h12.2 h18.1) q3 i6_14 i6_2 i6_3 i6_4 i6_5 i6_6 i6_7 i6_8 i6_9 i6_10 i6_11 i6_12 i6_13 rfl rfl hk59) rfl rfl rfl (Nat.le_of_ble_eq_true rfl) ⟨(Nat.le_of_ble_eq_true rfl), (Nat.le_of_ble_eq_true rfl)⟩ ⟨(Nat.le_of_ble_eq_true rfl), (Nat.le_of_ble_eq_true rfl)⟩ (fun r h9 hp => ?_)
              obtain ⟨z40, z41, f42, rfl, rfl, h43, h44, h45, h46, h47, h48⟩ := hp
              refine J_nf (nh2 := nh) (ck2 := 0) (sk2 := 0) (st2 := []) rfl rfl rfl rfl ?_
              refine J_app (L3 := [(58, .inr (1, [.ref 59, .ref 60, .int (zI z40), .int (zI z41), .int (zI hl_6), .int (zI le_6), .int (zI ba_6), .int (zI tk_6)])), (60, .inl (1, 64, .inr (.inl (zAL f42)))), (60, .inl (1, 64, .inr (.inl (zAL kk_6)))), (58, .inr (1, [.ref 59, .ref 60, .int (zI ht_6), .int (zI br_6), .int (zI hl_6), .int (zI le_6), .int (zI ba_6), .int (zI tk_6)]))]) rfl ?_
              refine J_mask (L2 := [(58, .inr (1, [.ref 59, .ref 60, .int (zI z40), .int (zI z41), .int (zI hl_6), .int (zI le_6), .int (zI ba_6), .int (zI tk_6)])), (60, .inl (1, 64, .inr (.inl (zAL f42))))]) (ks := [58, 60, 60, 58]) [true, true, false, false] rfl (by decide +kernel) rfl ?_
              refine Z_iinc (c := at_6 + 1) (ls2 := [some (.ref 58), some (.ref r), some (.int (zI (at_6 + 1))), some (.int (zI z13)), some (.int (zI z16))]) dX1_verdict_116 rfl (Nat.le_of_ble_eq_true rfl) rfl rfl rfl ?_
              refine J_goto (tgt := 6) dX1_verdict_119 (by decide) ?_
              refine J_touch (k := 58) (e := .inr (1, [.ref 59, .ref 60, .int (zI z40), .int (zI z41), .int (zI hl_6), .int (zI le_6), .int (zI ba_6), .int (zI tk_6)])) rfl ?_
              refine J_touch (k := 60) (e := .inl (1, 64, .inr (.inl (zAL f42)))) rfl ?_
              refine J_mask (L2 := [(60, .inl (1, 64, .inr (.inl (zAL f42)))), (58, .inr (1, [.ref 59, .ref 60, .int (zI z40), .int (zI z41), .int (zI hl_6), .int (zI le_6), .int (zI ba_6), .int (zI tk_6)]))]) (ks := [60, 58, 58, 60]) [true, true, false, false] rfl (by decide +kernel) rfl ?_
              refine J_drop (ls2 := [some (.ref 58), some (.ref r), some (.int (zI (at_6 + 1))), none, none]) [true, true, true, false, false] rfl ?_
              exact ih6 (at_6 + 1) z40 z41 hl_6 le_6 ba_6 tk_6 f42 (v_da458fa48a i6_0) (v_e94bc95826 q1 h1) h44 h45 h46 h47 i6_6 i6_7 i6_8 i6_9 i6_10 i6_11 i6_12 i6_13 h48 (JzV.step i6_15 (v_fe9ea41faa h1) (jst_r ez11 ez13 ez16 (v_15ef8a6ca5 h19) (v_0282874415 h20) (v_8d20f4046d h19 h39) h43)) (meas_lt v_90eacd6fd4 (v_8b7dd7d486 h1) hm6)
            · refine J_aload_n dX1_verdict_52 rfl rfl ?_
              refine J_callV (st := []) dX1_verdict_53 cv_X1_44 (j_top ht_6 br_6 hl_6 le_6 ba_6 tk_6 kk_6 i6_2 i6_3 i6_4 i6_5 i6_6 i6_7 i6_8 i6_9 i6_10 i6_11 i6_12 i6_13 i6_14 rfl rfl) rfl rfl rfl (Nat.le_of_ble_eq_true rfl) ⟨(Nat.le_of_ble_eq_true rfl), (Nat.le_of_ble_eq_true rfl)⟩ ⟨(Nat.le_of_ble_eq_true rfl), (Nat.le_of_ble_eq_true rfl)⟩ (fun r h9 hp => ?_)
              obtain ⟨z49, rfl, rfl, h50, h51, h52⟩ := hp
              refine J_nf (nh2 := nh) (ck2 := 0) (sk2 := 0) (st2 := [.long (zL z49)]) rfl rfl rfl rfl ?_
              refine J_lconst (v := zL 0) dX1_verdict_56 (by decide +kernel) ?_
              refine Y_lcmp dX1_verdict_57 (v_ce139c3fca h51 h52) v_648c9410ae (fun z53 z53a z53b z53c z53d => ?_)
              refine Z_if_eq (tgt := 65) dX1_verdict_58 (by decide) (v_51ccf7ebfa z53a z53b) (fun h54 => ?_) (fun h54 => ?_)
              · have h55 : z49 = 0 := by omega
                refine Z_iconst (n := 0) dX1_verdict_65 ?_
                refine J_iload_n dX1_verdict_66 rfl rfl ?_
                refine Z_bipush (n := 10) dX1_verdict_67 (by decide +kernel) ?_
                refine Z_icmp_ne (tgt := 76) dX1_verdict_69 (by decide) (v_5ffbb452f1 h19 h39) v_2388fd5833 (fun h56 => ?_) (fun h56 => absurd h56 (v_9426cb96a7 h39))
                refine Z_iconst (n := 0) dX1_verdict_76 ?_
                refine Z_icmp_ne (tgt := 92) dX1_verdict_77 (by decide) v_b17331891f v_b17331891f (fun h57 => absurd h57 (fun q => q v_2ca2bbca1f)) (fun h57 => ?_)
                refine J_iload_n dX1_verdict_80 rfl rfl ?_
                refine J_iload dX1_verdict_81 rfl ?_
                refine Z_iconst (n := 1) dX1_verdict_83 ?_
                refine Z_isub (c := z16 - 1) dX1_verdict_84 rfl ?_
                obtain ⟨z58, ez58⟩ : ∃ z : Int, max at_6 (z16 - 1) = z := ⟨_, rfl⟩
                refine J_mmax (z := zI z58) dX1_verdict_85 (jt4 143 rfl rfl) (jt4 144 rfl rfl) (jt1 19 rfl rfl) (jt4 145 rfl rfl) (Nat.le_of_ble_eq_true rfl) (Nat.le_of_ble_eq_true rfl) (Nat.le_of_ble_eq_true rfl) (Nat.le_of_ble_eq_true rfl) (by rw [zI_max (v_e6f0527522 i6_0 i6_1) (v_0800612b1c h12.1 h17 h18.2), ez58]) ?_
                have h59 : at_6 ≤ z58 ∧ z16 - 1 ≤ z58 ∧ (z58 = at_6 ∨ z58 = z16 - 1) := by omega
                have h60 : z58 ≤ 67108864 := by omega
                refine J_istore_n dX1_verdict_88 rfl (Nat.le_of_ble_eq_true rfl) rfl ?_
                refine J_ls (ls2 := [some (.ref 58), some (.ref r), some (.int (zI z58)), some (.int (zI z13)), some (.int (zI z16))]) rfl ?_
                refine J_goto (tgt := 116) dX1_verdict_89 (by decide) ?_
                refine Z_iinc (c := z58 + 1) (ls2 := [some (.ref 58), some (.ref r), some (.int (zI (z58 + 1))), some (.int (zI z13)), some (.int (zI z16))]) dX1_verdict_116 rfl (Nat.le_of_ble_eq_true rfl) rfl rfl rfl ?_
                refine J_goto (tgt := 6) dX1_verdict_119 (by decide) ?_
                refine J_drop (ls2 := [some (.ref 58), some (.ref r), some (.int (zI (z58 + 1))), none, none]) [true, true, true, false, false] rfl ?_
                exact ih6 (z58 + 1) ht_6 br_6 hl_6 le_6 ba_6 tk_6 kk_6 (v_797a0596d0 i6_0 h59.1) (v_1e73b16a5c h60) i6_2 i6_3 i6_4 i6_5 i6_6 i6_7 i6_8 i6_9 i6_10 i6_11 i6_12 i6_13 i6_14 (JzV.step i6_15 (v_fe9ea41faa h1) (jst_s ez11 ez13 ez16 (Or.inr (v_e7c2e60e04 h19 h39)) h50 (ff_jm (v_2b2aa55e09 h55) (v_9426cb96a7 h39)) ez58)) (meas_lt (v_a969c14ad4 h59.1) (v_8b7dd7d486 h1) hm6)
              · have h61 : ¬ z49 = 0 := by omega
                refine Z_iconst (n := 1) dX1_verdict_61 ?_
                refine J_goto (tgt := 66) dX1_verdict_62 (by decide) ?_
                refine J_iload_n dX1_verdict_66 rfl rfl ?_
                refine Z_bipush (n := 10) dX1_verdict_67 (by decide +kernel) ?_
                refine Z_icmp_ne (tgt := 76) dX1_verdict_69 (by decide) (v_5ffbb452f1 h19 h39) v_2388fd5833 (fun h62 => ?_) (fun h62 => absurd h62 (v_9426cb96a7 h39))
                refine Z_iconst (n := 0) dX1_verdict_76 ?_
                refine Z_icmp_ne (tgt := 92) dX1_verdict_77 (by decide) v_4dcc24baa7 v_b17331891f (fun h63 => ?_) (fun h63 => absurd h63 v_3a47bfd896)
                refine J_aload_n dX1_verdict_92 rfl rfl ?_
                refine Z_iconst (n := 0) dX1_verdict_93 ?_
                refine J_aload_n dX1_verdict_94 rfl rfl ?_
                refine J_get (v := .int (zI ht_6)) dX1_verdict_95 fl_X1_17 rfl rfl ?_
                refine Z_iconst (n := 1) dX1_verdict_98 ?_
                refine Z_isub (c := ht_6 - 1) dX1_verdict_99 rfl ?_
                obtain ⟨z64, ez64⟩ : ∃ z : Int, max 0 (ht_6 - 1) = z := ⟨_, rfl⟩
                refine J_mmax (z := zI z64) dX1_verdict_100 (jt4 143 rfl rfl) (jt4 144 rfl rfl) (jt1 19 rfl rfl) (jt4 145 rfl rfl) (Nat.le_of_ble_eq_true rfl) (Nat.le_of_ble_eq_true rfl) (Nat.le_of_ble_eq_true rfl) (Nat.le_of_ble_eq_true rfl) (by rw [zI_max v_b17331891f (v_c2f7ff7d04 i6_2 i6_3), ez64]) ?_
                have h65 : 0 ≤ z64 ∧ ht_6 - 1 ≤ z64 ∧ (z64 = 0 ∨ z64 = ht_6 - 1) := by omega
                have h66 : z64 ≤ 63 := by omega
                refine K_put (fs2 := [.ref 59, .ref 60, .int (zI z64), .int (zI br_6), .int (zI hl_6), .int (zI le_6), .int (zI ba_6), .int (zI tk_6)]) dX1_verdict_103 fw_X1_17 rfl (Nat.le_of_ble_eq_true rfl) (fun _ => ⟨rfl, rfl⟩) rfl ?_
                refine J_goto (tgt := 116) dX1_verdict_106 (by decide) ?_
                refine Z_iinc (c := at_6 + 1) (ls2 := [some (.ref 58), some (.ref r), some (.int (zI (at_6 + 1))), some (.int (zI z13)), some (.int (zI z16))]) dX1_verdict_116 rfl (Nat.le_of_ble_eq_true rfl) rfl rfl rfl ?_
                refine J_goto (tgt := 6) dX1_verdict_119 (by decide) ?_
                refine J_mask (L2 := [(58, .inr (1, [.ref 59, .ref 60, .int (zI z64), .int (zI br_6), .int (zI hl_6), .int (zI le_6), .int (zI ba_6), .int (zI tk_6)])), (60, .inl (1, 64, .inr (.inl (zAL kk_6))))]) (ks := [58, 60, 58]) [true, true, false] rfl (by decide +kernel) rfl ?_
                refine J_touch (k := 58) (e := .inr (1, [.ref 59, .ref 60, .int (zI z64), .int (zI br_6), .int (zI hl_6), .int (zI le_6), .int (zI ba_6), .int (zI tk_6)])) rfl ?_
                refine J_touch (k := 60) (e := .inl (1, 64, .inr (.inl (zAL kk_6)))) rfl ?_
                refine J_mask (L2 := [(60, .inl (1, 64, .inr (.inl (zAL kk_6)))), (58, .inr (1, [.ref 59, .ref 60, .int (zI z64), .int (zI br_6), .int (zI hl_6), .int (zI le_6), .int (zI ba_6), .int (zI tk_6)]))]) (ks := [60, 58, 58, 60]) [true, true, false, false] rfl (by decide +kernel) rfl ?_
                refine J_drop (ls2 := [some (.ref 58), some (.ref r), some (.int (zI (at_6 + 1))), none, none]) [true, true, true, false, false] rfl ?_
                exact ih6 (at_6 + 1) z64 br_6 hl_6 le_6 ba_6 tk_6 kk_6 (v_da458fa48a i6_0) (v_e94bc95826 q1 h1) h65.1 (v_d1c5b1b617 h66) i6_4 i6_5 i6_6 i6_7 i6_8 i6_9 i6_10 i6_11 i6_12 i6_13 i6_14 (JzV.step i6_15 (v_fe9ea41faa h1) (jst_g ez11 ez13 (Or.inr (v_e7c2e60e04 h19 h39)) h50 (tf_jm (v_7502709ab7 h61) (v_9426cb96a7 h39)) ez64)) (meas_lt v_90eacd6fd4 (v_8b7dd7d486 h1) hm6)
        · refine J_aload_n dX1_verdict_32 rfl rfl ?_
          refine J_iload_n dX1_verdict_33 rfl rfl ?_
          refine J_callV (st := []) dX1_verdict_34 cv_X1_40 (j_close z13 ht_6 br_6 hl_6 le_6 ba_6 tk_6 kk_6 h14 i6_2 i6_3 i6_4 i6_5 i6_6 i6_7 i6_8 i6_9 i6_10 i6_11 i6_12 i6_13 i6_14 rfl rfl) rfl rfl rfl (Nat.le_of_ble_eq_true rfl) ⟨(Nat.le_of_ble_eq_true rfl), (Nat.le_of_ble_eq_true rfl)⟩ ⟨(Nat.le_of_ble_eq_true rfl), (Nat.le_of_ble_eq_true rfl)⟩ (fun r h9 hp => ?_)
          obtain ⟨z67, z68, z69, z70, rfl, rfl, h71, h72, h73, h74, h75, h76, h77, h78, h79⟩ := hp
          refine J_nf (nh2 := nh) (ck2 := 0) (sk2 := 0) (st2 := []) rfl rfl rfl rfl ?_
          refine J_app (L3 := [(58, .inr (1, [.ref 59, .ref 60, .int (zI 0), .int (zI 0), .int (zI z67), .int (zI z68), .int (zI z69), .int (zI z70)])), (60, .inl (1, 64, .inr (.inl (zAL kk_6)))), (58, .inr (1, [.ref 59, .ref 60, .int (zI ht_6), .int (zI br_6), .int (zI hl_6), .int (zI le_6), .int (zI ba_6), .int (zI tk_6)]))]) rfl ?_
          refine J_mask (L2 := [(58, .inr (1, [.ref 59, .ref 60, .int (zI 0), .int (zI 0), .int (zI z67), .int (zI z68), .int (zI z69), .int (zI z70)])), (60, .inl (1, 64, .inr (.inl (zAL kk_6))))]) (ks := [58, 60, 58]) [true, true, false] rfl (by decide +kernel) rfl ?_
          refine J_goto (tgt := 116) dX1_verdict_37 (by decide) ?_
          refine Z_iinc (c := at_6 + 1) (ls2 := [some (.ref 58), some (.ref r), some (.int (zI (at_6 + 1))), some (.int (zI z13)), some (.int (zI z16))]) dX1_verdict_116 rfl (Nat.le_of_ble_eq_true rfl) rfl rfl rfl ?_
          refine J_goto (tgt := 6) dX1_verdict_119 (by decide) ?_
          refine J_touch (k := 58) (e := .inr (1, [.ref 59, .ref 60, .int (zI 0), .int (zI 0), .int (zI z67), .int (zI z68), .int (zI z69), .int (zI z70)])) rfl ?_
          refine J_touch (k := 60) (e := .inl (1, 64, .inr (.inl (zAL kk_6)))) rfl ?_
          refine J_mask (L2 := [(60, .inl (1, 64, .inr (.inl (zAL kk_6)))), (58, .inr (1, [.ref 59, .ref 60, .int (zI 0), .int (zI 0), .int (zI z67), .int (zI z68), .int (zI z69), .int (zI z70)]))]) (ks := [60, 58, 58, 60]) [true, true, false, false] rfl (by decide +kernel) rfl ?_
          refine J_drop (ls2 := [some (.ref 58), some (.ref r), some (.int (zI (at_6 + 1))), none, none]) [true, true, true, false, false] rfl ?_
          exact ih6 (at_6 + 1) 0 0 z67 z68 z69 z70 kk_6 (v_da458fa48a i6_0) (v_e94bc95826 q1 h1) v_939070ca3f v_c663bcd230 v_939070ca3f v_316afd7d0b h72 h73 h74 h75 h76 h77 h78 h79 i6_14 (JzV.step i6_15 (v_fe9ea41faa h1) (jst_c ez11 ez13 (v_218a8bd85e h19) h71)) (meas_lt v_90eacd6fd4 (v_8b7dd7d486 h1) hm6)
  exact lp6 _ 0 0 0 0 0 0 1 kf v_939070ca3f v_9e75938c00 v_939070ca3f v_c663bcd230 v_939070ca3f v_316afd7d0b v_939070ca3f v_316afd7d0b v_939070ca3f v_316afd7d0b v_939070ca3f v_316afd7d0b v_bbcfac9b7d v_561ce076da q4 (JzV_0) (Nat.lt_succ_self _)
