abbrev MX1_setPlaces : jM := (RX1, cX1_setPlaces, 3, none, false)
set_option maxRecDepth 20000 in
theorem iX1_at : ∀ k : Nat, k < 8 → u_lay RX1 TX1 k ∈ jtb
  | 0, _ => jt1 177 rfl rfl
  | 1, _ => jt1 179 rfl rfl
  | 2, _ => jt1 181 rfl rfl
  | 3, _ => jt1 183 rfl rfl
  | 4, _ => jt1 185 rfl rfl
  | 5, _ => jt1 187 rfl rfl
  | 6, _ => jt1 189 rfl rfl
  | 7, _ => jt1 191 rfl rfl
  | (n + 8), h => absurd h (by omega)
theorem iX1 : ∀ w ∈ u_ws RX1 TX1 8, w ∈ jtb := fun w hw => by
  obtain ⟨k, hk, rfl⟩ := List.mem_map.mp hw
  exact iX1_at k (List.mem_range.mp hk)
theorem fl_X1_9 : jFL RX1 9 1 0 := ⟨_, _, _, rfl, iX1, by decide, Or.inl (jt1 169 rfl rfl)⟩
abbrev MX1_setColours : jM := (RX1, cX1_setColours, 4, none, false)
abbrev MX1_setTimes : jM := (RX1, cX1_setTimes, 3, none, false)
abbrev MX1_begin : jM := (RX1, cX1_begin, 1, none, false)
theorem fw_X1_17 : jFW RX1 17 1 2 (.int) false := ⟨_, _, _, tyX1, rfl, iX1, tyX1_ok, nmX1, by decide, rfl, rfl, (fun h => by cases h), Or.inl (jt1 171 rfl rfl)⟩
theorem fw_X1_21 : jFW RX1 21 1 3 (.boolean) false := ⟨_, _, _, tyX1, rfl, iX1, tyX1_ok, nmX1, by decide, rfl, rfl, (fun h => by cases h), Or.inl (jt1 172 rfl rfl)⟩
theorem fw_X1_25 : jFW RX1 25 1 4 (.boolean) false := ⟨_, _, _, tyX1, rfl, iX1, tyX1_ok, nmX1, by decide, rfl, rfl, (fun h => by cases h), Or.inl (jt1 173 rfl rfl)⟩
theorem fw_X1_28 : jFW RX1 28 1 5 (.boolean) false := ⟨_, _, _, tyX1, rfl, iX1, tyX1_ok, nmX1, by decide, rfl, rfl, (fun h => by cases h), Or.inl (jt1 174 rfl rfl)⟩
theorem fw_X1_31 : jFW RX1 31 1 6 (.boolean) false := ⟨_, _, _, tyX1, rfl, iX1, tyX1_ok, nmX1, by decide, rfl, rfl, (fun h => by cases h), Or.inl (jt1 175 rfl rfl)⟩
theorem fw_X1_34 : jFW RX1 34 1 7 (.int) false := ⟨_, _, _, tyX1, rfl, iX1, tyX1_ok, nmX1, by decide, rfl, rfl, (fun h => by cases h), Or.inl (jt1 176 rfl rfl)⟩
abbrev MX1_top : jM := (RX1, cX1_top, 1, some .long, false)
theorem fl_X1_17 : jFL RX1 17 1 2 := ⟨_, _, _, rfl, iX1, by decide, Or.inl (jt1 171 rfl rfl)⟩
theorem fl_X1_13 : jFL RX1 13 1 1 := ⟨_, _, _, rfl, iX1, by decide, Or.inl (jt1 170 rfl rfl)⟩
abbrev MX1_push : jM := (RX1, cX1_push, 3, none, false)
abbrev MX1_pop : jM := (RX1, cX1_pop, 1, some .long, false)
abbrev MX1_bounded : jM := (RX1, cX1_bounded, 3, some .long, false)
theorem fl_X1_21 : jFL RX1 21 1 3 := ⟨_, _, _, rfl, iX1, by decide, Or.inl (jt1 172 rfl rfl)⟩
abbrev MX1_joined : jM := (RX1, cX1_joined, 6, some .long, false)
theorem cv_X1_77 : jCV RX1 77 1 yX1_bounded MX1_bounded 1 := ⟨_, _, rfl, (jt4 165 rfl rfl), (jt4 164 rfl rfl), (jtp (q := (⟨"BeanStreet$Judge", "bounded", "(J)J"⟩, 8)) (List.mem_of_getElem? (i := 30) rfl)), (jt1 6 rfl rfl), ⟨by decide, by decide, by decide +kernel⟩, Or.inl (jt4 162 rfl rfl)⟩
abbrev MX1_run : jM := (RX1, cX1_run, 5, none, false)
theorem cv_X1_70 : jCV RX1 70 1 yX1_pop MX1_pop 0 := ⟨_, _, rfl, (jt4 157 rfl rfl), (jt4 156 rfl rfl), (jtp (q := (⟨"BeanStreet$Judge", "pop", "()J"⟩, 8)) (List.mem_of_getElem? (i := 28) rfl)), (jt1 6 rfl rfl), ⟨by decide, by decide, by decide +kernel⟩, Or.inl (jt4 154 rfl rfl)⟩
theorem cv_X1_73 : jCV RX1 73 1 yX1_joined MX1_joined 3 := ⟨_, _, rfl, (jt4 161 rfl rfl), (jt4 160 rfl rfl), (jtp (q := (⟨"BeanStreet$Judge", "joined", "(IJJ)J"⟩, 8)) (List.mem_of_getElem? (i := 29) rfl)), (jt1 6 rfl rfl), ⟨by decide, by decide, by decide +kernel⟩, Or.inl (jt4 158 rfl rfl)⟩
theorem cv_X1_66 : jCV RX1 66 1 yX1_push MX1_push 1 := ⟨_, _, rfl, (jt4 153 rfl rfl), (jt4 152 rfl rfl), (jtp (q := (⟨"BeanStreet$Judge", "push", "(J)V"⟩, 8)) (List.mem_of_getElem? (i := 27) rfl)), (jt1 6 rfl rfl), ⟨by decide, by decide, by decide +kernel⟩, Or.inl (jt4 150 rfl rfl)⟩
abbrev MX1_close : jM := (RX1, cX1_close, 3, none, false)
theorem fl_X1_31 : jFL RX1 31 1 6 := ⟨_, _, _, rfl, iX1, by decide, Or.inl (jt1 175 rfl rfl)⟩
theorem fl_X1_28 : jFL RX1 28 1 5 := ⟨_, _, _, rfl, iX1, by decide, Or.inl (jt1 174 rfl rfl)⟩
theorem cv_X1_44 : jCV RX1 44 1 yX1_top MX1_top 0 := ⟨_, _, rfl, (jt4 135 rfl rfl), (jt4 134 rfl rfl), (jtp (q := (⟨"BeanStreet$Judge", "top", "()J"⟩, 8)) (List.mem_of_getElem? (i := 25) rfl)), (jt1 6 rfl rfl), ⟨by decide, by decide, by decide +kernel⟩, Or.inl (jt4 132 rfl rfl)⟩
abbrev MX1_verdict : jM := (RX1, cX1_verdict, 5, some .int, false)
theorem cv_X1_37 : jCV RX1 37 1 yX1_begin MX1_begin 0 := ⟨_, _, rfl, (jt4 127 rfl rfl), (jt4 126 rfl rfl), (jtp (q := (⟨"BeanStreet$Judge", "begin", "()V"⟩, 8)) (List.mem_of_getElem? (i := 23) rfl)), (jt1 6 rfl rfl), ⟨by decide, by decide, by decide +kernel⟩, Or.inl (jt4 124 rfl rfl)⟩
theorem fl_X1_25 : jFL RX1 25 1 4 := ⟨_, _, _, rfl, iX1, by decide, Or.inl (jt1 173 rfl rfl)⟩
theorem fl_X1_34 : jFL RX1 34 1 7 := ⟨_, _, _, rfl, iX1, by decide, Or.inl (jt1 176 rfl rfl)⟩
theorem cv_X1_54 : jCV RX1 54 1 yX1_run MX1_run 2 := ⟨_, _, rfl, (jt4 149 rfl rfl), (jt4 148 rfl rfl), (jtp (q := (⟨"BeanStreet$Judge", "run", "(II)V"⟩, 8)) (List.mem_of_getElem? (i := 26) rfl)), (jt1 6 rfl rfl), ⟨by decide, by decide, by decide +kernel⟩, Or.inl (jt4 146 rfl rfl)⟩
theorem cv_X1_40 : jCV RX1 40 1 yX1_close MX1_close 1 := ⟨_, _, rfl, (jt4 131 rfl rfl), (jt4 130 rfl rfl), (jtp (q := (⟨"BeanStreet$Judge", "close", "(I)V"⟩, 8)) (List.mem_of_getElem? (i := 24) rfl)), (jt1 6 rfl rfl), ⟨by decide, by decide, by decide +kernel⟩, Or.inl (jt4 128 rfl rfl)⟩
theorem dX1_setPlaces_0 : decode cX1_setPlaces 0 = .ok (.aload_n 0, 1) := by decide +kernel
theorem dX1_setPlaces_1 : decode cX1_setPlaces 1 = .ok (.getfield 9, 3) := by decide +kernel
theorem dX1_setPlaces_4 : decode cX1_setPlaces 4 = .ok (.iconst 0, 1) := by decide +kernel
theorem dX1_setPlaces_5 : decode cX1_setPlaces 5 = .ok (.iload_n 1, 1) := by decide +kernel
theorem dX1_setPlaces_6 : decode cX1_setPlaces 6 = .ok (.iastore, 1) := by decide +kernel
theorem dX1_setPlaces_7 : decode cX1_setPlaces 7 = .ok (.aload_n 0, 1) := by decide +kernel
theorem dX1_setPlaces_8 : decode cX1_setPlaces 8 = .ok (.getfield 9, 3) := by decide +kernel
theorem dX1_setPlaces_11 : decode cX1_setPlaces 11 = .ok (.iconst 1, 1) := by decide +kernel
theorem dX1_setPlaces_12 : decode cX1_setPlaces 12 = .ok (.iload_n 2, 1) := by decide +kernel
theorem dX1_setPlaces_13 : decode cX1_setPlaces 13 = .ok (.iastore, 1) := by decide +kernel
theorem dX1_setPlaces_14 : decode cX1_setPlaces 14 = .ok (.aload_n 0, 1) := by decide +kernel
theorem dX1_setPlaces_15 : decode cX1_setPlaces 15 = .ok (.getfield 9, 3) := by decide +kernel
theorem dX1_setPlaces_18 : decode cX1_setPlaces 18 = .ok (.iconst 4, 1) := by decide +kernel
theorem dX1_setPlaces_19 : decode cX1_setPlaces 19 = .ok (.iload_n 2, 1) := by decide +kernel
theorem dX1_setPlaces_20 : decode cX1_setPlaces 20 = .ok (.iload_n 1, 1) := by decide +kernel
theorem dX1_setPlaces_21 : decode cX1_setPlaces 21 = .ok (.isub, 1) := by decide +kernel
theorem dX1_setPlaces_22 : decode cX1_setPlaces 22 = .ok (.iastore, 1) := by decide +kernel
theorem dX1_setPlaces_23 : decode cX1_setPlaces 23 = .ok (.return_, 1) := by decide +kernel
theorem dX1_setColours_0 : decode cX1_setColours 0 = .ok (.aload_n 0, 1) := by decide +kernel
theorem dX1_setColours_1 : decode cX1_setColours 1 = .ok (.getfield 9, 3) := by decide +kernel
theorem dX1_setColours_4 : decode cX1_setColours 4 = .ok (.iconst 2, 1) := by decide +kernel
theorem dX1_setColours_5 : decode cX1_setColours 5 = .ok (.iload_n 1, 1) := by decide +kernel
theorem dX1_setColours_6 : decode cX1_setColours 6 = .ok (.iastore, 1) := by decide +kernel
theorem dX1_setColours_7 : decode cX1_setColours 7 = .ok (.aload_n 0, 1) := by decide +kernel
theorem dX1_setColours_8 : decode cX1_setColours 8 = .ok (.getfield 9, 3) := by decide +kernel
theorem dX1_setColours_11 : decode cX1_setColours 11 = .ok (.iconst 3, 1) := by decide +kernel
theorem dX1_setColours_12 : decode cX1_setColours 12 = .ok (.iload_n 2, 1) := by decide +kernel
theorem dX1_setColours_13 : decode cX1_setColours 13 = .ok (.iastore, 1) := by decide +kernel
theorem dX1_setColours_14 : decode cX1_setColours 14 = .ok (.aload_n 0, 1) := by decide +kernel
theorem dX1_setColours_15 : decode cX1_setColours 15 = .ok (.getfield 9, 3) := by decide +kernel
theorem dX1_setColours_18 : decode cX1_setColours 18 = .ok (.iconst 5, 1) := by decide +kernel
theorem dX1_setColours_19 : decode cX1_setColours 19 = .ok (.iload_n 3, 1) := by decide +kernel
theorem dX1_setColours_20 : decode cX1_setColours 20 = .ok (.iastore, 1) := by decide +kernel
theorem dX1_setColours_21 : decode cX1_setColours 21 = .ok (.return_, 1) := by decide +kernel
theorem dX1_setTimes_0 : decode cX1_setTimes 0 = .ok (.aload_n 0, 1) := by decide +kernel
theorem dX1_setTimes_1 : decode cX1_setTimes 1 = .ok (.getfield 9, 3) := by decide +kernel
theorem dX1_setTimes_4 : decode cX1_setTimes 4 = .ok (.bipush 6, 2) := by decide +kernel
theorem dX1_setTimes_6 : decode cX1_setTimes 6 = .ok (.iload_n 1, 1) := by decide +kernel
theorem dX1_setTimes_7 : decode cX1_setTimes 7 = .ok (.iastore, 1) := by decide +kernel
theorem dX1_setTimes_8 : decode cX1_setTimes 8 = .ok (.aload_n 0, 1) := by decide +kernel
theorem dX1_setTimes_9 : decode cX1_setTimes 9 = .ok (.getfield 9, 3) := by decide +kernel
theorem dX1_setTimes_12 : decode cX1_setTimes 12 = .ok (.bipush 7, 2) := by decide +kernel
theorem dX1_setTimes_14 : decode cX1_setTimes 14 = .ok (.iload_n 2, 1) := by decide +kernel
theorem dX1_setTimes_15 : decode cX1_setTimes 15 = .ok (.iastore, 1) := by decide +kernel
theorem dX1_setTimes_16 : decode cX1_setTimes 16 = .ok (.return_, 1) := by decide +kernel
theorem dX1_begin_0 : decode cX1_begin 0 = .ok (.aload_n 0, 1) := by decide +kernel
theorem dX1_begin_1 : decode cX1_begin 1 = .ok (.iconst 0, 1) := by decide +kernel
theorem dX1_begin_2 : decode cX1_begin 2 = .ok (.putfield 17, 3) := by decide +kernel
theorem dX1_begin_5 : decode cX1_begin 5 = .ok (.aload_n 0, 1) := by decide +kernel
theorem dX1_begin_6 : decode cX1_begin 6 = .ok (.iconst 0, 1) := by decide +kernel
theorem dX1_begin_7 : decode cX1_begin 7 = .ok (.putfield 21, 3) := by decide +kernel
theorem dX1_begin_10 : decode cX1_begin 10 = .ok (.aload_n 0, 1) := by decide +kernel
theorem dX1_begin_11 : decode cX1_begin 11 = .ok (.iconst 0, 1) := by decide +kernel
theorem dX1_begin_12 : decode cX1_begin 12 = .ok (.putfield 25, 3) := by decide +kernel
theorem dX1_begin_15 : decode cX1_begin 15 = .ok (.aload_n 0, 1) := by decide +kernel
theorem dX1_begin_16 : decode cX1_begin 16 = .ok (.iconst 0, 1) := by decide +kernel
theorem dX1_begin_17 : decode cX1_begin 17 = .ok (.putfield 28, 3) := by decide +kernel
theorem dX1_begin_20 : decode cX1_begin 20 = .ok (.aload_n 0, 1) := by decide +kernel
theorem dX1_begin_21 : decode cX1_begin 21 = .ok (.iconst 0, 1) := by decide +kernel
theorem dX1_begin_22 : decode cX1_begin 22 = .ok (.putfield 31, 3) := by decide +kernel
theorem dX1_begin_25 : decode cX1_begin 25 = .ok (.aload_n 0, 1) := by decide +kernel
theorem dX1_begin_26 : decode cX1_begin 26 = .ok (.iconst 1, 1) := by decide +kernel
theorem dX1_begin_27 : decode cX1_begin 27 = .ok (.putfield 34, 3) := by decide +kernel
theorem dX1_begin_30 : decode cX1_begin 30 = .ok (.return_, 1) := by decide +kernel
theorem dX1_top_0 : decode cX1_top 0 = .ok (.aload_n 0, 1) := by decide +kernel
theorem dX1_top_1 : decode cX1_top 1 = .ok (.getfield 17, 3) := by decide +kernel
theorem dX1_top_4 : decode cX1_top 4 = .ok (.ifCond .le 17, 3) := by decide +kernel
theorem dX1_top_21 : decode cX1_top 21 = .ok (.lconst 0, 1) := by decide +kernel
theorem dX1_top_22 : decode cX1_top 22 = .ok (.lreturn, 1) := by decide +kernel
theorem dX1_top_7 : decode cX1_top 7 = .ok (.aload_n 0, 1) := by decide +kernel
theorem dX1_top_8 : decode cX1_top 8 = .ok (.getfield 13, 3) := by decide +kernel
theorem dX1_top_11 : decode cX1_top 11 = .ok (.aload_n 0, 1) := by decide +kernel
theorem dX1_top_12 : decode cX1_top 12 = .ok (.getfield 17, 3) := by decide +kernel
theorem dX1_top_15 : decode cX1_top 15 = .ok (.iconst 1, 1) := by decide +kernel
theorem dX1_top_16 : decode cX1_top 16 = .ok (.isub, 1) := by decide +kernel
theorem dX1_top_17 : decode cX1_top 17 = .ok (.laload, 1) := by decide +kernel
theorem dX1_top_18 : decode cX1_top 18 = .ok (.goto 4, 3) := by decide +kernel
theorem dX1_push_0 : decode cX1_push 0 = .ok (.aload_n 0, 1) := by decide +kernel
theorem dX1_push_1 : decode cX1_push 1 = .ok (.getfield 17, 3) := by decide +kernel
theorem dX1_push_4 : decode cX1_push 4 = .ok (.bipush 64, 2) := by decide +kernel
theorem dX1_push_6 : decode cX1_push 6 = .ok (.if_icmp .ge 23, 3) := by decide +kernel
theorem dX1_push_29 : decode cX1_push 29 = .ok (.return_, 1) := by decide +kernel
theorem dX1_push_9 : decode cX1_push 9 = .ok (.aload_n 0, 1) := by decide +kernel
theorem dX1_push_10 : decode cX1_push 10 = .ok (.getfield 13, 3) := by decide +kernel
theorem dX1_push_13 : decode cX1_push 13 = .ok (.aload_n 0, 1) := by decide +kernel
theorem dX1_push_14 : decode cX1_push 14 = .ok (.getfield 17, 3) := by decide +kernel
theorem dX1_push_17 : decode cX1_push 17 = .ok (.lload_n 1, 1) := by decide +kernel
theorem dX1_push_18 : decode cX1_push 18 = .ok (.lastore, 1) := by decide +kernel
theorem dX1_push_19 : decode cX1_push 19 = .ok (.aload_n 0, 1) := by decide +kernel
theorem dX1_push_20 : decode cX1_push 20 = .ok (.dup, 1) := by decide +kernel
theorem dX1_push_21 : decode cX1_push 21 = .ok (.getfield 17, 3) := by decide +kernel
theorem dX1_push_24 : decode cX1_push 24 = .ok (.iconst 1, 1) := by decide +kernel
theorem dX1_push_25 : decode cX1_push 25 = .ok (.iadd, 1) := by decide +kernel
theorem dX1_push_26 : decode cX1_push 26 = .ok (.putfield 17, 3) := by decide +kernel
theorem dX1_pop_0 : decode cX1_pop 0 = .ok (.aload_n 0, 1) := by decide +kernel
theorem dX1_pop_1 : decode cX1_pop 1 = .ok (.getfield 17, 3) := by decide +kernel
theorem dX1_pop_4 : decode cX1_pop 4 = .ok (.ifCond .gt 5, 3) := by decide +kernel
theorem dX1_pop_9 : decode cX1_pop 9 = .ok (.aload_n 0, 1) := by decide +kernel
theorem dX1_pop_10 : decode cX1_pop 10 = .ok (.dup, 1) := by decide +kernel
theorem dX1_pop_11 : decode cX1_pop 11 = .ok (.getfield 17, 3) := by decide +kernel
theorem dX1_pop_14 : decode cX1_pop 14 = .ok (.iconst 1, 1) := by decide +kernel
theorem dX1_pop_15 : decode cX1_pop 15 = .ok (.isub, 1) := by decide +kernel
theorem dX1_pop_16 : decode cX1_pop 16 = .ok (.putfield 17, 3) := by decide +kernel
theorem dX1_pop_19 : decode cX1_pop 19 = .ok (.aload_n 0, 1) := by decide +kernel
theorem dX1_pop_20 : decode cX1_pop 20 = .ok (.getfield 13, 3) := by decide +kernel
theorem dX1_pop_23 : decode cX1_pop 23 = .ok (.aload_n 0, 1) := by decide +kernel
theorem dX1_pop_24 : decode cX1_pop 24 = .ok (.getfield 17, 3) := by decide +kernel
theorem dX1_pop_27 : decode cX1_pop 27 = .ok (.laload, 1) := by decide +kernel
theorem dX1_pop_28 : decode cX1_pop 28 = .ok (.lreturn, 1) := by decide +kernel
theorem dX1_pop_7 : decode cX1_pop 7 = .ok (.lconst 0, 1) := by decide +kernel
theorem dX1_pop_8 : decode cX1_pop 8 = .ok (.lreturn, 1) := by decide +kernel
theorem dX1_bounded_0 : decode cX1_bounded 0 = .ok (.aload_n 0, 1) := by decide +kernel
theorem dX1_bounded_1 : decode cX1_bounded 1 = .ok (.aload_n 0, 1) := by decide +kernel
theorem dX1_bounded_2 : decode cX1_bounded 2 = .ok (.getfield 21, 3) := by decide +kernel
theorem dX1_bounded_5 : decode cX1_bounded 5 = .ok (.ifCond .ne 19, 3) := by decide +kernel
theorem dX1_bounded_24 : decode cX1_bounded 24 = .ok (.iconst 1, 1) := by decide +kernel
theorem dX1_bounded_25 : decode cX1_bounded 25 = .ok (.goto 4, 3) := by decide +kernel
theorem dX1_bounded_29 : decode cX1_bounded 29 = .ok (.putfield 21, 3) := by decide +kernel
theorem dX1_bounded_32 : decode cX1_bounded 32 = .ok (.aload_n 0, 1) := by decide +kernel
theorem dX1_bounded_33 : decode cX1_bounded 33 = .ok (.getfield 21, 3) := by decide +kernel
theorem dX1_bounded_36 : decode cX1_bounded 36 = .ok (.ifCond .eq 7, 3) := by decide +kernel
theorem dX1_bounded_39 : decode cX1_bounded 39 = .ok (.lconst 0, 1) := by decide +kernel
theorem dX1_bounded_40 : decode cX1_bounded 40 = .ok (.goto 4, 3) := by decide +kernel
theorem dX1_bounded_44 : decode cX1_bounded 44 = .ok (.lreturn, 1) := by decide +kernel
theorem dX1_bounded_8 : decode cX1_bounded 8 = .ok (.lload_n 1, 1) := by decide +kernel
theorem dX1_bounded_9 : decode cX1_bounded 9 = .ok (.ldc2_w 81, 3) := by decide +kernel
theorem dX1_bounded_12 : decode cX1_bounded 12 = .ok (.lcmp, 1) := by decide +kernel
theorem dX1_bounded_13 : decode cX1_bounded 13 = .ok (.ifCond .gt 11, 3) := by decide +kernel
theorem dX1_bounded_16 : decode cX1_bounded 16 = .ok (.lload_n 1, 1) := by decide +kernel
theorem dX1_bounded_17 : decode cX1_bounded 17 = .ok (.ldc2_w 83, 3) := by decide +kernel
theorem dX1_bounded_20 : decode cX1_bounded 20 = .ok (.lcmp, 1) := by decide +kernel
theorem dX1_bounded_21 : decode cX1_bounded 21 = .ok (.ifCond .ge 7, 3) := by decide +kernel
theorem dX1_bounded_28 : decode cX1_bounded 28 = .ok (.iconst 0, 1) := by decide +kernel
theorem dX1_bounded_43 : decode cX1_bounded 43 = .ok (.lload_n 1, 1) := by decide +kernel
theorem dX1_joined_0 : decode cX1_joined 0 = .ok (.iload_n 1, 1) := by decide +kernel
theorem dX1_joined_1 : decode cX1_joined 1 = .ok (.tableswitch 131 2 7 #[39, 48, 57, 66, 105, 118], 39) := by decide +kernel
theorem dX1_joined_40 : decode cX1_joined 40 = .ok (.aload_n 0, 1) := by decide +kernel
theorem dX1_joined_41 : decode cX1_joined 41 = .ok (.lload_n 2, 1) := by decide +kernel
theorem dX1_joined_42 : decode cX1_joined 42 = .ok (.lload 4, 2) := by decide +kernel
theorem dX1_joined_44 : decode cX1_joined 44 = .ok (.ladd, 1) := by decide +kernel
theorem dX1_joined_45 : decode cX1_joined 45 = .ok (.invokevirtual 77, 3) := by decide +kernel
theorem dX1_joined_48 : decode cX1_joined 48 = .ok (.lreturn, 1) := by decide +kernel
theorem dX1_joined_49 : decode cX1_joined 49 = .ok (.aload_n 0, 1) := by decide +kernel
theorem dX1_joined_50 : decode cX1_joined 50 = .ok (.lload_n 2, 1) := by decide +kernel
theorem dX1_joined_51 : decode cX1_joined 51 = .ok (.lload 4, 2) := by decide +kernel
theorem dX1_joined_53 : decode cX1_joined 53 = .ok (.lsub, 1) := by decide +kernel
theorem dX1_joined_54 : decode cX1_joined 54 = .ok (.invokevirtual 77, 3) := by decide +kernel
theorem dX1_joined_57 : decode cX1_joined 57 = .ok (.lreturn, 1) := by decide +kernel
theorem dX1_joined_58 : decode cX1_joined 58 = .ok (.aload_n 0, 1) := by decide +kernel
theorem dX1_joined_59 : decode cX1_joined 59 = .ok (.lload_n 2, 1) := by decide +kernel
theorem dX1_joined_60 : decode cX1_joined 60 = .ok (.lload 4, 2) := by decide +kernel
theorem dX1_joined_62 : decode cX1_joined 62 = .ok (.lmul, 1) := by decide +kernel
theorem dX1_joined_63 : decode cX1_joined 63 = .ok (.invokevirtual 77, 3) := by decide +kernel
theorem dX1_joined_66 : decode cX1_joined 66 = .ok (.lreturn, 1) := by decide +kernel
theorem dX1_joined_67 : decode cX1_joined 67 = .ok (.aload_n 0, 1) := by decide +kernel
theorem dX1_joined_68 : decode cX1_joined 68 = .ok (.aload_n 0, 1) := by decide +kernel
theorem dX1_joined_69 : decode cX1_joined 69 = .ok (.getfield 21, 3) := by decide +kernel
theorem dX1_joined_72 : decode cX1_joined 72 = .ok (.ifCond .ne 10, 3) := by decide +kernel
theorem dX1_joined_82 : decode cX1_joined 82 = .ok (.iconst 1, 1) := by decide +kernel
theorem dX1_joined_83 : decode cX1_joined 83 = .ok (.goto 4, 3) := by decide +kernel
theorem dX1_joined_87 : decode cX1_joined 87 = .ok (.putfield 21, 3) := by decide +kernel
theorem dX1_joined_90 : decode cX1_joined 90 = .ok (.lload 4, 2) := by decide +kernel
theorem dX1_joined_92 : decode cX1_joined 92 = .ok (.lconst 0, 1) := by decide +kernel
theorem dX1_joined_93 : decode cX1_joined 93 = .ok (.lcmp, 1) := by decide +kernel
theorem dX1_joined_94 : decode cX1_joined 94 = .ok (.ifCond .ne 7, 3) := by decide +kernel
theorem dX1_joined_101 : decode cX1_joined 101 = .ok (.lload_n 2, 1) := by decide +kernel
theorem dX1_joined_102 : decode cX1_joined 102 = .ok (.lload 4, 2) := by decide +kernel
theorem dX1_joined_104 : decode cX1_joined 104 = .ok (.ldiv, 1) := by decide +kernel
theorem dX1_joined_105 : decode cX1_joined 105 = .ok (.lreturn, 1) := by decide +kernel
theorem dX1_joined_97 : decode cX1_joined 97 = .ok (.lconst 0, 1) := by decide +kernel
theorem dX1_joined_98 : decode cX1_joined 98 = .ok (.goto 7, 3) := by decide +kernel
theorem dX1_joined_75 : decode cX1_joined 75 = .ok (.lload 4, 2) := by decide +kernel
theorem dX1_joined_77 : decode cX1_joined 77 = .ok (.lconst 0, 1) := by decide +kernel
theorem dX1_joined_78 : decode cX1_joined 78 = .ok (.lcmp, 1) := by decide +kernel
theorem dX1_joined_79 : decode cX1_joined 79 = .ok (.ifCond .ne 7, 3) := by decide +kernel
theorem dX1_joined_86 : decode cX1_joined 86 = .ok (.iconst 0, 1) := by decide +kernel
theorem dX1_joined_106 : decode cX1_joined 106 = .ok (.lload_n 2, 1) := by decide +kernel
theorem dX1_joined_107 : decode cX1_joined 107 = .ok (.lload 4, 2) := by decide +kernel
theorem dX1_joined_109 : decode cX1_joined 109 = .ok (.lcmp, 1) := by decide +kernel
theorem dX1_joined_110 : decode cX1_joined 110 = .ok (.ifCond .ge 7, 3) := by decide +kernel
theorem dX1_joined_117 : decode cX1_joined 117 = .ok (.lconst 0, 1) := by decide +kernel
theorem dX1_joined_118 : decode cX1_joined 118 = .ok (.lreturn, 1) := by decide +kernel
theorem dX1_joined_113 : decode cX1_joined 113 = .ok (.lconst 1, 1) := by decide +kernel
theorem dX1_joined_114 : decode cX1_joined 114 = .ok (.goto 4, 3) := by decide +kernel
theorem dX1_joined_119 : decode cX1_joined 119 = .ok (.lload_n 2, 1) := by decide +kernel
theorem dX1_joined_120 : decode cX1_joined 120 = .ok (.lload 4, 2) := by decide +kernel
theorem dX1_joined_122 : decode cX1_joined 122 = .ok (.lcmp, 1) := by decide +kernel
theorem dX1_joined_123 : decode cX1_joined 123 = .ok (.ifCond .le 7, 3) := by decide +kernel
theorem dX1_joined_130 : decode cX1_joined 130 = .ok (.lconst 0, 1) := by decide +kernel
theorem dX1_joined_131 : decode cX1_joined 131 = .ok (.lreturn, 1) := by decide +kernel
theorem dX1_joined_126 : decode cX1_joined 126 = .ok (.lconst 1, 1) := by decide +kernel
theorem dX1_joined_127 : decode cX1_joined 127 = .ok (.goto 4, 3) := by decide +kernel
theorem dX1_joined_132 : decode cX1_joined 132 = .ok (.lload_n 2, 1) := by decide +kernel
theorem dX1_joined_133 : decode cX1_joined 133 = .ok (.lload 4, 2) := by decide +kernel
theorem dX1_joined_135 : decode cX1_joined 135 = .ok (.lcmp, 1) := by decide +kernel
theorem dX1_joined_136 : decode cX1_joined 136 = .ok (.ifCond .ne 7, 3) := by decide +kernel
theorem dX1_joined_143 : decode cX1_joined 143 = .ok (.lconst 0, 1) := by decide +kernel
theorem dX1_joined_144 : decode cX1_joined 144 = .ok (.lreturn, 1) := by decide +kernel
theorem dX1_joined_139 : decode cX1_joined 139 = .ok (.lconst 1, 1) := by decide +kernel
theorem dX1_joined_140 : decode cX1_joined 140 = .ok (.goto 4, 3) := by decide +kernel
theorem dX1_run_0 : decode cX1_run 0 = .ok (.iload_n 1, 1) := by decide +kernel
theorem dX1_run_1 : decode cX1_run 1 = .ok (.ifCond .ne 12, 3) := by decide +kernel
theorem dX1_run_13 : decode cX1_run 13 = .ok (.iload_n 1, 1) := by decide +kernel
theorem dX1_run_14 : decode cX1_run 14 = .ok (.iconst 1, 1) := by decide +kernel
theorem dX1_run_15 : decode cX1_run 15 = .ok (.if_icmp .ne 31, 3) := by decide +kernel
theorem dX1_run_46 : decode cX1_run 46 = .ok (.iload_n 1, 1) := by decide +kernel
theorem dX1_run_47 : decode cX1_run 47 = .ok (.bipush 9, 2) := by decide +kernel
theorem dX1_run_49 : decode cX1_run 49 = .ok (.if_icmp .ne 24, 3) := by decide +kernel
theorem dX1_run_73 : decode cX1_run 73 = .ok (.aload_n 0, 1) := by decide +kernel
theorem dX1_run_74 : decode cX1_run 74 = .ok (.invokevirtual 70, 3) := by decide +kernel
theorem dX1_run_77 : decode cX1_run 77 = .ok (.lstore_n 3, 1) := by decide +kernel
theorem dX1_run_78 : decode cX1_run 78 = .ok (.aload_n 0, 1) := by decide +kernel
theorem dX1_run_79 : decode cX1_run 79 = .ok (.aload_n 0, 1) := by decide +kernel
theorem dX1_run_80 : decode cX1_run 80 = .ok (.iload_n 1, 1) := by decide +kernel
theorem dX1_run_81 : decode cX1_run 81 = .ok (.aload_n 0, 1) := by decide +kernel
theorem dX1_run_82 : decode cX1_run 82 = .ok (.invokevirtual 70, 3) := by decide +kernel
theorem dX1_run_85 : decode cX1_run 85 = .ok (.lload_n 3, 1) := by decide +kernel
theorem dX1_run_86 : decode cX1_run 86 = .ok (.invokevirtual 73, 3) := by decide +kernel
theorem dX1_run_89 : decode cX1_run 89 = .ok (.invokevirtual 66, 3) := by decide +kernel
theorem dX1_run_92 : decode cX1_run 92 = .ok (.return_, 1) := by decide +kernel
theorem dX1_run_52 : decode cX1_run 52 = .ok (.aload_n 0, 1) := by decide +kernel
theorem dX1_run_53 : decode cX1_run 53 = .ok (.aload_n 0, 1) := by decide +kernel
theorem dX1_run_54 : decode cX1_run 54 = .ok (.invokevirtual 70, 3) := by decide +kernel
theorem dX1_run_57 : decode cX1_run 57 = .ok (.lconst 0, 1) := by decide +kernel
theorem dX1_run_58 : decode cX1_run 58 = .ok (.lcmp, 1) := by decide +kernel
theorem dX1_run_59 : decode cX1_run 59 = .ok (.ifCond .ne 7, 3) := by decide +kernel
theorem dX1_run_66 : decode cX1_run 66 = .ok (.lconst 0, 1) := by decide +kernel
theorem dX1_run_67 : decode cX1_run 67 = .ok (.invokevirtual 66, 3) := by decide +kernel
theorem dX1_run_70 : decode cX1_run 70 = .ok (.goto 22, 3) := by decide +kernel
theorem dX1_run_62 : decode cX1_run 62 = .ok (.lconst 1, 1) := by decide +kernel
theorem dX1_run_63 : decode cX1_run 63 = .ok (.goto 4, 3) := by decide +kernel
theorem dX1_run_18 : decode cX1_run 18 = .ok (.aload_n 0, 1) := by decide +kernel
theorem dX1_run_19 : decode cX1_run 19 = .ok (.iload_n 2, 1) := by decide +kernel
theorem dX1_run_20 : decode cX1_run 20 = .ok (.ifCond .lt 19, 3) := by decide +kernel
theorem dX1_run_39 : decode cX1_run 39 = .ok (.lconst 0, 1) := by decide +kernel
theorem dX1_run_40 : decode cX1_run 40 = .ok (.invokevirtual 66, 3) := by decide +kernel
theorem dX1_run_43 : decode cX1_run 43 = .ok (.goto 49, 3) := by decide +kernel
theorem dX1_run_23 : decode cX1_run 23 = .ok (.iload_n 2, 1) := by decide +kernel
theorem dX1_run_24 : decode cX1_run 24 = .ok (.bipush 8, 2) := by decide +kernel
theorem dX1_run_26 : decode cX1_run 26 = .ok (.if_icmp .ge 13, 3) := by decide +kernel
theorem dX1_run_29 : decode cX1_run 29 = .ok (.aload_n 0, 1) := by decide +kernel
theorem dX1_run_30 : decode cX1_run 30 = .ok (.getfield 9, 3) := by decide +kernel
theorem dX1_run_33 : decode cX1_run 33 = .ok (.iload_n 2, 1) := by decide +kernel
theorem dX1_run_34 : decode cX1_run 34 = .ok (.iaload, 1) := by decide +kernel
theorem dX1_run_35 : decode cX1_run 35 = .ok (.i2l, 1) := by decide +kernel
theorem dX1_run_36 : decode cX1_run 36 = .ok (.goto 4, 3) := by decide +kernel
theorem dX1_run_4 : decode cX1_run 4 = .ok (.aload_n 0, 1) := by decide +kernel
theorem dX1_run_5 : decode cX1_run 5 = .ok (.iload_n 2, 1) := by decide +kernel
theorem dX1_run_6 : decode cX1_run 6 = .ok (.i2l, 1) := by decide +kernel
theorem dX1_run_7 : decode cX1_run 7 = .ok (.invokevirtual 66, 3) := by decide +kernel
theorem dX1_run_10 : decode cX1_run 10 = .ok (.goto 82, 3) := by decide +kernel
theorem dX1_close_0 : decode cX1_close 0 = .ok (.aload_n 0, 1) := by decide +kernel
theorem dX1_close_1 : decode cX1_close 1 = .ok (.getfield 21, 3) := by decide +kernel
theorem dX1_close_4 : decode cX1_close 4 = .ok (.ifCond .ne 16, 3) := by decide +kernel
theorem dX1_close_20 : decode cX1_close 20 = .ok (.iconst 0, 1) := by decide +kernel
theorem dX1_close_21 : decode cX1_close 21 = .ok (.istore_n 2, 1) := by decide +kernel
theorem dX1_close_22 : decode cX1_close 22 = .ok (.iload_n 1, 1) := by decide +kernel
theorem dX1_close_23 : decode cX1_close 23 = .ok (.bipush 13, 2) := by decide +kernel
theorem dX1_close_25 : decode cX1_close 25 = .ok (.if_icmp .ne 31, 3) := by decide +kernel
theorem dX1_close_56 : decode cX1_close 56 = .ok (.iload_n 1, 1) := by decide +kernel
theorem dX1_close_57 : decode cX1_close 57 = .ok (.bipush 14, 2) := by decide +kernel
theorem dX1_close_59 : decode cX1_close 59 = .ok (.if_icmp .ne 26, 3) := by decide +kernel
theorem dX1_close_85 : decode cX1_close 85 = .ok (.iload_n 2, 1) := by decide +kernel
theorem dX1_close_86 : decode cX1_close 86 = .ok (.ifCond .eq 24, 3) := by decide +kernel
theorem dX1_close_110 : decode cX1_close 110 = .ok (.aload_n 0, 1) := by decide +kernel
theorem dX1_close_111 : decode cX1_close 111 = .ok (.iconst 0, 1) := by decide +kernel
theorem dX1_close_112 : decode cX1_close 112 = .ok (.putfield 17, 3) := by decide +kernel
theorem dX1_close_115 : decode cX1_close 115 = .ok (.aload_n 0, 1) := by decide +kernel
theorem dX1_close_116 : decode cX1_close 116 = .ok (.iconst 0, 1) := by decide +kernel
theorem dX1_close_117 : decode cX1_close 117 = .ok (.putfield 21, 3) := by decide +kernel
theorem dX1_close_120 : decode cX1_close 120 = .ok (.return_, 1) := by decide +kernel
theorem dX1_close_62 : decode cX1_close 62 = .ok (.aload_n 0, 1) := by decide +kernel
theorem dX1_close_63 : decode cX1_close 63 = .ok (.aload_n 0, 1) := by decide +kernel
theorem dX1_close_64 : decode cX1_close 64 = .ok (.getfield 31, 3) := by decide +kernel
theorem dX1_close_67 : decode cX1_close 67 = .ok (.ifCond .ne 7, 3) := by decide +kernel
theorem dX1_close_74 : decode cX1_close 74 = .ok (.iconst 1, 1) := by decide +kernel
theorem dX1_close_75 : decode cX1_close 75 = .ok (.goto 4, 3) := by decide +kernel
theorem dX1_close_79 : decode cX1_close 79 = .ok (.putfield 31, 3) := by decide +kernel
theorem dX1_close_82 : decode cX1_close 82 = .ok (.goto 28, 3) := by decide +kernel
theorem dX1_close_70 : decode cX1_close 70 = .ok (.iload_n 2, 1) := by decide +kernel
theorem dX1_close_71 : decode cX1_close 71 = .ok (.ifCond .eq 7, 3) := by decide +kernel
theorem dX1_close_78 : decode cX1_close 78 = .ok (.iconst 0, 1) := by decide +kernel
theorem dX1_close_28 : decode cX1_close 28 = .ok (.aload_n 0, 1) := by decide +kernel
theorem dX1_close_29 : decode cX1_close 29 = .ok (.iconst 1, 1) := by decide +kernel
theorem dX1_close_30 : decode cX1_close 30 = .ok (.putfield 25, 3) := by decide +kernel
theorem dX1_close_33 : decode cX1_close 33 = .ok (.aload_n 0, 1) := by decide +kernel
theorem dX1_close_34 : decode cX1_close 34 = .ok (.aload_n 0, 1) := by decide +kernel
theorem dX1_close_35 : decode cX1_close 35 = .ok (.getfield 28, 3) := by decide +kernel
theorem dX1_close_38 : decode cX1_close 38 = .ok (.ifCond .ne 7, 3) := by decide +kernel
theorem dX1_close_45 : decode cX1_close 45 = .ok (.iconst 1, 1) := by decide +kernel
theorem dX1_close_46 : decode cX1_close 46 = .ok (.goto 4, 3) := by decide +kernel
theorem dX1_close_50 : decode cX1_close 50 = .ok (.putfield 28, 3) := by decide +kernel
theorem dX1_close_53 : decode cX1_close 53 = .ok (.goto 57, 3) := by decide +kernel
theorem dX1_close_41 : decode cX1_close 41 = .ok (.iload_n 2, 1) := by decide +kernel
theorem dX1_close_42 : decode cX1_close 42 = .ok (.ifCond .eq 7, 3) := by decide +kernel
theorem dX1_close_49 : decode cX1_close 49 = .ok (.iconst 0, 1) := by decide +kernel
theorem dX1_close_7 : decode cX1_close 7 = .ok (.aload_n 0, 1) := by decide +kernel
theorem dX1_close_8 : decode cX1_close 8 = .ok (.invokevirtual 44, 3) := by decide +kernel
theorem dX1_close_11 : decode cX1_close 11 = .ok (.lconst 0, 1) := by decide +kernel
theorem dX1_close_12 : decode cX1_close 12 = .ok (.lcmp, 1) := by decide +kernel
theorem dX1_close_13 : decode cX1_close 13 = .ok (.ifCond .eq 7, 3) := by decide +kernel
theorem dX1_close_16 : decode cX1_close 16 = .ok (.iconst 1, 1) := by decide +kernel
theorem dX1_close_17 : decode cX1_close 17 = .ok (.goto 4, 3) := by decide +kernel
theorem dX1_close_89 : decode cX1_close 89 = .ok (.aload_n 0, 1) := by decide +kernel
theorem dX1_close_90 : decode cX1_close 90 = .ok (.lconst 1, 1) := by decide +kernel
theorem dX1_close_91 : decode cX1_close 91 = .ok (.ldc2_w 58, 3) := by decide +kernel
theorem dX1_close_94 : decode cX1_close 94 = .ok (.aload_n 0, 1) := by decide +kernel
theorem dX1_close_95 : decode cX1_close 95 = .ok (.getfield 13, 3) := by decide +kernel
theorem dX1_close_98 : decode cX1_close 98 = .ok (.iconst 0, 1) := by decide +kernel
theorem dX1_close_99 : decode cX1_close 99 = .ok (.laload, 1) := by decide +kernel
theorem dX1_close_100 : decode cX1_close 100 = .ok (.invokestatic 60, 3) := by decide +kernel
theorem dX1_close_103 : decode cX1_close 103 = .ok (.invokestatic 64, 3) := by decide +kernel
theorem dX1_close_106 : decode cX1_close 106 = .ok (.l2i, 1) := by decide +kernel
theorem dX1_close_107 : decode cX1_close 107 = .ok (.putfield 34, 3) := by decide +kernel
theorem dX1_verdict_0 : decode cX1_verdict 0 = .ok (.aload_n 0, 1) := by decide +kernel
theorem dX1_verdict_1 : decode cX1_verdict 1 = .ok (.invokevirtual 37, 3) := by decide +kernel
theorem dX1_verdict_4 : decode cX1_verdict 4 = .ok (.iconst 0, 1) := by decide +kernel
theorem dX1_verdict_5 : decode cX1_verdict 5 = .ok (.istore_n 2, 1) := by decide +kernel
theorem dX1_verdict_6 : decode cX1_verdict 6 = .ok (.iload_n 2, 1) := by decide +kernel
theorem dX1_verdict_7 : decode cX1_verdict 7 = .ok (.aload_n 1, 1) := by decide +kernel
theorem dX1_verdict_8 : decode cX1_verdict 8 = .ok (.arraylength, 1) := by decide +kernel
theorem dX1_verdict_9 : decode cX1_verdict 9 = .ok (.if_icmp .ge 113, 3) := by decide +kernel
theorem dX1_verdict_122 : decode cX1_verdict 122 = .ok (.aload_n 0, 1) := by decide +kernel
theorem dX1_verdict_123 : decode cX1_verdict 123 = .ok (.getfield 25, 3) := by decide +kernel
theorem dX1_verdict_126 : decode cX1_verdict 126 = .ok (.ifCond .eq 10, 3) := by decide +kernel
theorem dX1_verdict_136 : decode cX1_verdict 136 = .ok (.aload_n 0, 1) := by decide +kernel
theorem dX1_verdict_137 : decode cX1_verdict 137 = .ok (.getfield 9, 3) := by decide +kernel
theorem dX1_verdict_140 : decode cX1_verdict 140 = .ok (.iconst 4, 1) := by decide +kernel
theorem dX1_verdict_141 : decode cX1_verdict 141 = .ok (.iaload, 1) := by decide +kernel
theorem dX1_verdict_142 : decode cX1_verdict 142 = .ok (.iconst 1, 1) := by decide +kernel
theorem dX1_verdict_143 : decode cX1_verdict 143 = .ok (.if_icmp .ne 7, 3) := by decide +kernel
theorem dX1_verdict_150 : decode cX1_verdict 150 = .ok (.iconst 0, 1) := by decide +kernel
theorem dX1_verdict_151 : decode cX1_verdict 151 = .ok (.istore_n 2, 1) := by decide +kernel
theorem dX1_verdict_152 : decode cX1_verdict 152 = .ok (.iload_n 2, 1) := by decide +kernel
theorem dX1_verdict_153 : decode cX1_verdict 153 = .ok (.ifCond .eq 17, 3) := by decide +kernel
theorem dX1_verdict_170 : decode cX1_verdict 170 = .ok (.iconst 0, 1) := by decide +kernel
theorem dX1_verdict_171 : decode cX1_verdict 171 = .ok (.ireturn, 1) := by decide +kernel
theorem dX1_verdict_146 : decode cX1_verdict 146 = .ok (.iconst 1, 1) := by decide +kernel
theorem dX1_verdict_147 : decode cX1_verdict 147 = .ok (.goto 4, 3) := by decide +kernel
theorem dX1_verdict_156 : decode cX1_verdict 156 = .ok (.aload_n 0, 1) := by decide +kernel
theorem dX1_verdict_157 : decode cX1_verdict 157 = .ok (.getfield 31, 3) := by decide +kernel
theorem dX1_verdict_160 : decode cX1_verdict 160 = .ok (.ifCond .ne 10, 3) := by decide +kernel
theorem dX1_verdict_163 : decode cX1_verdict 163 = .ok (.aload_n 0, 1) := by decide +kernel
theorem dX1_verdict_164 : decode cX1_verdict 164 = .ok (.getfield 34, 3) := by decide +kernel
theorem dX1_verdict_167 : decode cX1_verdict 167 = .ok (.goto 4, 3) := by decide +kernel
theorem dX1_verdict_129 : decode cX1_verdict 129 = .ok (.aload_n 0, 1) := by decide +kernel
theorem dX1_verdict_130 : decode cX1_verdict 130 = .ok (.getfield 28, 3) := by decide +kernel
theorem dX1_verdict_133 : decode cX1_verdict 133 = .ok (.goto 18, 3) := by decide +kernel
theorem dX1_verdict_12 : decode cX1_verdict 12 = .ok (.aload_n 1, 1) := by decide +kernel
theorem dX1_verdict_13 : decode cX1_verdict 13 = .ok (.iload_n 2, 1) := by decide +kernel
theorem dX1_verdict_14 : decode cX1_verdict 14 = .ok (.iaload, 1) := by decide +kernel
theorem dX1_verdict_15 : decode cX1_verdict 15 = .ok (.bipush 31, 2) := by decide +kernel
theorem dX1_verdict_17 : decode cX1_verdict 17 = .ok (.iand, 1) := by decide +kernel
theorem dX1_verdict_18 : decode cX1_verdict 18 = .ok (.istore_n 3, 1) := by decide +kernel
theorem dX1_verdict_19 : decode cX1_verdict 19 = .ok (.aload_n 1, 1) := by decide +kernel
theorem dX1_verdict_20 : decode cX1_verdict 20 = .ok (.iload_n 2, 1) := by decide +kernel
theorem dX1_verdict_21 : decode cX1_verdict 21 = .ok (.iaload, 1) := by decide +kernel
theorem dX1_verdict_22 : decode cX1_verdict 22 = .ok (.iconst 5, 1) := by decide +kernel
theorem dX1_verdict_23 : decode cX1_verdict 23 = .ok (.ishr, 1) := by decide +kernel
theorem dX1_verdict_24 : decode cX1_verdict 24 = .ok (.istore 4, 2) := by decide +kernel
theorem dX1_verdict_26 : decode cX1_verdict 26 = .ok (.iload_n 3, 1) := by decide +kernel
theorem dX1_verdict_27 : decode cX1_verdict 27 = .ok (.bipush 12, 2) := by decide +kernel
theorem dX1_verdict_29 : decode cX1_verdict 29 = .ok (.if_icmp .lt 11, 3) := by decide +kernel
theorem dX1_verdict_40 : decode cX1_verdict 40 = .ok (.iload_n 3, 1) := by decide +kernel
theorem dX1_verdict_41 : decode cX1_verdict 41 = .ok (.bipush 10, 2) := by decide +kernel
theorem dX1_verdict_43 : decode cX1_verdict 43 = .ok (.if_icmp .eq 9, 3) := by decide +kernel
theorem dX1_verdict_52 : decode cX1_verdict 52 = .ok (.aload_n 0, 1) := by decide +kernel
theorem dX1_verdict_53 : decode cX1_verdict 53 = .ok (.invokevirtual 44, 3) := by decide +kernel
theorem dX1_verdict_56 : decode cX1_verdict 56 = .ok (.lconst 0, 1) := by decide +kernel
theorem dX1_verdict_57 : decode cX1_verdict 57 = .ok (.lcmp, 1) := by decide +kernel
theorem dX1_verdict_58 : decode cX1_verdict 58 = .ok (.ifCond .eq 7, 3) := by decide +kernel
theorem dX1_verdict_65 : decode cX1_verdict 65 = .ok (.iconst 0, 1) := by decide +kernel
theorem dX1_verdict_66 : decode cX1_verdict 66 = .ok (.iload_n 3, 1) := by decide +kernel
theorem dX1_verdict_67 : decode cX1_verdict 67 = .ok (.bipush 10, 2) := by decide +kernel
theorem dX1_verdict_69 : decode cX1_verdict 69 = .ok (.if_icmp .ne 7, 3) := by decide +kernel
theorem dX1_verdict_72 : decode cX1_verdict 72 = .ok (.iconst 1, 1) := by decide +kernel
theorem dX1_verdict_73 : decode cX1_verdict 73 = .ok (.goto 4, 3) := by decide +kernel
theorem dX1_verdict_77 : decode cX1_verdict 77 = .ok (.if_icmp .ne 15, 3) := by decide +kernel
theorem dX1_verdict_92 : decode cX1_verdict 92 = .ok (.aload_n 0, 1) := by decide +kernel
theorem dX1_verdict_93 : decode cX1_verdict 93 = .ok (.iconst 0, 1) := by decide +kernel
theorem dX1_verdict_94 : decode cX1_verdict 94 = .ok (.aload_n 0, 1) := by decide +kernel
theorem dX1_verdict_95 : decode cX1_verdict 95 = .ok (.getfield 17, 3) := by decide +kernel
theorem dX1_verdict_98 : decode cX1_verdict 98 = .ok (.iconst 1, 1) := by decide +kernel
theorem dX1_verdict_99 : decode cX1_verdict 99 = .ok (.isub, 1) := by decide +kernel
theorem dX1_verdict_100 : decode cX1_verdict 100 = .ok (.invokestatic 48, 3) := by decide +kernel
theorem dX1_verdict_103 : decode cX1_verdict 103 = .ok (.putfield 17, 3) := by decide +kernel
theorem dX1_verdict_106 : decode cX1_verdict 106 = .ok (.goto 10, 3) := by decide +kernel
theorem dX1_verdict_116 : decode cX1_verdict 116 = .ok (.iinc 2 1, 3) := by decide +kernel
theorem dX1_verdict_119 : decode cX1_verdict 119 = .ok (.goto (-113), 3) := by decide +kernel
theorem dX1_verdict_61 : decode cX1_verdict 61 = .ok (.iconst 1, 1) := by decide +kernel
theorem dX1_verdict_62 : decode cX1_verdict 62 = .ok (.goto 4, 3) := by decide +kernel
theorem dX1_verdict_80 : decode cX1_verdict 80 = .ok (.iload_n 2, 1) := by decide +kernel
theorem dX1_verdict_81 : decode cX1_verdict 81 = .ok (.iload 4, 2) := by decide +kernel
theorem dX1_verdict_83 : decode cX1_verdict 83 = .ok (.iconst 1, 1) := by decide +kernel
theorem dX1_verdict_84 : decode cX1_verdict 84 = .ok (.isub, 1) := by decide +kernel
theorem dX1_verdict_85 : decode cX1_verdict 85 = .ok (.invokestatic 48, 3) := by decide +kernel
theorem dX1_verdict_88 : decode cX1_verdict 88 = .ok (.istore_n 2, 1) := by decide +kernel
theorem dX1_verdict_89 : decode cX1_verdict 89 = .ok (.goto 27, 3) := by decide +kernel
theorem dX1_verdict_46 : decode cX1_verdict 46 = .ok (.iload_n 3, 1) := by decide +kernel
theorem dX1_verdict_47 : decode cX1_verdict 47 = .ok (.bipush 11, 2) := by decide +kernel
theorem dX1_verdict_49 : decode cX1_verdict 49 = .ok (.if_icmp .ne 60, 3) := by decide +kernel
theorem dX1_verdict_109 : decode cX1_verdict 109 = .ok (.aload_n 0, 1) := by decide +kernel
theorem dX1_verdict_110 : decode cX1_verdict 110 = .ok (.iload_n 3, 1) := by decide +kernel
theorem dX1_verdict_111 : decode cX1_verdict 111 = .ok (.iload 4, 2) := by decide +kernel
theorem dX1_verdict_113 : decode cX1_verdict 113 = .ok (.invokevirtual 54, 3) := by decide +kernel
theorem dX1_verdict_76 : decode cX1_verdict 76 = .ok (.iconst 0, 1) := by decide +kernel
theorem dX1_verdict_32 : decode cX1_verdict 32 = .ok (.aload_n 0, 1) := by decide +kernel
theorem dX1_verdict_33 : decode cX1_verdict 33 = .ok (.iload_n 3, 1) := by decide +kernel
theorem dX1_verdict_34 : decode cX1_verdict 34 = .ok (.invokevirtual 40, 3) := by decide +kernel
theorem dX1_verdict_37 : decode cX1_verdict 37 = .ok (.goto 79, 3) := by decide +kernel
theorem v_d437d0a088 : (0 : Int) < 8 := by omega
theorem v_f9904d9a45 {a0 : Int} (h0 : a0 ≤ 7) : a0 ≤ 2147483647 := by omega
theorem v_d89e2b4e60 : (1 : Int) < 8 := by omega
theorem v_0b505d131c {a0 a1 : Int} : a0 - a1 = -a1 + a0 := by omega
theorem v_92ab544b5f : (0 : Int) ≤ 4 := by omega
theorem v_c1c1c5fa1b : (4 : Int) < 8 := by omega
theorem v_7c0e79f73f {a0 a1 : Int} (h0 : a0 ≤ 7) (h1 : 0 ≤ a1) : -2147483648 ≤ -a0 + a1 := by omega
theorem v_1633e1f231 {a0 a1 : Int} (h0 : 0 ≤ a0) (h1 : a1 ≤ 7) : -a0 + a1 ≤ 2147483647 := by omega
theorem v_06d31e7a75 : (0 : Int) ≤ 2 := by omega
theorem v_d49066c1ea : (2 : Int) < 8 := by omega
theorem v_c33180d5d7 : (0 : Int) ≤ 3 := by omega
theorem v_58b9537003 : (3 : Int) < 8 := by omega
theorem v_ae46e08265 : (5 : Int) < 8 := by omega
theorem v_54997b3cd8 : (0 : Int) ≤ 6 := by omega
theorem v_a39c716f51 : (6 : Int) < 8 := by omega
theorem v_1f6d31d0c4 : (7 : Int) < 8 := by omega
theorem v_dbf0c94dfa {a0 : Int} (h0 : 0 ≤ a0) (h1 : a0 ≤ 64) : zr a0 := by omega
theorem v_648c9410ae : zr64 0 := by omega
theorem v_35349f94cd {a0 : Int} (h0 : ¬ a0 ≤ 0) : 0 ≤ a0 - 1 := by omega
theorem v_256b48430e {a0 : Int} (h0 : a0 ≤ 64) : a0 - 1 < 64 := by omega
theorem v_27b619c293 : zr 64 := by omega
theorem v_dd17145130 {a0 : Int} (h0 : ¬ 64 ≤ a0) : a0 < 64 := by omega
theorem v_686e488407 {a0 : Int} (h0 : ¬ 64 ≤ a0) : (a0 + 1) ≤ 64 := by omega
theorem v_7a2f8f4445 {a0 : Int} (h0 : 0 < a0) : 0 ≤ a0 - 1 := by omega
theorem v_05d2fe76bc {a0 : Int} (h0 : 0 < a0) : 0 ≤ (a0 - 1) := by omega
theorem v_053d5b1993 {a0 : Int} (h0 : a0 ≤ 64) : (a0 - 1) ≤ 64 := by omega
theorem v_082ba2fd17 {a0 : Int} (h0 : zr64 a0) : zr64 a0 := by omega
theorem v_288b67a6a5 : zr64 1000000000 := by omega
theorem v_51ccf7ebfa {a0 : Int} (h0 : -1 ≤ a0) (h1 : a0 ≤ 1) : zr a0 := by omega
theorem v_ebc4f1cff2 {a0 : Int} (h0 : zr64 a0) (h1 : a0 ≤ 1000000000) : zr64 a0 := by omega
theorem v_db2388b587 : zr64 ((-1000000000)) := by omega
theorem v_b7ed5c1d53 {a0 : Int} (h0 : a0 = 2) : a0 = 2 := by omega
theorem v_24d6576c2f {a0 : Int} (h0 : a0 = 3) : a0 = 3 := by omega
theorem v_e7bb9e21ac {a0 : Int} (h0 : a0 = 4) : a0 = 4 := by omega
theorem v_666cdbe95c {a0 : Int} (h0 : a0 = 5) : a0 = 5 := by omega
theorem v_7502709ab7 {a0 : Int} (h0 : ¬ a0 = 0) : ¬ a0 = 0 := by omega
theorem v_6e127b7bcc {a0 : Int} (h0 : a0 = 0) : zr64 a0 := by omega
theorem v_b29b8faf05 {a0 : Int} (h0 : a0 = 0) (h1 : ¬ a0 = 0) : ¬ a0 = 0 := by omega
theorem v_2e044925d6 {a0 : Int} (h0 : a0 = 6) : a0 = 6 := by omega
theorem v_c87c4d349e : zr64 1 := by omega
theorem v_2f5adcf1cf {a0 : Int} (h0 : a0 = 7) : a0 = 7 := by omega
theorem v_00f9f00cc1 : zr 9 := by omega
theorem v_9288bc7257 {a0 : Int} (h0 : -2147483648 ≤ a0) (h1 : a0 ≤ 2147483647) : zr64 a0 := by omega
theorem v_d3e6516af7 {a0 : Int} (h0 : zr a0) : zr64 a0 := by omega
theorem v_9c1fa5e798 : zr 13 := by omega
theorem v_2a4719925a : zr 14 := by omega
theorem v_c663bcd230 : (0 : Int) ≤ 64 := by omega
theorem v_29cf2762c2 : (0 : Int) < 64 := by omega
theorem v_a436dc5554 : zr64 99 := by omega
theorem v_5b67f62cd2 {a0 : Int} (h0 : a0 ≤ 99) (h1 : -9223372036854775808 ≤ a0) : zr64 a0 := by omega
theorem v_436b5826f5 {a0 : Int} (h0 : 1 ≤ a0) (h1 : a0 ≤ 99) : zr a0 := by omega
theorem v_9e75938c00 : (0 : Int) ≤ 100000000 := by omega
theorem v_561ce076da : (1 : Int) ≤ 99 := by omega
theorem v_49a98948d1 {a0 : Int} (h0 : a0 ≤ 100000) : a0 ≤ 2147483647 := by omega
theorem v_e6f0527522 {a0 : Int} (h0 : 0 ≤ a0) (h1 : a0 ≤ 100000000) : zr a0 := by omega
theorem v_df877c3443 {a0 : Int} (h0 : 0 ≤ a0) (h1 : a0 ≤ 100000) : zr a0 := by omega
theorem v_3176ed3c91 : (0 : Int) ≤ 99 := by omega
theorem v_b0b962d47e {a0 : Int} (h0 : 0 ≤ a0) (h1 : a0 ≤ 31) : zr a0 := by omega
theorem v_62f826df90 {a0 : Int} (h0 : 0 ≤ a0) (h1 : a0 < 12) : zr a0 := by omega
theorem v_2388fd5833 : zr 10 := by omega
theorem v_14763cd496 {a0 : Int} (h0 : a0 = 10) : zr a0 := by omega
theorem v_9473638d03 {a0 : Int} (h0 : a0 = 10) : a0 = 10 := by omega
theorem v_bdb4d0aa01 : ¬ (0 : Int) = 1 := by omega
theorem v_c2f7ff7d04 {a0 : Int} (h0 : 0 ≤ a0) (h1 : a0 ≤ 64) : zr ((a0 - 1)) := by omega
theorem v_e94bc95826 {a0 a1 : Int} (h0 : a0 ≤ 100000) (h1 : ¬ a0 ≤ a1) : (a1 + 1) ≤ 100000000 := by omega
theorem v_d1c5b1b617 {a0 : Int} (h0 : a0 ≤ 63) : a0 ≤ 64 := by omega
theorem v_0cde637f83 : (1 : Int) = 1 := by omega
theorem v_0800612b1c {a0 a1 : Int} (h0 : -2147483648 ≤ a0) (h1 : zr a1) (h2 : a0 ≤ 32 * a1 + 31) : zr ((a1 - 1)) := by omega
theorem v_797a0596d0 {a0 a1 : Int} (h0 : 0 ≤ a0) (h1 : a0 ≤ a1) : 0 ≤ (a1 + 1) := by omega
theorem v_1e73b16a5c {a0 : Int} (h0 : a0 ≤ 67108864) : (a0 + 1) ≤ 100000000 := by omega
theorem v_a969c14ad4 {a0 a1 a2 : Int} (h0 : a0 ≤ a1) : a2 - (a1 + 1) < (a2 - a0) := by omega
theorem v_d58e110b81 : zr 11 := by omega
theorem v_5ffbb452f1 {a0 : Int} (h0 : a0 < 12) (h1 : a0 = 11) : zr a0 := by omega
theorem v_9426cb96a7 {a0 : Int} (h0 : a0 = 11) : ¬ a0 = 10 := by omega
set_option maxHeartbeats 4000000 in
set_option maxRecDepth 100000 in
theorem j_setPlaces {l : Launch} {G : jG} {nh : Nat} {fh : Nat → Option va_E} (x : Int) (y : Int) (wf : Int → Int) (ht : Int) (br : Int) (hl : Int) (le : Int) (ba : Int) (tk : Int) (q0 : 0 ≤ x) (q1 : x ≤ 7) (q2 : 0 ≤ y) (q3 : y ≤ 7) (q4 : Rg wf 8 (-2147483648) 2147483647) (hk58 : fh 58 = some (.inr (1, [.ref 59, .ref 60, .int (zI ht), .int (zI br), .int (zI hl), .int (zI le), .int (zI ba), .int (zI tk)]))) (hk59 : fh 59 = some (.inl (0, 8, .inl (zA wf)))) : JM l G yX1_setPlaces MX1_setPlaces { frames := 0, cells := 0, slots := 0, locals := 0 } [.ref 58, .int (zI x), .int (zI y)] (nh, fh) (fun rr h9 => ∃ wg : Int → Int, rr = none ∧ h9 = (nh, hc fh [(59, .inl (0, 8, .inl (zA wg)))]) ∧ (Rg wg 8 (-2147483648) 2147483647)) := by
  refine JM.of (by decide) rfl (fun h => by cases h) (Nat.le_of_ble_eq_true rfl) ⟨0, rfl⟩ ?_
  refine J_hc0 (J_ls (ls2 := [some (.ref 58), some (.int (zI x)), some (.int (zI y))]) rfl ?_)
  refine J_aload_n dX1_setPlaces_0 rfl rfl ?_
  refine J_get (v := .ref 59) dX1_setPlaces_1 fl_X1_9 hk58 rfl ?_
  refine Z_iconst (n := 0) dX1_setPlaces_4 ?_
  refine J_iload_n dX1_setPlaces_5 rfl rfl ?_
  refine Y_iast (v := x) 8 dX1_setPlaces_6 hk59 rfl (by decide) v_939070ca3f v_d437d0a088 (fun f1 ef1 => ?_)
  have h2 : Rg f1 8 (-2147483648) 2147483647 := Rg.ups q4 ef1 (v_c11e42827f q0) (v_f9904d9a45 q1)
  refine J_aload_n dX1_setPlaces_7 rfl rfl ?_
  refine J_get (v := .ref 59) dX1_setPlaces_8 fl_X1_9 hk58 rfl ?_
  refine Z_iconst (n := 1) dX1_setPlaces_11 ?_
  refine J_iload_n dX1_setPlaces_12 rfl rfl ?_
  refine Y_iast (v := y) 8 dX1_setPlaces_13 rfl rfl (by decide) v_316afd7d0b v_d89e2b4e60 (fun f3 ef3 => ?_)
  have h4 : Rg f3 8 (-2147483648) 2147483647 := Rg.ups h2 ef3 (v_c11e42827f q2) (v_f9904d9a45 q3)
  refine J_aload_n dX1_setPlaces_14 rfl rfl ?_
  refine J_get (v := .ref 59) dX1_setPlaces_15 fl_X1_9 hk58 rfl ?_
  refine Z_iconst (n := 4) dX1_setPlaces_18 ?_
  refine J_iload_n dX1_setPlaces_19 rfl rfl ?_
  refine J_iload_n dX1_setPlaces_20 rfl rfl ?_
  refine Z_isub (c := -x + y) dX1_setPlaces_21 v_0b505d131c ?_
  refine Y_iast (v := -x + y) 8 dX1_setPlaces_22 rfl rfl (by decide) v_92ab544b5f v_c1c1c5fa1b (fun f5 ef5 => ?_)
  have h6 : Rg f5 8 (-2147483648) 2147483647 := Rg.ups h4 ef5 (v_7c0e79f73f q1 q2) (v_1633e1f231 q0 q3)
  refine J_mask (L2 := [(59, .inl (0, 8, .inl (zA f5)))]) (ks := [59, 59, 59]) [true, false, false] rfl (by decide +kernel) rfl ?_
  exact J_vret dX1_setPlaces_23 rfl (Nat.le_of_ble_eq_true rfl) (Nat.le_of_ble_eq_true rfl) ⟨f5, rfl, rfl, h6⟩
set_option maxHeartbeats 4000000 in
set_option maxRecDepth 100000 in
theorem j_setColours {l : Launch} {G : jG} {nh : Nat} {fh : Nat → Option va_E} (x : Int) (y : Int) (z : Int) (wf : Int → Int) (ht : Int) (br : Int) (hl : Int) (le : Int) (ba : Int) (tk : Int) (q0 : 0 ≤ x) (q1 : x ≤ 7) (q2 : 0 ≤ y) (q3 : y ≤ 7) (q4 : 0 ≤ z) (q5 : z ≤ 7) (q6 : Rg wf 8 (-2147483648) 2147483647) (hk58 : fh 58 = some (.inr (1, [.ref 59, .ref 60, .int (zI ht), .int (zI br), .int (zI hl), .int (zI le), .int (zI ba), .int (zI tk)]))) (hk59 : fh 59 = some (.inl (0, 8, .inl (zA wf)))) : JM l G yX1_setColours MX1_setColours { frames := 0, cells := 0, slots := 0, locals := 0 } [.ref 58, .int (zI x), .int (zI y), .int (zI z)] (nh, fh) (fun rr h9 => ∃ wg : Int → Int, rr = none ∧ h9 = (nh, hc fh [(59, .inl (0, 8, .inl (zA wg)))]) ∧ (Rg wg 8 (-2147483648) 2147483647)) := by
  refine JM.of (by decide) rfl (fun h => by cases h) (Nat.le_of_ble_eq_true rfl) ⟨0, rfl⟩ ?_
  refine J_hc0 (J_ls (ls2 := [some (.ref 58), some (.int (zI x)), some (.int (zI y)), some (.int (zI z))]) rfl ?_)
  refine J_aload_n dX1_setColours_0 rfl rfl ?_
  refine J_get (v := .ref 59) dX1_setColours_1 fl_X1_9 hk58 rfl ?_
  refine Z_iconst (n := 2) dX1_setColours_4 ?_
  refine J_iload_n dX1_setColours_5 rfl rfl ?_
  refine Y_iast (v := x) 8 dX1_setColours_6 hk59 rfl (by decide) v_06d31e7a75 v_d49066c1ea (fun f1 ef1 => ?_)
  have h2 : Rg f1 8 (-2147483648) 2147483647 := Rg.ups q6 ef1 (v_c11e42827f q0) (v_f9904d9a45 q1)
  refine J_aload_n dX1_setColours_7 rfl rfl ?_
  refine J_get (v := .ref 59) dX1_setColours_8 fl_X1_9 hk58 rfl ?_
  refine Z_iconst (n := 3) dX1_setColours_11 ?_
  refine J_iload_n dX1_setColours_12 rfl rfl ?_
  refine Y_iast (v := y) 8 dX1_setColours_13 rfl rfl (by decide) v_c33180d5d7 v_58b9537003 (fun f3 ef3 => ?_)
  have h4 : Rg f3 8 (-2147483648) 2147483647 := Rg.ups h2 ef3 (v_c11e42827f q2) (v_f9904d9a45 q3)
  refine J_aload_n dX1_setColours_14 rfl rfl ?_
  refine J_get (v := .ref 59) dX1_setColours_15 fl_X1_9 hk58 rfl ?_
  refine Z_iconst (n := 5) dX1_setColours_18 ?_
  refine J_iload_n dX1_setColours_19 rfl rfl ?_
  refine Y_iast (v := z) 8 dX1_setColours_20 rfl rfl (by decide) v_17fcbbe8da v_ae46e08265 (fun f5 ef5 => ?_)
  have h6 : Rg f5 8 (-2147483648) 2147483647 := Rg.ups h4 ef5 (v_c11e42827f q4) (v_f9904d9a45 q5)
  refine J_mask (L2 := [(59, .inl (0, 8, .inl (zA f5)))]) (ks := [59, 59, 59]) [true, false, false] rfl (by decide +kernel) rfl ?_
  exact J_vret dX1_setColours_21 rfl (Nat.le_of_ble_eq_true rfl) (Nat.le_of_ble_eq_true rfl) ⟨f5, rfl, rfl, h6⟩
set_option maxHeartbeats 4000000 in
set_option maxRecDepth 100000 in
theorem j_setTimes {l : Launch} {G : jG} {nh : Nat} {fh : Nat → Option va_E} (x : Int) (y : Int) (wf : Int → Int) (ht : Int) (br : Int) (hl : Int) (le : Int) (ba : Int) (tk : Int) (q0 : zr x) (q1 : zr y) (q2 : Rg wf 8 (-2147483648) 2147483647) (hk58 : fh 58 = some (.inr (1, [.ref 59, .ref 60, .int (zI ht), .int (zI br), .int (zI hl), .int (zI le), .int (zI ba), .int (zI tk)]))) (hk59 : fh 59 = some (.inl (0, 8, .inl (zA wf)))) : JM l G yX1_setTimes MX1_setTimes { frames := 0, cells := 0, slots := 0, locals := 0 } [.ref 58, .int (zI x), .int (zI y)] (nh, fh) (fun rr h9 => ∃ wg : Int → Int, rr = none ∧ h9 = (nh, hc fh [(59, .inl (0, 8, .inl (zA wg)))]) ∧ (Rg wg 8 (-2147483648) 2147483647)) := by
  refine JM.of (by decide) rfl (fun h => by cases h) (Nat.le_of_ble_eq_true rfl) ⟨0, rfl⟩ ?_
  refine J_hc0 (J_ls (ls2 := [some (.ref 58), some (.int (zI x)), some (.int (zI y))]) rfl ?_)
  refine J_aload_n dX1_setTimes_0 rfl rfl ?_
  refine J_get (v := .ref 59) dX1_setTimes_1 fl_X1_9 hk58 rfl ?_
  refine Z_bipush (n := 6) dX1_setTimes_4 (by decide +kernel) ?_
  refine J_iload_n dX1_setTimes_6 rfl rfl ?_
  refine Y_iast (v := x) 8 dX1_setTimes_7 hk59 rfl (by decide) v_54997b3cd8 v_a39c716f51 (fun f1 ef1 => ?_)
  have h2 : Rg f1 8 (-2147483648) 2147483647 := Rg.ups q2 ef1 (v_9c631c66d9 q0) (v_602fda786b q0)
  refine J_aload_n dX1_setTimes_8 rfl rfl ?_
  refine J_get (v := .ref 59) dX1_setTimes_9 fl_X1_9 hk58 rfl ?_
  refine Z_bipush (n := 7) dX1_setTimes_12 (by decide +kernel) ?_
  refine J_iload_n dX1_setTimes_14 rfl rfl ?_
  refine Y_iast (v := y) 8 dX1_setTimes_15 rfl rfl (by decide) v_9801f0d3f8 v_1f6d31d0c4 (fun f3 ef3 => ?_)
  have h4 : Rg f3 8 (-2147483648) 2147483647 := Rg.ups h2 ef3 (v_9c631c66d9 q1) (v_602fda786b q1)
  refine J_mask (L2 := [(59, .inl (0, 8, .inl (zA f3)))]) (ks := [59, 59]) [true, false] rfl (by decide +kernel) rfl ?_
  exact J_vret dX1_setTimes_16 rfl (Nat.le_of_ble_eq_true rfl) (Nat.le_of_ble_eq_true rfl) ⟨f3, rfl, rfl, h4⟩
set_option maxHeartbeats 4000000 in
set_option maxRecDepth 100000 in
theorem j_begin {l : Launch} {G : jG} {nh : Nat} {fh : Nat → Option va_E} (ht : Int) (br : Int) (hl : Int) (le : Int) (ba : Int) (tk : Int) (hk58 : fh 58 = some (.inr (1, [.ref 59, .ref 60, .int (zI ht), .int (zI br), .int (zI hl), .int (zI le), .int (zI ba), .int (zI tk)]))) : JM l G yX1_begin MX1_begin { frames := 0, cells := 0, slots := 0, locals := 0 } [.ref 58] (nh, fh) (fun rr h9 => rr = none ∧ h9 = (nh, hc fh [(58, .inr (1, [.ref 59, .ref 60, .int (zI 0), .int (zI 0), .int (zI 0), .int (zI 0), .int (zI 0), .int (zI 1)]))])) := by
  refine JM.of (by decide) rfl (fun h => by cases h) (Nat.le_of_ble_eq_true rfl) ⟨0, rfl⟩ ?_
  refine J_hc0 (J_ls (ls2 := [some (.ref 58)]) rfl ?_)
  refine J_aload_n dX1_begin_0 rfl rfl ?_
  refine Z_iconst (n := 0) dX1_begin_1 ?_
  refine K_put (fs2 := [.ref 59, .ref 60, .int (zI 0), .int (zI br), .int (zI hl), .int (zI le), .int (zI ba), .int (zI tk)]) dX1_begin_2 fw_X1_17 hk58 (Nat.le_of_ble_eq_true rfl) (fun _ => ⟨rfl, rfl⟩) rfl ?_
  refine J_aload_n dX1_begin_5 rfl rfl ?_
  refine Z_iconst (n := 0) dX1_begin_6 ?_
  refine K_put (fs2 := [.ref 59, .ref 60, .int (zI 0), .int (zI 0), .int (zI hl), .int (zI le), .int (zI ba), .int (zI tk)]) dX1_begin_7 fw_X1_21 rfl (Nat.le_of_ble_eq_true rfl) (jbz v_939070ca3f v_316afd7d0b) rfl ?_
  refine J_aload_n dX1_begin_10 rfl rfl ?_
  refine Z_iconst (n := 0) dX1_begin_11 ?_
  refine K_put (fs2 := [.ref 59, .ref 60, .int (zI 0), .int (zI 0), .int (zI 0), .int (zI le), .int (zI ba), .int (zI tk)]) dX1_begin_12 fw_X1_25 rfl (Nat.le_of_ble_eq_true rfl) (jbz v_939070ca3f v_316afd7d0b) rfl ?_
  refine J_aload_n dX1_begin_15 rfl rfl ?_
  refine Z_iconst (n := 0) dX1_begin_16 ?_
  refine K_put (fs2 := [.ref 59, .ref 60, .int (zI 0), .int (zI 0), .int (zI 0), .int (zI 0), .int (zI ba), .int (zI tk)]) dX1_begin_17 fw_X1_28 rfl (Nat.le_of_ble_eq_true rfl) (jbz v_939070ca3f v_316afd7d0b) rfl ?_
  refine J_aload_n dX1_begin_20 rfl rfl ?_
  refine Z_iconst (n := 0) dX1_begin_21 ?_
  refine K_put (fs2 := [.ref 59, .ref 60, .int (zI 0), .int (zI 0), .int (zI 0), .int (zI 0), .int (zI 0), .int (zI tk)]) dX1_begin_22 fw_X1_31 rfl (Nat.le_of_ble_eq_true rfl) (jbz v_939070ca3f v_316afd7d0b) rfl ?_
  refine J_aload_n dX1_begin_25 rfl rfl ?_
  refine Z_iconst (n := 1) dX1_begin_26 ?_
  refine K_put (fs2 := [.ref 59, .ref 60, .int (zI 0), .int (zI 0), .int (zI 0), .int (zI 0), .int (zI 0), .int (zI 1)]) dX1_begin_27 fw_X1_34 rfl (Nat.le_of_ble_eq_true rfl) (fun _ => ⟨rfl, rfl⟩) rfl ?_
  refine J_mask (L2 := [(58, .inr (1, [.ref 59, .ref 60, .int (zI 0), .int (zI 0), .int (zI 0), .int (zI 0), .int (zI 0), .int (zI 1)]))]) (ks := [58, 58, 58, 58, 58, 58]) [true, false, false, false, false, false] rfl (by decide +kernel) rfl ?_
  exact J_vret dX1_begin_30 rfl (Nat.le_of_ble_eq_true rfl) (Nat.le_of_ble_eq_true rfl) ⟨rfl, rfl⟩
set_option maxHeartbeats 4000000 in
set_option maxRecDepth 100000 in
theorem j_top {l : Launch} {G : jG} {nh : Nat} {fh : Nat → Option va_E} (ht : Int) (br : Int) (hl : Int) (le : Int) (ba : Int) (tk : Int) (kf : Int → Int) (q0 : 0 ≤ ht) (q1 : ht ≤ 64) (q2 : 0 ≤ br) (q3 : br ≤ 1) (q4 : 0 ≤ hl) (q5 : hl ≤ 1) (q6 : 0 ≤ le) (q7 : le ≤ 1) (q8 : 0 ≤ ba) (q9 : ba ≤ 1) (q10 : 1 ≤ tk) (q11 : tk ≤ 99) (hk58 : fh 58 = some (.inr (1, [.ref 59, .ref 60, .int (zI ht), .int (zI br), .int (zI hl), .int (zI le), .int (zI ba), .int (zI tk)]))) (hk60 : fh 60 = some (.inl (1, 64, .inr (.inl (zAL kf))))) : JM l G yX1_top MX1_top { frames := 0, cells := 0, slots := 0, locals := 0 } [.ref 58] (nh, fh) (fun rr h9 => ∃ r : Int, rr = some (.long (zL r)) ∧ h9 = (nh, fh) ∧ (zr64 r)) := by
  refine JM.of (by decide) rfl (fun h => by cases h) (Nat.le_of_ble_eq_true rfl) ⟨0, rfl⟩ ?_
  refine J_hc0 (J_ls (ls2 := [some (.ref 58)]) rfl ?_)
  refine J_aload_n dX1_top_0 rfl rfl ?_
  refine J_get (v := .int (zI ht)) dX1_top_1 fl_X1_17 hk58 rfl ?_
  refine Z_if_le (tgt := 21) dX1_top_4 (by decide) (v_dbf0c94dfa q0 q1) (fun h1 => ?_) (fun h1 => ?_)
  · refine J_lconst (v := zL 0) dX1_top_21 (by decide +kernel) ?_
    exact J_lret dX1_top_22 rfl (Nat.le_of_ble_eq_true rfl) (Nat.le_of_ble_eq_true rfl) ⟨0, rfl, rfl, v_648c9410ae⟩
  · refine J_aload_n dX1_top_7 rfl rfl ?_
    refine J_get (v := .ref 60) dX1_top_8 fl_X1_13 hk58 rfl ?_
    refine J_aload_n dX1_top_11 rfl rfl ?_
    refine J_get (v := .int (zI ht)) dX1_top_12 fl_X1_17 hk58 rfl ?_
    refine Z_iconst (n := 1) dX1_top_15 ?_
    refine Z_isub (c := ht - 1) dX1_top_16 rfl ?_
    obtain ⟨w2, w2r, w2e⟩ := zL_of (zL (kf (ht - 1)))
    refine Y_lald (z := w2) 64 dX1_top_17 hk60 rfl (by decide) (v_35349f94cd h1) (v_256b48430e q1) w2e ?_
    refine J_goto (tgt := 22) dX1_top_18 (by decide) ?_
    exact J_lret dX1_top_22 rfl (Nat.le_of_ble_eq_true rfl) (Nat.le_of_ble_eq_true rfl) ⟨w2, rfl, rfl, w2r⟩
set_option maxHeartbeats 4000000 in
set_option maxRecDepth 100000 in
theorem j_push {l : Launch} {G : jG} {nh : Nat} {fh : Nat → Option va_E} (x : Int) (ht : Int) (br : Int) (hl : Int) (le : Int) (ba : Int) (tk : Int) (kf : Int → Int) (q0 : zr64 x) (q1 : 0 ≤ ht) (q2 : ht ≤ 64) (q3 : 0 ≤ br) (q4 : br ≤ 1) (q5 : 0 ≤ hl) (q6 : hl ≤ 1) (q7 : 0 ≤ le) (q8 : le ≤ 1) (q9 : 0 ≤ ba) (q10 : ba ≤ 1) (q11 : 1 ≤ tk) (q12 : tk ≤ 99) (hk58 : fh 58 = some (.inr (1, [.ref 59, .ref 60, .int (zI ht), .int (zI br), .int (zI hl), .int (zI le), .int (zI ba), .int (zI tk)]))) (hk60 : fh 60 = some (.inl (1, 64, .inr (.inl (zAL kf))))) : JM l G yX1_push MX1_push { frames := 0, cells := 0, slots := 0, locals := 0 } [.ref 58, .long (zL x)] (nh, fh) (fun rr h9 => ∃ ht2 : Int, ∃ kg : Int → Int, rr = none ∧ h9 = (nh, hc fh [(58, .inr (1, [.ref 59, .ref 60, .int (zI ht2), .int (zI br), .int (zI hl), .int (zI le), .int (zI ba), .int (zI tk)])), (60, .inl (1, 64, .inr (.inl (zAL kg))))]) ∧ (0 ≤ ht2) ∧ (ht2 ≤ 64)) := by
  refine JM.of (by decide) rfl (fun h => by cases h) (Nat.le_of_ble_eq_true rfl) ⟨0, rfl⟩ ?_
  refine J_hc0 (J_ls (ls2 := [some (.ref 58), some (.long (zL x)), none]) rfl ?_)
  refine J_aload_n dX1_push_0 rfl rfl ?_
  refine J_get (v := .int (zI ht)) dX1_push_1 fl_X1_17 hk58 rfl ?_
  refine Z_bipush (n := 64) dX1_push_4 (by decide +kernel) ?_
  refine Z_icmp_ge (tgt := 29) dX1_push_6 (by decide) (v_dbf0c94dfa q1 q2) v_27b619c293 (fun h1 => ?_) (fun h1 => ?_)
  · refine J_touch (k := 60) (e := .inl (1, 64, .inr (.inl (zAL kf)))) hk60 ?_
    refine J_touch (k := 58) (e := .inr (1, [.ref 59, .ref 60, .int (zI ht), .int (zI br), .int (zI hl), .int (zI le), .int (zI ba), .int (zI tk)])) hk58 ?_
    exact J_vret dX1_push_29 rfl (Nat.le_of_ble_eq_true rfl) (Nat.le_of_ble_eq_true rfl) ⟨ht, kf, rfl, rfl, q1, q2⟩
  · refine J_aload_n dX1_push_9 rfl rfl ?_
    refine J_get (v := .ref 60) dX1_push_10 fl_X1_13 hk58 rfl ?_
    refine J_aload_n dX1_push_13 rfl rfl ?_
    refine J_get (v := .int (zI ht)) dX1_push_14 fl_X1_17 hk58 rfl ?_
    refine J_lload_n dX1_push_17 rfl rfl ?_
    refine Y_last (v := x) 64 dX1_push_18 hk60 rfl (by decide) (v_2b02420001 q1) (v_dd17145130 h1) (fun f2 ef2 => ?_)
    refine J_aload_n dX1_push_19 rfl rfl ?_
    refine J_dup dX1_push_20 rfl ?_
    refine J_get (v := .int (zI ht)) dX1_push_21 fl_X1_17 hk58 rfl ?_
    refine Z_iconst (n := 1) dX1_push_24 ?_
    refine Z_iadd (c := ht + 1) dX1_push_25 rfl ?_
    refine K_put (fs2 := [.ref 59, .ref 60, .int (zI (ht + 1)), .int (zI br), .int (zI hl), .int (zI le), .int (zI ba), .int (zI tk)]) dX1_push_26 fw_X1_17 hk58 (Nat.le_of_ble_eq_true rfl) (fun _ => ⟨rfl, rfl⟩) rfl ?_
    exact J_vret dX1_push_29 rfl (Nat.le_of_ble_eq_true rfl) (Nat.le_of_ble_eq_true rfl) ⟨(ht + 1), f2, rfl, rfl, (v_da458fa48a q1), (v_686e488407 h1)⟩
set_option maxHeartbeats 4000000 in
set_option maxRecDepth 100000 in
theorem j_pop {l : Launch} {G : jG} {nh : Nat} {fh : Nat → Option va_E} (ht : Int) (br : Int) (hl : Int) (le : Int) (ba : Int) (tk : Int) (kf : Int → Int) (q0 : 0 ≤ ht) (q1 : ht ≤ 64) (q2 : 0 ≤ br) (q3 : br ≤ 1) (q4 : 0 ≤ hl) (q5 : hl ≤ 1) (q6 : 0 ≤ le) (q7 : le ≤ 1) (q8 : 0 ≤ ba) (q9 : ba ≤ 1) (q10 : 1 ≤ tk) (q11 : tk ≤ 99) (hk58 : fh 58 = some (.inr (1, [.ref 59, .ref 60, .int (zI ht), .int (zI br), .int (zI hl), .int (zI le), .int (zI ba), .int (zI tk)]))) (hk60 : fh 60 = some (.inl (1, 64, .inr (.inl (zAL kf))))) : JM l G yX1_pop MX1_pop { frames := 0, cells := 0, slots := 0, locals := 0 } [.ref 58] (nh, fh) (fun rr h9 => ∃ r : Int, ∃ ht2 : Int, rr = some (.long (zL r)) ∧ h9 = (nh, hc fh [(58, .inr (1, [.ref 59, .ref 60, .int (zI ht2), .int (zI br), .int (zI hl), .int (zI le), .int (zI ba), .int (zI tk)]))]) ∧ (zr64 r) ∧ (0 ≤ ht2) ∧ (ht2 ≤ 64)) := by
  refine JM.of (by decide) rfl (fun h => by cases h) (Nat.le_of_ble_eq_true rfl) ⟨0, rfl⟩ ?_
  refine J_hc0 (J_ls (ls2 := [some (.ref 58)]) rfl ?_)
  refine J_aload_n dX1_pop_0 rfl rfl ?_
  refine J_get (v := .int (zI ht)) dX1_pop_1 fl_X1_17 hk58 rfl ?_
  refine Z_if_gt (tgt := 9) dX1_pop_4 (by decide) (v_dbf0c94dfa q0 q1) (fun h1 => ?_) (fun h1 => ?_)
  · refine J_aload_n dX1_pop_9 rfl rfl ?_
    refine J_dup dX1_pop_10 rfl ?_
    refine J_get (v := .int (zI ht)) dX1_pop_11 fl_X1_17 hk58 rfl ?_
    refine Z_iconst (n := 1) dX1_pop_14 ?_
    refine Z_isub (c := ht - 1) dX1_pop_15 rfl ?_
    refine K_put (fs2 := [.ref 59, .ref 60, .int (zI (ht - 1)), .int (zI br), .int (zI hl), .int (zI le), .int (zI ba), .int (zI tk)]) dX1_pop_16 fw_X1_17 hk58 (Nat.le_of_ble_eq_true rfl) (fun _ => ⟨rfl, rfl⟩) rfl ?_
    refine J_aload_n dX1_pop_19 rfl rfl ?_
    refine J_get (v := .ref 60) dX1_pop_20 fl_X1_13 rfl rfl ?_
    refine J_aload_n dX1_pop_23 rfl rfl ?_
    refine J_get (v := .int (zI (ht - 1))) dX1_pop_24 fl_X1_17 rfl rfl ?_
    obtain ⟨w2, w2r, w2e⟩ := zL_of (zL (kf (ht - 1)))
    refine Y_lald (z := w2) 64 dX1_pop_27 hk60 rfl (by decide) (v_7a2f8f4445 h1) (v_256b48430e q1) w2e ?_
    exact J_lret dX1_pop_28 rfl (Nat.le_of_ble_eq_true rfl) (Nat.le_of_ble_eq_true rfl) ⟨w2, (ht - 1), rfl, rfl, w2r, (v_05d2fe76bc h1), (v_053d5b1993 q1)⟩
  · refine J_lconst (v := zL 0) dX1_pop_7 (by decide +kernel) ?_
    refine J_touch (k := 58) (e := .inr (1, [.ref 59, .ref 60, .int (zI ht), .int (zI br), .int (zI hl), .int (zI le), .int (zI ba), .int (zI tk)])) hk58 ?_
    exact J_lret dX1_pop_8 rfl (Nat.le_of_ble_eq_true rfl) (Nat.le_of_ble_eq_true rfl) ⟨0, ht, rfl, rfl, v_648c9410ae, q0, q1⟩
set_option maxHeartbeats 4000000 in
set_option maxRecDepth 100000 in
theorem j_bounded {l : Launch} {G : jG} {nh : Nat} {fh : Nat → Option va_E} (x : Int) (ht : Int) (br : Int) (hl : Int) (le : Int) (ba : Int) (tk : Int) (q0 : zr64 x) (q1 : 0 ≤ ht) (q2 : ht ≤ 64) (q3 : 0 ≤ br) (q4 : br ≤ 1) (q5 : 0 ≤ hl) (q6 : hl ≤ 1) (q7 : 0 ≤ le) (q8 : le ≤ 1) (q9 : 0 ≤ ba) (q10 : ba ≤ 1) (q11 : 1 ≤ tk) (q12 : tk ≤ 99) (hk58 : fh 58 = some (.inr (1, [.ref 59, .ref 60, .int (zI ht), .int (zI br), .int (zI hl), .int (zI le), .int (zI ba), .int (zI tk)]))) : JM l G yX1_bounded MX1_bounded { frames := 0, cells := 0, slots := 0, locals := 0 } [.ref 58, .long (zL x)] (nh, fh) (fun rr h9 => ∃ r : Int, ∃ br2 : Int, rr = some (.long (zL r)) ∧ h9 = (nh, hc fh [(58, .inr (1, [.ref 59, .ref 60, .int (zI ht), .int (zI br2), .int (zI hl), .int (zI le), .int (zI ba), .int (zI tk)]))]) ∧ (zr64 r) ∧ (0 ≤ br2) ∧ (br2 ≤ 1)) := by
  refine JM.of (by decide) rfl (fun h => by cases h) (Nat.le_of_ble_eq_true rfl) ⟨0, rfl⟩ ?_
  refine J_hc0 (J_ls (ls2 := [some (.ref 58), some (.long (zL x)), none]) rfl ?_)
  refine J_aload_n dX1_bounded_0 rfl rfl ?_
  refine J_aload_n dX1_bounded_1 rfl rfl ?_
  refine J_get (v := .int (zI br)) dX1_bounded_2 fl_X1_21 hk58 rfl ?_
  refine Z_if_ne (tgt := 24) dX1_bounded_5 (by decide) (v_5f10a759cd q3 q4) (fun h1 => ?_) (fun h1 => ?_)
  · refine Z_iconst (n := 1) dX1_bounded_24 ?_
    refine J_goto (tgt := 29) dX1_bounded_25 (by decide) ?_
    refine K_put (fs2 := [.ref 59, .ref 60, .int (zI ht), .int (zI 1), .int (zI hl), .int (zI le), .int (zI ba), .int (zI tk)]) dX1_bounded_29 fw_X1_21 hk58 (Nat.le_of_ble_eq_true rfl) (jbz v_316afd7d0b v_bbcfac9b7d) rfl ?_
    refine J_aload_n dX1_bounded_32 rfl rfl ?_
    refine J_get (v := .int (zI 1)) dX1_bounded_33 fl_X1_21 rfl rfl ?_
    refine Z_if_eq (tgt := 43) dX1_bounded_36 (by decide) v_4dcc24baa7 (fun h2 => absurd h2 v_3a47bfd896) (fun h2 => ?_)
    refine J_lconst (v := zL 0) dX1_bounded_39 (by decide +kernel) ?_
    refine J_goto (tgt := 44) dX1_bounded_40 (by decide) ?_
    exact J_lret dX1_bounded_44 rfl (Nat.le_of_ble_eq_true rfl) (Nat.le_of_ble_eq_true rfl) ⟨0, 1, rfl, rfl, v_648c9410ae, v_316afd7d0b, v_bbcfac9b7d⟩
  · refine J_lload_n dX1_bounded_8 rfl rfl ?_
    refine J_ldc2 (v := zL 1000000000) dX1_bounded_9 (jt4 166 rfl rfl) ?_
    refine Y_lcmp dX1_bounded_12 (v_082ba2fd17 q0) v_288b67a6a5 (fun z3 z3a z3b z3c z3d => ?_)
    refine Z_if_gt (tgt := 24) dX1_bounded_13 (by decide) (v_51ccf7ebfa z3a z3b) (fun h4 => ?_) (fun h4 => ?_)
    · have h5 : 1000000000 < x := by omega
      refine Z_iconst (n := 1) dX1_bounded_24 ?_
      refine J_goto (tgt := 29) dX1_bounded_25 (by decide) ?_
      refine K_put (fs2 := [.ref 59, .ref 60, .int (zI ht), .int (zI 1), .int (zI hl), .int (zI le), .int (zI ba), .int (zI tk)]) dX1_bounded_29 fw_X1_21 hk58 (Nat.le_of_ble_eq_true rfl) (jbz v_316afd7d0b v_bbcfac9b7d) rfl ?_
      refine J_aload_n dX1_bounded_32 rfl rfl ?_
      refine J_get (v := .int (zI 1)) dX1_bounded_33 fl_X1_21 rfl rfl ?_
      refine Z_if_eq (tgt := 43) dX1_bounded_36 (by decide) v_4dcc24baa7 (fun h6 => absurd h6 v_3a47bfd896) (fun h6 => ?_)
      refine J_lconst (v := zL 0) dX1_bounded_39 (by decide +kernel) ?_
      refine J_goto (tgt := 44) dX1_bounded_40 (by decide) ?_
      exact J_lret dX1_bounded_44 rfl (Nat.le_of_ble_eq_true rfl) (Nat.le_of_ble_eq_true rfl) ⟨0, 1, rfl, rfl, v_648c9410ae, v_316afd7d0b, v_bbcfac9b7d⟩
    · have h7 : x ≤ 1000000000 := by omega
      refine J_lload_n dX1_bounded_16 rfl rfl ?_
      refine J_ldc2 (v := zL (-1000000000)) dX1_bounded_17 (jt4 167 rfl rfl) ?_
      refine Y_lcmp dX1_bounded_20 (v_ebc4f1cff2 q0 h7) v_db2388b587 (fun z8 z8a z8b z8c z8d => ?_)
      refine Z_if_ge (tgt := 28) dX1_bounded_21 (by decide) (v_51ccf7ebfa z8a z8b) (fun h9 => ?_) (fun h9 => ?_)
      · have h10 : -1000000000 ≤ x := by omega
        refine Z_iconst (n := 0) dX1_bounded_28 ?_
        refine K_put (fs2 := [.ref 59, .ref 60, .int (zI ht), .int (zI 0), .int (zI hl), .int (zI le), .int (zI ba), .int (zI tk)]) dX1_bounded_29 fw_X1_21 hk58 (Nat.le_of_ble_eq_true rfl) (jbz v_939070ca3f v_316afd7d0b) rfl ?_
        refine J_aload_n dX1_bounded_32 rfl rfl ?_
        refine J_get (v := .int (zI 0)) dX1_bounded_33 fl_X1_21 rfl rfl ?_
        refine Z_if_eq (tgt := 43) dX1_bounded_36 (by decide) v_b17331891f (fun h11 => ?_) (fun h11 => absurd h11 (fun q => q v_2ca2bbca1f))
        refine J_lload_n dX1_bounded_43 rfl rfl ?_
        exact J_lret dX1_bounded_44 rfl (Nat.le_of_ble_eq_true rfl) (Nat.le_of_ble_eq_true rfl) ⟨x, 0, rfl, rfl, q0, v_939070ca3f, v_316afd7d0b⟩
      · have h12 : x < -1000000000 := by omega
        refine Z_iconst (n := 1) dX1_bounded_24 ?_
        refine J_goto (tgt := 29) dX1_bounded_25 (by decide) ?_
        refine K_put (fs2 := [.ref 59, .ref 60, .int (zI ht), .int (zI 1), .int (zI hl), .int (zI le), .int (zI ba), .int (zI tk)]) dX1_bounded_29 fw_X1_21 hk58 (Nat.le_of_ble_eq_true rfl) (jbz v_316afd7d0b v_bbcfac9b7d) rfl ?_
        refine J_aload_n dX1_bounded_32 rfl rfl ?_
        refine J_get (v := .int (zI 1)) dX1_bounded_33 fl_X1_21 rfl rfl ?_
        refine Z_if_eq (tgt := 43) dX1_bounded_36 (by decide) v_4dcc24baa7 (fun h13 => absurd h13 v_3a47bfd896) (fun h13 => ?_)
        refine J_lconst (v := zL 0) dX1_bounded_39 (by decide +kernel) ?_
        refine J_goto (tgt := 44) dX1_bounded_40 (by decide) ?_
        exact J_lret dX1_bounded_44 rfl (Nat.le_of_ble_eq_true rfl) (Nat.le_of_ble_eq_true rfl) ⟨0, 1, rfl, rfl, v_648c9410ae, v_316afd7d0b, v_bbcfac9b7d⟩
set_option maxHeartbeats 4000000 in
set_option maxRecDepth 100000 in
theorem j_joined {l : Launch} {G : jG} {nh : Nat} {fh : Nat → Option va_E} (k : Int) (x : Int) (y : Int) (ht : Int) (br : Int) (hl : Int) (le : Int) (ba : Int) (tk : Int) (q0 : zr k) (q1 : zr64 x) (q2 : zr64 y) (q3 : 0 ≤ ht) (q4 : ht ≤ 64) (q5 : 0 ≤ br) (q6 : br ≤ 1) (q7 : 0 ≤ hl) (q8 : hl ≤ 1) (q9 : 0 ≤ le) (q10 : le ≤ 1) (q11 : 0 ≤ ba) (q12 : ba ≤ 1) (q13 : 1 ≤ tk) (q14 : tk ≤ 99) (hk58 : fh 58 = some (.inr (1, [.ref 59, .ref 60, .int (zI ht), .int (zI br), .int (zI hl), .int (zI le), .int (zI ba), .int (zI tk)]))) : JM l G yX1_joined MX1_joined { frames := 1, cells := 0, slots := 0, locals := 22 } [.ref 58, .int (zI k), .long (zL x), .long (zL y)] (nh, fh) (fun rr h9 => ∃ r : Int, ∃ br2 : Int, rr = some (.long (zL r)) ∧ h9 = (nh, hc fh [(58, .inr (1, [.ref 59, .ref 60, .int (zI ht), .int (zI br2), .int (zI hl), .int (zI le), .int (zI ba), .int (zI tk)]))]) ∧ (zr64 r) ∧ (0 ≤ br2) ∧ (br2 ≤ 1)) := by
  refine JM.of (by decide) rfl (fun h => by cases h) (Nat.le_of_ble_eq_true rfl) ⟨0, rfl⟩ ?_
  refine J_hc0 (J_ls (ls2 := [some (.ref 58), some (.int (zI k)), some (.long (zL x)), none, some (.long (zL y)), none]) rfl ?_)
  refine J_iload_n dX1_joined_0 rfl rfl ?_
  by_cases h1 : k = 2
  · refine Z_tableIn (tgt := 40) (off := 39) 2 dX1_joined_1 (v_b25fa51a85 q0) (v_b7ed5c1d53 h1) (by decide) (by decide) (by decide) (by decide) ?_
    refine J_aload_n dX1_joined_40 rfl rfl ?_
    refine J_lload_n dX1_joined_41 rfl rfl ?_
    refine J_lload dX1_joined_42 rfl ?_
    refine Y_ladd (c := x + y) dX1_joined_44 rfl ?_
    refine Y_lany (fun w2 w2r => ?_)
    refine J_callV (st := []) dX1_joined_45 cv_X1_77 (j_bounded w2 ht br hl le ba tk w2r q3 q4 q5 q6 q7 q8 q9 q10 q11 q12 q13 q14 hk58) hk58 rfl rfl (Nat.le_of_ble_eq_true rfl) ⟨(Nat.le_of_ble_eq_true rfl), (Nat.le_of_ble_eq_true rfl)⟩ ⟨(Nat.le_of_ble_eq_true rfl), (Nat.le_of_ble_eq_true rfl)⟩ (fun r h9 hp => ?_)
    obtain ⟨z3, z4, rfl, rfl, h5, h6, h7⟩ := hp
    refine J_nf (nh2 := nh) (ck2 := 0) (sk2 := 0) (st2 := [.long (zL z3)]) rfl rfl rfl rfl ?_
    refine J_app (L3 := [(58, .inr (1, [.ref 59, .ref 60, .int (zI ht), .int (zI z4), .int (zI hl), .int (zI le), .int (zI ba), .int (zI tk)]))]) rfl ?_
    exact J_lret dX1_joined_48 rfl (Nat.le_of_ble_eq_true rfl) (Nat.le_of_ble_eq_true rfl) ⟨z3, z4, rfl, rfl, h5, h6, h7⟩
  by_cases h8 : k = 3
  · refine Z_tableIn (tgt := 49) (off := 48) 3 dX1_joined_1 (v_b25fa51a85 q0) (v_24d6576c2f h8) (by decide) (by decide) (by decide) (by decide) ?_
    refine J_aload_n dX1_joined_49 rfl rfl ?_
    refine J_lload_n dX1_joined_50 rfl rfl ?_
    refine J_lload dX1_joined_51 rfl ?_
    refine Y_lsub (c := x - y) dX1_joined_53 rfl ?_
    refine Y_lany (fun w9 w9r => ?_)
    refine J_callV (st := []) dX1_joined_54 cv_X1_77 (j_bounded w9 ht br hl le ba tk w9r q3 q4 q5 q6 q7 q8 q9 q10 q11 q12 q13 q14 hk58) hk58 rfl rfl (Nat.le_of_ble_eq_true rfl) ⟨(Nat.le_of_ble_eq_true rfl), (Nat.le_of_ble_eq_true rfl)⟩ ⟨(Nat.le_of_ble_eq_true rfl), (Nat.le_of_ble_eq_true rfl)⟩ (fun r h9 hp => ?_)
    obtain ⟨z10, z11, rfl, rfl, h12, h13, h14⟩ := hp
    refine J_nf (nh2 := nh) (ck2 := 0) (sk2 := 0) (st2 := [.long (zL z10)]) rfl rfl rfl rfl ?_
    refine J_app (L3 := [(58, .inr (1, [.ref 59, .ref 60, .int (zI ht), .int (zI z11), .int (zI hl), .int (zI le), .int (zI ba), .int (zI tk)]))]) rfl ?_
    exact J_lret dX1_joined_57 rfl (Nat.le_of_ble_eq_true rfl) (Nat.le_of_ble_eq_true rfl) ⟨z10, z11, rfl, rfl, h12, h13, h14⟩
  by_cases h15 : k = 4
  · refine Z_tableIn (tgt := 58) (off := 57) 4 dX1_joined_1 (v_b25fa51a85 q0) (v_e7bb9e21ac h15) (by decide) (by decide) (by decide) (by decide) ?_
    refine J_aload_n dX1_joined_58 rfl rfl ?_
    refine J_lload_n dX1_joined_59 rfl rfl ?_
    refine J_lload dX1_joined_60 rfl ?_
    obtain ⟨z16, ez16⟩ : ∃ z : Int, x * y = z := ⟨_, rfl⟩
    refine Y_lmul (c := z16) dX1_joined_62 ez16 ?_
    refine Y_lany (fun w17 w17r => ?_)
    refine J_callV (st := []) dX1_joined_63 cv_X1_77 (j_bounded w17 ht br hl le ba tk w17r q3 q4 q5 q6 q7 q8 q9 q10 q11 q12 q13 q14 hk58) hk58 rfl rfl (Nat.le_of_ble_eq_true rfl) ⟨(Nat.le_of_ble_eq_true rfl), (Nat.le_of_ble_eq_true rfl)⟩ ⟨(Nat.le_of_ble_eq_true rfl), (Nat.le_of_ble_eq_true rfl)⟩ (fun r h9 hp => ?_)
    obtain ⟨z18, z19, rfl, rfl, h20, h21, h22⟩ := hp
    refine J_nf (nh2 := nh) (ck2 := 0) (sk2 := 0) (st2 := [.long (zL z18)]) rfl rfl rfl rfl ?_
    refine J_app (L3 := [(58, .inr (1, [.ref 59, .ref 60, .int (zI ht), .int (zI z19), .int (zI hl), .int (zI le), .int (zI ba), .int (zI tk)]))]) rfl ?_
    exact J_lret dX1_joined_66 rfl (Nat.le_of_ble_eq_true rfl) (Nat.le_of_ble_eq_true rfl) ⟨z18, z19, rfl, rfl, h20, h21, h22⟩
  by_cases h23 : k = 5
  · refine Z_tableIn (tgt := 67) (off := 66) 5 dX1_joined_1 (v_b25fa51a85 q0) (v_666cdbe95c h23) (by decide) (by decide) (by decide) (by decide) ?_
    refine J_aload_n dX1_joined_67 rfl rfl ?_
    refine J_aload_n dX1_joined_68 rfl rfl ?_
    refine J_get (v := .int (zI br)) dX1_joined_69 fl_X1_21 hk58 rfl ?_
    refine Z_if_ne (tgt := 82) dX1_joined_72 (by decide) (v_5f10a759cd q5 q6) (fun h24 => ?_) (fun h24 => ?_)
    · refine Z_iconst (n := 1) dX1_joined_82 ?_
      refine J_goto (tgt := 87) dX1_joined_83 (by decide) ?_
      refine K_put (fs2 := [.ref 59, .ref 60, .int (zI ht), .int (zI 1), .int (zI hl), .int (zI le), .int (zI ba), .int (zI tk)]) dX1_joined_87 fw_X1_21 hk58 (Nat.le_of_ble_eq_true rfl) (jbz v_316afd7d0b v_bbcfac9b7d) rfl ?_
      refine J_lload dX1_joined_90 rfl ?_
      refine J_lconst (v := zL 0) dX1_joined_92 (by decide +kernel) ?_
      refine Y_lcmp dX1_joined_93 (v_082ba2fd17 q2) v_648c9410ae (fun z25 z25a z25b z25c z25d => ?_)
      refine Z_if_ne (tgt := 101) dX1_joined_94 (by decide) (v_51ccf7ebfa z25a z25b) (fun h26 => ?_) (fun h26 => ?_)
      · have h27 : ¬ y = 0 := by omega
        refine J_lload_n dX1_joined_101 rfl rfl ?_
        refine J_lload dX1_joined_102 rfl ?_
        refine Y_ldivany dX1_joined_104 (v_082ba2fd17 q2) (v_7502709ab7 h27) (fun w28 w28r => ?_)
        exact J_lret dX1_joined_105 rfl (Nat.le_of_ble_eq_true rfl) (Nat.le_of_ble_eq_true rfl) ⟨w28, 1, rfl, rfl, w28r, v_316afd7d0b, v_bbcfac9b7d⟩
      · have h29 : y = 0 := by omega
        refine J_lconst (v := zL 0) dX1_joined_97 (by decide +kernel) ?_
        refine J_goto (tgt := 105) dX1_joined_98 (by decide) ?_
        exact J_lret dX1_joined_105 rfl (Nat.le_of_ble_eq_true rfl) (Nat.le_of_ble_eq_true rfl) ⟨0, 1, rfl, rfl, v_648c9410ae, v_316afd7d0b, v_bbcfac9b7d⟩
    · refine J_lload dX1_joined_75 rfl ?_
      refine J_lconst (v := zL 0) dX1_joined_77 (by decide +kernel) ?_
      refine Y_lcmp dX1_joined_78 (v_082ba2fd17 q2) v_648c9410ae (fun z30 z30a z30b z30c z30d => ?_)
      refine Z_if_ne (tgt := 86) dX1_joined_79 (by decide) (v_51ccf7ebfa z30a z30b) (fun h31 => ?_) (fun h31 => ?_)
      · have h32 : ¬ y = 0 := by omega
        refine Z_iconst (n := 0) dX1_joined_86 ?_
        refine K_put (fs2 := [.ref 59, .ref 60, .int (zI ht), .int (zI 0), .int (zI hl), .int (zI le), .int (zI ba), .int (zI tk)]) dX1_joined_87 fw_X1_21 hk58 (Nat.le_of_ble_eq_true rfl) (jbz v_939070ca3f v_316afd7d0b) rfl ?_
        refine J_lload dX1_joined_90 rfl ?_
        refine J_lconst (v := zL 0) dX1_joined_92 (by decide +kernel) ?_
        refine Y_lcmp dX1_joined_93 (v_082ba2fd17 q2) v_648c9410ae (fun z33 z33a z33b z33c z33d => ?_)
        refine Z_if_ne (tgt := 101) dX1_joined_94 (by decide) (v_51ccf7ebfa z33a z33b) (fun h34 => ?_) (fun h34 => ?_)
        · have h35 : ¬ y = 0 := by omega
          refine J_lload_n dX1_joined_101 rfl rfl ?_
          refine J_lload dX1_joined_102 rfl ?_
          refine Y_ldivany dX1_joined_104 (v_082ba2fd17 q2) (v_7502709ab7 h32) (fun w36 w36r => ?_)
          exact J_lret dX1_joined_105 rfl (Nat.le_of_ble_eq_true rfl) (Nat.le_of_ble_eq_true rfl) ⟨w36, 0, rfl, rfl, w36r, v_939070ca3f, v_316afd7d0b⟩
        · have h37 : y = 0 := by omega
          refine J_lconst (v := zL 0) dX1_joined_97 (by decide +kernel) ?_
          refine J_goto (tgt := 105) dX1_joined_98 (by decide) ?_
          exact J_lret dX1_joined_105 rfl (Nat.le_of_ble_eq_true rfl) (Nat.le_of_ble_eq_true rfl) ⟨0, 0, rfl, rfl, v_648c9410ae, v_939070ca3f, v_316afd7d0b⟩
      · have h38 : y = 0 := by omega
        refine Z_iconst (n := 1) dX1_joined_82 ?_
        refine J_goto (tgt := 87) dX1_joined_83 (by decide) ?_
        refine K_put (fs2 := [.ref 59, .ref 60, .int (zI ht), .int (zI 1), .int (zI hl), .int (zI le), .int (zI ba), .int (zI tk)]) dX1_joined_87 fw_X1_21 hk58 (Nat.le_of_ble_eq_true rfl) (jbz v_316afd7d0b v_bbcfac9b7d) rfl ?_
        refine J_lload dX1_joined_90 rfl ?_
        refine J_lconst (v := zL 0) dX1_joined_92 (by decide +kernel) ?_
        refine Y_lcmp dX1_joined_93 (v_6e127b7bcc h38) v_648c9410ae (fun z39 z39a z39b z39c z39d => ?_)
        refine Z_if_ne (tgt := 101) dX1_joined_94 (by decide) (v_51ccf7ebfa z39a z39b) (fun h40 => ?_) (fun h40 => ?_)
        · have h41 : ¬ y = 0 := by omega
          refine J_lload_n dX1_joined_101 rfl rfl ?_
          refine J_lload dX1_joined_102 rfl ?_
          refine Y_ldivany dX1_joined_104 (v_6e127b7bcc h38) (v_b29b8faf05 h38 h41) (fun w42 w42r => ?_)
          exact J_lret dX1_joined_105 rfl (Nat.le_of_ble_eq_true rfl) (Nat.le_of_ble_eq_true rfl) ⟨w42, 1, rfl, rfl, w42r, v_316afd7d0b, v_bbcfac9b7d⟩
        · have h43 : y = 0 := by omega
          refine J_lconst (v := zL 0) dX1_joined_97 (by decide +kernel) ?_
          refine J_goto (tgt := 105) dX1_joined_98 (by decide) ?_
          exact J_lret dX1_joined_105 rfl (Nat.le_of_ble_eq_true rfl) (Nat.le_of_ble_eq_true rfl) ⟨0, 1, rfl, rfl, v_648c9410ae, v_316afd7d0b, v_bbcfac9b7d⟩
  by_cases h44 : k = 6
  · refine Z_tableIn (tgt := 106) (off := 105) 6 dX1_joined_1 (v_b25fa51a85 q0) (v_2e044925d6 h44) (by decide) (by decide) (by decide) (by decide) ?_
    refine J_lload_n dX1_joined_106 rfl rfl ?_
    refine J_lload dX1_joined_107 rfl ?_
    refine Y_lcmp dX1_joined_109 (v_082ba2fd17 q1) (v_082ba2fd17 q2) (fun z45 z45a z45b z45c z45d => ?_)
    refine Z_if_ge (tgt := 117) dX1_joined_110 (by decide) (v_51ccf7ebfa z45a z45b) (fun h46 => ?_) (fun h46 => ?_)
    · have h47 : y ≤ x := by omega
      refine J_lconst (v := zL 0) dX1_joined_117 (by decide +kernel) ?_
      refine J_touch (k := 58) (e := .inr (1, [.ref 59, .ref 60, .int (zI ht), .int (zI br), .int (zI hl), .int (zI le), .int (zI ba), .int (zI tk)])) hk58 ?_
      exact J_lret dX1_joined_118 rfl (Nat.le_of_ble_eq_true rfl) (Nat.le_of_ble_eq_true rfl) ⟨0, br, rfl, rfl, v_648c9410ae, q5, q6⟩
    · have h48 : x < y := by omega
      refine J_lconst (v := zL 1) dX1_joined_113 (by decide +kernel) ?_
      refine J_goto (tgt := 118) dX1_joined_114 (by decide) ?_
      refine J_touch (k := 58) (e := .inr (1, [.ref 59, .ref 60, .int (zI ht), .int (zI br), .int (zI hl), .int (zI le), .int (zI ba), .int (zI tk)])) hk58 ?_
      exact J_lret dX1_joined_118 rfl (Nat.le_of_ble_eq_true rfl) (Nat.le_of_ble_eq_true rfl) ⟨1, br, rfl, rfl, v_c87c4d349e, q5, q6⟩
  by_cases h49 : k = 7
  · refine Z_tableIn (tgt := 119) (off := 118) 7 dX1_joined_1 (v_b25fa51a85 q0) (v_2f5adcf1cf h49) (by decide) (by decide) (by decide) (by decide) ?_
    refine J_lload_n dX1_joined_119 rfl rfl ?_
    refine J_lload dX1_joined_120 rfl ?_
    refine Y_lcmp dX1_joined_122 (v_082ba2fd17 q1) (v_082ba2fd17 q2) (fun z50 z50a z50b z50c z50d => ?_)
    refine Z_if_le (tgt := 130) dX1_joined_123 (by decide) (v_51ccf7ebfa z50a z50b) (fun h51 => ?_) (fun h51 => ?_)
    · have h52 : x ≤ y := by omega
      refine J_lconst (v := zL 0) dX1_joined_130 (by decide +kernel) ?_
      refine J_touch (k := 58) (e := .inr (1, [.ref 59, .ref 60, .int (zI ht), .int (zI br), .int (zI hl), .int (zI le), .int (zI ba), .int (zI tk)])) hk58 ?_
      exact J_lret dX1_joined_131 rfl (Nat.le_of_ble_eq_true rfl) (Nat.le_of_ble_eq_true rfl) ⟨0, br, rfl, rfl, v_648c9410ae, q5, q6⟩
    · have h53 : y < x := by omega
      refine J_lconst (v := zL 1) dX1_joined_126 (by decide +kernel) ?_
      refine J_goto (tgt := 131) dX1_joined_127 (by decide) ?_
      refine J_touch (k := 58) (e := .inr (1, [.ref 59, .ref 60, .int (zI ht), .int (zI br), .int (zI hl), .int (zI le), .int (zI ba), .int (zI tk)])) hk58 ?_
      exact J_lret dX1_joined_131 rfl (Nat.le_of_ble_eq_true rfl) (Nat.le_of_ble_eq_true rfl) ⟨1, br, rfl, rfl, v_c87c4d349e, q5, q6⟩
  refine Z_tableOut (tgt := 132) dX1_joined_1 (v_b25fa51a85 q0) (by omega) (by decide) ?_
  refine J_lload_n dX1_joined_132 rfl rfl ?_
  refine J_lload dX1_joined_133 rfl ?_
  refine Y_lcmp dX1_joined_135 (v_082ba2fd17 q1) (v_082ba2fd17 q2) (fun z54 z54a z54b z54c z54d => ?_)
  refine Z_if_ne (tgt := 143) dX1_joined_136 (by decide) (v_51ccf7ebfa z54a z54b) (fun h55 => ?_) (fun h55 => ?_)
  · have h56 : ¬ x = y := by omega
    refine J_lconst (v := zL 0) dX1_joined_143 (by decide +kernel) ?_
    refine J_touch (k := 58) (e := .inr (1, [.ref 59, .ref 60, .int (zI ht), .int (zI br), .int (zI hl), .int (zI le), .int (zI ba), .int (zI tk)])) hk58 ?_
    exact J_lret dX1_joined_144 rfl (Nat.le_of_ble_eq_true rfl) (Nat.le_of_ble_eq_true rfl) ⟨0, br, rfl, rfl, v_648c9410ae, q5, q6⟩
  · have h57 : x = y := by omega
    refine J_lconst (v := zL 1) dX1_joined_139 (by decide +kernel) ?_
    refine J_goto (tgt := 144) dX1_joined_140 (by decide) ?_
    refine J_touch (k := 58) (e := .inr (1, [.ref 59, .ref 60, .int (zI ht), .int (zI br), .int (zI hl), .int (zI le), .int (zI ba), .int (zI tk)])) hk58 ?_
    exact J_lret dX1_joined_144 rfl (Nat.le_of_ble_eq_true rfl) (Nat.le_of_ble_eq_true rfl) ⟨1, br, rfl, rfl, v_c87c4d349e, q5, q6⟩
set_option maxHeartbeats 4000000 in
set_option maxRecDepth 100000 in
theorem j_run {l : Launch} {G : jG} {nh : Nat} {fh : Nat → Option va_E} (k : Int) (x : Int) (ht : Int) (br : Int) (hl : Int) (le : Int) (ba : Int) (tk : Int) (kf : Int → Int) (wf : Int → Int) (q0 : zr k) (q1 : zr x) (q2 : Rg wf 8 (-2147483648) 2147483647) (q3 : 0 ≤ ht) (q4 : ht ≤ 64) (q5 : 0 ≤ br) (q6 : br ≤ 1) (q7 : 0 ≤ hl) (q8 : hl ≤ 1) (q9 : 0 ≤ le) (q10 : le ≤ 1) (q11 : 0 ≤ ba) (q12 : ba ≤ 1) (q13 : 1 ≤ tk) (q14 : tk ≤ 99) (hk58 : fh 58 = some (.inr (1, [.ref 59, .ref 60, .int (zI ht), .int (zI br), .int (zI hl), .int (zI le), .int (zI ba), .int (zI tk)]))) (hk60 : fh 60 = some (.inl (1, 64, .inr (.inl (zAL kf))))) (hk59 : fh 59 = some (.inl (0, 8, .inl (zA wf)))) : JM l G yX1_run MX1_run { frames := 2, cells := 0, slots := 0, locals := 47 } [.ref 58, .int (zI k), .int (zI x)] (nh, fh) (fun rr h9 => ∃ ht2 : Int, ∃ br2 : Int, ∃ kg : Int → Int, rr = none ∧ h9 = (nh, hc fh [(58, .inr (1, [.ref 59, .ref 60, .int (zI ht2), .int (zI br2), .int (zI hl), .int (zI le), .int (zI ba), .int (zI tk)])), (60, .inl (1, 64, .inr (.inl (zAL kg))))]) ∧ (0 ≤ ht2) ∧ (ht2 ≤ 64) ∧ (0 ≤ br2) ∧ (br2 ≤ 1)) := by
  refine JM.of (by decide) rfl (fun h => by cases h) (Nat.le_of_ble_eq_true rfl) ⟨2, rfl⟩ ?_
  refine J_hc0 (J_ls (ls2 := [some (.ref 58), some (.int (zI k)), some (.int (zI x)), none, none]) rfl ?_)
  refine J_iload_n dX1_run_0 rfl rfl ?_
  refine Z_if_ne (tgt := 13) dX1_run_1 (by decide) (v_b25fa51a85 q0) (fun h1 => ?_) (fun h1 => ?_)
  · refine J_iload_n dX1_run_13 rfl rfl ?_
    refine Z_iconst (n := 1) dX1_run_14 ?_
    refine Z_icmp_ne (tgt := 46) dX1_run_15 (by decide) (v_b25fa51a85 q0) v_4dcc24baa7 (fun h2 => ?_) (fun h2 => ?_)
    · refine J_iload_n dX1_run_46 rfl rfl ?_
      refine Z_bipush (n := 9) dX1_run_47 (by decide +kernel) ?_
      refine Z_icmp_ne (tgt := 73) dX1_run_49 (by decide) (v_b25fa51a85 q0) v_00f9f00cc1 (fun h3 => ?_) (fun h3 => ?_)
      · refine J_aload_n dX1_run_73 rfl rfl ?_
        refine J_callV (st := []) dX1_run_74 cv_X1_70 (j_pop ht br hl le ba tk kf q3 q4 q5 q6 q7 q8 q9 q10 q11 q12 q13 q14 hk58 hk60) hk58 rfl rfl (Nat.le_of_ble_eq_true rfl) ⟨(Nat.le_of_ble_eq_true rfl), (Nat.le_of_ble_eq_true rfl)⟩ ⟨(Nat.le_of_ble_eq_true rfl), (Nat.le_of_ble_eq_true rfl)⟩ (fun r h9 hp => ?_)
        obtain ⟨z4, z5, rfl, rfl, h6, h7, h8⟩ := hp
        refine J_nf (nh2 := nh) (ck2 := 0) (sk2 := 0) (st2 := [.long (zL z4)]) rfl rfl rfl rfl ?_
        refine J_app (L3 := [(58, .inr (1, [.ref 59, .ref 60, .int (zI z5), .int (zI br), .int (zI hl), .int (zI le), .int (zI ba), .int (zI tk)]))]) rfl ?_
        refine J_lstore_n dX1_run_77 rfl (Nat.le_of_ble_eq_true rfl) rfl ?_
        refine J_ls (ls2 := [some (.ref 58), some (.int (zI k)), some (.int (zI x)), some (.long (zL z4)), none]) rfl ?_
        refine J_aload_n dX1_run_78 rfl rfl ?_
        refine J_aload_n dX1_run_79 rfl rfl ?_
        refine J_iload_n dX1_run_80 rfl rfl ?_
        refine J_aload_n dX1_run_81 rfl rfl ?_
        refine J_callV (st := [.int (zI k), .ref 58, .ref 58]) dX1_run_82 cv_X1_70 (j_pop z5 br hl le ba tk kf h7 h8 q5 q6 q7 q8 q9 q10 q11 q12 q13 q14 rfl hk60) rfl rfl rfl (Nat.le_of_ble_eq_true rfl) ⟨(Nat.le_of_ble_eq_true rfl), (Nat.le_of_ble_eq_true rfl)⟩ ⟨(Nat.le_of_ble_eq_true rfl), (Nat.le_of_ble_eq_true rfl)⟩ (fun r h9 hp => ?_)
        obtain ⟨z9, z10, rfl, rfl, h11, h12, h13⟩ := hp
        refine J_nf (nh2 := nh) (ck2 := 0) (sk2 := 0) (st2 := [.long (zL z9), .int (zI k), .ref 58, .ref 58]) rfl rfl rfl rfl ?_
        refine J_app (L3 := [(58, .inr (1, [.ref 59, .ref 60, .int (zI z10), .int (zI br), .int (zI hl), .int (zI le), .int (zI ba), .int (zI tk)])), (58, .inr (1, [.ref 59, .ref 60, .int (zI z5), .int (zI br), .int (zI hl), .int (zI le), .int (zI ba), .int (zI tk)]))]) rfl ?_
        refine J_mask (L2 := [(58, .inr (1, [.ref 59, .ref 60, .int (zI z10), .int (zI br), .int (zI hl), .int (zI le), .int (zI ba), .int (zI tk)]))]) (ks := [58, 58]) [true, false] rfl (by decide +kernel) rfl ?_
        refine J_lload_n dX1_run_85 rfl rfl ?_
        refine J_callV (st := [.ref 58]) dX1_run_86 cv_X1_73 (j_joined k z9 z4 z10 br hl le ba tk q0 h11 h6 h12 h13 q5 q6 q7 q8 q9 q10 q11 q12 q13 q14 rfl) rfl rfl rfl (Nat.le_of_ble_eq_true rfl) ⟨(Nat.le_of_ble_eq_true rfl), (Nat.le_of_ble_eq_true rfl)⟩ ⟨(Nat.le_of_ble_eq_true rfl), (Nat.le_of_ble_eq_true rfl)⟩ (fun r h9 hp => ?_)
        obtain ⟨z14, z15, rfl, rfl, h16, h17, h18⟩ := hp
        refine J_nf (nh2 := nh) (ck2 := 0) (sk2 := 0) (st2 := [.long (zL z14), .ref 58]) rfl rfl rfl rfl ?_
        refine J_app (L3 := [(58, .inr (1, [.ref 59, .ref 60, .int (zI z10), .int (zI z15), .int (zI hl), .int (zI le), .int (zI ba), .int (zI tk)])), (58, .inr (1, [.ref 59, .ref 60, .int (zI z10), .int (zI br), .int (zI hl), .int (zI le), .int (zI ba), .int (zI tk)]))]) rfl ?_
        refine J_mask (L2 := [(58, .inr (1, [.ref 59, .ref 60, .int (zI z10), .int (zI z15), .int (zI hl), .int (zI le), .int (zI ba), .int (zI tk)]))]) (ks := [58, 58]) [true, false] rfl (by decide +kernel) rfl ?_
        refine J_callV (st := []) dX1_run_89 cv_X1_66 (j_push z14 z10 z15 hl le ba tk kf h16 h12 h13 h17 h18 q7 q8 q9 q10 q11 q12 q13 q14 rfl hk60) rfl rfl rfl (Nat.le_of_ble_eq_true rfl) ⟨(Nat.le_of_ble_eq_true rfl), (Nat.le_of_ble_eq_true rfl)⟩ ⟨(Nat.le_of_ble_eq_true rfl), (Nat.le_of_ble_eq_true rfl)⟩ (fun r h9 hp => ?_)
        obtain ⟨z19, f20, rfl, rfl, h21, h22⟩ := hp
        refine J_nf (nh2 := nh) (ck2 := 0) (sk2 := 0) (st2 := []) rfl rfl rfl rfl ?_
        refine J_app (L3 := [(58, .inr (1, [.ref 59, .ref 60, .int (zI z19), .int (zI z15), .int (zI hl), .int (zI le), .int (zI ba), .int (zI tk)])), (60, .inl (1, 64, .inr (.inl (zAL f20)))), (58, .inr (1, [.ref 59, .ref 60, .int (zI z10), .int (zI z15), .int (zI hl), .int (zI le), .int (zI ba), .int (zI tk)]))]) rfl ?_
        refine J_mask (L2 := [(58, .inr (1, [.ref 59, .ref 60, .int (zI z19), .int (zI z15), .int (zI hl), .int (zI le), .int (zI ba), .int (zI tk)])), (60, .inl (1, 64, .inr (.inl (zAL f20))))]) (ks := [58, 60, 58]) [true, true, false] rfl (by decide +kernel) rfl ?_
        exact J_vret dX1_run_92 rfl (Nat.le_of_ble_eq_true rfl) (Nat.le_of_ble_eq_true rfl) ⟨z19, z15, f20, rfl, rfl, h21, h22, h17, h18⟩
      · refine J_aload_n dX1_run_52 rfl rfl ?_
        refine J_aload_n dX1_run_53 rfl rfl ?_
        refine J_callV (st := [.ref 58]) dX1_run_54 cv_X1_70 (j_pop ht br hl le ba tk kf q3 q4 q5 q6 q7 q8 q9 q10 q11 q12 q13 q14 hk58 hk60) hk58 rfl rfl (Nat.le_of_ble_eq_true rfl) ⟨(Nat.le_of_ble_eq_true rfl), (Nat.le_of_ble_eq_true rfl)⟩ ⟨(Nat.le_of_ble_eq_true rfl), (Nat.le_of_ble_eq_true rfl)⟩ (fun r h9 hp => ?_)
        obtain ⟨z23, z24, rfl, rfl, h25, h26, h27⟩ := hp
        refine J_nf (nh2 := nh) (ck2 := 0) (sk2 := 0) (st2 := [.long (zL z23), .ref 58]) rfl rfl rfl rfl ?_
        refine J_app (L3 := [(58, .inr (1, [.ref 59, .ref 60, .int (zI z24), .int (zI br), .int (zI hl), .int (zI le), .int (zI ba), .int (zI tk)]))]) rfl ?_
        refine J_lconst (v := zL 0) dX1_run_57 (by decide +kernel) ?_
        refine Y_lcmp dX1_run_58 (v_082ba2fd17 h25) v_648c9410ae (fun z28 z28a z28b z28c z28d => ?_)
        refine Z_if_ne (tgt := 66) dX1_run_59 (by decide) (v_51ccf7ebfa z28a z28b) (fun h29 => ?_) (fun h29 => ?_)
        · have h30 : ¬ z23 = 0 := by omega
          refine J_lconst (v := zL 0) dX1_run_66 (by decide +kernel) ?_
          refine J_callV (st := []) dX1_run_67 cv_X1_66 (j_push 0 z24 br hl le ba tk kf v_648c9410ae h26 h27 q5 q6 q7 q8 q9 q10 q11 q12 q13 q14 rfl hk60) rfl rfl rfl (Nat.le_of_ble_eq_true rfl) ⟨(Nat.le_of_ble_eq_true rfl), (Nat.le_of_ble_eq_true rfl)⟩ ⟨(Nat.le_of_ble_eq_true rfl), (Nat.le_of_ble_eq_true rfl)⟩ (fun r h9 hp => ?_)
          obtain ⟨z31, f32, rfl, rfl, h33, h34⟩ := hp
          refine J_nf (nh2 := nh) (ck2 := 0) (sk2 := 0) (st2 := []) rfl rfl rfl rfl ?_
          refine J_app (L3 := [(58, .inr (1, [.ref 59, .ref 60, .int (zI z31), .int (zI br), .int (zI hl), .int (zI le), .int (zI ba), .int (zI tk)])), (60, .inl (1, 64, .inr (.inl (zAL f32)))), (58, .inr (1, [.ref 59, .ref 60, .int (zI z24), .int (zI br), .int (zI hl), .int (zI le), .int (zI ba), .int (zI tk)]))]) rfl ?_
          refine J_mask (L2 := [(58, .inr (1, [.ref 59, .ref 60, .int (zI z31), .int (zI br), .int (zI hl), .int (zI le), .int (zI ba), .int (zI tk)])), (60, .inl (1, 64, .inr (.inl (zAL f32))))]) (ks := [58, 60, 58]) [true, true, false] rfl (by decide +kernel) rfl ?_
          refine J_goto (tgt := 92) dX1_run_70 (by decide) ?_
          exact J_vret dX1_run_92 rfl (Nat.le_of_ble_eq_true rfl) (Nat.le_of_ble_eq_true rfl) ⟨z31, br, f32, rfl, rfl, h33, h34, q5, q6⟩
        · have h35 : z23 = 0 := by omega
          refine J_lconst (v := zL 1) dX1_run_62 (by decide +kernel) ?_
          refine J_goto (tgt := 67) dX1_run_63 (by decide) ?_
          refine J_callV (st := []) dX1_run_67 cv_X1_66 (j_push 1 z24 br hl le ba tk kf v_c87c4d349e h26 h27 q5 q6 q7 q8 q9 q10 q11 q12 q13 q14 rfl hk60) rfl rfl rfl (Nat.le_of_ble_eq_true rfl) ⟨(Nat.le_of_ble_eq_true rfl), (Nat.le_of_ble_eq_true rfl)⟩ ⟨(Nat.le_of_ble_eq_true rfl), (Nat.le_of_ble_eq_true rfl)⟩ (fun r h9 hp => ?_)
          obtain ⟨z36, f37, rfl, rfl, h38, h39⟩ := hp
          refine J_nf (nh2 := nh) (ck2 := 0) (sk2 := 0) (st2 := []) rfl rfl rfl rfl ?_
          refine J_app (L3 := [(58, .inr (1, [.ref 59, .ref 60, .int (zI z36), .int (zI br), .int (zI hl), .int (zI le), .int (zI ba), .int (zI tk)])), (60, .inl (1, 64, .inr (.inl (zAL f37)))), (58, .inr (1, [.ref 59, .ref 60, .int (zI z24), .int (zI br), .int (zI hl), .int (zI le), .int (zI ba), .int (zI tk)]))]) rfl ?_
          refine J_mask (L2 := [(58, .inr (1, [.ref 59, .ref 60, .int (zI z36), .int (zI br), .int (zI hl), .int (zI le), .int (zI ba), .int (zI tk)])), (60, .inl (1, 64, .inr (.inl (zAL f37))))]) (ks := [58, 60, 58]) [true, true, false] rfl (by decide +kernel) rfl ?_
          refine J_goto (tgt := 92) dX1_run_70 (by decide) ?_
          exact J_vret dX1_run_92 rfl (Nat.le_of_ble_eq_true rfl) (Nat.le_of_ble_eq_true rfl) ⟨z36, br, f37, rfl, rfl, h38, h39, q5, q6⟩
    · refine J_aload_n dX1_run_18 rfl rfl ?_
      refine J_iload_n dX1_run_19 rfl rfl ?_
      refine Z_if_lt (tgt := 39) dX1_run_20 (by decide) (v_b25fa51a85 q1) (fun h40 => ?_) (fun h40 => ?_)
      · refine J_lconst (v := zL 0) dX1_run_39 (by decide +kernel) ?_
        refine J_callV (st := []) dX1_run_40 cv_X1_66 (j_push 0 ht br hl le ba tk kf v_648c9410ae q3 q4 q5 q6 q7 q8 q9 q10 q11 q12 q13 q14 hk58 hk60) hk58 rfl rfl (Nat.le_of_ble_eq_true rfl) ⟨(Nat.le_of_ble_eq_true rfl), (Nat.le_of_ble_eq_true rfl)⟩ ⟨(Nat.le_of_ble_eq_true rfl), (Nat.le_of_ble_eq_true rfl)⟩ (fun r h9 hp => ?_)
        obtain ⟨z41, f42, rfl, rfl, h43, h44⟩ := hp
        refine J_nf (nh2 := nh) (ck2 := 0) (sk2 := 0) (st2 := []) rfl rfl rfl rfl ?_
        refine J_app (L3 := [(58, .inr (1, [.ref 59, .ref 60, .int (zI z41), .int (zI br), .int (zI hl), .int (zI le), .int (zI ba), .int (zI tk)])), (60, .inl (1, 64, .inr (.inl (zAL f42))))]) rfl ?_
        refine J_goto (tgt := 92) dX1_run_43 (by decide) ?_
        exact J_vret dX1_run_92 rfl (Nat.le_of_ble_eq_true rfl) (Nat.le_of_ble_eq_true rfl) ⟨z41, br, f42, rfl, rfl, h43, h44, q5, q6⟩
      · refine J_iload_n dX1_run_23 rfl rfl ?_
        refine Z_bipush (n := 8) dX1_run_24 (by decide +kernel) ?_
        refine Z_icmp_ge (tgt := 39) dX1_run_26 (by decide) (v_edc92e96e6 q1 h40) v_665891e294 (fun h45 => ?_) (fun h45 => ?_)
        · refine J_lconst (v := zL 0) dX1_run_39 (by decide +kernel) ?_
          refine J_callV (st := []) dX1_run_40 cv_X1_66 (j_push 0 ht br hl le ba tk kf v_648c9410ae q3 q4 q5 q6 q7 q8 q9 q10 q11 q12 q13 q14 hk58 hk60) hk58 rfl rfl (Nat.le_of_ble_eq_true rfl) ⟨(Nat.le_of_ble_eq_true rfl), (Nat.le_of_ble_eq_true rfl)⟩ ⟨(Nat.le_of_ble_eq_true rfl), (Nat.le_of_ble_eq_true rfl)⟩ (fun r h9 hp => ?_)
          obtain ⟨z46, f47, rfl, rfl, h48, h49⟩ := hp
          refine J_nf (nh2 := nh) (ck2 := 0) (sk2 := 0) (st2 := []) rfl rfl rfl rfl ?_
          refine J_app (L3 := [(58, .inr (1, [.ref 59, .ref 60, .int (zI z46), .int (zI br), .int (zI hl), .int (zI le), .int (zI ba), .int (zI tk)])), (60, .inl (1, 64, .inr (.inl (zAL f47))))]) rfl ?_
          refine J_goto (tgt := 92) dX1_run_43 (by decide) ?_
          exact J_vret dX1_run_92 rfl (Nat.le_of_ble_eq_true rfl) (Nat.le_of_ble_eq_true rfl) ⟨z46, br, f47, rfl, rfl, h48, h49, q5, q6⟩
        · refine J_aload_n dX1_run_29 rfl rfl ?_
          refine J_get (v := .ref 59) dX1_run_30 fl_X1_9 hk58 rfl ?_
          refine J_iload_n dX1_run_33 rfl rfl ?_
          obtain ⟨z50, ez50⟩ : ∃ z : Int, wf x = z := ⟨_, rfl⟩
          have h51 := Rg.at q2 (v_b2d8922659 h40) (v_ac000772f3 h45) ez50
          refine Y_iald (z := z50) 8 dX1_run_34 hk59 rfl (by decide) (v_b2d8922659 h40) (v_ac000772f3 h45) ez50 ?_
          refine Y_i2l dX1_run_35 (v_f306e1cdb8 h51.1 h51.2) ?_
          refine J_goto (tgt := 40) dX1_run_36 (by decide) ?_
          refine J_callV (st := []) dX1_run_40 cv_X1_66 (j_push z50 ht br hl le ba tk kf (v_9288bc7257 h51.1 h51.2) q3 q4 q5 q6 q7 q8 q9 q10 q11 q12 q13 q14 hk58 hk60) hk58 rfl rfl (Nat.le_of_ble_eq_true rfl) ⟨(Nat.le_of_ble_eq_true rfl), (Nat.le_of_ble_eq_true rfl)⟩ ⟨(Nat.le_of_ble_eq_true rfl), (Nat.le_of_ble_eq_true rfl)⟩ (fun r h9 hp => ?_)
          obtain ⟨z52, f53, rfl, rfl, h54, h55⟩ := hp
          refine J_nf (nh2 := nh) (ck2 := 0) (sk2 := 0) (st2 := []) rfl rfl rfl rfl ?_
          refine J_app (L3 := [(58, .inr (1, [.ref 59, .ref 60, .int (zI z52), .int (zI br), .int (zI hl), .int (zI le), .int (zI ba), .int (zI tk)])), (60, .inl (1, 64, .inr (.inl (zAL f53))))]) rfl ?_
          refine J_goto (tgt := 92) dX1_run_43 (by decide) ?_
          exact J_vret dX1_run_92 rfl (Nat.le_of_ble_eq_true rfl) (Nat.le_of_ble_eq_true rfl) ⟨z52, br, f53, rfl, rfl, h54, h55, q5, q6⟩
  · refine J_aload_n dX1_run_4 rfl rfl ?_
    refine J_iload_n dX1_run_5 rfl rfl ?_
    refine Y_i2l dX1_run_6 (v_b25fa51a85 q1) ?_
    refine J_callV (st := []) dX1_run_7 cv_X1_66 (j_push x ht br hl le ba tk kf (v_d3e6516af7 q1) q3 q4 q5 q6 q7 q8 q9 q10 q11 q12 q13 q14 hk58 hk60) hk58 rfl rfl (Nat.le_of_ble_eq_true rfl) ⟨(Nat.le_of_ble_eq_true rfl), (Nat.le_of_ble_eq_true rfl)⟩ ⟨(Nat.le_of_ble_eq_true rfl), (Nat.le_of_ble_eq_true rfl)⟩ (fun r h9 hp => ?_)
    obtain ⟨z56, f57, rfl, rfl, h58, h59⟩ := hp
    refine J_nf (nh2 := nh) (ck2 := 0) (sk2 := 0) (st2 := []) rfl rfl rfl rfl ?_
    refine J_app (L3 := [(58, .inr (1, [.ref 59, .ref 60, .int (zI z56), .int (zI br), .int (zI hl), .int (zI le), .int (zI ba), .int (zI tk)])), (60, .inl (1, 64, .inr (.inl (zAL f57))))]) rfl ?_
    refine J_goto (tgt := 92) dX1_run_10 (by decide) ?_
    exact J_vret dX1_run_92 rfl (Nat.le_of_ble_eq_true rfl) (Nat.le_of_ble_eq_true rfl) ⟨z56, br, f57, rfl, rfl, h58, h59, q5, q6⟩
set_option maxHeartbeats 4000000 in
set_option maxRecDepth 100000 in
theorem j_close {l : Launch} {G : jG} {nh : Nat} {fh : Nat → Option va_E} (k : Int) (ht : Int) (br : Int) (hl : Int) (le : Int) (ba : Int) (tk : Int) (kf : Int → Int) (q0 : zr k) (q1 : 0 ≤ ht) (q2 : ht ≤ 64) (q3 : 0 ≤ br) (q4 : br ≤ 1) (q5 : 0 ≤ hl) (q6 : hl ≤ 1) (q7 : 0 ≤ le) (q8 : le ≤ 1) (q9 : 0 ≤ ba) (q10 : ba ≤ 1) (q11 : 1 ≤ tk) (q12 : tk ≤ 99) (hk58 : fh 58 = some (.inr (1, [.ref 59, .ref 60, .int (zI ht), .int (zI br), .int (zI hl), .int (zI le), .int (zI ba), .int (zI tk)]))) (hk60 : fh 60 = some (.inl (1, 64, .inr (.inl (zAL kf))))) : JM l G yX1_close MX1_close { frames := 1, cells := 0, slots := 0, locals := 23 } [.ref 58, .int (zI k)] (nh, fh) (fun rr h9 => ∃ ht2 : Int, ∃ br2 : Int, ∃ hl2 : Int, ∃ le2 : Int, ∃ ba2 : Int, ∃ tk2 : Int, rr = none ∧ h9 = (nh, hc fh [(58, .inr (1, [.ref 59, .ref 60, .int (zI ht2), .int (zI br2), .int (zI hl2), .int (zI le2), .int (zI ba2), .int (zI tk2)]))]) ∧ (0 ≤ ht2) ∧ (ht2 ≤ 64) ∧ (0 ≤ br2) ∧ (br2 ≤ 1) ∧ (0 ≤ hl2) ∧ (hl2 ≤ 1) ∧ (0 ≤ le2) ∧ (le2 ≤ 1) ∧ (0 ≤ ba2) ∧ (ba2 ≤ 1) ∧ (1 ≤ tk2) ∧ (tk2 ≤ 99)) := by
  refine JM.of (by decide) rfl (fun h => by cases h) (Nat.le_of_ble_eq_true rfl) ⟨1, rfl⟩ ?_
  refine J_hc0 (J_ls (ls2 := [some (.ref 58), some (.int (zI k)), none]) rfl ?_)
  refine J_aload_n dX1_close_0 rfl rfl ?_
  refine J_get (v := .int (zI br)) dX1_close_1 fl_X1_21 hk58 rfl ?_
  refine Z_if_ne (tgt := 20) dX1_close_4 (by decide) (v_5f10a759cd q3 q4) (fun h1 => ?_) (fun h1 => ?_)
  · refine Z_iconst (n := 0) dX1_close_20 ?_
    refine J_istore_n dX1_close_21 rfl (Nat.le_of_ble_eq_true rfl) rfl ?_
    refine J_ls (ls2 := [some (.ref 58), some (.int (zI k)), some (.int (zI 0))]) rfl ?_
    refine J_iload_n dX1_close_22 rfl rfl ?_
    refine Z_bipush (n := 13) dX1_close_23 (by decide +kernel) ?_
    refine Z_icmp_ne (tgt := 56) dX1_close_25 (by decide) (v_b25fa51a85 q0) v_9c1fa5e798 (fun h2 => ?_) (fun h2 => ?_)
    · refine J_iload_n dX1_close_56 rfl rfl ?_
      refine Z_bipush (n := 14) dX1_close_57 (by decide +kernel) ?_
      refine Z_icmp_ne (tgt := 85) dX1_close_59 (by decide) (v_b25fa51a85 q0) v_2a4719925a (fun h3 => ?_) (fun h3 => ?_)
      · refine J_iload_n dX1_close_85 rfl rfl ?_
        refine Z_if_eq (tgt := 110) dX1_close_86 (by decide) v_b17331891f (fun h4 => ?_) (fun h4 => absurd h4 (fun q => q v_2ca2bbca1f))
        refine J_aload_n dX1_close_110 rfl rfl ?_
        refine Z_iconst (n := 0) dX1_close_111 ?_
        refine K_put (fs2 := [.ref 59, .ref 60, .int (zI 0), .int (zI br), .int (zI hl), .int (zI le), .int (zI ba), .int (zI tk)]) dX1_close_112 fw_X1_17 hk58 (Nat.le_of_ble_eq_true rfl) (fun _ => ⟨rfl, rfl⟩) rfl ?_
        refine J_aload_n dX1_close_115 rfl rfl ?_
        refine Z_iconst (n := 0) dX1_close_116 ?_
        refine K_put (fs2 := [.ref 59, .ref 60, .int (zI 0), .int (zI 0), .int (zI hl), .int (zI le), .int (zI ba), .int (zI tk)]) dX1_close_117 fw_X1_21 rfl (Nat.le_of_ble_eq_true rfl) (jbz v_939070ca3f v_316afd7d0b) rfl ?_
        refine J_mask (L2 := [(58, .inr (1, [.ref 59, .ref 60, .int (zI 0), .int (zI 0), .int (zI hl), .int (zI le), .int (zI ba), .int (zI tk)]))]) (ks := [58, 58]) [true, false] rfl (by decide +kernel) rfl ?_
        exact J_vret dX1_close_120 rfl (Nat.le_of_ble_eq_true rfl) (Nat.le_of_ble_eq_true rfl) ⟨0, 0, hl, le, ba, tk, rfl, rfl, v_939070ca3f, v_c663bcd230, v_939070ca3f, v_316afd7d0b, q5, q6, q7, q8, q9, q10, q11, q12⟩
      · refine J_aload_n dX1_close_62 rfl rfl ?_
        refine J_aload_n dX1_close_63 rfl rfl ?_
        refine J_get (v := .int (zI ba)) dX1_close_64 fl_X1_31 hk58 rfl ?_
        refine Z_if_ne (tgt := 74) dX1_close_67 (by decide) (v_5f10a759cd q9 q10) (fun h5 => ?_) (fun h5 => ?_)
        · refine Z_iconst (n := 1) dX1_close_74 ?_
          refine J_goto (tgt := 79) dX1_close_75 (by decide) ?_
          refine K_put (fs2 := [.ref 59, .ref 60, .int (zI ht), .int (zI br), .int (zI hl), .int (zI le), .int (zI 1), .int (zI tk)]) dX1_close_79 fw_X1_31 hk58 (Nat.le_of_ble_eq_true rfl) (jbz v_316afd7d0b v_bbcfac9b7d) rfl ?_
          refine J_goto (tgt := 110) dX1_close_82 (by decide) ?_
          refine J_aload_n dX1_close_110 rfl rfl ?_
          refine Z_iconst (n := 0) dX1_close_111 ?_
          refine K_put (fs2 := [.ref 59, .ref 60, .int (zI 0), .int (zI br), .int (zI hl), .int (zI le), .int (zI 1), .int (zI tk)]) dX1_close_112 fw_X1_17 rfl (Nat.le_of_ble_eq_true rfl) (fun _ => ⟨rfl, rfl⟩) rfl ?_
          refine J_aload_n dX1_close_115 rfl rfl ?_
          refine Z_iconst (n := 0) dX1_close_116 ?_
          refine K_put (fs2 := [.ref 59, .ref 60, .int (zI 0), .int (zI 0), .int (zI hl), .int (zI le), .int (zI 1), .int (zI tk)]) dX1_close_117 fw_X1_21 rfl (Nat.le_of_ble_eq_true rfl) (jbz v_939070ca3f v_316afd7d0b) rfl ?_
          refine J_mask (L2 := [(58, .inr (1, [.ref 59, .ref 60, .int (zI 0), .int (zI 0), .int (zI hl), .int (zI le), .int (zI 1), .int (zI tk)]))]) (ks := [58, 58, 58]) [true, false, false] rfl (by decide +kernel) rfl ?_
          exact J_vret dX1_close_120 rfl (Nat.le_of_ble_eq_true rfl) (Nat.le_of_ble_eq_true rfl) ⟨0, 0, hl, le, 1, tk, rfl, rfl, v_939070ca3f, v_c663bcd230, v_939070ca3f, v_316afd7d0b, q5, q6, q7, q8, v_316afd7d0b, v_bbcfac9b7d, q11, q12⟩
        · refine J_iload_n dX1_close_70 rfl rfl ?_
          refine Z_if_eq (tgt := 78) dX1_close_71 (by decide) v_b17331891f (fun h6 => ?_) (fun h6 => absurd h6 (fun q => q v_2ca2bbca1f))
          refine Z_iconst (n := 0) dX1_close_78 ?_
          refine K_put (fs2 := [.ref 59, .ref 60, .int (zI ht), .int (zI br), .int (zI hl), .int (zI le), .int (zI 0), .int (zI tk)]) dX1_close_79 fw_X1_31 hk58 (Nat.le_of_ble_eq_true rfl) (jbz v_939070ca3f v_316afd7d0b) rfl ?_
          refine J_goto (tgt := 110) dX1_close_82 (by decide) ?_
          refine J_aload_n dX1_close_110 rfl rfl ?_
          refine Z_iconst (n := 0) dX1_close_111 ?_
          refine K_put (fs2 := [.ref 59, .ref 60, .int (zI 0), .int (zI br), .int (zI hl), .int (zI le), .int (zI 0), .int (zI tk)]) dX1_close_112 fw_X1_17 rfl (Nat.le_of_ble_eq_true rfl) (fun _ => ⟨rfl, rfl⟩) rfl ?_
          refine J_aload_n dX1_close_115 rfl rfl ?_
          refine Z_iconst (n := 0) dX1_close_116 ?_
          refine K_put (fs2 := [.ref 59, .ref 60, .int (zI 0), .int (zI 0), .int (zI hl), .int (zI le), .int (zI 0), .int (zI tk)]) dX1_close_117 fw_X1_21 rfl (Nat.le_of_ble_eq_true rfl) (jbz v_939070ca3f v_316afd7d0b) rfl ?_
          refine J_mask (L2 := [(58, .inr (1, [.ref 59, .ref 60, .int (zI 0), .int (zI 0), .int (zI hl), .int (zI le), .int (zI 0), .int (zI tk)]))]) (ks := [58, 58, 58]) [true, false, false] rfl (by decide +kernel) rfl ?_
          exact J_vret dX1_close_120 rfl (Nat.le_of_ble_eq_true rfl) (Nat.le_of_ble_eq_true rfl) ⟨0, 0, hl, le, 0, tk, rfl, rfl, v_939070ca3f, v_c663bcd230, v_939070ca3f, v_316afd7d0b, q5, q6, q7, q8, v_939070ca3f, v_316afd7d0b, q11, q12⟩
    · refine J_aload_n dX1_close_28 rfl rfl ?_
      refine Z_iconst (n := 1) dX1_close_29 ?_
      refine K_put (fs2 := [.ref 59, .ref 60, .int (zI ht), .int (zI br), .int (zI 1), .int (zI le), .int (zI ba), .int (zI tk)]) dX1_close_30 fw_X1_25 hk58 (Nat.le_of_ble_eq_true rfl) (jbz v_316afd7d0b v_bbcfac9b7d) rfl ?_
      refine J_aload_n dX1_close_33 rfl rfl ?_
      refine J_aload_n dX1_close_34 rfl rfl ?_
      refine J_get (v := .int (zI le)) dX1_close_35 fl_X1_28 rfl rfl ?_
      refine Z_if_ne (tgt := 45) dX1_close_38 (by decide) (v_5f10a759cd q7 q8) (fun h7 => ?_) (fun h7 => ?_)
      · refine Z_iconst (n := 1) dX1_close_45 ?_
        refine J_goto (tgt := 50) dX1_close_46 (by decide) ?_
        refine K_put (fs2 := [.ref 59, .ref 60, .int (zI ht), .int (zI br), .int (zI 1), .int (zI 1), .int (zI ba), .int (zI tk)]) dX1_close_50 fw_X1_28 rfl (Nat.le_of_ble_eq_true rfl) (jbz v_316afd7d0b v_bbcfac9b7d) rfl ?_
        refine J_goto (tgt := 110) dX1_close_53 (by decide) ?_
        refine J_aload_n dX1_close_110 rfl rfl ?_
        refine Z_iconst (n := 0) dX1_close_111 ?_
        refine K_put (fs2 := [.ref 59, .ref 60, .int (zI 0), .int (zI br), .int (zI 1), .int (zI 1), .int (zI ba), .int (zI tk)]) dX1_close_112 fw_X1_17 rfl (Nat.le_of_ble_eq_true rfl) (fun _ => ⟨rfl, rfl⟩) rfl ?_
        refine J_aload_n dX1_close_115 rfl rfl ?_
        refine Z_iconst (n := 0) dX1_close_116 ?_
        refine K_put (fs2 := [.ref 59, .ref 60, .int (zI 0), .int (zI 0), .int (zI 1), .int (zI 1), .int (zI ba), .int (zI tk)]) dX1_close_117 fw_X1_21 rfl (Nat.le_of_ble_eq_true rfl) (jbz v_939070ca3f v_316afd7d0b) rfl ?_
        refine J_mask (L2 := [(58, .inr (1, [.ref 59, .ref 60, .int (zI 0), .int (zI 0), .int (zI 1), .int (zI 1), .int (zI ba), .int (zI tk)]))]) (ks := [58, 58, 58, 58]) [true, false, false, false] rfl (by decide +kernel) rfl ?_
        exact J_vret dX1_close_120 rfl (Nat.le_of_ble_eq_true rfl) (Nat.le_of_ble_eq_true rfl) ⟨0, 0, 1, 1, ba, tk, rfl, rfl, v_939070ca3f, v_c663bcd230, v_939070ca3f, v_316afd7d0b, v_316afd7d0b, v_bbcfac9b7d, v_316afd7d0b, v_bbcfac9b7d, q9, q10, q11, q12⟩
      · refine J_iload_n dX1_close_41 rfl rfl ?_
        refine Z_if_eq (tgt := 49) dX1_close_42 (by decide) v_b17331891f (fun h8 => ?_) (fun h8 => absurd h8 (fun q => q v_2ca2bbca1f))
        refine Z_iconst (n := 0) dX1_close_49 ?_
        refine K_put (fs2 := [.ref 59, .ref 60, .int (zI ht), .int (zI br), .int (zI 1), .int (zI 0), .int (zI ba), .int (zI tk)]) dX1_close_50 fw_X1_28 rfl (Nat.le_of_ble_eq_true rfl) (jbz v_939070ca3f v_316afd7d0b) rfl ?_
        refine J_goto (tgt := 110) dX1_close_53 (by decide) ?_
        refine J_aload_n dX1_close_110 rfl rfl ?_
        refine Z_iconst (n := 0) dX1_close_111 ?_
        refine K_put (fs2 := [.ref 59, .ref 60, .int (zI 0), .int (zI br), .int (zI 1), .int (zI 0), .int (zI ba), .int (zI tk)]) dX1_close_112 fw_X1_17 rfl (Nat.le_of_ble_eq_true rfl) (fun _ => ⟨rfl, rfl⟩) rfl ?_
        refine J_aload_n dX1_close_115 rfl rfl ?_
        refine Z_iconst (n := 0) dX1_close_116 ?_
        refine K_put (fs2 := [.ref 59, .ref 60, .int (zI 0), .int (zI 0), .int (zI 1), .int (zI 0), .int (zI ba), .int (zI tk)]) dX1_close_117 fw_X1_21 rfl (Nat.le_of_ble_eq_true rfl) (jbz v_939070ca3f v_316afd7d0b) rfl ?_
        refine J_mask (L2 := [(58, .inr (1, [.ref 59, .ref 60, .int (zI 0), .int (zI 0), .int (zI 1), .int (zI 0), .int (zI ba), .int (zI tk)]))]) (ks := [58, 58, 58, 58]) [true, false, false, false] rfl (by decide +kernel) rfl ?_
        exact J_vret dX1_close_120 rfl (Nat.le_of_ble_eq_true rfl) (Nat.le_of_ble_eq_true rfl) ⟨0, 0, 1, 0, ba, tk, rfl, rfl, v_939070ca3f, v_c663bcd230, v_939070ca3f, v_316afd7d0b, v_316afd7d0b, v_bbcfac9b7d, v_939070ca3f, v_316afd7d0b, q9, q10, q11, q12⟩
  · refine J_aload_n dX1_close_7 rfl rfl ?_
    refine J_callV (st := []) dX1_close_8 cv_X1_44 (j_top ht br hl le ba tk kf q1 q2 q3 q4 q5 q6 q7 q8 q9 q10 q11 q12 hk58 hk60) hk58 rfl rfl (Nat.le_of_ble_eq_true rfl) ⟨(Nat.le_of_ble_eq_true rfl), (Nat.le_of_ble_eq_true rfl)⟩ ⟨(Nat.le_of_ble_eq_true rfl), (Nat.le_of_ble_eq_true rfl)⟩ (fun r h9 hp => ?_)
    obtain ⟨z9, rfl, rfl, h10⟩ := hp
    refine J_nf (nh2 := nh) (ck2 := 0) (sk2 := 0) (st2 := [.long (zL z9)]) rfl rfl rfl rfl ?_
    refine J_lconst (v := zL 0) dX1_close_11 (by decide +kernel) ?_
    refine Y_lcmp dX1_close_12 (v_082ba2fd17 h10) v_648c9410ae (fun z11 z11a z11b z11c z11d => ?_)
    refine Z_if_eq (tgt := 20) dX1_close_13 (by decide) (v_51ccf7ebfa z11a z11b) (fun h12 => ?_) (fun h12 => ?_)
    · have h13 : z9 = 0 := by omega
      refine Z_iconst (n := 0) dX1_close_20 ?_
      refine J_istore_n dX1_close_21 rfl (Nat.le_of_ble_eq_true rfl) rfl ?_
      refine J_ls (ls2 := [some (.ref 58), some (.int (zI k)), some (.int (zI 0))]) rfl ?_
      refine J_iload_n dX1_close_22 rfl rfl ?_
      refine Z_bipush (n := 13) dX1_close_23 (by decide +kernel) ?_
      refine Z_icmp_ne (tgt := 56) dX1_close_25 (by decide) (v_b25fa51a85 q0) v_9c1fa5e798 (fun h14 => ?_) (fun h14 => ?_)
      · refine J_iload_n dX1_close_56 rfl rfl ?_
        refine Z_bipush (n := 14) dX1_close_57 (by decide +kernel) ?_
        refine Z_icmp_ne (tgt := 85) dX1_close_59 (by decide) (v_b25fa51a85 q0) v_2a4719925a (fun h15 => ?_) (fun h15 => ?_)
        · refine J_iload_n dX1_close_85 rfl rfl ?_
          refine Z_if_eq (tgt := 110) dX1_close_86 (by decide) v_b17331891f (fun h16 => ?_) (fun h16 => absurd h16 (fun q => q v_2ca2bbca1f))
          refine J_aload_n dX1_close_110 rfl rfl ?_
          refine Z_iconst (n := 0) dX1_close_111 ?_
          refine K_put (fs2 := [.ref 59, .ref 60, .int (zI 0), .int (zI br), .int (zI hl), .int (zI le), .int (zI ba), .int (zI tk)]) dX1_close_112 fw_X1_17 hk58 (Nat.le_of_ble_eq_true rfl) (fun _ => ⟨rfl, rfl⟩) rfl ?_
          refine J_aload_n dX1_close_115 rfl rfl ?_
          refine Z_iconst (n := 0) dX1_close_116 ?_
          refine K_put (fs2 := [.ref 59, .ref 60, .int (zI 0), .int (zI 0), .int (zI hl), .int (zI le), .int (zI ba), .int (zI tk)]) dX1_close_117 fw_X1_21 rfl (Nat.le_of_ble_eq_true rfl) (jbz v_939070ca3f v_316afd7d0b) rfl ?_
          refine J_mask (L2 := [(58, .inr (1, [.ref 59, .ref 60, .int (zI 0), .int (zI 0), .int (zI hl), .int (zI le), .int (zI ba), .int (zI tk)]))]) (ks := [58, 58]) [true, false] rfl (by decide +kernel) rfl ?_
          exact J_vret dX1_close_120 rfl (Nat.le_of_ble_eq_true rfl) (Nat.le_of_ble_eq_true rfl) ⟨0, 0, hl, le, ba, tk, rfl, rfl, v_939070ca3f, v_c663bcd230, v_939070ca3f, v_316afd7d0b, q5, q6, q7, q8, q9, q10, q11, q12⟩
        · refine J_aload_n dX1_close_62 rfl rfl ?_
          refine J_aload_n dX1_close_63 rfl rfl ?_
          refine J_get (v := .int (zI ba)) dX1_close_64 fl_X1_31 hk58 rfl ?_
          refine Z_if_ne (tgt := 74) dX1_close_67 (by decide) (v_5f10a759cd q9 q10) (fun h17 => ?_) (fun h17 => ?_)
          · refine Z_iconst (n := 1) dX1_close_74 ?_
            refine J_goto (tgt := 79) dX1_close_75 (by decide) ?_
            refine K_put (fs2 := [.ref 59, .ref 60, .int (zI ht), .int (zI br), .int (zI hl), .int (zI le), .int (zI 1), .int (zI tk)]) dX1_close_79 fw_X1_31 hk58 (Nat.le_of_ble_eq_true rfl) (jbz v_316afd7d0b v_bbcfac9b7d) rfl ?_
            refine J_goto (tgt := 110) dX1_close_82 (by decide) ?_
            refine J_aload_n dX1_close_110 rfl rfl ?_
            refine Z_iconst (n := 0) dX1_close_111 ?_
            refine K_put (fs2 := [.ref 59, .ref 60, .int (zI 0), .int (zI br), .int (zI hl), .int (zI le), .int (zI 1), .int (zI tk)]) dX1_close_112 fw_X1_17 rfl (Nat.le_of_ble_eq_true rfl) (fun _ => ⟨rfl, rfl⟩) rfl ?_
            refine J_aload_n dX1_close_115 rfl rfl ?_
            refine Z_iconst (n := 0) dX1_close_116 ?_
            refine K_put (fs2 := [.ref 59, .ref 60, .int (zI 0), .int (zI 0), .int (zI hl), .int (zI le), .int (zI 1), .int (zI tk)]) dX1_close_117 fw_X1_21 rfl (Nat.le_of_ble_eq_true rfl) (jbz v_939070ca3f v_316afd7d0b) rfl ?_
            refine J_mask (L2 := [(58, .inr (1, [.ref 59, .ref 60, .int (zI 0), .int (zI 0), .int (zI hl), .int (zI le), .int (zI 1), .int (zI tk)]))]) (ks := [58, 58, 58]) [true, false, false] rfl (by decide +kernel) rfl ?_
            exact J_vret dX1_close_120 rfl (Nat.le_of_ble_eq_true rfl) (Nat.le_of_ble_eq_true rfl) ⟨0, 0, hl, le, 1, tk, rfl, rfl, v_939070ca3f, v_c663bcd230, v_939070ca3f, v_316afd7d0b, q5, q6, q7, q8, v_316afd7d0b, v_bbcfac9b7d, q11, q12⟩
          · refine J_iload_n dX1_close_70 rfl rfl ?_
            refine Z_if_eq (tgt := 78) dX1_close_71 (by decide) v_b17331891f (fun h18 => ?_) (fun h18 => absurd h18 (fun q => q v_2ca2bbca1f))
            refine Z_iconst (n := 0) dX1_close_78 ?_
            refine K_put (fs2 := [.ref 59, .ref 60, .int (zI ht), .int (zI br), .int (zI hl), .int (zI le), .int (zI 0), .int (zI tk)]) dX1_close_79 fw_X1_31 hk58 (Nat.le_of_ble_eq_true rfl) (jbz v_939070ca3f v_316afd7d0b) rfl ?_
            refine J_goto (tgt := 110) dX1_close_82 (by decide) ?_
            refine J_aload_n dX1_close_110 rfl rfl ?_
            refine Z_iconst (n := 0) dX1_close_111 ?_
            refine K_put (fs2 := [.ref 59, .ref 60, .int (zI 0), .int (zI br), .int (zI hl), .int (zI le), .int (zI 0), .int (zI tk)]) dX1_close_112 fw_X1_17 rfl (Nat.le_of_ble_eq_true rfl) (fun _ => ⟨rfl, rfl⟩) rfl ?_
            refine J_aload_n dX1_close_115 rfl rfl ?_
            refine Z_iconst (n := 0) dX1_close_116 ?_
            refine K_put (fs2 := [.ref 59, .ref 60, .int (zI 0), .int (zI 0), .int (zI hl), .int (zI le), .int (zI 0), .int (zI tk)]) dX1_close_117 fw_X1_21 rfl (Nat.le_of_ble_eq_true rfl) (jbz v_939070ca3f v_316afd7d0b) rfl ?_
            refine J_mask (L2 := [(58, .inr (1, [.ref 59, .ref 60, .int (zI 0), .int (zI 0), .int (zI hl), .int (zI le), .int (zI 0), .int (zI tk)]))]) (ks := [58, 58, 58]) [true, false, false] rfl (by decide +kernel) rfl ?_
            exact J_vret dX1_close_120 rfl (Nat.le_of_ble_eq_true rfl) (Nat.le_of_ble_eq_true rfl) ⟨0, 0, hl, le, 0, tk, rfl, rfl, v_939070ca3f, v_c663bcd230, v_939070ca3f, v_316afd7d0b, q5, q6, q7, q8, v_939070ca3f, v_316afd7d0b, q11, q12⟩
      · refine J_aload_n dX1_close_28 rfl rfl ?_
        refine Z_iconst (n := 1) dX1_close_29 ?_
        refine K_put (fs2 := [.ref 59, .ref 60, .int (zI ht), .int (zI br), .int (zI 1), .int (zI le), .int (zI ba), .int (zI tk)]) dX1_close_30 fw_X1_25 hk58 (Nat.le_of_ble_eq_true rfl) (jbz v_316afd7d0b v_bbcfac9b7d) rfl ?_
        refine J_aload_n dX1_close_33 rfl rfl ?_
        refine J_aload_n dX1_close_34 rfl rfl ?_
        refine J_get (v := .int (zI le)) dX1_close_35 fl_X1_28 rfl rfl ?_
        refine Z_if_ne (tgt := 45) dX1_close_38 (by decide) (v_5f10a759cd q7 q8) (fun h19 => ?_) (fun h19 => ?_)
        · refine Z_iconst (n := 1) dX1_close_45 ?_
          refine J_goto (tgt := 50) dX1_close_46 (by decide) ?_
          refine K_put (fs2 := [.ref 59, .ref 60, .int (zI ht), .int (zI br), .int (zI 1), .int (zI 1), .int (zI ba), .int (zI tk)]) dX1_close_50 fw_X1_28 rfl (Nat.le_of_ble_eq_true rfl) (jbz v_316afd7d0b v_bbcfac9b7d) rfl ?_
          refine J_goto (tgt := 110) dX1_close_53 (by decide) ?_
          refine J_aload_n dX1_close_110 rfl rfl ?_
          refine Z_iconst (n := 0) dX1_close_111 ?_
          refine K_put (fs2 := [.ref 59, .ref 60, .int (zI 0), .int (zI br), .int (zI 1), .int (zI 1), .int (zI ba), .int (zI tk)]) dX1_close_112 fw_X1_17 rfl (Nat.le_of_ble_eq_true rfl) (fun _ => ⟨rfl, rfl⟩) rfl ?_
          refine J_aload_n dX1_close_115 rfl rfl ?_
          refine Z_iconst (n := 0) dX1_close_116 ?_
          refine K_put (fs2 := [.ref 59, .ref 60, .int (zI 0), .int (zI 0), .int (zI 1), .int (zI 1), .int (zI ba), .int (zI tk)]) dX1_close_117 fw_X1_21 rfl (Nat.le_of_ble_eq_true rfl) (jbz v_939070ca3f v_316afd7d0b) rfl ?_
          refine J_mask (L2 := [(58, .inr (1, [.ref 59, .ref 60, .int (zI 0), .int (zI 0), .int (zI 1), .int (zI 1), .int (zI ba), .int (zI tk)]))]) (ks := [58, 58, 58, 58]) [true, false, false, false] rfl (by decide +kernel) rfl ?_
          exact J_vret dX1_close_120 rfl (Nat.le_of_ble_eq_true rfl) (Nat.le_of_ble_eq_true rfl) ⟨0, 0, 1, 1, ba, tk, rfl, rfl, v_939070ca3f, v_c663bcd230, v_939070ca3f, v_316afd7d0b, v_316afd7d0b, v_bbcfac9b7d, v_316afd7d0b, v_bbcfac9b7d, q9, q10, q11, q12⟩
        · refine J_iload_n dX1_close_41 rfl rfl ?_
          refine Z_if_eq (tgt := 49) dX1_close_42 (by decide) v_b17331891f (fun h20 => ?_) (fun h20 => absurd h20 (fun q => q v_2ca2bbca1f))
          refine Z_iconst (n := 0) dX1_close_49 ?_
          refine K_put (fs2 := [.ref 59, .ref 60, .int (zI ht), .int (zI br), .int (zI 1), .int (zI 0), .int (zI ba), .int (zI tk)]) dX1_close_50 fw_X1_28 rfl (Nat.le_of_ble_eq_true rfl) (jbz v_939070ca3f v_316afd7d0b) rfl ?_
          refine J_goto (tgt := 110) dX1_close_53 (by decide) ?_
          refine J_aload_n dX1_close_110 rfl rfl ?_
          refine Z_iconst (n := 0) dX1_close_111 ?_
          refine K_put (fs2 := [.ref 59, .ref 60, .int (zI 0), .int (zI br), .int (zI 1), .int (zI 0), .int (zI ba), .int (zI tk)]) dX1_close_112 fw_X1_17 rfl (Nat.le_of_ble_eq_true rfl) (fun _ => ⟨rfl, rfl⟩) rfl ?_
          refine J_aload_n dX1_close_115 rfl rfl ?_
          refine Z_iconst (n := 0) dX1_close_116 ?_
          refine K_put (fs2 := [.ref 59, .ref 60, .int (zI 0), .int (zI 0), .int (zI 1), .int (zI 0), .int (zI ba), .int (zI tk)]) dX1_close_117 fw_X1_21 rfl (Nat.le_of_ble_eq_true rfl) (jbz v_939070ca3f v_316afd7d0b) rfl ?_
          refine J_mask (L2 := [(58, .inr (1, [.ref 59, .ref 60, .int (zI 0), .int (zI 0), .int (zI 1), .int (zI 0), .int (zI ba), .int (zI tk)]))]) (ks := [58, 58, 58, 58]) [true, false, false, false] rfl (by decide +kernel) rfl ?_
          exact J_vret dX1_close_120 rfl (Nat.le_of_ble_eq_true rfl) (Nat.le_of_ble_eq_true rfl) ⟨0, 0, 1, 0, ba, tk, rfl, rfl, v_939070ca3f, v_c663bcd230, v_939070ca3f, v_316afd7d0b, v_316afd7d0b, v_bbcfac9b7d, v_939070ca3f, v_316afd7d0b, q9, q10, q11, q12⟩
    · have h21 : ¬ z9 = 0 := by omega
      refine Z_iconst (n := 1) dX1_close_16 ?_
      refine J_goto (tgt := 21) dX1_close_17 (by decide) ?_
      refine J_istore_n dX1_close_21 rfl (Nat.le_of_ble_eq_true rfl) rfl ?_
      refine J_ls (ls2 := [some (.ref 58), some (.int (zI k)), some (.int (zI 1))]) rfl ?_
      refine J_iload_n dX1_close_22 rfl rfl ?_
      refine Z_bipush (n := 13) dX1_close_23 (by decide +kernel) ?_
      refine Z_icmp_ne (tgt := 56) dX1_close_25 (by decide) (v_b25fa51a85 q0) v_9c1fa5e798 (fun h22 => ?_) (fun h22 => ?_)
      · refine J_iload_n dX1_close_56 rfl rfl ?_
        refine Z_bipush (n := 14) dX1_close_57 (by decide +kernel) ?_
        refine Z_icmp_ne (tgt := 85) dX1_close_59 (by decide) (v_b25fa51a85 q0) v_2a4719925a (fun h23 => ?_) (fun h23 => ?_)
        · refine J_iload_n dX1_close_85 rfl rfl ?_
          refine Z_if_eq (tgt := 110) dX1_close_86 (by decide) v_4dcc24baa7 (fun h24 => absurd h24 v_3a47bfd896) (fun h24 => ?_)
          refine J_aload_n dX1_close_89 rfl rfl ?_
          refine J_lconst (v := zL 1) dX1_close_90 (by decide +kernel) ?_
          refine J_ldc2 (v := zL 99) dX1_close_91 (jt4 136 rfl rfl) ?_
          refine J_aload_n dX1_close_94 rfl rfl ?_
          refine J_get (v := .ref 60) dX1_close_95 fl_X1_13 hk58 rfl ?_
          refine Z_iconst (n := 0) dX1_close_98 ?_
          obtain ⟨w25, w25r, w25e⟩ := zL_of (zL (kf 0))
          refine Y_lald (z := w25) 64 dX1_close_99 hk60 rfl (by decide) v_939070ca3f v_29cf2762c2 w25e ?_
          refine Y_minl dX1_close_100 (jt4 137 rfl rfl) (jt4 138 rfl rfl) (jt1 19 rfl rfl) (jt4 139 rfl rfl) (Nat.le_of_ble_eq_true rfl) (Nat.le_of_ble_eq_true rfl) (Nat.le_of_ble_eq_true rfl) (Nat.le_of_ble_eq_true rfl) v_a436dc5554 (v_082ba2fd17 w25r) (fun w26 w26a w26b w26c => ?_)
          have h27 : -9223372036854775808 ≤ w26 := by omega
          refine Y_maxl dX1_close_103 (jt4 140 rfl rfl) (jt4 141 rfl rfl) (jt1 19 rfl rfl) (jt4 142 rfl rfl) (Nat.le_of_ble_eq_true rfl) (Nat.le_of_ble_eq_true rfl) (Nat.le_of_ble_eq_true rfl) (Nat.le_of_ble_eq_true rfl) v_c87c4d349e (v_5b67f62cd2 w26a h27) (fun w28 w28a w28b w28c => ?_)
          have h29 : w28 ≤ 99 := by omega
          refine Y_l2i dX1_close_106 (v_436b5826f5 w28a h29) ?_
          refine K_put (fs2 := [.ref 59, .ref 60, .int (zI ht), .int (zI br), .int (zI hl), .int (zI le), .int (zI ba), .int (zI w28)]) dX1_close_107 fw_X1_34 hk58 (Nat.le_of_ble_eq_true rfl) (fun _ => ⟨rfl, rfl⟩) rfl ?_
          refine J_aload_n dX1_close_110 rfl rfl ?_
          refine Z_iconst (n := 0) dX1_close_111 ?_
          refine K_put (fs2 := [.ref 59, .ref 60, .int (zI 0), .int (zI br), .int (zI hl), .int (zI le), .int (zI ba), .int (zI w28)]) dX1_close_112 fw_X1_17 rfl (Nat.le_of_ble_eq_true rfl) (fun _ => ⟨rfl, rfl⟩) rfl ?_
          refine J_aload_n dX1_close_115 rfl rfl ?_
          refine Z_iconst (n := 0) dX1_close_116 ?_
          refine K_put (fs2 := [.ref 59, .ref 60, .int (zI 0), .int (zI 0), .int (zI hl), .int (zI le), .int (zI ba), .int (zI w28)]) dX1_close_117 fw_X1_21 rfl (Nat.le_of_ble_eq_true rfl) (jbz v_939070ca3f v_316afd7d0b) rfl ?_
          refine J_mask (L2 := [(58, .inr (1, [.ref 59, .ref 60, .int (zI 0), .int (zI 0), .int (zI hl), .int (zI le), .int (zI ba), .int (zI w28)]))]) (ks := [58, 58, 58]) [true, false, false] rfl (by decide +kernel) rfl ?_
          exact J_vret dX1_close_120 rfl (Nat.le_of_ble_eq_true rfl) (Nat.le_of_ble_eq_true rfl) ⟨0, 0, hl, le, ba, w28, rfl, rfl, v_939070ca3f, v_c663bcd230, v_939070ca3f, v_316afd7d0b, q5, q6, q7, q8, q9, q10, w28a, h29⟩
        · refine J_aload_n dX1_close_62 rfl rfl ?_
          refine J_aload_n dX1_close_63 rfl rfl ?_
          refine J_get (v := .int (zI ba)) dX1_close_64 fl_X1_31 hk58 rfl ?_
          refine Z_if_ne (tgt := 74) dX1_close_67 (by decide) (v_5f10a759cd q9 q10) (fun h30 => ?_) (fun h30 => ?_)
          · refine Z_iconst (n := 1) dX1_close_74 ?_
            refine J_goto (tgt := 79) dX1_close_75 (by decide) ?_
            refine K_put (fs2 := [.ref 59, .ref 60, .int (zI ht), .int (zI br), .int (zI hl), .int (zI le), .int (zI 1), .int (zI tk)]) dX1_close_79 fw_X1_31 hk58 (Nat.le_of_ble_eq_true rfl) (jbz v_316afd7d0b v_bbcfac9b7d) rfl ?_
            refine J_goto (tgt := 110) dX1_close_82 (by decide) ?_
            refine J_aload_n dX1_close_110 rfl rfl ?_
            refine Z_iconst (n := 0) dX1_close_111 ?_
            refine K_put (fs2 := [.ref 59, .ref 60, .int (zI 0), .int (zI br), .int (zI hl), .int (zI le), .int (zI 1), .int (zI tk)]) dX1_close_112 fw_X1_17 rfl (Nat.le_of_ble_eq_true rfl) (fun _ => ⟨rfl, rfl⟩) rfl ?_
            refine J_aload_n dX1_close_115 rfl rfl ?_
            refine Z_iconst (n := 0) dX1_close_116 ?_
            refine K_put (fs2 := [.ref 59, .ref 60, .int (zI 0), .int (zI 0), .int (zI hl), .int (zI le), .int (zI 1), .int (zI tk)]) dX1_close_117 fw_X1_21 rfl (Nat.le_of_ble_eq_true rfl) (jbz v_939070ca3f v_316afd7d0b) rfl ?_
            refine J_mask (L2 := [(58, .inr (1, [.ref 59, .ref 60, .int (zI 0), .int (zI 0), .int (zI hl), .int (zI le), .int (zI 1), .int (zI tk)]))]) (ks := [58, 58, 58]) [true, false, false] rfl (by decide +kernel) rfl ?_
            exact J_vret dX1_close_120 rfl (Nat.le_of_ble_eq_true rfl) (Nat.le_of_ble_eq_true rfl) ⟨0, 0, hl, le, 1, tk, rfl, rfl, v_939070ca3f, v_c663bcd230, v_939070ca3f, v_316afd7d0b, q5, q6, q7, q8, v_316afd7d0b, v_bbcfac9b7d, q11, q12⟩
          · refine J_iload_n dX1_close_70 rfl rfl ?_
            refine Z_if_eq (tgt := 78) dX1_close_71 (by decide) v_4dcc24baa7 (fun h31 => absurd h31 v_3a47bfd896) (fun h31 => ?_)
            refine Z_iconst (n := 1) dX1_close_74 ?_
            refine J_goto (tgt := 79) dX1_close_75 (by decide) ?_
            refine K_put (fs2 := [.ref 59, .ref 60, .int (zI ht), .int (zI br), .int (zI hl), .int (zI le), .int (zI 1), .int (zI tk)]) dX1_close_79 fw_X1_31 hk58 (Nat.le_of_ble_eq_true rfl) (jbz v_316afd7d0b v_bbcfac9b7d) rfl ?_
            refine J_goto (tgt := 110) dX1_close_82 (by decide) ?_
            refine J_aload_n dX1_close_110 rfl rfl ?_
            refine Z_iconst (n := 0) dX1_close_111 ?_
            refine K_put (fs2 := [.ref 59, .ref 60, .int (zI 0), .int (zI br), .int (zI hl), .int (zI le), .int (zI 1), .int (zI tk)]) dX1_close_112 fw_X1_17 rfl (Nat.le_of_ble_eq_true rfl) (fun _ => ⟨rfl, rfl⟩) rfl ?_
            refine J_aload_n dX1_close_115 rfl rfl ?_
            refine Z_iconst (n := 0) dX1_close_116 ?_
            refine K_put (fs2 := [.ref 59, .ref 60, .int (zI 0), .int (zI 0), .int (zI hl), .int (zI le), .int (zI 1), .int (zI tk)]) dX1_close_117 fw_X1_21 rfl (Nat.le_of_ble_eq_true rfl) (jbz v_939070ca3f v_316afd7d0b) rfl ?_
            refine J_mask (L2 := [(58, .inr (1, [.ref 59, .ref 60, .int (zI 0), .int (zI 0), .int (zI hl), .int (zI le), .int (zI 1), .int (zI tk)]))]) (ks := [58, 58, 58]) [true, false, false] rfl (by decide +kernel) rfl ?_
            exact J_vret dX1_close_120 rfl (Nat.le_of_ble_eq_true rfl) (Nat.le_of_ble_eq_true rfl) ⟨0, 0, hl, le, 1, tk, rfl, rfl, v_939070ca3f, v_c663bcd230, v_939070ca3f, v_316afd7d0b, q5, q6, q7, q8, v_316afd7d0b, v_bbcfac9b7d, q11, q12⟩
      · refine J_aload_n dX1_close_28 rfl rfl ?_
        refine Z_iconst (n := 1) dX1_close_29 ?_
        refine K_put (fs2 := [.ref 59, .ref 60, .int (zI ht), .int (zI br), .int (zI 1), .int (zI le), .int (zI ba), .int (zI tk)]) dX1_close_30 fw_X1_25 hk58 (Nat.le_of_ble_eq_true rfl) (jbz v_316afd7d0b v_bbcfac9b7d) rfl ?_
        refine J_aload_n dX1_close_33 rfl rfl ?_
        refine J_aload_n dX1_close_34 rfl rfl ?_
        refine J_get (v := .int (zI le)) dX1_close_35 fl_X1_28 rfl rfl ?_
        refine Z_if_ne (tgt := 45) dX1_close_38 (by decide) (v_5f10a759cd q7 q8) (fun h32 => ?_) (fun h32 => ?_)
        · refine Z_iconst (n := 1) dX1_close_45 ?_
          refine J_goto (tgt := 50) dX1_close_46 (by decide) ?_
          refine K_put (fs2 := [.ref 59, .ref 60, .int (zI ht), .int (zI br), .int (zI 1), .int (zI 1), .int (zI ba), .int (zI tk)]) dX1_close_50 fw_X1_28 rfl (Nat.le_of_ble_eq_true rfl) (jbz v_316afd7d0b v_bbcfac9b7d) rfl ?_
          refine J_goto (tgt := 110) dX1_close_53 (by decide) ?_
          refine J_aload_n dX1_close_110 rfl rfl ?_
          refine Z_iconst (n := 0) dX1_close_111 ?_
          refine K_put (fs2 := [.ref 59, .ref 60, .int (zI 0), .int (zI br), .int (zI 1), .int (zI 1), .int (zI ba), .int (zI tk)]) dX1_close_112 fw_X1_17 rfl (Nat.le_of_ble_eq_true rfl) (fun _ => ⟨rfl, rfl⟩) rfl ?_
          refine J_aload_n dX1_close_115 rfl rfl ?_
          refine Z_iconst (n := 0) dX1_close_116 ?_
          refine K_put (fs2 := [.ref 59, .ref 60, .int (zI 0), .int (zI 0), .int (zI 1), .int (zI 1), .int (zI ba), .int (zI tk)]) dX1_close_117 fw_X1_21 rfl (Nat.le_of_ble_eq_true rfl) (jbz v_939070ca3f v_316afd7d0b) rfl ?_
          refine J_mask (L2 := [(58, .inr (1, [.ref 59, .ref 60, .int (zI 0), .int (zI 0), .int (zI 1), .int (zI 1), .int (zI ba), .int (zI tk)]))]) (ks := [58, 58, 58, 58]) [true, false, false, false] rfl (by decide +kernel) rfl ?_
          exact J_vret dX1_close_120 rfl (Nat.le_of_ble_eq_true rfl) (Nat.le_of_ble_eq_true rfl) ⟨0, 0, 1, 1, ba, tk, rfl, rfl, v_939070ca3f, v_c663bcd230, v_939070ca3f, v_316afd7d0b, v_316afd7d0b, v_bbcfac9b7d, v_316afd7d0b, v_bbcfac9b7d, q9, q10, q11, q12⟩
        · refine J_iload_n dX1_close_41 rfl rfl ?_
          refine Z_if_eq (tgt := 49) dX1_close_42 (by decide) v_4dcc24baa7 (fun h33 => absurd h33 v_3a47bfd896) (fun h33 => ?_)
          refine Z_iconst (n := 1) dX1_close_45 ?_
          refine J_goto (tgt := 50) dX1_close_46 (by decide) ?_
          refine K_put (fs2 := [.ref 59, .ref 60, .int (zI ht), .int (zI br), .int (zI 1), .int (zI 1), .int (zI ba), .int (zI tk)]) dX1_close_50 fw_X1_28 rfl (Nat.le_of_ble_eq_true rfl) (jbz v_316afd7d0b v_bbcfac9b7d) rfl ?_
          refine J_goto (tgt := 110) dX1_close_53 (by decide) ?_
          refine J_aload_n dX1_close_110 rfl rfl ?_
          refine Z_iconst (n := 0) dX1_close_111 ?_
          refine K_put (fs2 := [.ref 59, .ref 60, .int (zI 0), .int (zI br), .int (zI 1), .int (zI 1), .int (zI ba), .int (zI tk)]) dX1_close_112 fw_X1_17 rfl (Nat.le_of_ble_eq_true rfl) (fun _ => ⟨rfl, rfl⟩) rfl ?_
          refine J_aload_n dX1_close_115 rfl rfl ?_
          refine Z_iconst (n := 0) dX1_close_116 ?_
          refine K_put (fs2 := [.ref 59, .ref 60, .int (zI 0), .int (zI 0), .int (zI 1), .int (zI 1), .int (zI ba), .int (zI tk)]) dX1_close_117 fw_X1_21 rfl (Nat.le_of_ble_eq_true rfl) (jbz v_939070ca3f v_316afd7d0b) rfl ?_
          refine J_mask (L2 := [(58, .inr (1, [.ref 59, .ref 60, .int (zI 0), .int (zI 0), .int (zI 1), .int (zI 1), .int (zI ba), .int (zI tk)]))]) (ks := [58, 58, 58, 58]) [true, false, false, false] rfl (by decide +kernel) rfl ?_
          exact J_vret dX1_close_120 rfl (Nat.le_of_ble_eq_true rfl) (Nat.le_of_ble_eq_true rfl) ⟨0, 0, 1, 1, ba, tk, rfl, rfl, v_939070ca3f, v_c663bcd230, v_939070ca3f, v_316afd7d0b, v_316afd7d0b, v_bbcfac9b7d, v_316afd7d0b, v_bbcfac9b7d, q9, q10, q11, q12⟩
set_option maxHeartbeats 4000000 in
set_option maxRecDepth 100000 in
theorem j_verdict {l : Launch} {G : jG} {nh : Nat} {fh : Nat → Option va_E} (r : Nat) (n : Int) (cf : Int → Int) (ht : Int) (br : Int) (hl : Int) (le : Int) (ba : Int) (tk : Int) (kf : Int → Int) (wf : Int → Int) (q0 : 0 ≤ n) (q1 : n ≤ 100000) (q2 : Rg cf n (-2147483648) 2147483647) (q3 : Rg wf 8 (-2147483648) 2147483647) (q4 : 0 ≤ ht) (q5 : ht ≤ 64) (q6 : 0 ≤ br) (q7 : br ≤ 1) (q8 : 0 ≤ hl) (q9 : hl ≤ 1) (q10 : 0 ≤ le) (q11 : le ≤ 1) (q12 : 0 ≤ ba) (q13 : ba ≤ 1) (q14 : 1 ≤ tk) (q15 : tk ≤ 99) (hk58 : fh 58 = some (.inr (1, [.ref 59, .ref 60, .int (zI ht), .int (zI br), .int (zI hl), .int (zI le), .int (zI ba), .int (zI tk)]))) (hk60 : fh 60 = some (.inl (1, 64, .inr (.inl (zAL kf))))) (hk59 : fh 59 = some (.inl (0, 8, .inl (zA wf)))) (hkr : fh r = some (.inl (0, (n).toNat, .inl (zA cf)))) (hr : Fx r) : JM l G yX1_verdict MX1_verdict { frames := 3, cells := 0, slots := 0, locals := 71 } [.ref 58, .ref r] (nh, fh) (fun rr h9 => ∃ v : Int, ∃ kg : Int → Int, ∃ ht2 : Int, ∃ br2 : Int, ∃ hl2 : Int, ∃ le2 : Int, ∃ ba2 : Int, ∃ tk2 : Int, rr = some (.int (zI v)) ∧ h9 = (nh, hc fh [(58, .inr (1, [.ref 59, .ref 60, .int (zI ht2), .int (zI br2), .int (zI hl2), .int (zI le2), .int (zI ba2), .int (zI tk2)])), (60, .inl (1, 64, .inr (.inl (zAL kg))))]) ∧ (0 ≤ v) ∧ (v ≤ 99) ∧ (0 ≤ ht2) ∧ (ht2 ≤ 64) ∧ (0 ≤ br2) ∧ (br2 ≤ 1) ∧ (0 ≤ hl2) ∧ (hl2 ≤ 1) ∧ (0 ≤ le2) ∧ (le2 ≤ 1) ∧ (0 ≤ ba2) ∧ (ba2 ≤ 1) ∧ (1 ≤ tk2) ∧ (tk2 ≤ 99)) := by
  refine JM.of (by decide) rfl (fun h => by cases h) (Nat.le_of_ble_eq_true rfl) ⟨3, rfl⟩ ?_
  refine J_hc0 (J_ls (ls2 := [some (.ref 58), some (.ref r), none, none, none]) rfl ?_)
  refine J_aload_n dX1_verdict_0 rfl rfl ?_
  refine J_callV (st := []) dX1_verdict_1 cv_X1_37 (j_begin ht br hl le ba tk hk58) hk58 rfl rfl (Nat.le_of_ble_eq_true rfl) ⟨(Nat.le_of_ble_eq_true rfl), (Nat.le_of_ble_eq_true rfl)⟩ ⟨(Nat.le_of_ble_eq_true rfl), (Nat.le_of_ble_eq_true rfl)⟩ (fun r h9 hp => ?_)
  obtain ⟨rfl, rfl⟩ := hp
  refine J_nf (nh2 := nh) (ck2 := 0) (sk2 := 0) (st2 := []) rfl rfl rfl rfl ?_
  refine J_app (L3 := [(58, .inr (1, [.ref 59, .ref 60, .int (zI 0), .int (zI 0), .int (zI 0), .int (zI 0), .int (zI 0), .int (zI 1)]))]) rfl ?_
  refine Z_iconst (n := 0) dX1_verdict_4 ?_
  refine J_istore_n dX1_verdict_5 rfl (Nat.le_of_ble_eq_true rfl) rfl ?_
  refine J_ls (ls2 := [some (.ref 58), some (.ref r), some (.int (zI 0)), none, none]) rfl ?_
  refine J_touch (k := 60) (e := .inl (1, 64, .inr (.inl (zAL kf)))) hk60 ?_
  have lp6 : ∀ (N6 : Nat) (at_6 : Int) (ht_6 : Int) (br_6 : Int) (hl_6 : Int) (le_6 : Int) (ba_6 : Int) (tk_6 : Int) (kk_6 : Int → Int), (0 ≤ at_6) → (at_6 ≤ 100000000) → (0 ≤ ht_6) → (ht_6 ≤ 64) → (0 ≤ br_6) → (br_6 ≤ 1) → (0 ≤ hl_6) → (hl_6 ≤ 1) → (0 ≤ le_6) → (le_6 ≤ 1) → (0 ≤ ba_6) → (ba_6 ≤ 1) → (1 ≤ tk_6) → (tk_6 ≤ 99) → (n - at_6).toNat < N6 → J l G MX1_verdict { frames := 3, cells := 0, slots := 0, locals := 71 } jE (jMQ G { frames := 3, cells := 0, slots := 0, locals := 71 } (fun rr h9 => ∃ v : Int, ∃ kg : Int → Int, ∃ ht2 : Int, ∃ br2 : Int, ∃ hl2 : Int, ∃ le2 : Int, ∃ ba2 : Int, ∃ tk2 : Int, rr = some (.int (zI v)) ∧ h9 = (nh, hc fh [(58, .inr (1, [.ref 59, .ref 60, .int (zI ht2), .int (zI br2), .int (zI hl2), .int (zI le2), .int (zI ba2), .int (zI tk2)])), (60, .inl (1, 64, .inr (.inl (zAL kg))))]) ∧ (0 ≤ v) ∧ (v ≤ 99) ∧ (0 ≤ ht2) ∧ (ht2 ≤ 64) ∧ (0 ≤ br2) ∧ (br2 ≤ 1) ∧ (0 ≤ hl2) ∧ (hl2 ≤ 1) ∧ (0 ≤ le2) ∧ (le2 ≤ 1) ∧ (0 ≤ ba2) ∧ (ba2 ≤ 1) ∧ (1 ≤ tk2) ∧ (tk2 ≤ 99))) (nh, hc fh [(60, .inl (1, 64, .inr (.inl (zAL kk_6)))), (58, .inr (1, [.ref 59, .ref 60, .int (zI ht_6), .int (zI br_6), .int (zI hl_6), .int (zI le_6), .int (zI ba_6), .int (zI tk_6)]))]) 0 0 6 [some (.ref 58), some (.ref r), some (.int (zI at_6)), none, none] [] := by
    intro N6
    induction N6 with
    | zero => intro at_6 ht_6 br_6 hl_6 le_6 ba_6 tk_6 kk_6 i6_0 i6_1 i6_2 i6_3 i6_4 i6_5 i6_6 i6_7 i6_8 i6_9 i6_10 i6_11 i6_12 i6_13 hm; exact absurd hm (Nat.not_lt_zero _)
    | succ N6 ih6 =>
      intro at_6 ht_6 br_6 hl_6 le_6 ba_6 tk_6 kk_6 i6_0 i6_1 i6_2 i6_3 i6_4 i6_5 i6_6 i6_7 i6_8 i6_9 i6_10 i6_11 i6_12 i6_13 hm6
      refine J_iload_n dX1_verdict_6 rfl rfl ?_
      refine J_aload_n dX1_verdict_7 rfl rfl ?_
      refine Y_alen n dX1_verdict_8 (hcn (hr 60 (by decide)) (hcn (hr 58 (by decide)) hkr)) rfl (Int.toNat_of_nonneg (v_2b02420001 q0)) ?_
      refine Z_icmp_ge (tgt := 122) dX1_verdict_9 (by decide) (v_e6f0527522 i6_0 i6_1) (v_df877c3443 q0 q1) (fun h1 => ?_) (fun h1 => ?_)
      · refine J_aload_n dX1_verdict_122 rfl rfl ?_
        refine J_get (v := .int (zI hl_6)) dX1_verdict_123 fl_X1_25 rfl rfl ?_
        refine Z_if_eq (tgt := 136) dX1_verdict_126 (by decide) (v_5f10a759cd i6_6 i6_7) (fun h2 => ?_) (fun h2 => ?_)
        · refine J_aload_n dX1_verdict_136 rfl rfl ?_
          refine J_get (v := .ref 59) dX1_verdict_137 fl_X1_9 rfl rfl ?_
          refine Z_iconst (n := 4) dX1_verdict_140 ?_
          obtain ⟨z3, ez3⟩ : ∃ z : Int, wf 4 = z := ⟨_, rfl⟩
          have h4 := Rg.at q3 v_92ab544b5f v_c1c1c5fa1b ez3
          refine Y_iald (z := z3) 8 dX1_verdict_141 hk59 rfl (by decide) v_92ab544b5f v_c1c1c5fa1b ez3 ?_
          refine Z_iconst (n := 1) dX1_verdict_142 ?_
          refine Z_icmp_ne (tgt := 150) dX1_verdict_143 (by decide) (v_f306e1cdb8 h4.1 h4.2) v_4dcc24baa7 (fun h5 => ?_) (fun h5 => ?_)
          · refine Z_iconst (n := 0) dX1_verdict_150 ?_
            refine J_istore_n dX1_verdict_151 rfl (Nat.le_of_ble_eq_true rfl) rfl ?_
            refine J_ls (ls2 := [some (.ref 58), some (.ref r), some (.int (zI 0)), none, none]) rfl ?_
            refine J_iload_n dX1_verdict_152 rfl rfl ?_
            refine Z_if_eq (tgt := 170) dX1_verdict_153 (by decide) v_b17331891f (fun h6 => ?_) (fun h6 => absurd h6 (fun q => q v_2ca2bbca1f))
            refine Z_iconst (n := 0) dX1_verdict_170 ?_
            refine J_touch (k := 60) (e := .inl (1, 64, .inr (.inl (zAL kk_6)))) rfl ?_
            refine J_touch (k := 58) (e := .inr (1, [.ref 59, .ref 60, .int (zI ht_6), .int (zI br_6), .int (zI hl_6), .int (zI le_6), .int (zI ba_6), .int (zI tk_6)])) rfl ?_
            refine J_mask (L2 := [(58, .inr (1, [.ref 59, .ref 60, .int (zI ht_6), .int (zI br_6), .int (zI hl_6), .int (zI le_6), .int (zI ba_6), .int (zI tk_6)])), (60, .inl (1, 64, .inr (.inl (zAL kk_6))))]) (ks := [58, 60, 60, 58]) [true, true, false, false] rfl (by decide +kernel) rfl ?_
            exact J_iret dX1_verdict_171 rfl rfl (Nat.le_of_ble_eq_true rfl) (Nat.le_of_ble_eq_true rfl) ⟨0, kk_6, ht_6, br_6, hl_6, le_6, ba_6, tk_6, rfl, rfl, v_939070ca3f, v_3176ed3c91, i6_2, i6_3, i6_4, i6_5, i6_6, i6_7, i6_8, i6_9, i6_10, i6_11, i6_12, i6_13⟩
          · refine Z_iconst (n := 1) dX1_verdict_146 ?_
            refine J_goto (tgt := 151) dX1_verdict_147 (by decide) ?_
            refine J_istore_n dX1_verdict_151 rfl (Nat.le_of_ble_eq_true rfl) rfl ?_
            refine J_ls (ls2 := [some (.ref 58), some (.ref r), some (.int (zI 1)), none, none]) rfl ?_
            refine J_iload_n dX1_verdict_152 rfl rfl ?_
            refine Z_if_eq (tgt := 170) dX1_verdict_153 (by decide) v_4dcc24baa7 (fun h7 => absurd h7 v_3a47bfd896) (fun h7 => ?_)
            refine J_aload_n dX1_verdict_156 rfl rfl ?_
            refine J_get (v := .int (zI ba_6)) dX1_verdict_157 fl_X1_31 rfl rfl ?_
            refine Z_if_ne (tgt := 170) dX1_verdict_160 (by decide) (v_5f10a759cd i6_10 i6_11) (fun h8 => ?_) (fun h8 => ?_)
            · refine Z_iconst (n := 0) dX1_verdict_170 ?_
              refine J_touch (k := 60) (e := .inl (1, 64, .inr (.inl (zAL kk_6)))) rfl ?_
              refine J_touch (k := 58) (e := .inr (1, [.ref 59, .ref 60, .int (zI ht_6), .int (zI br_6), .int (zI hl_6), .int (zI le_6), .int (zI ba_6), .int (zI tk_6)])) rfl ?_
              refine J_mask (L2 := [(58, .inr (1, [.ref 59, .ref 60, .int (zI ht_6), .int (zI br_6), .int (zI hl_6), .int (zI le_6), .int (zI ba_6), .int (zI tk_6)])), (60, .inl (1, 64, .inr (.inl (zAL kk_6))))]) (ks := [58, 60, 60, 58]) [true, true, false, false] rfl (by decide +kernel) rfl ?_
              exact J_iret dX1_verdict_171 rfl rfl (Nat.le_of_ble_eq_true rfl) (Nat.le_of_ble_eq_true rfl) ⟨0, kk_6, ht_6, br_6, hl_6, le_6, ba_6, tk_6, rfl, rfl, v_939070ca3f, v_3176ed3c91, i6_2, i6_3, i6_4, i6_5, i6_6, i6_7, i6_8, i6_9, i6_10, i6_11, i6_12, i6_13⟩
            · refine J_aload_n dX1_verdict_163 rfl rfl ?_
              refine J_get (v := .int (zI tk_6)) dX1_verdict_164 fl_X1_34 rfl rfl ?_
              refine J_goto (tgt := 171) dX1_verdict_167 (by decide) ?_
              refine J_touch (k := 60) (e := .inl (1, 64, .inr (.inl (zAL kk_6)))) rfl ?_
              refine J_touch (k := 58) (e := .inr (1, [.ref 59, .ref 60, .int (zI ht_6), .int (zI br_6), .int (zI hl_6), .int (zI le_6), .int (zI ba_6), .int (zI tk_6)])) rfl ?_
              refine J_mask (L2 := [(58, .inr (1, [.ref 59, .ref 60, .int (zI ht_6), .int (zI br_6), .int (zI hl_6), .int (zI le_6), .int (zI ba_6), .int (zI tk_6)])), (60, .inl (1, 64, .inr (.inl (zAL kk_6))))]) (ks := [58, 60, 60, 58]) [true, true, false, false] rfl (by decide +kernel) rfl ?_
              exact J_iret dX1_verdict_171 rfl rfl (Nat.le_of_ble_eq_true rfl) (Nat.le_of_ble_eq_true rfl) ⟨tk_6, kk_6, ht_6, br_6, hl_6, le_6, ba_6, tk_6, rfl, rfl, (v_632d2dbe78 i6_12), i6_13, i6_2, i6_3, i6_4, i6_5, i6_6, i6_7, i6_8, i6_9, i6_10, i6_11, i6_12, i6_13⟩
        · refine J_aload_n dX1_verdict_129 rfl rfl ?_
          refine J_get (v := .int (zI le_6)) dX1_verdict_130 fl_X1_28 rfl rfl ?_
          refine J_goto (tgt := 151) dX1_verdict_133 (by decide) ?_
          refine J_istore_n dX1_verdict_151 rfl (Nat.le_of_ble_eq_true rfl) rfl ?_
          refine J_ls (ls2 := [some (.ref 58), some (.ref r), some (.int (zI le_6)), none, none]) rfl ?_
          refine J_iload_n dX1_verdict_152 rfl rfl ?_
          refine Z_if_eq (tgt := 170) dX1_verdict_153 (by decide) (v_5f10a759cd i6_8 i6_9) (fun h9 => ?_) (fun h9 => ?_)
          · refine Z_iconst (n := 0) dX1_verdict_170 ?_
            refine J_touch (k := 60) (e := .inl (1, 64, .inr (.inl (zAL kk_6)))) rfl ?_
            refine J_touch (k := 58) (e := .inr (1, [.ref 59, .ref 60, .int (zI ht_6), .int (zI br_6), .int (zI hl_6), .int (zI le_6), .int (zI ba_6), .int (zI tk_6)])) rfl ?_
            refine J_mask (L2 := [(58, .inr (1, [.ref 59, .ref 60, .int (zI ht_6), .int (zI br_6), .int (zI hl_6), .int (zI le_6), .int (zI ba_6), .int (zI tk_6)])), (60, .inl (1, 64, .inr (.inl (zAL kk_6))))]) (ks := [58, 60, 60, 58]) [true, true, false, false] rfl (by decide +kernel) rfl ?_
            exact J_iret dX1_verdict_171 rfl rfl (Nat.le_of_ble_eq_true rfl) (Nat.le_of_ble_eq_true rfl) ⟨0, kk_6, ht_6, br_6, hl_6, le_6, ba_6, tk_6, rfl, rfl, v_939070ca3f, v_3176ed3c91, i6_2, i6_3, i6_4, i6_5, i6_6, i6_7, i6_8, i6_9, i6_10, i6_11, i6_12, i6_13⟩
          · refine J_aload_n dX1_verdict_156 rfl rfl ?_
            refine J_get (v := .int (zI ba_6)) dX1_verdict_157 fl_X1_31 rfl rfl ?_
            refine Z_if_ne (tgt := 170) dX1_verdict_160 (by decide) (v_5f10a759cd i6_10 i6_11) (fun h10 => ?_) (fun h10 => ?_)
            · refine Z_iconst (n := 0) dX1_verdict_170 ?_
              refine J_touch (k := 60) (e := .inl (1, 64, .inr (.inl (zAL kk_6)))) rfl ?_
              refine J_touch (k := 58) (e := .inr (1, [.ref 59, .ref 60, .int (zI ht_6), .int (zI br_6), .int (zI hl_6), .int (zI le_6), .int (zI ba_6), .int (zI tk_6)])) rfl ?_
              refine J_mask (L2 := [(58, .inr (1, [.ref 59, .ref 60, .int (zI ht_6), .int (zI br_6), .int (zI hl_6), .int (zI le_6), .int (zI ba_6), .int (zI tk_6)])), (60, .inl (1, 64, .inr (.inl (zAL kk_6))))]) (ks := [58, 60, 60, 58]) [true, true, false, false] rfl (by decide +kernel) rfl ?_
              exact J_iret dX1_verdict_171 rfl rfl (Nat.le_of_ble_eq_true rfl) (Nat.le_of_ble_eq_true rfl) ⟨0, kk_6, ht_6, br_6, hl_6, le_6, ba_6, tk_6, rfl, rfl, v_939070ca3f, v_3176ed3c91, i6_2, i6_3, i6_4, i6_5, i6_6, i6_7, i6_8, i6_9, i6_10, i6_11, i6_12, i6_13⟩
            · refine J_aload_n dX1_verdict_163 rfl rfl ?_
              refine J_get (v := .int (zI tk_6)) dX1_verdict_164 fl_X1_34 rfl rfl ?_
              refine J_goto (tgt := 171) dX1_verdict_167 (by decide) ?_
              refine J_touch (k := 60) (e := .inl (1, 64, .inr (.inl (zAL kk_6)))) rfl ?_
              refine J_touch (k := 58) (e := .inr (1, [.ref 59, .ref 60, .int (zI ht_6), .int (zI br_6), .int (zI hl_6), .int (zI le_6), .int (zI ba_6), .int (zI tk_6)])) rfl ?_
              refine J_mask (L2 := [(58, .inr (1, [.ref 59, .ref 60, .int (zI ht_6), .int (zI br_6), .int (zI hl_6), .int (zI le_6), .int (zI ba_6), .int (zI tk_6)])), (60, .inl (1, 64, .inr (.inl (zAL kk_6))))]) (ks := [58, 60, 60, 58]) [true, true, false, false] rfl (by decide +kernel) rfl ?_
              exact J_iret dX1_verdict_171 rfl rfl (Nat.le_of_ble_eq_true rfl) (Nat.le_of_ble_eq_true rfl) ⟨tk_6, kk_6, ht_6, br_6, hl_6, le_6, ba_6, tk_6, rfl, rfl, (v_632d2dbe78 i6_12), i6_13, i6_2, i6_3, i6_4, i6_5, i6_6, i6_7, i6_8, i6_9, i6_10, i6_11, i6_12, i6_13⟩
      · refine J_aload_n dX1_verdict_12 rfl rfl ?_
        refine J_iload_n dX1_verdict_13 rfl rfl ?_
        obtain ⟨z11, ez11⟩ : ∃ z : Int, cf at_6 = z := ⟨_, rfl⟩
        have h12 := Rg.at q2 (v_2b02420001 i6_0) (v_fe9ea41faa h1) ez11
        refine Y_iald (z := z11) n dX1_verdict_14 (hcn (hr 60 (by decide)) (hcn (hr 58 (by decide)) hkr)) (Int.toNat_of_nonneg (v_2b02420001 q0)) (v_49a98948d1 q1) (v_2b02420001 i6_0) (v_fe9ea41faa h1) ez11 ?_
        refine Z_bipush (n := 31) dX1_verdict_15 (by decide +kernel) ?_
        obtain ⟨z13, ez13⟩ : ∃ z : Int, zand z11 31 = z := ⟨_, rfl⟩
        refine Y_iand (z := z13) dX1_verdict_17 ez13 ?_
        have h14 : zr z13 := by rw [← ez13]; exact zr_toInt _
        have h15 : 0 ≤ z13 ∧ z13 ≤ 31 := zand_mask 5 (by decide) (by decide +kernel) (by decide) ez13
        refine J_istore_n dX1_verdict_18 rfl (Nat.le_of_ble_eq_true rfl) rfl ?_
        refine J_ls (ls2 := [some (.ref 58), some (.ref r), some (.int (zI at_6)), some (.int (zI z13)), none]) rfl ?_
        refine J_aload_n dX1_verdict_19 rfl rfl ?_
        refine J_iload_n dX1_verdict_20 rfl rfl ?_
        refine Y_iald (z := z11) n dX1_verdict_21 (hcn (hr 60 (by decide)) (hcn (hr 58 (by decide)) hkr)) (Int.toNat_of_nonneg (v_2b02420001 q0)) (v_49a98948d1 q1) (v_2b02420001 i6_0) (v_fe9ea41faa h1) ez11 ?_
        refine Z_iconst (n := 5) dX1_verdict_22 ?_
        obtain ⟨z16, ez16⟩ : ∃ z : Int, zshr z11 5 = z := ⟨_, rfl⟩
        refine Y_ishr (z := z16) dX1_verdict_23 ez16 ?_
        have h17 : zr z16 := by rw [← ez16]; exact zr_toInt _
        have h18 : 32 * z16 ≤ z11 ∧ z11 ≤ 32 * z16 + 31 := dv_lem (zshr_div (p := 32) 5 5 (v_f306e1cdb8 h12.1 h12.2) (by decide +kernel) (by decide) ez16).symm (by decide)
        refine J_istore dX1_verdict_24 (Nat.le_of_ble_eq_true rfl) rfl ?_
        refine J_ls (ls2 := [some (.ref 58), some (.ref r), some (.int (zI at_6)), some (.int (zI z13)), some (.int (zI z16))]) rfl ?_
        refine J_iload_n dX1_verdict_26 rfl rfl ?_
        refine Z_bipush (n := 12) dX1_verdict_27 (by decide +kernel) ?_
        refine Z_icmp_lt (tgt := 40) dX1_verdict_29 (by decide) (v_b0b962d47e h15.1 h15.2) v_1288359c70 (fun h19 => ?_) (fun h19 => ?_)
        · refine J_iload_n dX1_verdict_40 rfl rfl ?_
          refine Z_bipush (n := 10) dX1_verdict_41 (by decide +kernel) ?_
          refine Z_icmp_eq (tgt := 52) dX1_verdict_43 (by decide) (v_62f826df90 h15.1 h19) v_2388fd5833 (fun h20 => ?_) (fun h20 => ?_)
          · refine J_aload_n dX1_verdict_52 rfl rfl ?_
            refine J_callV (st := []) dX1_verdict_53 cv_X1_44 (j_top ht_6 br_6 hl_6 le_6 ba_6 tk_6 kk_6 i6_2 i6_3 i6_4 i6_5 i6_6 i6_7 i6_8 i6_9 i6_10 i6_11 i6_12 i6_13 rfl rfl) rfl rfl rfl (Nat.le_of_ble_eq_true rfl) ⟨(Nat.le_of_ble_eq_true rfl), (Nat.le_of_ble_eq_true rfl)⟩ ⟨(Nat.le_of_ble_eq_true rfl), (Nat.le_of_ble_eq_true rfl)⟩ (fun r h9 hp => ?_)
            obtain ⟨z21, rfl, rfl, h22⟩ := hp
            refine J_nf (nh2 := nh) (ck2 := 0) (sk2 := 0) (st2 := [.long (zL z21)]) rfl rfl rfl rfl ?_
            refine J_lconst (v := zL 0) dX1_verdict_56 (by decide +kernel) ?_
            refine Y_lcmp dX1_verdict_57 (v_082ba2fd17 h22) v_648c9410ae (fun z23 z23a z23b z23c z23d => ?_)
            refine Z_if_eq (tgt := 65) dX1_verdict_58 (by decide) (v_51ccf7ebfa z23a z23b) (fun h24 => ?_) (fun h24 => ?_)
            · have h25 : z21 = 0 := by omega
              refine Z_iconst (n := 0) dX1_verdict_65 ?_
              refine J_iload_n dX1_verdict_66 rfl rfl ?_
              refine Z_bipush (n := 10) dX1_verdict_67 (by decide +kernel) ?_
              refine Z_icmp_ne (tgt := 76) dX1_verdict_69 (by decide) (v_14763cd496 h20) v_2388fd5833 (fun h26 => absurd h26 (fun q => q (v_9473638d03 h20))) (fun h26 => ?_)
              refine Z_iconst (n := 1) dX1_verdict_72 ?_
              refine J_goto (tgt := 77) dX1_verdict_73 (by decide) ?_
              refine Z_icmp_ne (tgt := 92) dX1_verdict_77 (by decide) v_b17331891f v_4dcc24baa7 (fun h27 => ?_) (fun h27 => absurd h27 v_bdb4d0aa01)
              refine J_aload_n dX1_verdict_92 rfl rfl ?_
              refine Z_iconst (n := 0) dX1_verdict_93 ?_
              refine J_aload_n dX1_verdict_94 rfl rfl ?_
              refine J_get (v := .int (zI ht_6)) dX1_verdict_95 fl_X1_17 rfl rfl ?_
              refine Z_iconst (n := 1) dX1_verdict_98 ?_
              refine Z_isub (c := ht_6 - 1) dX1_verdict_99 rfl ?_
              obtain ⟨z28, ez28⟩ : ∃ z : Int, max 0 (ht_6 - 1) = z := ⟨_, rfl⟩
              refine J_mmax (z := zI z28) dX1_verdict_100 (jt4 143 rfl rfl) (jt4 144 rfl rfl) (jt1 19 rfl rfl) (jt4 145 rfl rfl) (Nat.le_of_ble_eq_true rfl) (Nat.le_of_ble_eq_true rfl) (Nat.le_of_ble_eq_true rfl) (Nat.le_of_ble_eq_true rfl) (by rw [zI_max v_b17331891f (v_c2f7ff7d04 i6_2 i6_3), ez28]) ?_
              have h29 : 0 ≤ z28 ∧ ht_6 - 1 ≤ z28 ∧ (z28 = 0 ∨ z28 = ht_6 - 1) := by omega
              have h30 : z28 ≤ 63 := by omega
              refine K_put (fs2 := [.ref 59, .ref 60, .int (zI z28), .int (zI br_6), .int (zI hl_6), .int (zI le_6), .int (zI ba_6), .int (zI tk_6)]) dX1_verdict_103 fw_X1_17 rfl (Nat.le_of_ble_eq_true rfl) (fun _ => ⟨rfl, rfl⟩) rfl ?_
              refine J_goto (tgt := 116) dX1_verdict_106 (by decide) ?_
              refine Z_iinc (c := at_6 + 1) (ls2 := [some (.ref 58), some (.ref r), some (.int (zI (at_6 + 1))), some (.int (zI z13)), some (.int (zI z16))]) dX1_verdict_116 rfl (Nat.le_of_ble_eq_true rfl) rfl rfl rfl ?_
              refine J_goto (tgt := 6) dX1_verdict_119 (by decide) ?_
              refine J_mask (L2 := [(58, .inr (1, [.ref 59, .ref 60, .int (zI z28), .int (zI br_6), .int (zI hl_6), .int (zI le_6), .int (zI ba_6), .int (zI tk_6)])), (60, .inl (1, 64, .inr (.inl (zAL kk_6))))]) (ks := [58, 60, 58]) [true, true, false] rfl (by decide +kernel) rfl ?_
              refine J_touch (k := 58) (e := .inr (1, [.ref 59, .ref 60, .int (zI z28), .int (zI br_6), .int (zI hl_6), .int (zI le_6), .int (zI ba_6), .int (zI tk_6)])) rfl ?_
              refine J_touch (k := 60) (e := .inl (1, 64, .inr (.inl (zAL kk_6)))) rfl ?_
              refine J_mask (L2 := [(60, .inl (1, 64, .inr (.inl (zAL kk_6)))), (58, .inr (1, [.ref 59, .ref 60, .int (zI z28), .int (zI br_6), .int (zI hl_6), .int (zI le_6), .int (zI ba_6), .int (zI tk_6)]))]) (ks := [60, 58, 58, 60]) [true, true, false, false] rfl (by decide +kernel) rfl ?_
              refine J_drop (ls2 := [some (.ref 58), some (.ref r), some (.int (zI (at_6 + 1))), none, none]) [true, true, true, false, false] rfl ?_
              exact ih6 (at_6 + 1) z28 br_6 hl_6 le_6 ba_6 tk_6 kk_6 (v_da458fa48a i6_0) (v_e94bc95826 q1 h1) h29.1 (v_d1c5b1b617 h30) i6_4 i6_5 i6_6 i6_7 i6_8 i6_9 i6_10 i6_11 i6_12 i6_13 (meas_lt v_90eacd6fd4 (v_8b7dd7d486 h1) hm6)
            · have h31 : ¬ z21 = 0 := by omega
              refine Z_iconst (n := 1) dX1_verdict_61 ?_
              refine J_goto (tgt := 66) dX1_verdict_62 (by decide) ?_
              refine J_iload_n dX1_verdict_66 rfl rfl ?_
              refine Z_bipush (n := 10) dX1_verdict_67 (by decide +kernel) ?_
              refine Z_icmp_ne (tgt := 76) dX1_verdict_69 (by decide) (v_14763cd496 h20) v_2388fd5833 (fun h32 => absurd h32 (fun q => q (v_9473638d03 h20))) (fun h32 => ?_)
              refine Z_iconst (n := 1) dX1_verdict_72 ?_
              refine J_goto (tgt := 77) dX1_verdict_73 (by decide) ?_
              refine Z_icmp_ne (tgt := 92) dX1_verdict_77 (by decide) v_4dcc24baa7 v_4dcc24baa7 (fun h33 => absurd h33 (fun q => q v_0cde637f83)) (fun h33 => ?_)
              refine J_iload_n dX1_verdict_80 rfl rfl ?_
              refine J_iload dX1_verdict_81 rfl ?_
              refine Z_iconst (n := 1) dX1_verdict_83 ?_
              refine Z_isub (c := z16 - 1) dX1_verdict_84 rfl ?_
              obtain ⟨z34, ez34⟩ : ∃ z : Int, max at_6 (z16 - 1) = z := ⟨_, rfl⟩
              refine J_mmax (z := zI z34) dX1_verdict_85 (jt4 143 rfl rfl) (jt4 144 rfl rfl) (jt1 19 rfl rfl) (jt4 145 rfl rfl) (Nat.le_of_ble_eq_true rfl) (Nat.le_of_ble_eq_true rfl) (Nat.le_of_ble_eq_true rfl) (Nat.le_of_ble_eq_true rfl) (by rw [zI_max (v_e6f0527522 i6_0 i6_1) (v_0800612b1c h12.1 h17 h18.2), ez34]) ?_
              have h35 : at_6 ≤ z34 ∧ z16 - 1 ≤ z34 ∧ (z34 = at_6 ∨ z34 = z16 - 1) := by omega
              have h36 : z34 ≤ 67108864 := by omega
              refine J_istore_n dX1_verdict_88 rfl (Nat.le_of_ble_eq_true rfl) rfl ?_
              refine J_ls (ls2 := [some (.ref 58), some (.ref r), some (.int (zI z34)), some (.int (zI z13)), some (.int (zI z16))]) rfl ?_
              refine J_goto (tgt := 116) dX1_verdict_89 (by decide) ?_
              refine Z_iinc (c := z34 + 1) (ls2 := [some (.ref 58), some (.ref r), some (.int (zI (z34 + 1))), some (.int (zI z13)), some (.int (zI z16))]) dX1_verdict_116 rfl (Nat.le_of_ble_eq_true rfl) rfl rfl rfl ?_
              refine J_goto (tgt := 6) dX1_verdict_119 (by decide) ?_
              refine J_drop (ls2 := [some (.ref 58), some (.ref r), some (.int (zI (z34 + 1))), none, none]) [true, true, true, false, false] rfl ?_
              exact ih6 (z34 + 1) ht_6 br_6 hl_6 le_6 ba_6 tk_6 kk_6 (v_797a0596d0 i6_0 h35.1) (v_1e73b16a5c h36) i6_2 i6_3 i6_4 i6_5 i6_6 i6_7 i6_8 i6_9 i6_10 i6_11 i6_12 i6_13 (meas_lt (v_a969c14ad4 h35.1) (v_8b7dd7d486 h1) hm6)
          · refine J_iload_n dX1_verdict_46 rfl rfl ?_
            refine Z_bipush (n := 11) dX1_verdict_47 (by decide +kernel) ?_
            refine Z_icmp_ne (tgt := 109) dX1_verdict_49 (by decide) (v_62f826df90 h15.1 h19) v_d58e110b81 (fun h37 => ?_) (fun h37 => ?_)
            · refine J_aload_n dX1_verdict_109 rfl rfl ?_
              refine J_iload_n dX1_verdict_110 rfl rfl ?_
              refine J_iload dX1_verdict_111 rfl ?_
              refine J_callV (st := []) dX1_verdict_113 cv_X1_54 (j_run z13 z16 ht_6 br_6 hl_6 le_6 ba_6 tk_6 kk_6 wf h14 h17 q3 i6_2 i6_3 i6_4 i6_5 i6_6 i6_7 i6_8 i6_9 i6_10 i6_11 i6_12 i6_13 rfl rfl hk59) rfl rfl rfl (Nat.le_of_ble_eq_true rfl) ⟨(Nat.le_of_ble_eq_true rfl), (Nat.le_of_ble_eq_true rfl)⟩ ⟨(Nat.le_of_ble_eq_true rfl), (Nat.le_of_ble_eq_true rfl)⟩ (fun r h9 hp => ?_)
              obtain ⟨z38, z39, f40, rfl, rfl, h41, h42, h43, h44⟩ := hp
              refine J_nf (nh2 := nh) (ck2 := 0) (sk2 := 0) (st2 := []) rfl rfl rfl rfl ?_
              refine J_app (L3 := [(58, .inr (1, [.ref 59, .ref 60, .int (zI z38), .int (zI z39), .int (zI hl_6), .int (zI le_6), .int (zI ba_6), .int (zI tk_6)])), (60, .inl (1, 64, .inr (.inl (zAL f40)))), (60, .inl (1, 64, .inr (.inl (zAL kk_6)))), (58, .inr (1, [.ref 59, .ref 60, .int (zI ht_6), .int (zI br_6), .int (zI hl_6), .int (zI le_6), .int (zI ba_6), .int (zI tk_6)]))]) rfl ?_
              refine J_mask (L2 := [(58, .inr (1, [.ref 59, .ref 60, .int (zI z38), .int (zI z39), .int (zI hl_6), .int (zI le_6), .int (zI ba_6), .int (zI tk_6)])), (60, .inl (1, 64, .inr (.inl (zAL f40))))]) (ks := [58, 60, 60, 58]) [true, true, false, false] rfl (by decide +kernel) rfl ?_
              refine Z_iinc (c := at_6 + 1) (ls2 := [some (.ref 58), some (.ref r), some (.int (zI (at_6 + 1))), some (.int (zI z13)), some (.int (zI z16))]) dX1_verdict_116 rfl (Nat.le_of_ble_eq_true rfl) rfl rfl rfl ?_
              refine J_goto (tgt := 6) dX1_verdict_119 (by decide) ?_
              refine J_touch (k := 58) (e := .inr (1, [.ref 59, .ref 60, .int (zI z38), .int (zI z39), .int (zI hl_6), .int (zI le_6), .int (zI ba_6), .int (zI tk_6)])) rfl ?_
              refine J_touch (k := 60) (e := .inl (1, 64, .inr (.inl (zAL f40)))) rfl ?_
              refine J_mask (L2 := [(60, .inl (1, 64, .inr (.inl (zAL f40)))), (58, .inr (1, [.ref 59, .ref 60, .int (zI z38), .int (zI z39), .int (zI hl_6), .int (zI le_6), .int (zI ba_6), .int (zI tk_6)]))]) (ks := [60, 58, 58, 60]) [true, true, false, false] rfl (by decide +kernel) rfl ?_
              refine J_drop (ls2 := [some (.ref 58), some (.ref r), some (.int (zI (at_6 + 1))), none, none]) [true, true, true, false, false] rfl ?_
              exact ih6 (at_6 + 1) z38 z39 hl_6 le_6 ba_6 tk_6 f40 (v_da458fa48a i6_0) (v_e94bc95826 q1 h1) h41 h42 h43 h44 i6_6 i6_7 i6_8 i6_9 i6_10 i6_11 i6_12 i6_13 (meas_lt v_90eacd6fd4 (v_8b7dd7d486 h1) hm6)
            · refine J_aload_n dX1_verdict_52 rfl rfl ?_
              refine J_callV (st := []) dX1_verdict_53 cv_X1_44 (j_top ht_6 br_6 hl_6 le_6 ba_6 tk_6 kk_6 i6_2 i6_3 i6_4 i6_5 i6_6 i6_7 i6_8 i6_9 i6_10 i6_11 i6_12 i6_13 rfl rfl) rfl rfl rfl (Nat.le_of_ble_eq_true rfl) ⟨(Nat.le_of_ble_eq_true rfl), (Nat.le_of_ble_eq_true rfl)⟩ ⟨(Nat.le_of_ble_eq_true rfl), (Nat.le_of_ble_eq_true rfl)⟩ (fun r h9 hp => ?_)
              obtain ⟨z45, rfl, rfl, h46⟩ := hp
              refine J_nf (nh2 := nh) (ck2 := 0) (sk2 := 0) (st2 := [.long (zL z45)]) rfl rfl rfl rfl ?_
              refine J_lconst (v := zL 0) dX1_verdict_56 (by decide +kernel) ?_
              refine Y_lcmp dX1_verdict_57 (v_082ba2fd17 h46) v_648c9410ae (fun z47 z47a z47b z47c z47d => ?_)
              refine Z_if_eq (tgt := 65) dX1_verdict_58 (by decide) (v_51ccf7ebfa z47a z47b) (fun h48 => ?_) (fun h48 => ?_)
              · have h49 : z45 = 0 := by omega
                refine Z_iconst (n := 0) dX1_verdict_65 ?_
                refine J_iload_n dX1_verdict_66 rfl rfl ?_
                refine Z_bipush (n := 10) dX1_verdict_67 (by decide +kernel) ?_
                refine Z_icmp_ne (tgt := 76) dX1_verdict_69 (by decide) (v_5ffbb452f1 h19 h37) v_2388fd5833 (fun h50 => ?_) (fun h50 => absurd h50 (v_9426cb96a7 h37))
                refine Z_iconst (n := 0) dX1_verdict_76 ?_
                refine Z_icmp_ne (tgt := 92) dX1_verdict_77 (by decide) v_b17331891f v_b17331891f (fun h51 => absurd h51 (fun q => q v_2ca2bbca1f)) (fun h51 => ?_)
                refine J_iload_n dX1_verdict_80 rfl rfl ?_
                refine J_iload dX1_verdict_81 rfl ?_
                refine Z_iconst (n := 1) dX1_verdict_83 ?_
                refine Z_isub (c := z16 - 1) dX1_verdict_84 rfl ?_
                obtain ⟨z52, ez52⟩ : ∃ z : Int, max at_6 (z16 - 1) = z := ⟨_, rfl⟩
                refine J_mmax (z := zI z52) dX1_verdict_85 (jt4 143 rfl rfl) (jt4 144 rfl rfl) (jt1 19 rfl rfl) (jt4 145 rfl rfl) (Nat.le_of_ble_eq_true rfl) (Nat.le_of_ble_eq_true rfl) (Nat.le_of_ble_eq_true rfl) (Nat.le_of_ble_eq_true rfl) (by rw [zI_max (v_e6f0527522 i6_0 i6_1) (v_0800612b1c h12.1 h17 h18.2), ez52]) ?_
                have h53 : at_6 ≤ z52 ∧ z16 - 1 ≤ z52 ∧ (z52 = at_6 ∨ z52 = z16 - 1) := by omega
                have h54 : z52 ≤ 67108864 := by omega
                refine J_istore_n dX1_verdict_88 rfl (Nat.le_of_ble_eq_true rfl) rfl ?_
                refine J_ls (ls2 := [some (.ref 58), some (.ref r), some (.int (zI z52)), some (.int (zI z13)), some (.int (zI z16))]) rfl ?_
                refine J_goto (tgt := 116) dX1_verdict_89 (by decide) ?_
                refine Z_iinc (c := z52 + 1) (ls2 := [some (.ref 58), some (.ref r), some (.int (zI (z52 + 1))), some (.int (zI z13)), some (.int (zI z16))]) dX1_verdict_116 rfl (Nat.le_of_ble_eq_true rfl) rfl rfl rfl ?_
                refine J_goto (tgt := 6) dX1_verdict_119 (by decide) ?_
                refine J_drop (ls2 := [some (.ref 58), some (.ref r), some (.int (zI (z52 + 1))), none, none]) [true, true, true, false, false] rfl ?_
                exact ih6 (z52 + 1) ht_6 br_6 hl_6 le_6 ba_6 tk_6 kk_6 (v_797a0596d0 i6_0 h53.1) (v_1e73b16a5c h54) i6_2 i6_3 i6_4 i6_5 i6_6 i6_7 i6_8 i6_9 i6_10 i6_11 i6_12 i6_13 (meas_lt (v_a969c14ad4 h53.1) (v_8b7dd7d486 h1) hm6)
              · have h55 : ¬ z45 = 0 := by omega
                refine Z_iconst (n := 1) dX1_verdict_61 ?_
                refine J_goto (tgt := 66) dX1_verdict_62 (by decide) ?_
                refine J_iload_n dX1_verdict_66 rfl rfl ?_
                refine Z_bipush (n := 10) dX1_verdict_67 (by decide +kernel) ?_
                refine Z_icmp_ne (tgt := 76) dX1_verdict_69 (by decide) (v_5ffbb452f1 h19 h37) v_2388fd5833 (fun h56 => ?_) (fun h56 => absurd h56 (v_9426cb96a7 h37))
                refine Z_iconst (n := 0) dX1_verdict_76 ?_
                refine Z_icmp_ne (tgt := 92) dX1_verdict_77 (by decide) v_4dcc24baa7 v_b17331891f (fun h57 => ?_) (fun h57 => absurd h57 v_3a47bfd896)
                refine J_aload_n dX1_verdict_92 rfl rfl ?_
                refine Z_iconst (n := 0) dX1_verdict_93 ?_
                refine J_aload_n dX1_verdict_94 rfl rfl ?_
                refine J_get (v := .int (zI ht_6)) dX1_verdict_95 fl_X1_17 rfl rfl ?_
                refine Z_iconst (n := 1) dX1_verdict_98 ?_
                refine Z_isub (c := ht_6 - 1) dX1_verdict_99 rfl ?_
                obtain ⟨z58, ez58⟩ : ∃ z : Int, max 0 (ht_6 - 1) = z := ⟨_, rfl⟩
                refine J_mmax (z := zI z58) dX1_verdict_100 (jt4 143 rfl rfl) (jt4 144 rfl rfl) (jt1 19 rfl rfl) (jt4 145 rfl rfl) (Nat.le_of_ble_eq_true rfl) (Nat.le_of_ble_eq_true rfl) (Nat.le_of_ble_eq_true rfl) (Nat.le_of_ble_eq_true rfl) (by rw [zI_max v_b17331891f (v_c2f7ff7d04 i6_2 i6_3), ez58]) ?_
                have h59 : 0 ≤ z58 ∧ ht_6 - 1 ≤ z58 ∧ (z58 = 0 ∨ z58 = ht_6 - 1) := by omega
                have h60 : z58 ≤ 63 := by omega
                refine K_put (fs2 := [.ref 59, .ref 60, .int (zI z58), .int (zI br_6), .int (zI hl_6), .int (zI le_6), .int (zI ba_6), .int (zI tk_6)]) dX1_verdict_103 fw_X1_17 rfl (Nat.le_of_ble_eq_true rfl) (fun _ => ⟨rfl, rfl⟩) rfl ?_
                refine J_goto (tgt := 116) dX1_verdict_106 (by decide) ?_
                refine Z_iinc (c := at_6 + 1) (ls2 := [some (.ref 58), some (.ref r), some (.int (zI (at_6 + 1))), some (.int (zI z13)), some (.int (zI z16))]) dX1_verdict_116 rfl (Nat.le_of_ble_eq_true rfl) rfl rfl rfl ?_
                refine J_goto (tgt := 6) dX1_verdict_119 (by decide) ?_
                refine J_mask (L2 := [(58, .inr (1, [.ref 59, .ref 60, .int (zI z58), .int (zI br_6), .int (zI hl_6), .int (zI le_6), .int (zI ba_6), .int (zI tk_6)])), (60, .inl (1, 64, .inr (.inl (zAL kk_6))))]) (ks := [58, 60, 58]) [true, true, false] rfl (by decide +kernel) rfl ?_
                refine J_touch (k := 58) (e := .inr (1, [.ref 59, .ref 60, .int (zI z58), .int (zI br_6), .int (zI hl_6), .int (zI le_6), .int (zI ba_6), .int (zI tk_6)])) rfl ?_
                refine J_touch (k := 60) (e := .inl (1, 64, .inr (.inl (zAL kk_6)))) rfl ?_
                refine J_mask (L2 := [(60, .inl (1, 64, .inr (.inl (zAL kk_6)))), (58, .inr (1, [.ref 59, .ref 60, .int (zI z58), .int (zI br_6), .int (zI hl_6), .int (zI le_6), .int (zI ba_6), .int (zI tk_6)]))]) (ks := [60, 58, 58, 60]) [true, true, false, false] rfl (by decide +kernel) rfl ?_
                refine J_drop (ls2 := [some (.ref 58), some (.ref r), some (.int (zI (at_6 + 1))), none, none]) [true, true, true, false, false] rfl ?_
                exact ih6 (at_6 + 1) z58 br_6 hl_6 le_6 ba_6 tk_6 kk_6 (v_da458fa48a i6_0) (v_e94bc95826 q1 h1) h59.1 (v_d1c5b1b617 h60) i6_4 i6_5 i6_6 i6_7 i6_8 i6_9 i6_10 i6_11 i6_12 i6_13 (meas_lt v_90eacd6fd4 (v_8b7dd7d486 h1) hm6)
        · refine J_aload_n dX1_verdict_32 rfl rfl ?_
          refine J_iload_n dX1_verdict_33 rfl rfl ?_
          refine J_callV (st := []) dX1_verdict_34 cv_X1_40 (j_close z13 ht_6 br_6 hl_6 le_6 ba_6 tk_6 kk_6 h14 i6_2 i6_3 i6_4 i6_5 i6_6 i6_7 i6_8 i6_9 i6_10 i6_11 i6_12 i6_13 rfl rfl) rfl rfl rfl (Nat.le_of_ble_eq_true rfl) ⟨(Nat.le_of_ble_eq_true rfl), (Nat.le_of_ble_eq_true rfl)⟩ ⟨(Nat.le_of_ble_eq_true rfl), (Nat.le_of_ble_eq_true rfl)⟩ (fun r h9 hp => ?_)
          obtain ⟨z61, z62, z63, z64, z65, z66, rfl, rfl, h67, h68, h69, h70, h71, h72, h73, h74, h75, h76, h77, h78⟩ := hp
          refine J_nf (nh2 := nh) (ck2 := 0) (sk2 := 0) (st2 := []) rfl rfl rfl rfl ?_
          refine J_app (L3 := [(58, .inr (1, [.ref 59, .ref 60, .int (zI z61), .int (zI z62), .int (zI z63), .int (zI z64), .int (zI z65), .int (zI z66)])), (60, .inl (1, 64, .inr (.inl (zAL kk_6)))), (58, .inr (1, [.ref 59, .ref 60, .int (zI ht_6), .int (zI br_6), .int (zI hl_6), .int (zI le_6), .int (zI ba_6), .int (zI tk_6)]))]) rfl ?_
          refine J_mask (L2 := [(58, .inr (1, [.ref 59, .ref 60, .int (zI z61), .int (zI z62), .int (zI z63), .int (zI z64), .int (zI z65), .int (zI z66)])), (60, .inl (1, 64, .inr (.inl (zAL kk_6))))]) (ks := [58, 60, 58]) [true, true, false] rfl (by decide +kernel) rfl ?_
          refine J_goto (tgt := 116) dX1_verdict_37 (by decide) ?_
          refine Z_iinc (c := at_6 + 1) (ls2 := [some (.ref 58), some (.ref r), some (.int (zI (at_6 + 1))), some (.int (zI z13)), some (.int (zI z16))]) dX1_verdict_116 rfl (Nat.le_of_ble_eq_true rfl) rfl rfl rfl ?_
          refine J_goto (tgt := 6) dX1_verdict_119 (by decide) ?_
          refine J_touch (k := 58) (e := .inr (1, [.ref 59, .ref 60, .int (zI z61), .int (zI z62), .int (zI z63), .int (zI z64), .int (zI z65), .int (zI z66)])) rfl ?_
          refine J_touch (k := 60) (e := .inl (1, 64, .inr (.inl (zAL kk_6)))) rfl ?_
          refine J_mask (L2 := [(60, .inl (1, 64, .inr (.inl (zAL kk_6)))), (58, .inr (1, [.ref 59, .ref 60, .int (zI z61), .int (zI z62), .int (zI z63), .int (zI z64), .int (zI z65), .int (zI z66)]))]) (ks := [60, 58, 58, 60]) [true, true, false, false] rfl (by decide +kernel) rfl ?_
          refine J_drop (ls2 := [some (.ref 58), some (.ref r), some (.int (zI (at_6 + 1))), none, none]) [true, true, true, false, false] rfl ?_
          exact ih6 (at_6 + 1) z61 z62 z63 z64 z65 z66 kk_6 (v_da458fa48a i6_0) (v_e94bc95826 q1 h1) h67 h68 h69 h70 h71 h72 h73 h74 h75 h76 h77 h78 (meas_lt v_90eacd6fd4 (v_8b7dd7d486 h1) hm6)
  exact lp6 _ 0 0 0 0 0 0 1 kf v_939070ca3f v_9e75938c00 v_939070ca3f v_c663bcd230 v_939070ca3f v_316afd7d0b v_939070ca3f v_316afd7d0b v_939070ca3f v_316afd7d0b v_939070ca3f v_316afd7d0b v_bbcfac9b7d v_561ce076da (Nat.lt_succ_self _)
