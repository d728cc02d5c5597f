abbrev MX0_many : jM := (RX0, cX0_many, 1, some .int, false)
set_option maxRecDepth 20000 in
theorem iX0_at : ∀ k : Nat, k < 4 → u_lay RX0 TX0 k ∈ jtb
  | 0, _ => jt1 110 rfl rfl
  | 1, _ => jt1 112 rfl rfl
  | 2, _ => jt1 114 rfl rfl
  | 3, _ => jt1 116 rfl rfl
  | (n + 4), h => absurd h (by omega)
theorem iX0 : ∀ w ∈ u_ws RX0 TX0 4, w ∈ jtb := fun w hw => by
  obtain ⟨k, hk, rfl⟩ := List.mem_map.mp hw
  exact iX0_at k (List.mem_range.mp hk)
theorem fl_X0_18 : jFL RX0 18 0 2 := ⟨_, _, _, rfl, iX0, by decide, Or.inl (jt1 108 rfl rfl)⟩
abbrev MX0_places : jM := (RX0, cX0_places, 1, some .int, false)
theorem fl_X0_22 : jFL RX0 22 0 3 := ⟨_, _, _, rfl, iX0, by decide, Or.inl (jt1 109 rfl rfl)⟩
abbrev MX0_has : jM := (RX0, cX0_has, 2, some .boolean, false)
abbrev MX0_rowOf : jM := (RX0, cX0_rowOf, 2, some .int, false)
theorem cv_X0_41 : jCV RX0 41 0 yX0_has MX0_has 1 := ⟨_, _, rfl, (jt3 76 rfl rfl), (jt3 74 rfl rfl), (jt3 75 rfl rfl), (jt1 3 rfl rfl), ⟨by decide, by decide, by decide +kernel⟩, Or.inl (jt3 85 rfl rfl)⟩
theorem fl_X0_9 : jFL RX0 9 0 0 := ⟨_, _, _, rfl, iX0, by decide, Or.inl (jt1 106 rfl rfl)⟩
abbrev MX0_shiftOf : jM := (RX0, cX0_shiftOf, 2, some .int, false)
abbrev MX0_colourAt : jM := (RX0, cX0_colourAt, 2, some .int, false)
abbrev MX0_behind : jM := (RX0, cX0_behind, 2, some .int, false)
abbrev MX0_changeBeads : jM := (RX0, cX0_changeBeads, 4, none, false)
theorem fl_X0_15 : jFL RX0 15 0 1 := ⟨_, _, _, rfl, iX0, by decide, Or.inl (jt1 107 rfl rfl)⟩
abbrev MX0_find : jM := (RX0, cX0_find, 5, some .int, false)
abbrev MX0_nextOrder : jM := (RX0, cX0_nextOrder, 5, some .boolean, false)
theorem cv_X0_37 : jCV RX0 37 0 yX0_changeBeads MX0_changeBeads 2 := ⟨_, _, rfl, (jt2 209 rfl rfl), (jt2 208 rfl rfl), (jtp (q := (⟨"BeanStreet$Houses", "changeBeads", "(II)V"⟩, 4)) (List.mem_of_getElem? (i := 2) rfl)), (jt1 3 rfl rfl), ⟨by decide, by decide, by decide +kernel⟩, Or.inl (jt2 206 rfl rfl)⟩
abbrev MX0_packed : jM := (RX0, cX0_packed, 3, some .int, false)
theorem cs_X0_33 : jCS RX0 33 yX0_behind MX0_behind 2 := ⟨(jt2 201 rfl rfl), (jt2 200 rfl rfl), (jt1 3 rfl rfl), ⟨by decide, by decide, by decide +kernel⟩, Or.inl (jt2 199 rfl rfl)⟩
abbrev MX0_settle : jM := (RX0, cX0_settle, 4, none, false)
theorem fw_X0_22 : jFW RX0 22 0 3 (.int) false := ⟨_, _, _, tyX0, rfl, iX0, tyX0_ok, nmX0, by decide, rfl, rfl, (fun h => by cases h), Or.inl (jt1 109 rfl rfl)⟩
theorem fw_X0_18 : jFW RX0 18 0 2 (.int) false := ⟨_, _, _, tyX0, rfl, iX0, tyX0_ok, nmX0, by decide, rfl, rfl, (fun h => by cases h), Or.inl (jt1 108 rfl rfl)⟩
theorem cv_X0_25 : jCV RX0 25 0 yX0_packed MX0_packed 0 := ⟨_, _, rfl, (jt2 198 rfl rfl), (jt2 197 rfl rfl), (jtp (q := (⟨"BeanStreet$Houses", "packed", "()I"⟩, 4)) (List.mem_of_getElem? (i := 0) rfl)), (jt1 3 rfl rfl), ⟨by decide, by decide, by decide +kernel⟩, Or.inl (jt2 195 rfl rfl)⟩
theorem cv_X0_29 : jCV RX0 29 0 yX0_nextOrder MX0_nextOrder 0 := ⟨_, _, rfl, (jt2 205 rfl rfl), (jt2 204 rfl rfl), (jtp (q := (⟨"BeanStreet$Houses", "nextOrder", "()Z"⟩, 4)) (List.mem_of_getElem? (i := 1) rfl)), (jt1 3 rfl rfl), ⟨by decide, by decide, by decide +kernel⟩, Or.inl (jt2 202 rfl rfl)⟩
abbrev MX0_exchanged : jM := (RX0, cX0_exchanged, 4, some .int, false)
theorem cs_X0_45 : jCS RX0 45 yX0_colourAt MX0_colourAt 2 := ⟨(jt3 92 rfl rfl), (jt3 91 rfl rfl), (jt1 3 rfl rfl), ⟨by decide, by decide, by decide +kernel⟩, Or.inl (jt3 90 rfl rfl)⟩
abbrev MX0_turned : jM := (RX0, cX0_turned, 4, some .int, false)
theorem cv_X0_48 : jCV RX0 48 0 yX0_shiftOf MX0_shiftOf 1 := ⟨_, _, rfl, (jt3 89 rfl rfl), (jt3 87 rfl rfl), (jt3 88 rfl rfl), (jt1 3 rfl rfl), ⟨by decide, by decide, by decide +kernel⟩, Or.inl (jt3 86 rfl rfl)⟩
abbrev MX0_codeOf : jM := (RX0, cX0_codeOf, 4, some .int, false)
theorem cv_X0_52 : jCV RX0 52 0 yX0_rowOf MX0_rowOf 1 := ⟨_, _, rfl, (jt3 84 rfl rfl), (jt3 82 rfl rfl), (jt3 83 rfl rfl), (jt1 3 rfl rfl), ⟨by decide, by decide, by decide +kernel⟩, Or.inl (jt3 81 rfl rfl)⟩
abbrev MX0_withCode : jM := (RX0, cX0_withCode, 5, some .int, false)
theorem cv_X0_55 : jCV RX0 55 0 yX0_find MX0_find 1 := ⟨_, _, rfl, (jt3 104 rfl rfl), (jt3 102 rfl rfl), (jt3 103 rfl rfl), (jt1 3 rfl rfl), ⟨by decide, by decide, by decide +kernel⟩, Or.inl (jt3 101 rfl rfl)⟩
abbrev MX0_backwardOf : jM := (RX0, cX0_backwardOf, 4, some .int, false)
abbrev MX0_inversionsOf : jM := (RX0, cX0_inversionsOf, 7, some .int, false)
theorem dX0_many_0 : decode cX0_many 0 = .ok (.aload_n 0, 1) := by decide +kernel
theorem dX0_many_1 : decode cX0_many 1 = .ok (.getfield 18, 3) := by decide +kernel
theorem dX0_many_4 : decode cX0_many 4 = .ok (.ireturn, 1) := by decide +kernel
theorem dX0_places_0 : decode cX0_places 0 = .ok (.aload_n 0, 1) := by decide +kernel
theorem dX0_places_1 : decode cX0_places 1 = .ok (.getfield 22, 3) := by decide +kernel
theorem dX0_places_4 : decode cX0_places 4 = .ok (.ireturn, 1) := by decide +kernel
theorem dX0_has_0 : decode cX0_has 0 = .ok (.iload_n 1, 1) := by decide +kernel
theorem dX0_has_1 : decode cX0_has 1 = .ok (.ifCond .lt 15, 3) := by decide +kernel
theorem dX0_has_16 : decode cX0_has 16 = .ok (.iconst 0, 1) := by decide +kernel
theorem dX0_has_17 : decode cX0_has 17 = .ok (.ireturn, 1) := by decide +kernel
theorem dX0_has_4 : decode cX0_has 4 = .ok (.iload_n 1, 1) := by decide +kernel
theorem dX0_has_5 : decode cX0_has 5 = .ok (.aload_n 0, 1) := by decide +kernel
theorem dX0_has_6 : decode cX0_has 6 = .ok (.getfield 18, 3) := by decide +kernel
theorem dX0_has_9 : decode cX0_has 9 = .ok (.if_icmp .ge 7, 3) := by decide +kernel
theorem dX0_has_12 : decode cX0_has 12 = .ok (.iconst 1, 1) := by decide +kernel
theorem dX0_has_13 : decode cX0_has 13 = .ok (.goto 4, 3) := by decide +kernel
theorem dX0_rowOf_0 : decode cX0_rowOf 0 = .ok (.aload_n 0, 1) := by decide +kernel
theorem dX0_rowOf_1 : decode cX0_rowOf 1 = .ok (.iload_n 1, 1) := by decide +kernel
theorem dX0_rowOf_2 : decode cX0_rowOf 2 = .ok (.invokevirtual 41, 3) := by decide +kernel
theorem dX0_rowOf_5 : decode cX0_rowOf 5 = .ok (.ifCond .eq 12, 3) := by decide +kernel
theorem dX0_rowOf_8 : decode cX0_rowOf 8 = .ok (.aload_n 0, 1) := by decide +kernel
theorem dX0_rowOf_9 : decode cX0_rowOf 9 = .ok (.getfield 9, 3) := by decide +kernel
theorem dX0_rowOf_12 : decode cX0_rowOf 12 = .ok (.iload_n 1, 1) := by decide +kernel
theorem dX0_rowOf_13 : decode cX0_rowOf 13 = .ok (.iaload, 1) := by decide +kernel
theorem dX0_rowOf_14 : decode cX0_rowOf 14 = .ok (.goto 4, 3) := by decide +kernel
theorem dX0_rowOf_18 : decode cX0_rowOf 18 = .ok (.ireturn, 1) := by decide +kernel
theorem dX0_shiftOf_0 : decode cX0_shiftOf 0 = .ok (.iconst 3, 1) := by decide +kernel
theorem dX0_shiftOf_1 : decode cX0_shiftOf 1 = .ok (.aload_n 0, 1) := by decide +kernel
theorem dX0_shiftOf_2 : decode cX0_shiftOf 2 = .ok (.getfield 22, 3) := by decide +kernel
theorem dX0_shiftOf_5 : decode cX0_shiftOf 5 = .ok (.iconst 1, 1) := by decide +kernel
theorem dX0_shiftOf_6 : decode cX0_shiftOf 6 = .ok (.isub, 1) := by decide +kernel
theorem dX0_shiftOf_7 : decode cX0_shiftOf 7 = .ok (.iload_n 1, 1) := by decide +kernel
theorem dX0_shiftOf_8 : decode cX0_shiftOf 8 = .ok (.isub, 1) := by decide +kernel
theorem dX0_shiftOf_9 : decode cX0_shiftOf 9 = .ok (.imul, 1) := by decide +kernel
theorem dX0_shiftOf_10 : decode cX0_shiftOf 10 = .ok (.ireturn, 1) := by decide +kernel
theorem dX0_colourAt_0 : decode cX0_colourAt 0 = .ok (.iload_n 0, 1) := by decide +kernel
theorem dX0_colourAt_1 : decode cX0_colourAt 1 = .ok (.iload_n 1, 1) := by decide +kernel
theorem dX0_colourAt_2 : decode cX0_colourAt 2 = .ok (.ishr, 1) := by decide +kernel
theorem dX0_colourAt_3 : decode cX0_colourAt 3 = .ok (.bipush 7, 2) := by decide +kernel
theorem dX0_colourAt_5 : decode cX0_colourAt 5 = .ok (.iand, 1) := by decide +kernel
theorem dX0_colourAt_6 : decode cX0_colourAt 6 = .ok (.ireturn, 1) := by decide +kernel
theorem dX0_behind_0 : decode cX0_behind 0 = .ok (.iload_n 0, 1) := by decide +kernel
theorem dX0_behind_1 : decode cX0_behind 1 = .ok (.iconst 3, 1) := by decide +kernel
theorem dX0_behind_2 : decode cX0_behind 2 = .ok (.ishl, 1) := by decide +kernel
theorem dX0_behind_3 : decode cX0_behind 3 = .ok (.iload_n 1, 1) := by decide +kernel
theorem dX0_behind_4 : decode cX0_behind 4 = .ok (.ior, 1) := by decide +kernel
theorem dX0_behind_5 : decode cX0_behind 5 = .ok (.ireturn, 1) := by decide +kernel
theorem dX0_changeBeads_0 : decode cX0_changeBeads 0 = .ok (.aload_n 0, 1) := by decide +kernel
theorem dX0_changeBeads_1 : decode cX0_changeBeads 1 = .ok (.getfield 15, 3) := by decide +kernel
theorem dX0_changeBeads_4 : decode cX0_changeBeads 4 = .ok (.iload_n 1, 1) := by decide +kernel
theorem dX0_changeBeads_5 : decode cX0_changeBeads 5 = .ok (.iaload, 1) := by decide +kernel
theorem dX0_changeBeads_6 : decode cX0_changeBeads 6 = .ok (.istore_n 3, 1) := by decide +kernel
theorem dX0_changeBeads_7 : decode cX0_changeBeads 7 = .ok (.aload_n 0, 1) := by decide +kernel
theorem dX0_changeBeads_8 : decode cX0_changeBeads 8 = .ok (.getfield 15, 3) := by decide +kernel
theorem dX0_changeBeads_11 : decode cX0_changeBeads 11 = .ok (.iload_n 1, 1) := by decide +kernel
theorem dX0_changeBeads_12 : decode cX0_changeBeads 12 = .ok (.aload_n 0, 1) := by decide +kernel
theorem dX0_changeBeads_13 : decode cX0_changeBeads 13 = .ok (.getfield 15, 3) := by decide +kernel
theorem dX0_changeBeads_16 : decode cX0_changeBeads 16 = .ok (.iload_n 2, 1) := by decide +kernel
theorem dX0_changeBeads_17 : decode cX0_changeBeads 17 = .ok (.iaload, 1) := by decide +kernel
theorem dX0_changeBeads_18 : decode cX0_changeBeads 18 = .ok (.iastore, 1) := by decide +kernel
theorem dX0_changeBeads_19 : decode cX0_changeBeads 19 = .ok (.aload_n 0, 1) := by decide +kernel
theorem dX0_changeBeads_20 : decode cX0_changeBeads 20 = .ok (.getfield 15, 3) := by decide +kernel
theorem dX0_changeBeads_23 : decode cX0_changeBeads 23 = .ok (.iload_n 2, 1) := by decide +kernel
theorem dX0_changeBeads_24 : decode cX0_changeBeads 24 = .ok (.iload_n 3, 1) := by decide +kernel
theorem dX0_changeBeads_25 : decode cX0_changeBeads 25 = .ok (.iastore, 1) := by decide +kernel
theorem dX0_changeBeads_26 : decode cX0_changeBeads 26 = .ok (.return_, 1) := by decide +kernel
theorem dX0_find_0 : decode cX0_find 0 = .ok (.iconst 0, 1) := by decide +kernel
theorem dX0_find_1 : decode cX0_find 1 = .ok (.istore_n 2, 1) := by decide +kernel
theorem dX0_find_2 : decode cX0_find 2 = .ok (.aload_n 0, 1) := by decide +kernel
theorem dX0_find_3 : decode cX0_find 3 = .ok (.getfield 18, 3) := by decide +kernel
theorem dX0_find_6 : decode cX0_find 6 = .ok (.iconst 1, 1) := by decide +kernel
theorem dX0_find_7 : decode cX0_find 7 = .ok (.isub, 1) := by decide +kernel
theorem dX0_find_8 : decode cX0_find 8 = .ok (.istore_n 3, 1) := by decide +kernel
theorem dX0_find_9 : decode cX0_find 9 = .ok (.iload_n 2, 1) := by decide +kernel
theorem dX0_find_10 : decode cX0_find 10 = .ok (.iload_n 3, 1) := by decide +kernel
theorem dX0_find_11 : decode cX0_find 11 = .ok (.if_icmp .gt 51, 3) := by decide +kernel
theorem dX0_find_62 : decode cX0_find 62 = .ok (.iconst (-1), 1) := by decide +kernel
theorem dX0_find_63 : decode cX0_find 63 = .ok (.ireturn, 1) := by decide +kernel
theorem dX0_find_14 : decode cX0_find 14 = .ok (.iload_n 2, 1) := by decide +kernel
theorem dX0_find_15 : decode cX0_find 15 = .ok (.iload_n 3, 1) := by decide +kernel
theorem dX0_find_16 : decode cX0_find 16 = .ok (.iadd, 1) := by decide +kernel
theorem dX0_find_17 : decode cX0_find 17 = .ok (.iconst 1, 1) := by decide +kernel
theorem dX0_find_18 : decode cX0_find 18 = .ok (.ishr, 1) := by decide +kernel
theorem dX0_find_19 : decode cX0_find 19 = .ok (.istore 4, 2) := by decide +kernel
theorem dX0_find_21 : decode cX0_find 21 = .ok (.aload_n 0, 1) := by decide +kernel
theorem dX0_find_22 : decode cX0_find 22 = .ok (.getfield 9, 3) := by decide +kernel
theorem dX0_find_25 : decode cX0_find 25 = .ok (.iload 4, 2) := by decide +kernel
theorem dX0_find_27 : decode cX0_find 27 = .ok (.iaload, 1) := by decide +kernel
theorem dX0_find_28 : decode cX0_find 28 = .ok (.iload_n 1, 1) := by decide +kernel
theorem dX0_find_29 : decode cX0_find 29 = .ok (.if_icmp .ne 6, 3) := by decide +kernel
theorem dX0_find_35 : decode cX0_find 35 = .ok (.aload_n 0, 1) := by decide +kernel
theorem dX0_find_36 : decode cX0_find 36 = .ok (.getfield 9, 3) := by decide +kernel
theorem dX0_find_39 : decode cX0_find 39 = .ok (.iload 4, 2) := by decide +kernel
theorem dX0_find_41 : decode cX0_find 41 = .ok (.iaload, 1) := by decide +kernel
theorem dX0_find_42 : decode cX0_find 42 = .ok (.iload_n 1, 1) := by decide +kernel
theorem dX0_find_43 : decode cX0_find 43 = .ok (.if_icmp .ge 11, 3) := by decide +kernel
theorem dX0_find_54 : decode cX0_find 54 = .ok (.iload 4, 2) := by decide +kernel
theorem dX0_find_56 : decode cX0_find 56 = .ok (.iconst 1, 1) := by decide +kernel
theorem dX0_find_57 : decode cX0_find 57 = .ok (.isub, 1) := by decide +kernel
theorem dX0_find_58 : decode cX0_find 58 = .ok (.istore_n 3, 1) := by decide +kernel
theorem dX0_find_59 : decode cX0_find 59 = .ok (.goto (-50), 3) := by decide +kernel
theorem dX0_find_46 : decode cX0_find 46 = .ok (.iload 4, 2) := by decide +kernel
theorem dX0_find_48 : decode cX0_find 48 = .ok (.iconst 1, 1) := by decide +kernel
theorem dX0_find_49 : decode cX0_find 49 = .ok (.iadd, 1) := by decide +kernel
theorem dX0_find_50 : decode cX0_find 50 = .ok (.istore_n 2, 1) := by decide +kernel
theorem dX0_find_51 : decode cX0_find 51 = .ok (.goto 8, 3) := by decide +kernel
theorem dX0_find_32 : decode cX0_find 32 = .ok (.iload 4, 2) := by decide +kernel
theorem dX0_find_34 : decode cX0_find 34 = .ok (.ireturn, 1) := by decide +kernel
theorem dX0_nextOrder_0 : decode cX0_nextOrder 0 = .ok (.aload_n 0, 1) := by decide +kernel
theorem dX0_nextOrder_1 : decode cX0_nextOrder 1 = .ok (.getfield 22, 3) := by decide +kernel
theorem dX0_nextOrder_4 : decode cX0_nextOrder 4 = .ok (.iconst 2, 1) := by decide +kernel
theorem dX0_nextOrder_5 : decode cX0_nextOrder 5 = .ok (.isub, 1) := by decide +kernel
theorem dX0_nextOrder_6 : decode cX0_nextOrder 6 = .ok (.istore_n 1, 1) := by decide +kernel
theorem dX0_nextOrder_7 : decode cX0_nextOrder 7 = .ok (.iload_n 1, 1) := by decide +kernel
theorem dX0_nextOrder_8 : decode cX0_nextOrder 8 = .ok (.ifCond .lt 26, 3) := by decide +kernel
theorem dX0_nextOrder_34 : decode cX0_nextOrder 34 = .ok (.iload_n 1, 1) := by decide +kernel
theorem dX0_nextOrder_35 : decode cX0_nextOrder 35 = .ok (.ifCond .ge 5, 3) := by decide +kernel
theorem dX0_nextOrder_38 : decode cX0_nextOrder 38 = .ok (.iconst 0, 1) := by decide +kernel
theorem dX0_nextOrder_39 : decode cX0_nextOrder 39 = .ok (.ireturn, 1) := by decide +kernel
theorem dX0_nextOrder_11 : decode cX0_nextOrder 11 = .ok (.aload_n 0, 1) := by decide +kernel
theorem dX0_nextOrder_12 : decode cX0_nextOrder 12 = .ok (.getfield 15, 3) := by decide +kernel
theorem dX0_nextOrder_15 : decode cX0_nextOrder 15 = .ok (.iload_n 1, 1) := by decide +kernel
theorem dX0_nextOrder_16 : decode cX0_nextOrder 16 = .ok (.iaload, 1) := by decide +kernel
theorem dX0_nextOrder_17 : decode cX0_nextOrder 17 = .ok (.aload_n 0, 1) := by decide +kernel
theorem dX0_nextOrder_18 : decode cX0_nextOrder 18 = .ok (.getfield 15, 3) := by decide +kernel
theorem dX0_nextOrder_21 : decode cX0_nextOrder 21 = .ok (.iload_n 1, 1) := by decide +kernel
theorem dX0_nextOrder_22 : decode cX0_nextOrder 22 = .ok (.iconst 1, 1) := by decide +kernel
theorem dX0_nextOrder_23 : decode cX0_nextOrder 23 = .ok (.iadd, 1) := by decide +kernel
theorem dX0_nextOrder_24 : decode cX0_nextOrder 24 = .ok (.iaload, 1) := by decide +kernel
theorem dX0_nextOrder_25 : decode cX0_nextOrder 25 = .ok (.if_icmp .lt 9, 3) := by decide +kernel
theorem dX0_nextOrder_40 : decode cX0_nextOrder 40 = .ok (.aload_n 0, 1) := by decide +kernel
theorem dX0_nextOrder_41 : decode cX0_nextOrder 41 = .ok (.getfield 22, 3) := by decide +kernel
theorem dX0_nextOrder_44 : decode cX0_nextOrder 44 = .ok (.iconst 1, 1) := by decide +kernel
theorem dX0_nextOrder_45 : decode cX0_nextOrder 45 = .ok (.isub, 1) := by decide +kernel
theorem dX0_nextOrder_46 : decode cX0_nextOrder 46 = .ok (.istore_n 2, 1) := by decide +kernel
theorem dX0_nextOrder_47 : decode cX0_nextOrder 47 = .ok (.iload_n 2, 1) := by decide +kernel
theorem dX0_nextOrder_48 : decode cX0_nextOrder 48 = .ok (.iload_n 1, 1) := by decide +kernel
theorem dX0_nextOrder_49 : decode cX0_nextOrder 49 = .ok (.if_icmp .le 24, 3) := by decide +kernel
theorem dX0_nextOrder_52 : decode cX0_nextOrder 52 = .ok (.aload_n 0, 1) := by decide +kernel
theorem dX0_nextOrder_53 : decode cX0_nextOrder 53 = .ok (.getfield 15, 3) := by decide +kernel
theorem dX0_nextOrder_56 : decode cX0_nextOrder 56 = .ok (.iload_n 2, 1) := by decide +kernel
theorem dX0_nextOrder_57 : decode cX0_nextOrder 57 = .ok (.iaload, 1) := by decide +kernel
theorem dX0_nextOrder_58 : decode cX0_nextOrder 58 = .ok (.aload_n 0, 1) := by decide +kernel
theorem dX0_nextOrder_59 : decode cX0_nextOrder 59 = .ok (.getfield 15, 3) := by decide +kernel
theorem dX0_nextOrder_62 : decode cX0_nextOrder 62 = .ok (.iload_n 1, 1) := by decide +kernel
theorem dX0_nextOrder_63 : decode cX0_nextOrder 63 = .ok (.iaload, 1) := by decide +kernel
theorem dX0_nextOrder_64 : decode cX0_nextOrder 64 = .ok (.if_icmp .gt 9, 3) := by decide +kernel
theorem dX0_nextOrder_73 : decode cX0_nextOrder 73 = .ok (.aload_n 0, 1) := by decide +kernel
theorem dX0_nextOrder_74 : decode cX0_nextOrder 74 = .ok (.iload_n 1, 1) := by decide +kernel
theorem dX0_nextOrder_75 : decode cX0_nextOrder 75 = .ok (.iload_n 2, 1) := by decide +kernel
theorem dX0_nextOrder_76 : decode cX0_nextOrder 76 = .ok (.invokevirtual 37, 3) := by decide +kernel
theorem dX0_nextOrder_79 : decode cX0_nextOrder 79 = .ok (.iload_n 1, 1) := by decide +kernel
theorem dX0_nextOrder_80 : decode cX0_nextOrder 80 = .ok (.iconst 1, 1) := by decide +kernel
theorem dX0_nextOrder_81 : decode cX0_nextOrder 81 = .ok (.iadd, 1) := by decide +kernel
theorem dX0_nextOrder_82 : decode cX0_nextOrder 82 = .ok (.istore_n 3, 1) := by decide +kernel
theorem dX0_nextOrder_83 : decode cX0_nextOrder 83 = .ok (.aload_n 0, 1) := by decide +kernel
theorem dX0_nextOrder_84 : decode cX0_nextOrder 84 = .ok (.getfield 22, 3) := by decide +kernel
theorem dX0_nextOrder_87 : decode cX0_nextOrder 87 = .ok (.iconst 1, 1) := by decide +kernel
theorem dX0_nextOrder_88 : decode cX0_nextOrder 88 = .ok (.isub, 1) := by decide +kernel
theorem dX0_nextOrder_89 : decode cX0_nextOrder 89 = .ok (.istore 4, 2) := by decide +kernel
theorem dX0_nextOrder_91 : decode cX0_nextOrder 91 = .ok (.iload_n 3, 1) := by decide +kernel
theorem dX0_nextOrder_92 : decode cX0_nextOrder 92 = .ok (.iload 4, 2) := by decide +kernel
theorem dX0_nextOrder_94 : decode cX0_nextOrder 94 = .ok (.if_icmp .ge 19, 3) := by decide +kernel
theorem dX0_nextOrder_113 : decode cX0_nextOrder 113 = .ok (.iconst 1, 1) := by decide +kernel
theorem dX0_nextOrder_114 : decode cX0_nextOrder 114 = .ok (.ireturn, 1) := by decide +kernel
theorem dX0_nextOrder_97 : decode cX0_nextOrder 97 = .ok (.aload_n 0, 1) := by decide +kernel
theorem dX0_nextOrder_98 : decode cX0_nextOrder 98 = .ok (.iload_n 3, 1) := by decide +kernel
theorem dX0_nextOrder_99 : decode cX0_nextOrder 99 = .ok (.iload 4, 2) := by decide +kernel
theorem dX0_nextOrder_101 : decode cX0_nextOrder 101 = .ok (.invokevirtual 37, 3) := by decide +kernel
theorem dX0_nextOrder_104 : decode cX0_nextOrder 104 = .ok (.iinc 3 1, 3) := by decide +kernel
theorem dX0_nextOrder_107 : decode cX0_nextOrder 107 = .ok (.iinc 4 (-1), 3) := by decide +kernel
theorem dX0_nextOrder_110 : decode cX0_nextOrder 110 = .ok (.goto (-19), 3) := by decide +kernel
theorem dX0_nextOrder_67 : decode cX0_nextOrder 67 = .ok (.iinc 2 (-1), 3) := by decide +kernel
theorem dX0_nextOrder_70 : decode cX0_nextOrder 70 = .ok (.goto (-23), 3) := by decide +kernel
theorem dX0_nextOrder_28 : decode cX0_nextOrder 28 = .ok (.iinc 1 (-1), 3) := by decide +kernel
theorem dX0_nextOrder_31 : decode cX0_nextOrder 31 = .ok (.goto (-24), 3) := by decide +kernel
theorem dX0_packed_0 : decode cX0_packed 0 = .ok (.iconst 0, 1) := by decide +kernel
theorem dX0_packed_1 : decode cX0_packed 1 = .ok (.istore_n 1, 1) := by decide +kernel
theorem dX0_packed_2 : decode cX0_packed 2 = .ok (.iconst 0, 1) := by decide +kernel
theorem dX0_packed_3 : decode cX0_packed 3 = .ok (.istore_n 2, 1) := by decide +kernel
theorem dX0_packed_4 : decode cX0_packed 4 = .ok (.iload_n 2, 1) := by decide +kernel
theorem dX0_packed_5 : decode cX0_packed 5 = .ok (.aload_n 0, 1) := by decide +kernel
theorem dX0_packed_6 : decode cX0_packed 6 = .ok (.getfield 22, 3) := by decide +kernel
theorem dX0_packed_9 : decode cX0_packed 9 = .ok (.if_icmp .ge 20, 3) := by decide +kernel
theorem dX0_packed_29 : decode cX0_packed 29 = .ok (.iload_n 1, 1) := by decide +kernel
theorem dX0_packed_30 : decode cX0_packed 30 = .ok (.ireturn, 1) := by decide +kernel
theorem dX0_packed_12 : decode cX0_packed 12 = .ok (.iload_n 1, 1) := by decide +kernel
theorem dX0_packed_13 : decode cX0_packed 13 = .ok (.aload_n 0, 1) := by decide +kernel
theorem dX0_packed_14 : decode cX0_packed 14 = .ok (.getfield 15, 3) := by decide +kernel
theorem dX0_packed_17 : decode cX0_packed 17 = .ok (.iload_n 2, 1) := by decide +kernel
theorem dX0_packed_18 : decode cX0_packed 18 = .ok (.iaload, 1) := by decide +kernel
theorem dX0_packed_19 : decode cX0_packed 19 = .ok (.invokestatic 33, 3) := by decide +kernel
theorem dX0_packed_22 : decode cX0_packed 22 = .ok (.istore_n 1, 1) := by decide +kernel
theorem dX0_packed_23 : decode cX0_packed 23 = .ok (.iinc 2 1, 3) := by decide +kernel
theorem dX0_packed_26 : decode cX0_packed 26 = .ok (.goto (-22), 3) := by decide +kernel
theorem dX0_settle_0 : decode cX0_settle 0 = .ok (.aload_n 0, 1) := by decide +kernel
theorem dX0_settle_1 : decode cX0_settle 1 = .ok (.iconst 0, 1) := by decide +kernel
theorem dX0_settle_2 : decode cX0_settle 2 = .ok (.putfield 22, 3) := by decide +kernel
theorem dX0_settle_5 : decode cX0_settle 5 = .ok (.iconst 0, 1) := by decide +kernel
theorem dX0_settle_6 : decode cX0_settle 6 = .ok (.istore_n 2, 1) := by decide +kernel
theorem dX0_settle_7 : decode cX0_settle 7 = .ok (.iload_n 2, 1) := by decide +kernel
theorem dX0_settle_8 : decode cX0_settle 8 = .ok (.iconst 5, 1) := by decide +kernel
theorem dX0_settle_9 : decode cX0_settle 9 = .ok (.if_icmp .ge 53, 3) := by decide +kernel
theorem dX0_settle_62 : decode cX0_settle 62 = .ok (.aload_n 0, 1) := by decide +kernel
theorem dX0_settle_63 : decode cX0_settle 63 = .ok (.iconst 0, 1) := by decide +kernel
theorem dX0_settle_64 : decode cX0_settle 64 = .ok (.putfield 18, 3) := by decide +kernel
theorem dX0_settle_67 : decode cX0_settle 67 = .ok (.iconst 1, 1) := by decide +kernel
theorem dX0_settle_68 : decode cX0_settle 68 = .ok (.istore_n 2, 1) := by decide +kernel
theorem dX0_settle_69 : decode cX0_settle 69 = .ok (.iconst 0, 1) := by decide +kernel
theorem dX0_settle_70 : decode cX0_settle 70 = .ok (.istore_n 3, 1) := by decide +kernel
theorem dX0_settle_71 : decode cX0_settle 71 = .ok (.iload_n 3, 1) := by decide +kernel
theorem dX0_settle_72 : decode cX0_settle 72 = .ok (.sipush 1260, 3) := by decide +kernel
theorem dX0_settle_75 : decode cX0_settle 75 = .ok (.if_icmp .ge 41, 3) := by decide +kernel
theorem dX0_settle_116 : decode cX0_settle 116 = .ok (.return_, 1) := by decide +kernel
theorem dX0_settle_78 : decode cX0_settle 78 = .ok (.iload_n 2, 1) := by decide +kernel
theorem dX0_settle_79 : decode cX0_settle 79 = .ok (.ifCond .eq 37, 3) := by decide +kernel
theorem dX0_settle_82 : decode cX0_settle 82 = .ok (.aload_n 0, 1) := by decide +kernel
theorem dX0_settle_83 : decode cX0_settle 83 = .ok (.getfield 9, 3) := by decide +kernel
theorem dX0_settle_86 : decode cX0_settle 86 = .ok (.aload_n 0, 1) := by decide +kernel
theorem dX0_settle_87 : decode cX0_settle 87 = .ok (.getfield 18, 3) := by decide +kernel
theorem dX0_settle_90 : decode cX0_settle 90 = .ok (.aload_n 0, 1) := by decide +kernel
theorem dX0_settle_91 : decode cX0_settle 91 = .ok (.invokevirtual 25, 3) := by decide +kernel
theorem dX0_settle_94 : decode cX0_settle 94 = .ok (.iastore, 1) := by decide +kernel
theorem dX0_settle_95 : decode cX0_settle 95 = .ok (.aload_n 0, 1) := by decide +kernel
theorem dX0_settle_96 : decode cX0_settle 96 = .ok (.dup, 1) := by decide +kernel
theorem dX0_settle_97 : decode cX0_settle 97 = .ok (.getfield 18, 3) := by decide +kernel
theorem dX0_settle_100 : decode cX0_settle 100 = .ok (.iconst 1, 1) := by decide +kernel
theorem dX0_settle_101 : decode cX0_settle 101 = .ok (.iadd, 1) := by decide +kernel
theorem dX0_settle_102 : decode cX0_settle 102 = .ok (.putfield 18, 3) := by decide +kernel
theorem dX0_settle_105 : decode cX0_settle 105 = .ok (.aload_n 0, 1) := by decide +kernel
theorem dX0_settle_106 : decode cX0_settle 106 = .ok (.invokevirtual 29, 3) := by decide +kernel
theorem dX0_settle_109 : decode cX0_settle 109 = .ok (.istore_n 2, 1) := by decide +kernel
theorem dX0_settle_110 : decode cX0_settle 110 = .ok (.iinc 3 1, 3) := by decide +kernel
theorem dX0_settle_113 : decode cX0_settle 113 = .ok (.goto (-42), 3) := by decide +kernel
theorem dX0_settle_12 : decode cX0_settle 12 = .ok (.iconst 0, 1) := by decide +kernel
theorem dX0_settle_13 : decode cX0_settle 13 = .ok (.istore_n 3, 1) := by decide +kernel
theorem dX0_settle_14 : decode cX0_settle 14 = .ok (.iload_n 3, 1) := by decide +kernel
theorem dX0_settle_15 : decode cX0_settle 15 = .ok (.aload_n 1, 1) := by decide +kernel
theorem dX0_settle_16 : decode cX0_settle 16 = .ok (.iload_n 2, 1) := by decide +kernel
theorem dX0_settle_17 : decode cX0_settle 17 = .ok (.iaload, 1) := by decide +kernel
theorem dX0_settle_18 : decode cX0_settle 18 = .ok (.if_icmp .ge 38, 3) := by decide +kernel
theorem dX0_settle_56 : decode cX0_settle 56 = .ok (.iinc 2 1, 3) := by decide +kernel
theorem dX0_settle_59 : decode cX0_settle 59 = .ok (.goto (-52), 3) := by decide +kernel
theorem dX0_settle_21 : decode cX0_settle 21 = .ok (.aload_n 0, 1) := by decide +kernel
theorem dX0_settle_22 : decode cX0_settle 22 = .ok (.getfield 22, 3) := by decide +kernel
theorem dX0_settle_25 : decode cX0_settle 25 = .ok (.bipush 7, 2) := by decide +kernel
theorem dX0_settle_27 : decode cX0_settle 27 = .ok (.if_icmp .ge 29, 3) := by decide +kernel
theorem dX0_settle_30 : decode cX0_settle 30 = .ok (.aload_n 0, 1) := by decide +kernel
theorem dX0_settle_31 : decode cX0_settle 31 = .ok (.getfield 15, 3) := by decide +kernel
theorem dX0_settle_34 : decode cX0_settle 34 = .ok (.aload_n 0, 1) := by decide +kernel
theorem dX0_settle_35 : decode cX0_settle 35 = .ok (.getfield 22, 3) := by decide +kernel
theorem dX0_settle_38 : decode cX0_settle 38 = .ok (.iload_n 2, 1) := by decide +kernel
theorem dX0_settle_39 : decode cX0_settle 39 = .ok (.iastore, 1) := by decide +kernel
theorem dX0_settle_40 : decode cX0_settle 40 = .ok (.aload_n 0, 1) := by decide +kernel
theorem dX0_settle_41 : decode cX0_settle 41 = .ok (.dup, 1) := by decide +kernel
theorem dX0_settle_42 : decode cX0_settle 42 = .ok (.getfield 22, 3) := by decide +kernel
theorem dX0_settle_45 : decode cX0_settle 45 = .ok (.iconst 1, 1) := by decide +kernel
theorem dX0_settle_46 : decode cX0_settle 46 = .ok (.iadd, 1) := by decide +kernel
theorem dX0_settle_47 : decode cX0_settle 47 = .ok (.putfield 22, 3) := by decide +kernel
theorem dX0_settle_50 : decode cX0_settle 50 = .ok (.iinc 3 1, 3) := by decide +kernel
theorem dX0_settle_53 : decode cX0_settle 53 = .ok (.goto (-39), 3) := by decide +kernel
theorem dX0_exchanged_0 : decode cX0_exchanged 0 = .ok (.iload_n 0, 1) := by decide +kernel
theorem dX0_exchanged_1 : decode cX0_exchanged 1 = .ok (.iload_n 1, 1) := by decide +kernel
theorem dX0_exchanged_2 : decode cX0_exchanged 2 = .ok (.invokestatic 45, 3) := by decide +kernel
theorem dX0_exchanged_5 : decode cX0_exchanged 5 = .ok (.iload_n 0, 1) := by decide +kernel
theorem dX0_exchanged_6 : decode cX0_exchanged 6 = .ok (.iload_n 2, 1) := by decide +kernel
theorem dX0_exchanged_7 : decode cX0_exchanged 7 = .ok (.invokestatic 45, 3) := by decide +kernel
theorem dX0_exchanged_10 : decode cX0_exchanged 10 = .ok (.ixor, 1) := by decide +kernel
theorem dX0_exchanged_11 : decode cX0_exchanged 11 = .ok (.istore_n 3, 1) := by decide +kernel
theorem dX0_exchanged_12 : decode cX0_exchanged 12 = .ok (.iload_n 0, 1) := by decide +kernel
theorem dX0_exchanged_13 : decode cX0_exchanged 13 = .ok (.iload_n 3, 1) := by decide +kernel
theorem dX0_exchanged_14 : decode cX0_exchanged 14 = .ok (.iload_n 1, 1) := by decide +kernel
theorem dX0_exchanged_15 : decode cX0_exchanged 15 = .ok (.ishl, 1) := by decide +kernel
theorem dX0_exchanged_16 : decode cX0_exchanged 16 = .ok (.ixor, 1) := by decide +kernel
theorem dX0_exchanged_17 : decode cX0_exchanged 17 = .ok (.iload_n 3, 1) := by decide +kernel
theorem dX0_exchanged_18 : decode cX0_exchanged 18 = .ok (.iload_n 2, 1) := by decide +kernel
theorem dX0_exchanged_19 : decode cX0_exchanged 19 = .ok (.ishl, 1) := by decide +kernel
theorem dX0_exchanged_20 : decode cX0_exchanged 20 = .ok (.ixor, 1) := by decide +kernel
theorem dX0_exchanged_21 : decode cX0_exchanged 21 = .ok (.ireturn, 1) := by decide +kernel
theorem dX0_turned_0 : decode cX0_turned 0 = .ok (.aload_n 0, 1) := by decide +kernel
theorem dX0_turned_1 : decode cX0_turned 1 = .ok (.getfield 22, 3) := by decide +kernel
theorem dX0_turned_4 : decode cX0_turned 4 = .ok (.iconst 2, 1) := by decide +kernel
theorem dX0_turned_5 : decode cX0_turned 5 = .ok (.if_icmp .ge 5, 3) := by decide +kernel
theorem dX0_turned_10 : decode cX0_turned 10 = .ok (.iload_n 1, 1) := by decide +kernel
theorem dX0_turned_11 : decode cX0_turned 11 = .ok (.aload_n 0, 1) := by decide +kernel
theorem dX0_turned_12 : decode cX0_turned 12 = .ok (.iconst 0, 1) := by decide +kernel
theorem dX0_turned_13 : decode cX0_turned 13 = .ok (.invokevirtual 48, 3) := by decide +kernel
theorem dX0_turned_16 : decode cX0_turned 16 = .ok (.invokestatic 45, 3) := by decide +kernel
theorem dX0_turned_19 : decode cX0_turned 19 = .ok (.istore_n 2, 1) := by decide +kernel
theorem dX0_turned_20 : decode cX0_turned 20 = .ok (.iload_n 1, 1) := by decide +kernel
theorem dX0_turned_21 : decode cX0_turned 21 = .ok (.iconst 1, 1) := by decide +kernel
theorem dX0_turned_22 : decode cX0_turned 22 = .ok (.aload_n 0, 1) := by decide +kernel
theorem dX0_turned_23 : decode cX0_turned 23 = .ok (.iconst 0, 1) := by decide +kernel
theorem dX0_turned_24 : decode cX0_turned 24 = .ok (.invokevirtual 48, 3) := by decide +kernel
theorem dX0_turned_27 : decode cX0_turned 27 = .ok (.ishl, 1) := by decide +kernel
theorem dX0_turned_28 : decode cX0_turned 28 = .ok (.iconst 1, 1) := by decide +kernel
theorem dX0_turned_29 : decode cX0_turned 29 = .ok (.isub, 1) := by decide +kernel
theorem dX0_turned_30 : decode cX0_turned 30 = .ok (.iand, 1) := by decide +kernel
theorem dX0_turned_31 : decode cX0_turned 31 = .ok (.istore_n 3, 1) := by decide +kernel
theorem dX0_turned_32 : decode cX0_turned 32 = .ok (.iload_n 3, 1) := by decide +kernel
theorem dX0_turned_33 : decode cX0_turned 33 = .ok (.iload_n 2, 1) := by decide +kernel
theorem dX0_turned_34 : decode cX0_turned 34 = .ok (.invokestatic 33, 3) := by decide +kernel
theorem dX0_turned_37 : decode cX0_turned 37 = .ok (.ireturn, 1) := by decide +kernel
theorem dX0_turned_8 : decode cX0_turned 8 = .ok (.iload_n 1, 1) := by decide +kernel
theorem dX0_turned_9 : decode cX0_turned 9 = .ok (.ireturn, 1) := by decide +kernel
theorem dX0_codeOf_0 : decode cX0_codeOf 0 = .ok (.iconst 0, 1) := by decide +kernel
theorem dX0_codeOf_1 : decode cX0_codeOf 1 = .ok (.istore_n 2, 1) := by decide +kernel
theorem dX0_codeOf_2 : decode cX0_codeOf 2 = .ok (.iconst 0, 1) := by decide +kernel
theorem dX0_codeOf_3 : decode cX0_codeOf 3 = .ok (.istore_n 3, 1) := by decide +kernel
theorem dX0_codeOf_4 : decode cX0_codeOf 4 = .ok (.iload_n 3, 1) := by decide +kernel
theorem dX0_codeOf_5 : decode cX0_codeOf 5 = .ok (.aload_n 0, 1) := by decide +kernel
theorem dX0_codeOf_6 : decode cX0_codeOf 6 = .ok (.getfield 22, 3) := by decide +kernel
theorem dX0_codeOf_9 : decode cX0_codeOf 9 = .ok (.if_icmp .ge 27, 3) := by decide +kernel
theorem dX0_codeOf_36 : decode cX0_codeOf 36 = .ok (.iload_n 2, 1) := by decide +kernel
theorem dX0_codeOf_37 : decode cX0_codeOf 37 = .ok (.ireturn, 1) := by decide +kernel
theorem dX0_codeOf_12 : decode cX0_codeOf 12 = .ok (.iload_n 2, 1) := by decide +kernel
theorem dX0_codeOf_13 : decode cX0_codeOf 13 = .ok (.iconst 5, 1) := by decide +kernel
theorem dX0_codeOf_14 : decode cX0_codeOf 14 = .ok (.imul, 1) := by decide +kernel
theorem dX0_codeOf_15 : decode cX0_codeOf 15 = .ok (.aload_n 0, 1) := by decide +kernel
theorem dX0_codeOf_16 : decode cX0_codeOf 16 = .ok (.iload_n 1, 1) := by decide +kernel
theorem dX0_codeOf_17 : decode cX0_codeOf 17 = .ok (.invokevirtual 52, 3) := by decide +kernel
theorem dX0_codeOf_20 : decode cX0_codeOf 20 = .ok (.aload_n 0, 1) := by decide +kernel
theorem dX0_codeOf_21 : decode cX0_codeOf 21 = .ok (.iload_n 3, 1) := by decide +kernel
theorem dX0_codeOf_22 : decode cX0_codeOf 22 = .ok (.invokevirtual 48, 3) := by decide +kernel
theorem dX0_codeOf_25 : decode cX0_codeOf 25 = .ok (.invokestatic 45, 3) := by decide +kernel
theorem dX0_codeOf_28 : decode cX0_codeOf 28 = .ok (.iadd, 1) := by decide +kernel
theorem dX0_codeOf_29 : decode cX0_codeOf 29 = .ok (.istore_n 2, 1) := by decide +kernel
theorem dX0_codeOf_30 : decode cX0_codeOf 30 = .ok (.iinc 3 1, 3) := by decide +kernel
theorem dX0_codeOf_33 : decode cX0_codeOf 33 = .ok (.goto (-29), 3) := by decide +kernel
theorem dX0_withCode_0 : decode cX0_withCode 0 = .ok (.iload_n 1, 1) := by decide +kernel
theorem dX0_withCode_1 : decode cX0_withCode 1 = .ok (.ifCond .ge 5, 3) := by decide +kernel
theorem dX0_withCode_6 : decode cX0_withCode 6 = .ok (.iload_n 1, 1) := by decide +kernel
theorem dX0_withCode_7 : decode cX0_withCode 7 = .ok (.istore_n 2, 1) := by decide +kernel
theorem dX0_withCode_8 : decode cX0_withCode 8 = .ok (.iconst 0, 1) := by decide +kernel
theorem dX0_withCode_9 : decode cX0_withCode 9 = .ok (.istore_n 3, 1) := by decide +kernel
theorem dX0_withCode_10 : decode cX0_withCode 10 = .ok (.aload_n 0, 1) := by decide +kernel
theorem dX0_withCode_11 : decode cX0_withCode 11 = .ok (.getfield 22, 3) := by decide +kernel
theorem dX0_withCode_14 : decode cX0_withCode 14 = .ok (.iconst 1, 1) := by decide +kernel
theorem dX0_withCode_15 : decode cX0_withCode 15 = .ok (.isub, 1) := by decide +kernel
theorem dX0_withCode_16 : decode cX0_withCode 16 = .ok (.istore 4, 2) := by decide +kernel
theorem dX0_withCode_18 : decode cX0_withCode 18 = .ok (.iload 4, 2) := by decide +kernel
theorem dX0_withCode_20 : decode cX0_withCode 20 = .ok (.ifCond .lt 26, 3) := by decide +kernel
theorem dX0_withCode_46 : decode cX0_withCode 46 = .ok (.iload_n 2, 1) := by decide +kernel
theorem dX0_withCode_47 : decode cX0_withCode 47 = .ok (.ifCond .ne 11, 3) := by decide +kernel
theorem dX0_withCode_58 : decode cX0_withCode 58 = .ok (.iconst (-1), 1) := by decide +kernel
theorem dX0_withCode_59 : decode cX0_withCode 59 = .ok (.ireturn, 1) := by decide +kernel
theorem dX0_withCode_50 : decode cX0_withCode 50 = .ok (.aload_n 0, 1) := by decide +kernel
theorem dX0_withCode_51 : decode cX0_withCode 51 = .ok (.iload_n 3, 1) := by decide +kernel
theorem dX0_withCode_52 : decode cX0_withCode 52 = .ok (.invokevirtual 55, 3) := by decide +kernel
theorem dX0_withCode_55 : decode cX0_withCode 55 = .ok (.goto 4, 3) := by decide +kernel
theorem dX0_withCode_23 : decode cX0_withCode 23 = .ok (.iload_n 3, 1) := by decide +kernel
theorem dX0_withCode_24 : decode cX0_withCode 24 = .ok (.iload_n 2, 1) := by decide +kernel
theorem dX0_withCode_25 : decode cX0_withCode 25 = .ok (.iconst 5, 1) := by decide +kernel
theorem dX0_withCode_26 : decode cX0_withCode 26 = .ok (.irem, 1) := by decide +kernel
theorem dX0_withCode_27 : decode cX0_withCode 27 = .ok (.aload_n 0, 1) := by decide +kernel
theorem dX0_withCode_28 : decode cX0_withCode 28 = .ok (.iload 4, 2) := by decide +kernel
theorem dX0_withCode_30 : decode cX0_withCode 30 = .ok (.invokevirtual 48, 3) := by decide +kernel
theorem dX0_withCode_33 : decode cX0_withCode 33 = .ok (.ishl, 1) := by decide +kernel
theorem dX0_withCode_34 : decode cX0_withCode 34 = .ok (.ior, 1) := by decide +kernel
theorem dX0_withCode_35 : decode cX0_withCode 35 = .ok (.istore_n 3, 1) := by decide +kernel
theorem dX0_withCode_36 : decode cX0_withCode 36 = .ok (.iload_n 2, 1) := by decide +kernel
theorem dX0_withCode_37 : decode cX0_withCode 37 = .ok (.iconst 5, 1) := by decide +kernel
theorem dX0_withCode_38 : decode cX0_withCode 38 = .ok (.idiv, 1) := by decide +kernel
theorem dX0_withCode_39 : decode cX0_withCode 39 = .ok (.istore_n 2, 1) := by decide +kernel
theorem dX0_withCode_40 : decode cX0_withCode 40 = .ok (.iinc 4 (-1), 3) := by decide +kernel
theorem dX0_withCode_43 : decode cX0_withCode 43 = .ok (.goto (-25), 3) := by decide +kernel
theorem dX0_withCode_4 : decode cX0_withCode 4 = .ok (.iconst (-1), 1) := by decide +kernel
theorem dX0_withCode_5 : decode cX0_withCode 5 = .ok (.ireturn, 1) := by decide +kernel
theorem dX0_backwardOf_0 : decode cX0_backwardOf 0 = .ok (.iconst 0, 1) := by decide +kernel
theorem dX0_backwardOf_1 : decode cX0_backwardOf 1 = .ok (.istore_n 2, 1) := by decide +kernel
theorem dX0_backwardOf_2 : decode cX0_backwardOf 2 = .ok (.aload_n 0, 1) := by decide +kernel
theorem dX0_backwardOf_3 : decode cX0_backwardOf 3 = .ok (.getfield 22, 3) := by decide +kernel
theorem dX0_backwardOf_6 : decode cX0_backwardOf 6 = .ok (.iconst 1, 1) := by decide +kernel
theorem dX0_backwardOf_7 : decode cX0_backwardOf 7 = .ok (.isub, 1) := by decide +kernel
theorem dX0_backwardOf_8 : decode cX0_backwardOf 8 = .ok (.istore_n 3, 1) := by decide +kernel
theorem dX0_backwardOf_9 : decode cX0_backwardOf 9 = .ok (.iload_n 3, 1) := by decide +kernel
theorem dX0_backwardOf_10 : decode cX0_backwardOf 10 = .ok (.ifCond .lt 27, 3) := by decide +kernel
theorem dX0_backwardOf_37 : decode cX0_backwardOf 37 = .ok (.aload_n 0, 1) := by decide +kernel
theorem dX0_backwardOf_38 : decode cX0_backwardOf 38 = .ok (.iload_n 2, 1) := by decide +kernel
theorem dX0_backwardOf_39 : decode cX0_backwardOf 39 = .ok (.invokevirtual 55, 3) := by decide +kernel
theorem dX0_backwardOf_42 : decode cX0_backwardOf 42 = .ok (.ireturn, 1) := by decide +kernel
theorem dX0_backwardOf_13 : decode cX0_backwardOf 13 = .ok (.iload_n 2, 1) := by decide +kernel
theorem dX0_backwardOf_14 : decode cX0_backwardOf 14 = .ok (.aload_n 0, 1) := by decide +kernel
theorem dX0_backwardOf_15 : decode cX0_backwardOf 15 = .ok (.iload_n 1, 1) := by decide +kernel
theorem dX0_backwardOf_16 : decode cX0_backwardOf 16 = .ok (.invokevirtual 52, 3) := by decide +kernel
theorem dX0_backwardOf_19 : decode cX0_backwardOf 19 = .ok (.aload_n 0, 1) := by decide +kernel
theorem dX0_backwardOf_20 : decode cX0_backwardOf 20 = .ok (.iload_n 3, 1) := by decide +kernel
theorem dX0_backwardOf_21 : decode cX0_backwardOf 21 = .ok (.invokevirtual 48, 3) := by decide +kernel
theorem dX0_backwardOf_24 : decode cX0_backwardOf 24 = .ok (.invokestatic 45, 3) := by decide +kernel
theorem dX0_backwardOf_27 : decode cX0_backwardOf 27 = .ok (.invokestatic 33, 3) := by decide +kernel
theorem dX0_backwardOf_30 : decode cX0_backwardOf 30 = .ok (.istore_n 2, 1) := by decide +kernel
theorem dX0_backwardOf_31 : decode cX0_backwardOf 31 = .ok (.iinc 3 (-1), 3) := by decide +kernel
theorem dX0_backwardOf_34 : decode cX0_backwardOf 34 = .ok (.goto (-25), 3) := by decide +kernel
theorem dX0_inversionsOf_0 : decode cX0_inversionsOf 0 = .ok (.aload_n 0, 1) := by decide +kernel
theorem dX0_inversionsOf_1 : decode cX0_inversionsOf 1 = .ok (.iload_n 1, 1) := by decide +kernel
theorem dX0_inversionsOf_2 : decode cX0_inversionsOf 2 = .ok (.invokevirtual 52, 3) := by decide +kernel
theorem dX0_inversionsOf_5 : decode cX0_inversionsOf 5 = .ok (.istore_n 2, 1) := by decide +kernel
theorem dX0_inversionsOf_6 : decode cX0_inversionsOf 6 = .ok (.iconst 0, 1) := by decide +kernel
theorem dX0_inversionsOf_7 : decode cX0_inversionsOf 7 = .ok (.istore_n 3, 1) := by decide +kernel
theorem dX0_inversionsOf_8 : decode cX0_inversionsOf 8 = .ok (.iconst 0, 1) := by decide +kernel
theorem dX0_inversionsOf_9 : decode cX0_inversionsOf 9 = .ok (.istore 4, 2) := by decide +kernel
theorem dX0_inversionsOf_11 : decode cX0_inversionsOf 11 = .ok (.iload 4, 2) := by decide +kernel
theorem dX0_inversionsOf_13 : decode cX0_inversionsOf 13 = .ok (.aload_n 0, 1) := by decide +kernel
theorem dX0_inversionsOf_14 : decode cX0_inversionsOf 14 = .ok (.getfield 22, 3) := by decide +kernel
theorem dX0_inversionsOf_17 : decode cX0_inversionsOf 17 = .ok (.if_icmp .ge 60, 3) := by decide +kernel
theorem dX0_inversionsOf_77 : decode cX0_inversionsOf 77 = .ok (.iload_n 3, 1) := by decide +kernel
theorem dX0_inversionsOf_78 : decode cX0_inversionsOf 78 = .ok (.ireturn, 1) := by decide +kernel
theorem dX0_inversionsOf_20 : decode cX0_inversionsOf 20 = .ok (.iload_n 2, 1) := by decide +kernel
theorem dX0_inversionsOf_21 : decode cX0_inversionsOf 21 = .ok (.aload_n 0, 1) := by decide +kernel
theorem dX0_inversionsOf_22 : decode cX0_inversionsOf 22 = .ok (.iload 4, 2) := by decide +kernel
theorem dX0_inversionsOf_24 : decode cX0_inversionsOf 24 = .ok (.invokevirtual 48, 3) := by decide +kernel
theorem dX0_inversionsOf_27 : decode cX0_inversionsOf 27 = .ok (.invokestatic 45, 3) := by decide +kernel
theorem dX0_inversionsOf_30 : decode cX0_inversionsOf 30 = .ok (.istore 5, 2) := by decide +kernel
theorem dX0_inversionsOf_32 : decode cX0_inversionsOf 32 = .ok (.iload 4, 2) := by decide +kernel
theorem dX0_inversionsOf_34 : decode cX0_inversionsOf 34 = .ok (.iconst 1, 1) := by decide +kernel
theorem dX0_inversionsOf_35 : decode cX0_inversionsOf 35 = .ok (.iadd, 1) := by decide +kernel
theorem dX0_inversionsOf_36 : decode cX0_inversionsOf 36 = .ok (.istore 6, 2) := by decide +kernel
theorem dX0_inversionsOf_38 : decode cX0_inversionsOf 38 = .ok (.iload 6, 2) := by decide +kernel
theorem dX0_inversionsOf_40 : decode cX0_inversionsOf 40 = .ok (.aload_n 0, 1) := by decide +kernel
theorem dX0_inversionsOf_41 : decode cX0_inversionsOf 41 = .ok (.getfield 22, 3) := by decide +kernel
theorem dX0_inversionsOf_44 : decode cX0_inversionsOf 44 = .ok (.if_icmp .ge 27, 3) := by decide +kernel
theorem dX0_inversionsOf_71 : decode cX0_inversionsOf 71 = .ok (.iinc 4 1, 3) := by decide +kernel
theorem dX0_inversionsOf_74 : decode cX0_inversionsOf 74 = .ok (.goto (-63), 3) := by decide +kernel
theorem dX0_inversionsOf_47 : decode cX0_inversionsOf 47 = .ok (.iload 5, 2) := by decide +kernel
theorem dX0_inversionsOf_49 : decode cX0_inversionsOf 49 = .ok (.iload_n 2, 1) := by decide +kernel
theorem dX0_inversionsOf_50 : decode cX0_inversionsOf 50 = .ok (.aload_n 0, 1) := by decide +kernel
theorem dX0_inversionsOf_51 : decode cX0_inversionsOf 51 = .ok (.iload 6, 2) := by decide +kernel
theorem dX0_inversionsOf_53 : decode cX0_inversionsOf 53 = .ok (.invokevirtual 48, 3) := by decide +kernel
theorem dX0_inversionsOf_56 : decode cX0_inversionsOf 56 = .ok (.invokestatic 45, 3) := by decide +kernel
theorem dX0_inversionsOf_59 : decode cX0_inversionsOf 59 = .ok (.if_icmp .le 6, 3) := by decide +kernel
theorem dX0_inversionsOf_65 : decode cX0_inversionsOf 65 = .ok (.iinc 6 1, 3) := by decide +kernel
theorem dX0_inversionsOf_68 : decode cX0_inversionsOf 68 = .ok (.goto (-30), 3) := by decide +kernel
theorem dX0_inversionsOf_62 : decode cX0_inversionsOf 62 = .ok (.iinc 3 1, 3) := by decide +kernel
theorem v_b25fa51a85 {a0 : Int} (h0 : zr a0) : zr a0 := by omega
theorem v_939070ca3f : (0 : Int) ≤ 0 := by omega
theorem v_316afd7d0b : (0 : Int) ≤ 1 := by omega
theorem v_edc92e96e6 {a0 : Int} (h0 : zr a0) (h1 : ¬ a0 < 0) : zr a0 := by omega
theorem v_81c6732ede {a0 : Int} (h0 : 1 ≤ a0) (h1 : a0 ≤ 1260) : zr a0 := by omega
theorem v_bbcfac9b7d : (1 : Int) ≤ 1 := by omega
theorem v_b2d8922659 {a0 : Int} (h0 : ¬ a0 < 0) : 0 ≤ a0 := by omega
theorem v_fe9ea41faa {a0 a1 : Int} (h0 : ¬ a0 ≤ a1) : a1 < a0 := by omega
theorem v_23d004c61f {a0 a1 : Int} (h0 : 0 ≤ a0) (h1 : a0 < a1) (h2 : a1 ≤ 1260) : zr a0 := by omega
theorem v_4dcc24baa7 : zr 1 := by omega
theorem v_3a47bfd896 : ¬ (1 : Int) = 0 := by omega
theorem v_2b02420001 {a0 : Int} (h0 : 0 ≤ a0) : 0 ≤ a0 := by omega
theorem v_6251b724b8 {a0 a1 : Int} (h0 : a0 < a1) (h1 : a1 ≤ 1260) : a0 < 1260 := by omega
theorem v_bd0e51d423 {a0 : Int} (h0 : 0 ≤ a0) (h1 : a0 < 0) : False := by omega
theorem v_a9d5190ca0 {a0 a1 : Int} (h0 : a0 < a1) (h1 : a1 ≤ a0) : False := by omega
theorem v_a131ddf654 {a0 a1 : Int} : a0 - 1 - a1 = -a1 + a0 - 1 := by omega
theorem v_db8ce83f8b {a0 a1 : Int} : 3 * (-a0 + a1 - 1) = -3 * a0 + 3 * a1 - 3 := by omega
theorem v_cb730a6342 {a0 a1 : Int} : (-3 * a0 + 3 * a1 - 3) = 3 * a1 - 3 * a0 - 3 := by omega
theorem v_d4360c9026 {a0 : Int} (h0 : a0 < 7) : a0 < 7 := by omega
theorem v_632d2dbe78 {a0 : Int} (h0 : 1 ≤ a0) : 0 ≤ a0 := by omega
theorem v_c458e5b2bb {a0 : Int} : (a0 - 1) < a0 := by omega
theorem v_f19d773874 {a0 : Int} (h0 : 1 ≤ a0) : -1 ≤ (a0 - 1) := by omega
theorem v_c9ca704c4d {a0 a1 : Int} (h0 : a0 ≤ 1260) (h1 : 0 ≤ a1) (h2 : a1 ≤ a0) : zr a1 := by omega
theorem v_e12191796d {a0 a1 : Int} (h0 : a0 ≤ 1260) (h1 : a1 < a0) (h2 : -1 ≤ a1) : zr a1 := by omega
theorem v_4d9e6ac08a : -(1 : Int) ≤ (-1) := by omega
theorem v_7e0ab68801 {a0 : Int} (h0 : 1 ≤ a0) : (-1) < a0 := by omega
theorem v_b9aca61388 {a0 a1 : Int} (h0 : a0 < a1) : a0 < a1 := by omega
theorem v_cb13ccdbf3 {a0 a1 : Int} : a0 + a1 = a1 + a0 := by omega
theorem v_14b8c0977b {a0 a1 a2 : Int} (h0 : a0 ≤ 1260) (h1 : 0 ≤ a1) (h2 : a2 < a0) (h3 : ¬ a2 < a1) : zr ((a2 + a1)) := by omega
theorem v_544379a6ba {a0 a1 a2 : Int} (h0 : 0 ≤ a0) (h1 : ¬ a1 < a0) (h2 : a1 + a0 ≤ 2 * a2 + 1) : 0 ≤ a2 := by omega
theorem v_ec32c4bf5b {a0 a1 a2 a3 : Int} (h0 : a0 ≤ 1260) (h1 : a1 < a0) (h2 : ¬ a1 < a2) (h3 : 2 * a3 ≤ a1 + a2) : a3 < 1260 := by omega
theorem v_f306e1cdb8 {a0 : Int} (h0 : -2147483648 ≤ a0) (h1 : a0 ≤ 2147483647) : zr a0 := by omega
theorem v_2878064f66 {a0 a1 a2 a3 : Int} (h0 : a0 ≤ a1) (h1 : a2 < a1) (h2 : 2 * a3 ≤ a2 + a0) : (a3 - 1) < a1 := by omega
theorem v_bee700607b {a0 a1 a2 : Int} (h0 : 0 ≤ a0) (h1 : ¬ a1 < a0) (h2 : a1 + a0 ≤ 2 * a2 + 1) : -1 ≤ (a2 - 1) := by omega
theorem v_fd07de1527 {a0 a1 : Int} (h0 : ¬ a0 = a1) (h1 : a1 ≤ a0) : a1 < a0 := by omega
theorem v_d97a9bec82 {a0 a1 a2 : Int} (h0 : ¬ a0 < a1) (h1 : 2 * a2 ≤ a0 + a1) : (a2 - 1) - a1 + 1 < (a0 - a1 + 1) := by omega
theorem v_fe53500762 {a0 a1 : Int} (h0 : ¬ a0 < a1) : 0 < a0 - a1 + 1 := by omega
theorem v_3938501a19 {a0 a1 a2 : Int} (h0 : 0 ≤ a0) (h1 : -1 ≤ a1) (h2 : a1 + a0 ≤ 2 * a2 + 1) : 0 ≤ (a2 + 1) := by omega
theorem v_fb8fd4aa0e {a0 a1 a2 a3 : Int} (h0 : a0 ≤ a1) (h1 : a2 < a1) (h2 : 2 * a3 ≤ a2 + a0) : (a3 + 1) ≤ a1 := by omega
theorem v_fba91695d3 {a0 a1 a2 a3 : Int} (h0 : a0 ≤ a1) (h1 : a2 < a1) (h2 : 2 * a3 ≤ a2 + a0) : a3 < a1 := by omega
theorem v_2229405edc {a0 a1 a2 : Int} (h0 : ¬ a0 < a1) (h1 : a0 + a1 ≤ 2 * a2 + 1) : a0 - (a2 + 1) + 1 < (a0 - a1 + 1) := by omega
theorem v_8ae9c72df1 {a0 a1 a2 : Int} (h0 : 0 ≤ a0) (h1 : -1 ≤ a1) (h2 : a1 + a0 ≤ 2 * a2 + 1) : -1 ≤ a2 := by omega
theorem v_cd91a95e4e {a0 a1 : Int} (h0 : a0 = a1) : a0 = a1 := by omega
theorem v_4a6eca51e9 {a0 : Int} (h0 : 0 ≤ a0) : -2 ≤ (a0 - 2) := by omega
theorem v_07753b4338 {a0 : Int} : (a0 - 2) ≤ a0 - 2 := by omega
theorem v_adb6e8f089 {a0 a1 : Int} (h0 : a0 ≤ 7) (h1 : -2 ≤ a1) (h2 : a1 ≤ a0 - 2) : zr a1 := by omega
theorem v_4d146759ca {a0 : Int} (h0 : -2 ≤ a0) (h1 : a0 < 0) : zr a0 := by omega
theorem v_dccefa8cdf {a0 : Int} (h0 : a0 < 0) : ¬ 0 ≤ a0 := by omega
theorem v_8b303f9981 {a0 : Int} (h0 : a0 < 0) : a0 < 0 := by omega
theorem v_cf9035fa57 {a0 a1 : Int} (h0 : a0 ≤ 7) (h1 : a1 ≤ a0 - 2) : a1 < 7 := by omega
theorem v_a3fe6729a2 {a0 : Int} (h0 : ¬ a0 < 0) : 0 ≤ a0 + 1 := by omega
theorem v_4e755f133a {a0 a1 : Int} (h0 : a0 ≤ 7) (h1 : a1 ≤ a0 - 2) : a1 + 1 < 7 := by omega
theorem v_573cdf4e23 {a0 : Int} (h0 : 0 ≤ a0) (h1 : a0 ≤ 4) : zr a0 := by omega
theorem v_a95543211e {a0 a1 : Int} (h0 : a0 ≤ 7) (h1 : a1 ≤ a0 - 2) (h2 : ¬ a1 < 0) : zr a1 := by omega
theorem v_91d63a5ebb {a0 a1 : Int} (h0 : a0 ≤ a1 - 2) : a0 + 1 ≤ (a1 - 1) := by omega
theorem v_efcce80e22 {a0 : Int} : (a0 - 1) ≤ a0 - 1 := by omega
theorem v_512aa482fd {a0 a1 a2 : Int} (h0 : a0 ≤ 7) (h1 : ¬ a1 < 0) (h2 : a1 + 1 ≤ a2) (h3 : a2 ≤ a0 - 1) : zr a2 := by omega
theorem v_463dee90d6 {a0 a1 : Int} (h0 : a0 + 1 ≤ a1) : ¬ a1 ≤ a0 := by omega
theorem v_8aff604d51 {a0 a1 : Int} (h0 : ¬ a0 < 0) (h1 : a0 + 1 ≤ a1) : 0 ≤ a1 := by omega
theorem v_8248ce89ec {a0 a1 : Int} (h0 : a0 ≤ 7) (h1 : a1 ≤ a0 - 1) : a1 < 7 := by omega
theorem v_97c7d6ad5b {a0 : Int} : a0 < (a0 + 1) := by omega
theorem v_7bf0901ef1 {a0 a1 : Int} (h0 : a0 ≤ a1 - 2) : (a0 + 1) ≤ a1 := by omega
theorem v_b3b9f07fb8 {a0 : Int} (h0 : 0 ≤ a0) : -1 ≤ (a0 - 1) := by omega
theorem v_7b89fa2e27 {a0 a1 : Int} : (a0 + 1) + (a1 - 1) = a0 + a1 := by omega
theorem v_02a398b7d0 {a0 a1 a2 : Int} (h0 : a0 ≤ 7) (h1 : ¬ a1 < 0) (h2 : a1 < a2) (h3 : a2 ≤ a0) : zr a2 := by omega
theorem v_370fdddf83 {a0 a1 : Int} (h0 : a0 ≤ 7) (h1 : a1 < a0) (h2 : -1 ≤ a1) : zr a1 := by omega
theorem v_496a0fc3d0 {a0 a1 a2 a3 : Int} (h0 : a0 + a1 = a2 + a3) : a0 + a1 = a2 + 1 + (a3 - 1) := by omega
theorem v_b598cf8bfa {a0 a1 : Int} (h0 : a0 ≤ a1) : ¬ a1 < a0 := by omega
theorem v_02af071399 {a0 a1 : Int} (h0 : a0 ≤ a1) : a0 ≤ a1 - 1 + 1 := by omega
theorem v_309e9c99a4 {a0 a1 : Int} (h0 : a0 < a1) : a0 + 1 ≤ a1 := by omega
theorem v_c66a5668b3 {a0 a1 : Int} (h0 : ¬ a0 < 0) (h1 : a0 < a1) : 0 ≤ a1 := by omega
theorem v_358b0c6646 {a0 a1 a2 : Int} (h0 : a0 ≤ 7) (h1 : a1 < a0) (h2 : ¬ a1 ≤ a2) : a2 < 7 := by omega
theorem v_d46fff44f4 {a0 a1 a2 : Int} (h0 : ¬ a0 < 0) (h1 : a0 < a1) (h2 : ¬ a2 ≤ a1) : 0 ≤ a2 := by omega
theorem v_77953abf68 {a0 a1 : Int} (h0 : a0 ≤ 7) (h1 : a1 < a0) : a1 < 7 := by omega
theorem v_c11a8386d1 {a0 : Int} : a0 + (-1) = a0 - 1 := by omega
theorem v_d6f53c5707 {a0 a1 : Int} (h0 : a0 < a1) : a0 < (a1 + 1) := by omega
theorem v_81fbb4c7b7 {a0 a1 a2 a3 : Int} (h0 : a0 ≤ a1 - 2) (h1 : a2 + a3 = a0 + a1) (h2 : ¬ a3 ≤ a2) : (a2 + 1) ≤ a1 := by omega
theorem v_194e055bf2 {a0 a1 : Int} (h0 : a0 < a1) : (a0 - 1) < a1 := by omega
theorem v_5075923af6 {a0 a1 a2 : Int} (h0 : ¬ a0 < 0) (h1 : a0 < a1) (h2 : ¬ a2 ≤ a1) : -1 ≤ (a2 - 1) := by omega
theorem v_bc3ebe0508 {a0 a1 a2 a3 : Int} (h0 : a0 + a1 = a2 + a3) : (a0 + 1) + (a1 - 1) = a2 + a3 := by omega
theorem v_7157e5c4fa {a0 : Int} : a0 + 1 = a0 + 1 := by omega
theorem v_5dc0ecd203 {a0 a1 : Int} : (a0 - 1) - (a1 + 1) + 8 < (a0 - a1 + 8) := by omega
theorem v_7cb04e7ac0 {a0 a1 : Int} (h0 : ¬ a0 ≤ a1) : 0 < a0 - a1 + 8 := by omega
theorem v_a8d8b48da6 {a0 a1 : Int} (h0 : ¬ a0 < a1) : a1 ≤ a0 := by omega
theorem v_83aaf9715a {a0 a1 : Int} (h0 : a0 ≤ a1 - 1) : (a0 - 1) ≤ a1 - 1 := by omega
theorem v_dfc8f0fdaf {a0 : Int} : (a0 - 1) + 1 < (a0 + 1) := by omega
theorem v_1f78000b33 {a0 a1 : Int} (h0 : ¬ a0 < 0) (h1 : a0 + 1 ≤ a1) : 0 < a1 + 1 := by omega
theorem v_85b24afd50 {a0 : Int} (h0 : ¬ a0 < 0) : -2 ≤ (a0 - 1) := by omega
theorem v_2270b43bd9 {a0 a1 : Int} (h0 : a0 ≤ a1 - 2) : (a0 - 1) ≤ a1 - 2 := by omega
theorem v_134b51b9df {a0 : Int} : (a0 - 1) + 2 < (a0 + 2) := by omega
theorem v_b6e8f60f2e {a0 : Int} (h0 : ¬ a0 < 0) : 0 < a0 + 2 := by omega
theorem v_b17331891f : zr 0 := by omega
theorem v_ee3170dbf0 {a0 a1 : Int} (h0 : a0 ≤ 7) (h1 : 0 ≤ a1) (h2 : a1 ≤ a0) : zr a1 := by omega
theorem v_2ee1de483d {a0 : Int} (h0 : 0 ≤ a0) (h1 : a0 ≤ 7) : zr a0 := by omega
theorem v_5b9403af20 {a0 a1 : Int} (h0 : a0 ≤ a1) (h1 : a1 ≤ a0) : a1 = a0 := by omega
theorem v_3549d48a69 {a0 a1 : Int} (h0 : a0 ≤ 7) (h1 : ¬ a0 ≤ a1) : a1 < 7 := by omega
theorem v_da458fa48a {a0 : Int} (h0 : 0 ≤ a0) : 0 ≤ (a0 + 1) := by omega
theorem v_e390a36114 {a0 a1 : Int} (h0 : ¬ a0 ≤ a1) : (a1 + 1) ≤ a0 := by omega
theorem v_90eacd6fd4 {a0 a1 : Int} : a0 - (a1 + 1) < (a0 - a1) := by omega
theorem v_8b7dd7d486 {a0 a1 : Int} (h0 : ¬ a0 ≤ a1) : 0 < a0 - a1 := by omega
theorem v_17fcbbe8da : (0 : Int) ≤ 5 := by omega
theorem v_9801f0d3f8 : (0 : Int) ≤ 7 := by omega
theorem v_a6208d3904 {a0 : Int} (h0 : 0 ≤ a0) (h1 : a0 ≤ 5) : zr a0 := by omega
theorem v_3961fe0d0d : zr 5 := by omega
theorem v_53b10c1713 {a0 : Int} (h0 : a0 ≤ 5) (h1 : 5 ≤ a0) : a0 = 5 := by omega
theorem v_2ca2bbca1f : (0 : Int) = 0 := by omega
theorem v_653c814585 {a0 : Int} (h0 : 1 ≤ a0) : 0 + 1 ≤ a0 := by omega
theorem v_f403e9520d {a0 : Int} (h0 : a0 ≤ 1260) : a0 ≤ 0 + 1260 * 1 := by omega
theorem v_16210d82de {a0 a1 a2 : Int} (h0 : a0 = a1) (h1 : a0 = a2) : a1 = a2 := by omega
theorem v_36ae6da805 {a0 a1 a2 : Int} (h0 : a0 ≤ 1260) (h1 : 0 ≤ a1) (h2 : 0 ≤ a2) (h3 : a1 + a2 ≤ a0) : zr a1 := by omega
theorem v_4ed7e157d3 : zr 1260 := by omega
theorem v_7fbb390bd8 {a0 a1 a2 a3 : Int} (h0 : a0 ≤ 1260) (h1 : a1 = a2) (h2 : a2 + a3 ≤ a0) (h3 : a0 ≤ a2 + 1260 * a3) (h4 : 1260 ≤ a2) : a1 = a0 := by omega
theorem v_5f10a759cd {a0 : Int} (h0 : 0 ≤ a0) (h1 : a0 ≤ 1) : zr a0 := by omega
theorem v_59cd9a18f0 {a0 a1 a2 a3 : Int} (h0 : a0 = a1) (h1 : a1 + a2 ≤ a3) (h2 : a3 ≤ a1 + 1260 * a2) (h3 : a2 = 0) : a0 = a3 := by omega
theorem v_7d1748b1cc {a0 a1 : Int} (h0 : 0 ≤ a0) (h1 : a1 = a0) : 0 ≤ a1 := by omega
theorem v_e7ecec5d55 {a0 a1 : Int} (h0 : a0 = a1) (h1 : ¬ 1260 ≤ a1) : a0 < 1260 := by omega
theorem v_9c631c66d9 {a0 : Int} (h0 : zr a0) : -2147483648 ≤ a0 := by omega
theorem v_602fda786b {a0 : Int} (h0 : zr a0) : a0 ≤ 2147483647 := by omega
theorem v_8b15499c4b {a0 : Int} (h0 : 0 ≤ a0) (h1 : a0 ≤ 1) (h2 : ¬ a0 = 0) : a0 = 1 := by omega
theorem v_47ad433e4d {a0 a1 : Int} (h0 : a0 = a1) : (a0 + 1) = (a1 + 1) := by omega
theorem v_dc59a041dc {a0 : Int} (h0 : a0 ≤ 7) : a0 ≤ 7 := by omega
theorem v_c44c1d6d32 {a0 : Int} : 1260 - (a0 + 1) < (1260 - a0) := by omega
theorem v_ca84b50ff2 {a0 : Int} (h0 : ¬ 1260 ≤ a0) : 0 < 1260 - a0 := by omega
theorem v_76ab4688c1 {a0 : Int} : a0 = a0 + 0 := by omega
theorem v_122ef500b3 {a0 : Int} (h0 : ¬ 5 ≤ a0) : a0 ≤ 4 := by omega
theorem v_a9de8d4631 {a0 : Int} (h0 : ¬ 5 ≤ a0) : a0 < 5 := by omega
theorem v_1cbf021d6c {a0 a1 a2 : Int} (h0 : 0 ≤ a0) (h1 : 0 ≤ a1) (h2 : a2 = a0 + a1) (h3 : a2 ≤ 7) : zr a1 := by omega
theorem v_3868a63a10 {a0 : Int} (h0 : ¬ 5 ≤ a0) : (a0 + 1) ≤ 5 := by omega
theorem v_4d2fb717f3 {a0 a1 a2 a3 a4 a5 a6 : Int} (h0 : a0 = a1) (h1 : a2 = a1 + a3) (h2 : a3 ≤ a4) (h3 : a4 = a5) (h4 : a5 ≤ a3) (h5 : a6 = a0 + a4) : a6 = a2 := by omega
theorem v_20f1226439 {a0 : Int} : 5 - (a0 + 1) < (5 - a0) := by omega
theorem v_b58bb7b78b {a0 : Int} (h0 : ¬ 5 ≤ a0) : 0 < 5 - a0 := by omega
theorem v_c3fe1a091f : zr 7 := by omega
theorem v_9485c26caf {a0 a1 a2 a3 a4 : Int} (h0 : a0 = a1) (h1 : a2 = a1 + a3) (h2 : a0 + a4 ≤ 7) (h3 : ¬ a4 ≤ a3) : ¬ 7 ≤ a2 := by omega
theorem v_a19a548577 {a0 : Int} (h0 : ¬ 7 ≤ a0) : a0 < 7 := by omega
theorem v_88b65ed625 {a0 a1 a2 : Int} (h0 : a0 = a1 + a2) : (a0 + 1) = a1 + (a2 + 1) := by omega
theorem v_dd5ce0356b {a0 : Int} (h0 : ¬ 7 ≤ a0) : (a0 + 1) ≤ 7 := by omega
theorem v_5525024f24 {a0 a1 a2 a3 : Int} (h0 : a0 = a1) (h1 : 0 ≤ a2) (h2 : a3 = a1 + a2) : a0 ≤ a3 := by omega
theorem v_b1cd41b959 {a0 a1 a2 a3 a4 : Int} (h0 : a0 = a1) (h1 : a2 = a1 + a3) (h2 : ¬ a4 ≤ a3) : a2 < a0 + a4 := by omega
theorem v_5a90fa72ab {a0 a1 a2 : Int} (h0 : a0 = a1) (h1 : ¬ a1 ≤ a2) : (a2 + 1) ≤ a0 := by omega
theorem v_2adab8813b {a0 : Int} : 7 - (a0 + 1) < (7 - a0) := by omega
theorem v_a7b5c24ec8 {a0 a1 a2 : Int} (h0 : 0 ≤ a0) (h1 : a1 = a0 + a2) (h2 : ¬ 7 ≤ a1) : 0 < 7 - a2 := by omega
theorem v_9ea63c5f56 : zr 2 := by omega
theorem v_6136b89256 {a0 a1 : Int} (h0 : a0 ≤ 7) (h1 : 2 ≤ a0) (h2 : a1 = 3 * a0 - 3 * 0 - 3) : zr a1 := by omega
theorem v_9b8f42b01e {a0 a1 : Int} (h0 : a0 ≤ a1) (h1 : a1 ≤ a0) : a0 = a1 := by omega
theorem v_17a439e0e6 {a0 : Int} : a0 * 5 = 5 * a0 := by omega
theorem v_4e1fda5c2f {a0 a1 : Int} (h0 : a0 ≤ 7) (h1 : ¬ a0 ≤ a1) : a1 ≤ 7 := by omega
theorem v_d8240659b1 {a0 a1 a2 : Int} (h0 : a0 ≤ 7) (h1 : 0 ≤ a1) (h2 : ¬ a0 ≤ a1) (h3 : a2 = 3 * a0 - 3 * a1 - 3) : zr a2 := by omega
theorem v_dc6c8b5b14 {a0 a1 a2 : Int} (h0 : a0 = 3 * a1 - 3 * a2 - 3) : a0 = 3 * a1 - 3 * a2 - 3 := by omega
theorem v_6eb70b74d0 {a0 a1 : Int} : (5 * a0 + a1) = 5 * a0 + a1 := by omega
theorem v_aad35d55c1 {a0 a1 : Int} (h0 : a0 ≤ 7) (h1 : -1 ≤ a1) (h2 : a1 < a0) : zr a1 := by omega
theorem v_9e25595c56 {a0 : Int} (h0 : 0 ≤ a0) (h1 : zr a0) : zr a0 := by omega
theorem v_d47f715d39 {a0 : Int} (h0 : 0 ≤ a0) (h1 : ¬ a0 = 0) : ¬ a0 = 0 := by omega
theorem v_bd6c74a791 {a0 : Int} (h0 : 0 ≤ a0) (h1 : a0 = 0) : a0 = 0 := by omega
theorem v_4f729da59d {a0 : Int} (h0 : -1 ≤ a0) : -1 ≤ a0 := by omega
theorem v_9947d9f5ce : (0 : Int) < 5 := by omega
theorem v_347ffa3a47 {a0 a1 : Int} (h0 : a0 ≤ 7) (h1 : a1 < a0) : a1 ≤ 7 := by omega
theorem v_4f7f53223b {a0 : Int} (h0 : ¬ a0 < 0) : -1 ≤ (a0 - 1) := by omega
theorem v_85ec7a9799 {a0 a1 : Int} (h0 : 0 ≤ a0) (h1 : a0 ≤ 5 * a1 + 4) : 0 ≤ a1 := by omega
theorem v_b924689d5d {a0 a1 : Int} (h0 : 0 ≤ a0) (h1 : zr a0) (h2 : 5 * a1 ≤ a0) (h3 : a0 ≤ 5 * a1 + 4) : zr a1 := by omega
theorem v_e451e883c0 {a0 : Int} (h0 : ¬ a0 < 0) : 0 < a0 + 1 := by omega
theorem v_8427911f98 {a0 : Int} (h0 : ¬ 0 ≤ a0) : a0 < 0 := by omega
theorem v_b6b316c074 {a0 a1 a2 : Int} (h0 : a0 ≤ 7) (h1 : a1 < a0) (h2 : ¬ a1 < 0) (h3 : a2 = 3 * a0 - 3 * a1 - 3) : zr a2 := by omega
theorem v_3bdb46b03b {a0 : Int} : a0 + 1 ≤ (a0 + 1) := by omega
theorem v_a1d89844be {a0 a1 a2 : Int} (h0 : a0 ≤ 7) (h1 : 0 ≤ a1) (h2 : a1 + 1 ≤ a2) (h3 : a2 ≤ a0) : zr a2 := by omega
theorem v_d253cb2c59 {a0 a1 : Int} (h0 : 0 ≤ a0) (h1 : a0 + 1 ≤ a1) : 0 ≤ a1 := by omega
theorem v_919d70eacf {a0 a1 a2 a3 : Int} (h0 : a0 ≤ 7) (h1 : 0 ≤ a1) (h2 : a1 + 1 ≤ a2) (h3 : ¬ a0 ≤ a2) (h4 : a3 = 3 * a0 - 3 * a2 - 3) : zr a3 := by omega
theorem v_b108d4967d {a0 a1 : Int} (h0 : a0 + 1 ≤ a1) : a0 + 1 ≤ (a1 + 1) := by omega
theorem v_b4ac995fb8 {a0 a1 : Int} (h0 : a0 + 1 ≤ a1) : a0 < a1 := by omega
set_option maxHeartbeats 4000000 in
set_option maxRecDepth 100000 in
theorem g_many {l : Launch} {G : jG} {nh : Nat} {fh : Nat → Option va_E} (many : Int) (places : Int) (hk51 : fh 51 = some (.inr (0, [.ref 52, .ref 53, .int (zI many), .int (zI places)]))) : JM l G yX0_many MX0_many { frames := 0, cells := 0, slots := 0, locals := 0 } [.ref 51] (nh, fh) (fun rr h9 => rr = some (.int (zI many)) ∧ h9 = (nh, fh)) := by
  refine JM.of (by decide) rfl (fun h => by cases h) (Nat.le_of_ble_eq_true rfl) ⟨0, rfl⟩ ?_
  refine J_hc0 (J_ls (ls2 := [some (.ref 51)]) rfl ?_)
  refine J_aload_n dX0_many_0 rfl rfl ?_
  refine J_get (v := .int (zI many)) dX0_many_1 fl_X0_18 hk51 rfl ?_
  exact J_iret dX0_many_4 rfl rfl (Nat.le_of_ble_eq_true rfl) (Nat.le_of_ble_eq_true rfl) ⟨rfl, rfl⟩
set_option maxHeartbeats 4000000 in
set_option maxRecDepth 100000 in
theorem g_places {l : Launch} {G : jG} {nh : Nat} {fh : Nat → Option va_E} (many : Int) (places : Int) (hk51 : fh 51 = some (.inr (0, [.ref 52, .ref 53, .int (zI many), .int (zI places)]))) : JM l G yX0_places MX0_places { frames := 0, cells := 0, slots := 0, locals := 0 } [.ref 51] (nh, fh) (fun rr h9 => rr = some (.int (zI places)) ∧ h9 = (nh, fh)) := by
  refine JM.of (by decide) rfl (fun h => by cases h) (Nat.le_of_ble_eq_true rfl) ⟨0, rfl⟩ ?_
  refine J_hc0 (J_ls (ls2 := [some (.ref 51)]) rfl ?_)
  refine J_aload_n dX0_places_0 rfl rfl ?_
  refine J_get (v := .int (zI places)) dX0_places_1 fl_X0_22 hk51 rfl ?_
  exact J_iret dX0_places_4 rfl rfl (Nat.le_of_ble_eq_true rfl) (Nat.le_of_ble_eq_true rfl) ⟨rfl, rfl⟩
set_option maxHeartbeats 4000000 in
set_option maxRecDepth 100000 in
theorem g_has {l : Launch} {G : jG} {nh : Nat} {fh : Nat → Option va_E} (x : Int) (many : Int) (places : Int) (q0 : zr x) (q1 : 1 ≤ many) (q2 : many ≤ 1260) (hk51 : fh 51 = some (.inr (0, [.ref 52, .ref 53, .int (zI many), .int (zI places)]))) : JM l G yX0_has MX0_has { frames := 0, cells := 0, slots := 0, locals := 0 } [.ref 51, .int (zI x)] (nh, fh) (fun rr h9 => (rr = some (.int (zI 1)) ∧ h9 = (nh, fh) ∧ (0 ≤ x) ∧ (x < many)) ∨ (rr = some (.int (zI 0)) ∧ h9 = (nh, fh) ∧ (x < 0)) ∨ (rr = some (.int (zI 0)) ∧ h9 = (nh, fh) ∧ (many ≤ x))) := by
  refine JM.of (by decide) rfl (fun h => by cases h) (Nat.le_of_ble_eq_true rfl) ⟨0, rfl⟩ ?_
  refine J_hc0 (J_ls (ls2 := [some (.ref 51), some (.int (zI x))]) rfl ?_)
  refine J_iload_n dX0_has_0 rfl rfl ?_
  refine Z_if_lt (tgt := 16) dX0_has_1 (by decide) (v_b25fa51a85 q0) (fun h1 => ?_) (fun h1 => ?_)
  · refine Z_iconst (n := 0) dX0_has_16 ?_
    exact J_iret dX0_has_17 rfl (jbn v_939070ca3f v_316afd7d0b) (Nat.le_of_ble_eq_true rfl) (Nat.le_of_ble_eq_true rfl) (Or.inr (Or.inl ⟨rfl, rfl, h1⟩))
  · refine J_iload_n dX0_has_4 rfl rfl ?_
    refine J_aload_n dX0_has_5 rfl rfl ?_
    refine J_get (v := .int (zI many)) dX0_has_6 fl_X0_18 hk51 rfl ?_
    refine Z_icmp_ge (tgt := 16) dX0_has_9 (by decide) (v_edc92e96e6 q0 h1) (v_81c6732ede q1 q2) (fun h2 => ?_) (fun h2 => ?_)
    · refine Z_iconst (n := 0) dX0_has_16 ?_
      exact J_iret dX0_has_17 rfl (jbn v_939070ca3f v_316afd7d0b) (Nat.le_of_ble_eq_true rfl) (Nat.le_of_ble_eq_true rfl) (Or.inr (Or.inr ⟨rfl, rfl, h2⟩))
    · refine Z_iconst (n := 1) dX0_has_12 ?_
      refine J_goto (tgt := 17) dX0_has_13 (by decide) ?_
      exact J_iret dX0_has_17 rfl (jbn v_316afd7d0b v_bbcfac9b7d) (Nat.le_of_ble_eq_true rfl) (Nat.le_of_ble_eq_true rfl) (Or.inl ⟨rfl, rfl, (v_b2d8922659 h1), (v_fe9ea41faa h2)⟩)
set_option maxHeartbeats 4000000 in
set_option maxRecDepth 100000 in
theorem g_rowOf {l : Launch} {G : jG} {nh : Nat} {fh : Nat → Option va_E} (x : Int) (many : Int) (places : Int) (rf : Int → Int) (q0 : 0 ≤ x) (q1 : x < many) (q2 : 1 ≤ many) (q3 : many ≤ 1260) (hk51 : fh 51 = some (.inr (0, [.ref 52, .ref 53, .int (zI many), .int (zI places)]))) (hk52 : fh 52 = some (.inl (0, 1260, .inl (zA rf)))) : JM l G yX0_rowOf MX0_rowOf { frames := 1, cells := 0, slots := 0, locals := 21 } [.ref 51, .int (zI x)] (nh, fh) (fun rr h9 => ∃ r : Int, rr = some (.int (zI r)) ∧ h9 = (nh, fh) ∧ (rf x = r)) := by
  refine JM.of (by decide) rfl (fun h => by cases h) (Nat.le_of_ble_eq_true rfl) ⟨0, rfl⟩ ?_
  refine J_hc0 (J_ls (ls2 := [some (.ref 51), some (.int (zI x))]) rfl ?_)
  refine J_aload_n dX0_rowOf_0 rfl rfl ?_
  refine J_iload_n dX0_rowOf_1 rfl rfl ?_
  refine J_callV (st := []) dX0_rowOf_2 cv_X0_41 (g_has x many places (v_23d004c61f q0 q1 q3) q2 q3 hk51) hk51 rfl rfl (Nat.le_of_ble_eq_true rfl) ⟨(Nat.le_of_ble_eq_true rfl), (Nat.le_of_ble_eq_true rfl)⟩ ⟨(Nat.le_of_ble_eq_true rfl), (Nat.le_of_ble_eq_true rfl)⟩ (fun r h9 hp => ?_)
  rcases hp with ⟨rfl, rfl, h1, h2⟩ | ⟨rfl, rfl, h3⟩ | ⟨rfl, rfl, h4⟩
  · refine J_nf (nh2 := nh) (ck2 := 0) (sk2 := 0) (st2 := [.int (zI 1)]) rfl rfl rfl rfl ?_
    refine Z_if_eq (tgt := 17) dX0_rowOf_5 (by decide) v_4dcc24baa7 (fun h5 => absurd h5 v_3a47bfd896) (fun h5 => ?_)
    refine J_aload_n dX0_rowOf_8 rfl rfl ?_
    refine J_get (v := .ref 52) dX0_rowOf_9 fl_X0_9 hk51 rfl ?_
    refine J_iload_n dX0_rowOf_12 rfl rfl ?_
    obtain ⟨z6, ez6⟩ : ∃ z : Int, rf x = z := ⟨_, rfl⟩
    refine Y_iald (z := z6) 1260 dX0_rowOf_13 hk52 rfl (by decide) (v_2b02420001 q0) (v_6251b724b8 q1 q3) ez6 ?_
    refine J_goto (tgt := 18) dX0_rowOf_14 (by decide) ?_
    exact J_iret dX0_rowOf_18 rfl rfl (Nat.le_of_ble_eq_true rfl) (Nat.le_of_ble_eq_true rfl) ⟨z6, rfl, rfl, ez6⟩
  · exact False.elim (v_bd0e51d423 q0 h3)
  · exact False.elim (v_a9d5190ca0 q1 h4)
set_option maxHeartbeats 4000000 in
set_option maxRecDepth 100000 in
theorem g_shiftOf {l : Launch} {G : jG} {nh : Nat} {fh : Nat → Option va_E} (p : Int) (many : Int) (places : Int) (q0 : 0 ≤ p) (q1 : p ≤ 7) (q2 : 0 ≤ places) (q3 : places ≤ 7) (hk51 : fh 51 = some (.inr (0, [.ref 52, .ref 53, .int (zI many), .int (zI places)]))) : JM l G yX0_shiftOf MX0_shiftOf { frames := 0, cells := 0, slots := 0, locals := 0 } [.ref 51, .int (zI p)] (nh, fh) (fun rr h9 => ∃ r : Int, rr = some (.int (zI r)) ∧ h9 = (nh, fh) ∧ (r = 3 * places - 3 * p - 3)) := by
  refine JM.of (by decide) rfl (fun h => by cases h) (Nat.le_of_ble_eq_true rfl) ⟨0, rfl⟩ ?_
  refine J_hc0 (J_ls (ls2 := [some (.ref 51), some (.int (zI p))]) rfl ?_)
  refine Z_iconst (n := 3) dX0_shiftOf_0 ?_
  refine J_aload_n dX0_shiftOf_1 rfl rfl ?_
  refine J_get (v := .int (zI places)) dX0_shiftOf_2 fl_X0_22 hk51 rfl ?_
  refine Z_iconst (n := 1) dX0_shiftOf_5 ?_
  refine Z_isub (c := places - 1) dX0_shiftOf_6 rfl ?_
  refine J_iload_n dX0_shiftOf_7 rfl rfl ?_
  refine Z_isub (c := -p + places - 1) dX0_shiftOf_8 v_a131ddf654 ?_
  refine Z_imul (c := -3 * p + 3 * places - 3) dX0_shiftOf_9 v_db8ce83f8b ?_
  exact J_iret dX0_shiftOf_10 rfl rfl (Nat.le_of_ble_eq_true rfl) (Nat.le_of_ble_eq_true rfl) ⟨(-3 * p + 3 * places - 3), rfl, rfl, v_cb730a6342⟩
set_option maxHeartbeats 4000000 in
set_option maxRecDepth 100000 in
theorem g_colourAt {l : Launch} {G : jG} {nh : Nat} {fh : Nat → Option va_E} (x : Int) (sh : Int) (q0 : zr x) (q1 : zr sh) : JM l G yX0_colourAt MX0_colourAt { frames := 0, cells := 0, slots := 0, locals := 0 } [.int (zI x), .int (zI sh)] (nh, fh) (fun rr h9 => ∃ r : Int, rr = some (.int (zI r)) ∧ h9 = (nh, fh) ∧ (0 ≤ r) ∧ (r ≤ 7) ∧ (zand (zshr x sh) 7 = r)) := by
  refine JM.of (by decide) rfl (fun h => by cases h) (Nat.le_of_ble_eq_true rfl) ⟨0, rfl⟩ ?_
  refine J_hc0 (J_ls (ls2 := [some (.int (zI x)), some (.int (zI sh))]) rfl ?_)
  refine J_iload_n dX0_colourAt_0 rfl rfl ?_
  refine J_iload_n dX0_colourAt_1 rfl rfl ?_
  obtain ⟨z1, ez1⟩ : ∃ z : Int, zshr x sh = z := ⟨_, rfl⟩
  refine Y_ishr (z := z1) dX0_colourAt_2 ez1 ?_
  have h2 : zr z1 := by rw [← ez1]; exact zr_toInt _
  refine Z_bipush (n := 7) dX0_colourAt_3 (by decide +kernel) ?_
  obtain ⟨z3, ez3⟩ : ∃ z : Int, zand z1 7 = z := ⟨_, rfl⟩
  refine Y_iand (z := z3) dX0_colourAt_5 ez3 ?_
  have h4 : zr z3 := by rw [← ez3]; exact zr_toInt _
  have h5 : 0 ≤ z3 ∧ z3 ≤ 7 := zand_mask 3 (by decide) (by decide +kernel) (by decide) ez3
  exact J_iret dX0_colourAt_6 rfl rfl (Nat.le_of_ble_eq_true rfl) (Nat.le_of_ble_eq_true rfl) ⟨z3, rfl, rfl, h5.1, h5.2, (by subst_vars; rfl)⟩
set_option maxHeartbeats 4000000 in
set_option maxRecDepth 100000 in
theorem g_behind {l : Launch} {G : jG} {nh : Nat} {fh : Nat → Option va_E} (x : Int) (y : Int) (q0 : zr x) (q1 : zr y) : JM l G yX0_behind MX0_behind { frames := 0, cells := 0, slots := 0, locals := 0 } [.int (zI x), .int (zI y)] (nh, fh) (fun rr h9 => ∃ r : Int, rr = some (.int (zI r)) ∧ h9 = (nh, fh) ∧ (zr r) ∧ (zor (zshl x 3) y = r)) := by
  refine JM.of (by decide) rfl (fun h => by cases h) (Nat.le_of_ble_eq_true rfl) ⟨0, rfl⟩ ?_
  refine J_hc0 (J_ls (ls2 := [some (.int (zI x)), some (.int (zI y))]) rfl ?_)
  refine J_iload_n dX0_behind_0 rfl rfl ?_
  refine Z_iconst (n := 3) dX0_behind_1 ?_
  obtain ⟨z1, ez1⟩ : ∃ z : Int, zshl x 3 = z := ⟨_, rfl⟩
  refine Y_ishl (z := z1) dX0_behind_2 ez1 ?_
  have h2 : zr z1 := by rw [← ez1]; exact zr_toInt _
  refine J_iload_n dX0_behind_3 rfl rfl ?_
  obtain ⟨z3, ez3⟩ : ∃ z : Int, zor z1 y = z := ⟨_, rfl⟩
  refine Y_ior (z := z3) dX0_behind_4 ez3 ?_
  have h4 : zr z3 := by rw [← ez3]; exact zr_toInt _
  exact J_iret dX0_behind_5 rfl rfl (Nat.le_of_ble_eq_true rfl) (Nat.le_of_ble_eq_true rfl) ⟨z3, rfl, rfl, h4, (by subst_vars; rfl)⟩
set_option maxHeartbeats 4000000 in
set_option maxRecDepth 100000 in
theorem g_changeBeads {l : Launch} {G : jG} {nh : Nat} {fh : Nat → Option va_E} (a : Int) (b : Int) (bf : Int → Int) (many : Int) (places : Int) (q0 : 0 ≤ a) (q1 : a < 7) (q2 : 0 ≤ b) (q3 : b < 7) (hk51 : fh 51 = some (.inr (0, [.ref 52, .ref 53, .int (zI many), .int (zI places)]))) (hk53 : fh 53 = some (.inl (0, 7, .inl (zA bf)))) : JM l G yX0_changeBeads MX0_changeBeads { frames := 0, cells := 0, slots := 0, locals := 0 } [.ref 51, .int (zI a), .int (zI b)] (nh, fh) (fun rr h9 => ∃ bg : Int → Int, rr = none ∧ h9 = (nh, hc fh [(53, .inl (0, 7, .inl (zA bg)))]) ∧ (bg = swp bf a b)) := by
  refine JM.of (by decide) rfl (fun h => by cases h) (Nat.le_of_ble_eq_true rfl) ⟨1, rfl⟩ ?_
  refine J_hc0 (J_ls (ls2 := [some (.ref 51), some (.int (zI a)), some (.int (zI b)), none]) rfl ?_)
  refine J_aload_n dX0_changeBeads_0 rfl rfl ?_
  refine J_get (v := .ref 53) dX0_changeBeads_1 fl_X0_15 hk51 rfl ?_
  refine J_iload_n dX0_changeBeads_4 rfl rfl ?_
  obtain ⟨z1, ez1⟩ : ∃ z : Int, bf a = z := ⟨_, rfl⟩
  refine Y_iald (z := z1) 7 dX0_changeBeads_5 hk53 rfl (by decide) (v_2b02420001 q0) (v_d4360c9026 q1) ez1 ?_
  refine J_istore_n dX0_changeBeads_6 rfl (Nat.le_of_ble_eq_true rfl) rfl ?_
  refine J_ls (ls2 := [some (.ref 51), some (.int (zI a)), some (.int (zI b)), some (.int (zI z1))]) rfl ?_
  refine J_aload_n dX0_changeBeads_7 rfl rfl ?_
  refine J_get (v := .ref 53) dX0_changeBeads_8 fl_X0_15 hk51 rfl ?_
  refine J_iload_n dX0_changeBeads_11 rfl rfl ?_
  refine J_aload_n dX0_changeBeads_12 rfl rfl ?_
  refine J_get (v := .ref 53) dX0_changeBeads_13 fl_X0_15 hk51 rfl ?_
  refine J_iload_n dX0_changeBeads_16 rfl rfl ?_
  obtain ⟨z2, ez2⟩ : ∃ z : Int, bf b = z := ⟨_, rfl⟩
  refine Y_iald (z := z2) 7 dX0_changeBeads_17 hk53 rfl (by decide) (v_2b02420001 q2) (v_d4360c9026 q3) ez2 ?_
  refine Y_iast (v := z2) 7 dX0_changeBeads_18 hk53 rfl (by decide) (v_2b02420001 q0) (v_d4360c9026 q1) (fun f3 ef3 => ?_)
  refine J_aload_n dX0_changeBeads_19 rfl rfl ?_
  refine J_get (v := .ref 53) dX0_changeBeads_20 fl_X0_15 hk51 rfl ?_
  refine J_iload_n dX0_changeBeads_23 rfl rfl ?_
  refine J_iload_n dX0_changeBeads_24 rfl rfl ?_
  refine Y_iast (v := z1) 7 dX0_changeBeads_25 rfl rfl (by decide) (v_2b02420001 q2) (v_d4360c9026 q3) (fun f4 ef4 => ?_)
  refine J_mask (L2 := [(53, .inl (0, 7, .inl (zA f4)))]) (ks := [53, 53]) [true, false] rfl (by decide +kernel) rfl ?_
  exact J_vret dX0_changeBeads_26 rfl (Nat.le_of_ble_eq_true rfl) (Nat.le_of_ble_eq_true rfl) ⟨f4, rfl, rfl, (up_swp ef3 ef4 ez1 ez2)⟩
set_option maxHeartbeats 4000000 in
set_option maxRecDepth 100000 in
theorem g_find {l : Launch} {G : jG} {nh : Nat} {fh : Nat → Option va_E} (x : Int) (many : Int) (places : Int) (rf : Int → Int) (q0 : zr x) (q1 : 1 ≤ many) (q2 : many ≤ 1260) (q3 : Rg rf 1260 (-2147483648) 2147483647) (q4 : MnR rf many) (hk51 : fh 51 = some (.inr (0, [.ref 52, .ref 53, .int (zI many), .int (zI places)]))) (hk52 : fh 52 = some (.inl (0, 1260, .inl (zA rf)))) : JM l G yX0_find MX0_find { frames := 0, cells := 0, slots := 0, locals := 0 } [.ref 51, .int (zI x)] (nh, fh) (fun rr h9 => ∃ r : Int, rr = some (.int (zI r)) ∧ h9 = (nh, fh) ∧ (-1 ≤ r) ∧ (r < many) ∧ (FnR rf many x r)) := by
  refine JM.of (by decide) rfl (fun h => by cases h) (Nat.le_of_ble_eq_true rfl) ⟨3, rfl⟩ ?_
  refine J_hc0 (J_ls (ls2 := [some (.ref 51), some (.int (zI x)), none, none, none]) rfl ?_)
  refine Z_iconst (n := 0) dX0_find_0 ?_
  refine J_istore_n dX0_find_1 rfl (Nat.le_of_ble_eq_true rfl) rfl ?_
  refine J_ls (ls2 := [some (.ref 51), some (.int (zI x)), some (.int (zI 0)), none, none]) rfl ?_
  refine J_aload_n dX0_find_2 rfl rfl ?_
  refine J_get (v := .int (zI many)) dX0_find_3 fl_X0_18 hk51 rfl ?_
  refine Z_iconst (n := 1) dX0_find_6 ?_
  refine Z_isub (c := many - 1) dX0_find_7 rfl ?_
  refine J_istore_n dX0_find_8 rfl (Nat.le_of_ble_eq_true rfl) rfl ?_
  refine J_ls (ls2 := [some (.ref 51), some (.int (zI x)), some (.int (zI 0)), some (.int (zI (many - 1))), none]) rfl ?_
  have lp9 : ∀ (N9 : Nat) (low_9 : Int) (high_9 : Int), (0 ≤ low_9) → (low_9 ≤ many) → (high_9 < many) → (-1 ≤ high_9) → (TgC rf many x low_9 high_9) → (high_9 - low_9 + 1).toNat < N9 → J l G MX0_find { frames := 0, cells := 0, slots := 0, locals := 0 } jE (jMQ G { frames := 0, cells := 0, slots := 0, locals := 0 } (fun rr h9 => ∃ r : Int, rr = some (.int (zI r)) ∧ h9 = (nh, fh) ∧ (-1 ≤ r) ∧ (r < many) ∧ (FnR rf many x r))) (nh, hc fh []) 0 0 9 [some (.ref 51), some (.int (zI x)), some (.int (zI low_9)), some (.int (zI high_9)), none] [] := by
    intro N9
    induction N9 with
    | zero => intro low_9 high_9 i9_0 i9_1 i9_2 i9_3 i9_4 hm; exact absurd hm (Nat.not_lt_zero _)
    | succ N9 ih9 =>
      intro low_9 high_9 i9_0 i9_1 i9_2 i9_3 i9_4 hm9
      refine J_iload_n dX0_find_9 rfl rfl ?_
      refine J_iload_n dX0_find_10 rfl rfl ?_
      refine Z_icmp_gt (tgt := 62) dX0_find_11 (by decide) (v_c9ca704c4d q2 i9_0 i9_1) (v_e12191796d q2 i9_2 i9_3) (fun h1 => ?_) (fun h1 => ?_)
      · refine Z_iconst (n := -1) dX0_find_62 ?_
        exact J_iret dX0_find_63 rfl rfl (Nat.le_of_ble_eq_true rfl) (Nat.le_of_ble_eq_true rfl) ⟨(-1), rfl, rfl, v_4d9e6ac08a, (v_7e0ab68801 q1), (FnR_none i9_4 (v_b9aca61388 h1))⟩
      · refine J_iload_n dX0_find_14 rfl rfl ?_
        refine J_iload_n dX0_find_15 rfl rfl ?_
        refine Z_iadd (c := high_9 + low_9) dX0_find_16 v_cb13ccdbf3 ?_
        refine Z_iconst (n := 1) dX0_find_17 ?_
        obtain ⟨z2, ez2⟩ : ∃ z : Int, zshr (high_9 + low_9) 1 = z := ⟨_, rfl⟩
        refine Y_ishr (z := z2) dX0_find_18 ez2 ?_
        have h3 : zr z2 := by rw [← ez2]; exact zr_toInt _
        have h4 : 2 * z2 ≤ high_9 + low_9 ∧ high_9 + low_9 ≤ 2 * z2 + 1 := dv_lem (zshr_div (p := 2) 1 1 (v_14b8c0977b q2 i9_0 i9_2 h1) (by decide +kernel) (by decide) ez2).symm (by decide)
        refine J_istore dX0_find_19 (Nat.le_of_ble_eq_true rfl) rfl ?_
        refine J_ls (ls2 := [some (.ref 51), some (.int (zI x)), some (.int (zI low_9)), some (.int (zI high_9)), some (.int (zI z2))]) rfl ?_
        refine J_aload_n dX0_find_21 rfl rfl ?_
        refine J_get (v := .ref 52) dX0_find_22 fl_X0_9 hk51 rfl ?_
        refine J_iload dX0_find_25 rfl ?_
        obtain ⟨z5, ez5⟩ : ∃ z : Int, rf z2 = z := ⟨_, rfl⟩
        have h6 := Rg.at q3 (v_544379a6ba i9_0 h1 h4.2) (v_ec32c4bf5b q2 i9_2 h1 h4.1) ez5
        refine Y_iald (z := z5) 1260 dX0_find_27 hk52 rfl (by decide) (v_544379a6ba i9_0 h1 h4.2) (v_ec32c4bf5b q2 i9_2 h1 h4.1) ez5 ?_
        refine J_iload_n dX0_find_28 rfl rfl ?_
        refine Z_icmp_ne (tgt := 35) dX0_find_29 (by decide) (v_f306e1cdb8 h6.1 h6.2) (v_b25fa51a85 q0) (fun h7 => ?_) (fun h7 => ?_)
        · refine J_aload_n dX0_find_35 rfl rfl ?_
          refine J_get (v := .ref 52) dX0_find_36 fl_X0_9 hk51 rfl ?_
          refine J_iload dX0_find_39 rfl ?_
          refine Y_iald (z := z5) 1260 dX0_find_41 hk52 rfl (by decide) (v_544379a6ba i9_0 h1 h4.2) (v_ec32c4bf5b q2 i9_2 h1 h4.1) ez5 ?_
          refine J_iload_n dX0_find_42 rfl rfl ?_
          refine Z_icmp_ge (tgt := 54) dX0_find_43 (by decide) (v_f306e1cdb8 h6.1 h6.2) (v_b25fa51a85 q0) (fun h8 => ?_) (fun h8 => ?_)
          · refine J_iload dX0_find_54 rfl ?_
            refine Z_iconst (n := 1) dX0_find_56 ?_
            refine Z_isub (c := z2 - 1) dX0_find_57 rfl ?_
            refine J_istore_n dX0_find_58 rfl (Nat.le_of_ble_eq_true rfl) rfl ?_
            refine J_ls (ls2 := [some (.ref 51), some (.int (zI x)), some (.int (zI low_9)), some (.int (zI (z2 - 1))), some (.int (zI z2))]) rfl ?_
            refine J_goto (tgt := 9) dX0_find_59 (by decide) ?_
            refine J_drop (ls2 := [some (.ref 51), some (.int (zI x)), some (.int (zI low_9)), some (.int (zI (z2 - 1))), none]) [true, true, true, true, false] rfl ?_
            exact ih9 low_9 (z2 - 1) i9_0 i9_1 (v_2878064f66 i9_1 i9_2 h4.1) (v_bee700607b i9_0 h1 h4.2) (TgC.high i9_4 q4 (v_544379a6ba i9_0 h1 h4.2) ez5 (v_fd07de1527 h7 h8)) (meas_lt (v_d97a9bec82 h1 h4.1) (v_fe53500762 h1) hm9)
          · refine J_iload dX0_find_46 rfl ?_
            refine Z_iconst (n := 1) dX0_find_48 ?_
            refine Z_iadd (c := z2 + 1) dX0_find_49 rfl ?_
            refine J_istore_n dX0_find_50 rfl (Nat.le_of_ble_eq_true rfl) rfl ?_
            refine J_ls (ls2 := [some (.ref 51), some (.int (zI x)), some (.int (zI (z2 + 1))), some (.int (zI high_9)), some (.int (zI z2))]) rfl ?_
            refine J_goto (tgt := 59) dX0_find_51 (by decide) ?_
            refine J_goto (tgt := 9) dX0_find_59 (by decide) ?_
            refine J_drop (ls2 := [some (.ref 51), some (.int (zI x)), some (.int (zI (z2 + 1))), some (.int (zI high_9)), none]) [true, true, true, true, false] rfl ?_
            exact ih9 (z2 + 1) high_9 (v_3938501a19 i9_0 i9_3 h4.2) (v_fb8fd4aa0e i9_1 i9_2 h4.1) i9_2 i9_3 (TgC.low i9_4 q4 (v_fba91695d3 i9_1 i9_2 h4.1) ez5 (v_fe9ea41faa h8)) (meas_lt (v_2229405edc h1 h4.2) (v_fe53500762 h1) hm9)
        · refine J_iload dX0_find_32 rfl ?_
          exact J_iret dX0_find_34 rfl rfl (Nat.le_of_ble_eq_true rfl) (Nat.le_of_ble_eq_true rfl) ⟨z2, rfl, rfl, (v_8ae9c72df1 i9_0 i9_3 h4.2), (v_fba91695d3 i9_1 i9_2 h4.1), (FnR_hit q4 (v_544379a6ba i9_0 h1 h4.2) (v_fba91695d3 i9_1 i9_2 h4.1) ez5 (v_cd91a95e4e h7))⟩
  exact lp9 _ 0 (many - 1) v_939070ca3f (v_632d2dbe78 q1) v_c458e5b2bb (v_f19d773874 q1) (TgC_0) (Nat.lt_succ_self _)
set_option maxHeartbeats 4000000 in
set_option maxRecDepth 100000 in
theorem g_nextOrder {l : Launch} {G : jG} {nh : Nat} {fh : Nat → Option va_E} (bf : Int → Int) (many : Int) (places : Int) (q0 : 0 ≤ places) (q1 : places ≤ 7) (q2 : Rg bf 7 0 4) (hk51 : fh 51 = some (.inr (0, [.ref 52, .ref 53, .int (zI many), .int (zI places)]))) (hk53 : fh 53 = some (.inl (0, 7, .inl (zA bf)))) : JM l G yX0_nextOrder MX0_nextOrder { frames := 1, cells := 0, slots := 0, locals := 23 } [.ref 51] (nh, fh) (fun rr h9 => ∃ bg : Int → Int, ∃ r : Int, rr = some (.int (zI r)) ∧ h9 = (nh, hc fh [(53, .inl (0, 7, .inl (zA bg)))]) ∧ (bg = NOf places bf) ∧ (r = NOr places bf) ∧ (0 ≤ r) ∧ (r ≤ 1)) := by
  refine JM.of (by decide) rfl (fun h => by cases h) (Nat.le_of_ble_eq_true rfl) ⟨4, rfl⟩ ?_
  refine J_hc0 (J_ls (ls2 := [some (.ref 51), none, none, none, none]) rfl ?_)
  refine J_aload_n dX0_nextOrder_0 rfl rfl ?_
  refine J_get (v := .int (zI places)) dX0_nextOrder_1 fl_X0_22 hk51 rfl ?_
  refine Z_iconst (n := 2) dX0_nextOrder_4 ?_
  refine Z_isub (c := places - 2) dX0_nextOrder_5 rfl ?_
  refine J_istore_n dX0_nextOrder_6 rfl (Nat.le_of_ble_eq_true rfl) rfl ?_
  refine J_ls (ls2 := [some (.ref 51), some (.int (zI (places - 2))), none, none, none]) rfl ?_
  have lp7 : ∀ (N7 : Nat) (low_7 : Int), (-2 ≤ low_7) → (low_7 ≤ places - 2) → (lowG bf (low_7 + 1).toNat = lowN places bf) → (low_7 + 2).toNat < N7 → J l G MX0_nextOrder { frames := 1, cells := 0, slots := 0, locals := 23 } jE (jMQ G { frames := 1, cells := 0, slots := 0, locals := 23 } (fun rr h9 => ∃ bg : Int → Int, ∃ r : Int, rr = some (.int (zI r)) ∧ h9 = (nh, hc fh [(53, .inl (0, 7, .inl (zA bg)))]) ∧ (bg = NOf places bf) ∧ (r = NOr places bf) ∧ (0 ≤ r) ∧ (r ≤ 1))) (nh, hc fh []) 0 0 7 [some (.ref 51), some (.int (zI low_7)), none, none, none] [] := by
    intro N7
    induction N7 with
    | zero => intro low_7 i7_0 i7_1 i7_2 hm; exact absurd hm (Nat.not_lt_zero _)
    | succ N7 ih7 =>
      intro low_7 i7_0 i7_1 i7_2 hm7
      refine J_iload_n dX0_nextOrder_7 rfl rfl ?_
      refine Z_if_lt (tgt := 34) dX0_nextOrder_8 (by decide) (v_adb6e8f089 q1 i7_0 i7_1) (fun h1 => ?_) (fun h1 => ?_)
      · refine J_iload_n dX0_nextOrder_34 rfl rfl ?_
        refine Z_if_ge (tgt := 40) dX0_nextOrder_35 (by decide) (v_4d146759ca i7_0 h1) (fun h2 => absurd h2 (v_dccefa8cdf h1)) (fun h2 => ?_)
        refine Z_iconst (n := 0) dX0_nextOrder_38 ?_
        refine J_touch (k := 53) (e := .inl (0, 7, .inl (zA bf))) hk53 ?_
        exact J_iret dX0_nextOrder_39 rfl (jbn v_939070ca3f v_316afd7d0b) (Nat.le_of_ble_eq_true rfl) (Nat.le_of_ble_eq_true rfl) ⟨bf, 0, rfl, rfl, ((NO_none i7_2 (v_8b303f9981 h1)).1), ((NO_none i7_2 (v_8b303f9981 h1)).2), v_939070ca3f, v_316afd7d0b⟩
      · refine J_aload_n dX0_nextOrder_11 rfl rfl ?_
        refine J_get (v := .ref 53) dX0_nextOrder_12 fl_X0_15 hk51 rfl ?_
        refine J_iload_n dX0_nextOrder_15 rfl rfl ?_
        obtain ⟨z3, ez3⟩ : ∃ z : Int, bf low_7 = z := ⟨_, rfl⟩
        have h4 := Rg.at q2 (v_b2d8922659 h1) (v_cf9035fa57 q1 i7_1) ez3
        refine Y_iald (z := z3) 7 dX0_nextOrder_16 hk53 rfl (by decide) (v_b2d8922659 h1) (v_cf9035fa57 q1 i7_1) ez3 ?_
        refine J_aload_n dX0_nextOrder_17 rfl rfl ?_
        refine J_get (v := .ref 53) dX0_nextOrder_18 fl_X0_15 hk51 rfl ?_
        refine J_iload_n dX0_nextOrder_21 rfl rfl ?_
        refine Z_iconst (n := 1) dX0_nextOrder_22 ?_
        refine Z_iadd (c := low_7 + 1) dX0_nextOrder_23 rfl ?_
        obtain ⟨z5, ez5⟩ : ∃ z : Int, bf (low_7 + 1) = z := ⟨_, rfl⟩
        have h6 := Rg.at q2 (v_a3fe6729a2 h1) (v_4e755f133a q1 i7_1) ez5
        refine Y_iald (z := z5) 7 dX0_nextOrder_24 hk53 rfl (by decide) (v_a3fe6729a2 h1) (v_4e755f133a q1 i7_1) ez5 ?_
        refine Z_icmp_lt (tgt := 34) dX0_nextOrder_25 (by decide) (v_573cdf4e23 h4.1 h4.2) (v_573cdf4e23 h6.1 h6.2) (fun h7 => ?_) (fun h7 => ?_)
        · refine J_iload_n dX0_nextOrder_34 rfl rfl ?_
          refine Z_if_ge (tgt := 40) dX0_nextOrder_35 (by decide) (v_a95543211e q1 i7_1 h1) (fun h8 => ?_) (fun h8 => absurd h8 (fun q => q (v_b2d8922659 h1)))
          refine J_aload_n dX0_nextOrder_40 rfl rfl ?_
          refine J_get (v := .int (zI places)) dX0_nextOrder_41 fl_X0_22 hk51 rfl ?_
          refine Z_iconst (n := 1) dX0_nextOrder_44 ?_
          refine Z_isub (c := places - 1) dX0_nextOrder_45 rfl ?_
          refine J_istore_n dX0_nextOrder_46 rfl (Nat.le_of_ble_eq_true rfl) rfl ?_
          refine J_ls (ls2 := [some (.ref 51), some (.int (zI low_7)), some (.int (zI (places - 1))), none, none]) rfl ?_
          have lp47 : ∀ (N47 : Nat) (high_47 : Int), (low_7 + 1 ≤ high_47) → (high_47 ≤ places - 1) → (highG bf (bf low_7) (high_47 + 1).toNat = highN places bf) → (high_47 + 1).toNat < N47 → J l G MX0_nextOrder { frames := 1, cells := 0, slots := 0, locals := 23 } jE (jMQ G { frames := 1, cells := 0, slots := 0, locals := 23 } (fun rr h9 => ∃ bg : Int → Int, ∃ r : Int, rr = some (.int (zI r)) ∧ h9 = (nh, hc fh [(53, .inl (0, 7, .inl (zA bg)))]) ∧ (bg = NOf places bf) ∧ (r = NOr places bf) ∧ (0 ≤ r) ∧ (r ≤ 1))) (nh, hc fh []) 0 0 47 [some (.ref 51), some (.int (zI low_7)), some (.int (zI high_47)), none, none] [] := by
            intro N47
            induction N47 with
            | zero => intro high_47 i47_0 i47_1 i47_2 hm; exact absurd hm (Nat.not_lt_zero _)
            | succ N47 ih47 =>
              intro high_47 i47_0 i47_1 i47_2 hm47
              refine J_iload_n dX0_nextOrder_47 rfl rfl ?_
              refine J_iload_n dX0_nextOrder_48 rfl rfl ?_
              refine Z_icmp_le (tgt := 73) dX0_nextOrder_49 (by decide) (v_512aa482fd q1 h1 i47_0 i47_1) (v_a95543211e q1 i7_1 h1) (fun h9 => absurd h9 (v_463dee90d6 i47_0)) (fun h9 => ?_)
              refine J_aload_n dX0_nextOrder_52 rfl rfl ?_
              refine J_get (v := .ref 53) dX0_nextOrder_53 fl_X0_15 hk51 rfl ?_
              refine J_iload_n dX0_nextOrder_56 rfl rfl ?_
              obtain ⟨z10, ez10⟩ : ∃ z : Int, bf high_47 = z := ⟨_, rfl⟩
              have h11 := Rg.at q2 (v_8aff604d51 h1 i47_0) (v_8248ce89ec q1 i47_1) ez10
              refine Y_iald (z := z10) 7 dX0_nextOrder_57 hk53 rfl (by decide) (v_8aff604d51 h1 i47_0) (v_8248ce89ec q1 i47_1) ez10 ?_
              refine J_aload_n dX0_nextOrder_58 rfl rfl ?_
              refine J_get (v := .ref 53) dX0_nextOrder_59 fl_X0_15 hk51 rfl ?_
              refine J_iload_n dX0_nextOrder_62 rfl rfl ?_
              refine Y_iald (z := z3) 7 dX0_nextOrder_63 hk53 rfl (by decide) (v_b2d8922659 h1) (v_cf9035fa57 q1 i7_1) ez3 ?_
              refine Z_icmp_gt (tgt := 73) dX0_nextOrder_64 (by decide) (v_573cdf4e23 h11.1 h11.2) (v_573cdf4e23 h4.1 h4.2) (fun h12 => ?_) (fun h12 => ?_)
              · refine J_aload_n dX0_nextOrder_73 rfl rfl ?_
                refine J_iload_n dX0_nextOrder_74 rfl rfl ?_
                refine J_iload_n dX0_nextOrder_75 rfl rfl ?_
                refine J_callV (st := []) dX0_nextOrder_76 cv_X0_37 (g_changeBeads low_7 high_47 bf many places h8 (v_cf9035fa57 q1 i7_1) (v_8aff604d51 h1 i47_0) (v_8248ce89ec q1 i47_1) hk51 hk53) hk51 rfl rfl (Nat.le_of_ble_eq_true rfl) ⟨(Nat.le_of_ble_eq_true rfl), (Nat.le_of_ble_eq_true rfl)⟩ ⟨(Nat.le_of_ble_eq_true rfl), (Nat.le_of_ble_eq_true rfl)⟩ (fun r h9 hp => ?_)
                obtain ⟨f13, rfl, rfl, h14⟩ := hp
                refine J_nf (nh2 := nh) (ck2 := 0) (sk2 := 0) (st2 := []) rfl rfl rfl rfl ?_
                refine J_app (L3 := [(53, .inl (0, 7, .inl (zA f13)))]) rfl ?_
                refine J_iload_n dX0_nextOrder_79 rfl rfl ?_
                refine Z_iconst (n := 1) dX0_nextOrder_80 ?_
                refine Z_iadd (c := low_7 + 1) dX0_nextOrder_81 rfl ?_
                refine J_istore_n dX0_nextOrder_82 rfl (Nat.le_of_ble_eq_true rfl) rfl ?_
                refine J_ls (ls2 := [some (.ref 51), some (.int (zI low_7)), some (.int (zI high_47)), some (.int (zI (low_7 + 1))), none]) rfl ?_
                refine J_aload_n dX0_nextOrder_83 rfl rfl ?_
                refine J_get (v := .int (zI places)) dX0_nextOrder_84 fl_X0_22 hk51 rfl ?_
                refine Z_iconst (n := 1) dX0_nextOrder_87 ?_
                refine Z_isub (c := places - 1) dX0_nextOrder_88 rfl ?_
                refine J_istore dX0_nextOrder_89 (Nat.le_of_ble_eq_true rfl) rfl ?_
                refine J_ls (ls2 := [some (.ref 51), some (.int (zI low_7)), some (.int (zI high_47)), some (.int (zI (low_7 + 1))), some (.int (zI (places - 1)))]) rfl ?_
                have lp91 : ∀ (N91 : Nat) (left_91 : Int) (right_91 : Int) (bh_91 : Int → Int), (low_7 < left_91) → (left_91 ≤ places) → (right_91 < places) → (-1 ≤ right_91) → (left_91 + right_91 = low_7 + places) → (bh_91 = prv (swp bf low_7 high_47) (low_7 + 1) (places - 1) left_91) → (right_91 - left_91 + 8).toNat < N91 → J l G MX0_nextOrder { frames := 1, cells := 0, slots := 0, locals := 23 } jE (jMQ G { frames := 1, cells := 0, slots := 0, locals := 23 } (fun rr h9 => ∃ bg : Int → Int, ∃ r : Int, rr = some (.int (zI r)) ∧ h9 = (nh, hc fh [(53, .inl (0, 7, .inl (zA bg)))]) ∧ (bg = NOf places bf) ∧ (r = NOr places bf) ∧ (0 ≤ r) ∧ (r ≤ 1))) (nh, hc fh [(53, .inl (0, 7, .inl (zA bh_91)))]) 0 0 91 [some (.ref 51), some (.int (zI low_7)), some (.int (zI high_47)), some (.int (zI left_91)), some (.int (zI right_91))] [] := by
                  intro N91
                  induction N91 with
                  | zero => intro left_91 right_91 bh_91 i91_0 i91_1 i91_2 i91_3 i91_4 i91_5 hm; exact absurd hm (Nat.not_lt_zero _)
                  | succ N91 ih91 =>
                    intro left_91 right_91 bh_91 i91_0 i91_1 i91_2 i91_3 i91_4 i91_5 hm91
                    refine J_iload_n dX0_nextOrder_91 rfl rfl ?_
                    refine J_iload dX0_nextOrder_92 rfl ?_
                    refine Z_icmp_ge (tgt := 113) dX0_nextOrder_94 (by decide) (v_02a398b7d0 q1 h1 i91_0 i91_1) (v_370fdddf83 q1 i91_2 i91_3) (fun h15 => ?_) (fun h15 => ?_)
                    · refine Z_iconst (n := 1) dX0_nextOrder_113 ?_
                      exact J_iret dX0_nextOrder_114 rfl (jbn v_316afd7d0b v_bbcfac9b7d) (Nat.le_of_ble_eq_true rfl) (Nat.le_of_ble_eq_true rfl) ⟨bh_91, 1, rfl, rfl, ((NO_some (lowG_end i7_2 (v_b2d8922659 h1) ez3 ez5 (v_b9aca61388 h7)) (highG_end i47_2 (v_8aff604d51 h1 i47_0) ez10 (by rw [ez3]; exact (v_b9aca61388 h12))) (v_b2d8922659 h1) rfl (prv_end i91_5 (v_496a0fc3d0 i91_4) (v_b598cf8bfa h15) (v_02af071399 i91_1) (v_309e9c99a4 i91_0))).1), ((NO_some (lowG_end i7_2 (v_b2d8922659 h1) ez3 ez5 (v_b9aca61388 h7)) (highG_end i47_2 (v_8aff604d51 h1 i47_0) ez10 (by rw [ez3]; exact (v_b9aca61388 h12))) (v_b2d8922659 h1) rfl (prv_end i91_5 (v_496a0fc3d0 i91_4) (v_b598cf8bfa h15) (v_02af071399 i91_1) (v_309e9c99a4 i91_0))).2), v_316afd7d0b, v_bbcfac9b7d⟩
                    · refine J_aload_n dX0_nextOrder_97 rfl rfl ?_
                      refine J_iload_n dX0_nextOrder_98 rfl rfl ?_
                      refine J_iload dX0_nextOrder_99 rfl ?_
                      refine J_callV (st := []) dX0_nextOrder_101 cv_X0_37 (g_changeBeads left_91 right_91 bh_91 many places (v_c66a5668b3 h1 i91_0) (v_358b0c6646 q1 i91_2 h15) (v_d46fff44f4 h1 i91_0 h15) (v_77953abf68 q1 i91_2) hk51 rfl) hk51 rfl rfl (Nat.le_of_ble_eq_true rfl) ⟨(Nat.le_of_ble_eq_true rfl), (Nat.le_of_ble_eq_true rfl)⟩ ⟨(Nat.le_of_ble_eq_true rfl), (Nat.le_of_ble_eq_true rfl)⟩ (fun r h9 hp => ?_)
                      obtain ⟨f16, rfl, rfl, h17⟩ := hp
                      refine J_nf (nh2 := nh) (ck2 := 0) (sk2 := 0) (st2 := []) rfl rfl rfl rfl ?_
                      refine J_app (L3 := [(53, .inl (0, 7, .inl (zA f16))), (53, .inl (0, 7, .inl (zA bh_91)))]) rfl ?_
                      refine J_mask (L2 := [(53, .inl (0, 7, .inl (zA f16)))]) (ks := [53, 53]) [true, false] rfl (by decide +kernel) rfl ?_
                      refine Z_iinc (c := left_91 + 1) (ls2 := [some (.ref 51), some (.int (zI low_7)), some (.int (zI high_47)), some (.int (zI (left_91 + 1))), some (.int (zI right_91))]) dX0_nextOrder_104 rfl (Nat.le_of_ble_eq_true rfl) rfl rfl rfl ?_
                      refine Z_iinc (c := right_91 - 1) (ls2 := [some (.ref 51), some (.int (zI low_7)), some (.int (zI high_47)), some (.int (zI (left_91 + 1))), some (.int (zI (right_91 - 1)))]) dX0_nextOrder_107 rfl (Nat.le_of_ble_eq_true rfl) rfl v_c11a8386d1 rfl ?_
                      refine J_goto (tgt := 91) dX0_nextOrder_110 (by decide) ?_
                      exact ih91 (left_91 + 1) (right_91 - 1) f16 (v_d6f53c5707 i91_0) (v_81fbb4c7b7 i7_1 i91_4 h15) (v_194e055bf2 i91_2) (v_5075923af6 h1 i91_0 h15) (v_bc3ebe0508 i91_4) (prv_step i91_5 h17 (v_496a0fc3d0 i91_4) (v_fe9ea41faa h15) v_7157e5c4fa (v_309e9c99a4 i91_0)) (meas_lt v_5dc0ecd203 (v_7cb04e7ac0 h15) hm91)
                exact lp91 _ (low_7 + 1) (places - 1) f13 v_97c7d6ad5b (v_7bf0901ef1 i7_1) v_c458e5b2bb (v_b3b9f07fb8 q0) v_7b89fa2e27 (by rw [← h14]; exact prv_0) (Nat.lt_succ_self _)
              · refine Z_iinc (c := high_47 - 1) (ls2 := [some (.ref 51), some (.int (zI low_7)), some (.int (zI (high_47 - 1))), none, none]) dX0_nextOrder_67 rfl (Nat.le_of_ble_eq_true rfl) rfl v_c11a8386d1 rfl ?_
                refine J_goto (tgt := 47) dX0_nextOrder_70 (by decide) ?_
                exact ih47 (high_47 - 1) (hi_step i47_0 ez10 ez3 ez5 (v_b9aca61388 h7) (v_a8d8b48da6 h12)) (v_83aaf9715a i47_1) (highG_step i47_2 (v_8aff604d51 h1 i47_0) ez10 (by rw [ez3]; exact (v_a8d8b48da6 h12))) (meas_lt v_dfc8f0fdaf (v_1f78000b33 h1 i47_0) hm47)
          exact lp47 _ (places - 1) (v_91d63a5ebb i7_1) v_efcce80e22 (by unfold highN; rw [lowG_end i7_2 (v_b2d8922659 h1) ez3 ez5 (v_b9aca61388 h7)]; congr 1; omega) (Nat.lt_succ_self _)
        · refine Z_iinc (c := low_7 - 1) (ls2 := [some (.ref 51), some (.int (zI (low_7 - 1))), none, none, none]) dX0_nextOrder_28 rfl (Nat.le_of_ble_eq_true rfl) rfl v_c11a8386d1 rfl ?_
          refine J_goto (tgt := 7) dX0_nextOrder_31 (by decide) ?_
          exact ih7 (low_7 - 1) (v_85b24afd50 h1) (v_2270b43bd9 i7_1) (lowG_step i7_2 (v_b2d8922659 h1) ez3 ez5 (v_a8d8b48da6 h7)) (meas_lt v_134b51b9df (v_b6e8f60f2e h1) hm7)
  exact lp7 _ (places - 2) (v_4a6eca51e9 q0) v_07753b4338 (by unfold lowN; congr 1; omega) (Nat.lt_succ_self _)
set_option maxHeartbeats 4000000 in
set_option maxRecDepth 100000 in
theorem g_packed {l : Launch} {G : jG} {nh : Nat} {fh : Nat → Option va_E} (bf : Int → Int) (many : Int) (places : Int) (q0 : 0 ≤ places) (q1 : places ≤ 7) (q2 : Rg bf 7 0 4) (hk51 : fh 51 = some (.inr (0, [.ref 52, .ref 53, .int (zI many), .int (zI places)]))) (hk53 : fh 53 = some (.inl (0, 7, .inl (zA bf)))) : JM l G yX0_packed MX0_packed { frames := 1, cells := 0, slots := 0, locals := 21 } [.ref 51] (nh, fh) (fun rr h9 => ∃ r : Int, rr = some (.int (zI r)) ∧ h9 = (nh, fh) ∧ (zr r) ∧ (pk3 bf (places).toNat = r)) := by
  refine JM.of (by decide) rfl (fun h => by cases h) (Nat.le_of_ble_eq_true rfl) ⟨2, rfl⟩ ?_
  refine J_hc0 (J_ls (ls2 := [some (.ref 51), none, none]) rfl ?_)
  refine Z_iconst (n := 0) dX0_packed_0 ?_
  refine J_istore_n dX0_packed_1 rfl (Nat.le_of_ble_eq_true rfl) rfl ?_
  refine J_ls (ls2 := [some (.ref 51), some (.int (zI 0)), none]) rfl ?_
  refine Z_iconst (n := 0) dX0_packed_2 ?_
  refine J_istore_n dX0_packed_3 rfl (Nat.le_of_ble_eq_true rfl) rfl ?_
  refine J_ls (ls2 := [some (.ref 51), some (.int (zI 0)), some (.int (zI 0))]) rfl ?_
  have lp4 : ∀ (N4 : Nat) (row_4 : Int) (i_4 : Int), (0 ≤ i_4) → (i_4 ≤ places) → (zr row_4) → (pk3 bf (i_4).toNat = row_4) → (places - i_4).toNat < N4 → J l G MX0_packed { frames := 1, cells := 0, slots := 0, locals := 21 } jE (jMQ G { frames := 1, cells := 0, slots := 0, locals := 21 } (fun rr h9 => ∃ r : Int, rr = some (.int (zI r)) ∧ h9 = (nh, fh) ∧ (zr r) ∧ (pk3 bf (places).toNat = r))) (nh, hc fh []) 0 0 4 [some (.ref 51), some (.int (zI row_4)), some (.int (zI i_4))] [] := by
    intro N4
    induction N4 with
    | zero => intro row_4 i_4 i4_0 i4_1 i4_2 i4_3 hm; exact absurd hm (Nat.not_lt_zero _)
    | succ N4 ih4 =>
      intro row_4 i_4 i4_0 i4_1 i4_2 i4_3 hm4
      refine J_iload_n dX0_packed_4 rfl rfl ?_
      refine J_aload_n dX0_packed_5 rfl rfl ?_
      refine J_get (v := .int (zI places)) dX0_packed_6 fl_X0_22 hk51 rfl ?_
      refine Z_icmp_ge (tgt := 29) dX0_packed_9 (by decide) (v_ee3170dbf0 q1 i4_0 i4_1) (v_2ee1de483d q0 q1) (fun h1 => ?_) (fun h1 => ?_)
      · refine J_iload_n dX0_packed_29 rfl rfl ?_
        exact J_iret dX0_packed_30 rfl rfl (Nat.le_of_ble_eq_true rfl) (Nat.le_of_ble_eq_true rfl) ⟨row_4, rfl, rfl, i4_2, (by have e : places = i_4 := (v_5b9403af20 i4_1 h1); rw [e]; exact i4_3)⟩
      · refine J_iload_n dX0_packed_12 rfl rfl ?_
        refine J_aload_n dX0_packed_13 rfl rfl ?_
        refine J_get (v := .ref 53) dX0_packed_14 fl_X0_15 hk51 rfl ?_
        refine J_iload_n dX0_packed_17 rfl rfl ?_
        obtain ⟨z2, ez2⟩ : ∃ z : Int, bf i_4 = z := ⟨_, rfl⟩
        have h3 := Rg.at q2 (v_2b02420001 i4_0) (v_3549d48a69 q1 h1) ez2
        refine Y_iald (z := z2) 7 dX0_packed_18 hk53 rfl (by decide) (v_2b02420001 i4_0) (v_3549d48a69 q1 h1) ez2 ?_
        refine J_callS (st := []) dX0_packed_19 cs_X0_33 (g_behind row_4 z2 i4_2 (v_573cdf4e23 h3.1 h3.2)) rfl rfl (Nat.le_of_ble_eq_true rfl) ⟨(Nat.le_of_ble_eq_true rfl), (Nat.le_of_ble_eq_true rfl)⟩ ⟨(Nat.le_of_ble_eq_true rfl), (Nat.le_of_ble_eq_true rfl)⟩ (fun r h9 hp => ?_)
        obtain ⟨z4, rfl, rfl, h5, h6⟩ := hp
        refine J_nf (nh2 := nh) (ck2 := 0) (sk2 := 0) (st2 := [.int (zI z4)]) rfl rfl rfl rfl ?_
        refine J_istore_n dX0_packed_22 rfl (Nat.le_of_ble_eq_true rfl) rfl ?_
        refine J_ls (ls2 := [some (.ref 51), some (.int (zI z4)), some (.int (zI i_4))]) rfl ?_
        refine Z_iinc (c := i_4 + 1) (ls2 := [some (.ref 51), some (.int (zI z4)), some (.int (zI (i_4 + 1)))]) dX0_packed_23 rfl (Nat.le_of_ble_eq_true rfl) rfl rfl rfl ?_
        refine J_goto (tgt := 4) dX0_packed_26 (by decide) ?_
        exact ih4 z4 (i_4 + 1) (v_da458fa48a i4_0) (v_e390a36114 h1) h5 (pk3_step i4_3 i4_0 ez2 h6) (meas_lt v_90eacd6fd4 (v_8b7dd7d486 h1) hm4)
  exact lp4 _ 0 0 v_939070ca3f q0 v_b17331891f (rfl) (Nat.lt_succ_self _)
set_option maxHeartbeats 4000000 in
set_option maxRecDepth 100000 in
theorem g_settle {l : Launch} {G : jG} {nh : Nat} {fh : Nat → Option va_E} (ff : Int → Int) (bf : Int → Int) (rf : Int → Int) (many : Int) (places : Int) (q0 : okF ff) (q1 : Rg bf 7 0 4) (q2 : Rg rf 1260 (-2147483648) 2147483647) (hk2 : fh 2 = some (.inl (0, 5, .inl (zA ff)))) (hk51 : fh 51 = some (.inr (0, [.ref 52, .ref 53, .int (zI many), .int (zI places)]))) (hk53 : fh 53 = some (.inl (0, 7, .inl (zA bf)))) (hk52 : fh 52 = some (.inl (0, 1260, .inl (zA rf)))) : JM l G yX0_settle MX0_settle { frames := 2, cells := 0, slots := 0, locals := 47 } [.ref 51, .ref 2] (nh, fh) (fun rr h9 => ∃ bg : Int → Int, ∃ rg : Int → Int, ∃ m2 : Int, ∃ p2 : Int, rr = none ∧ h9 = (nh, hc fh [(51, .inr (0, [.ref 52, .ref 53, .int (zI m2), .int (zI p2)])), (52, .inl (0, 1260, .inl (zA rg))), (53, .inl (0, 7, .inl (zA bg)))]) ∧ (Rg bg 7 0 4) ∧ (Rg rg 1260 (-2147483648) 2147483647) ∧ (m2 = Hi ff) ∧ (p2 = bsum ff) ∧ (RowsTo rg ff m2)) := by
  refine JM.of (by decide) rfl (fun h => by cases h) (Nat.le_of_ble_eq_true rfl) ⟨2, rfl⟩ ?_
  refine J_hc0 (J_ls (ls2 := [some (.ref 51), some (.ref 2), none, none]) rfl ?_)
  refine J_aload_n dX0_settle_0 rfl rfl ?_
  refine Z_iconst (n := 0) dX0_settle_1 ?_
  refine K_put (fs2 := [.ref 52, .ref 53, .int (zI many), .int (zI 0)]) dX0_settle_2 fw_X0_22 hk51 (Nat.le_of_ble_eq_true rfl) (fun _ => ⟨rfl, rfl⟩) rfl ?_
  refine Z_iconst (n := 0) dX0_settle_5 ?_
  refine J_istore_n dX0_settle_6 rfl (Nat.le_of_ble_eq_true rfl) rfl ?_
  refine J_ls (ls2 := [some (.ref 51), some (.ref 2), some (.int (zI 0)), none]) rfl ?_
  have g1 : 0 ≤ bsum ff := (bsum_rng q0).1
  have g2 : bsum ff ≤ 7 := (bsum_rng q0).2
  have g3 : 1 ≤ Hi ff := (Hi_rng q0).1
  have g4 : Hi ff ≤ 1260 := (Hi_rng q0).2
  refine J_touch (k := 53) (e := .inl (0, 7, .inl (zA bf))) hk53 ?_
  have lp7 : ∀ (N7 : Nat) (co_7 : Int) (p_7 : Int) (b1_7 : Int → Int), (0 ≤ co_7) → (co_7 ≤ 5) → (psum ff co_7 = p_7) → (Bds b1_7 ff p_7) → (Rg b1_7 7 0 4) → (0 ≤ p_7) → (p_7 ≤ 7) → (5 - co_7).toNat < N7 → J l G MX0_settle { frames := 2, cells := 0, slots := 0, locals := 47 } jE (jMQ G { frames := 2, cells := 0, slots := 0, locals := 47 } (fun rr h9 => ∃ bg : Int → Int, ∃ rg : Int → Int, ∃ m2 : Int, ∃ p2 : Int, rr = none ∧ h9 = (nh, hc fh [(51, .inr (0, [.ref 52, .ref 53, .int (zI m2), .int (zI p2)])), (52, .inl (0, 1260, .inl (zA rg))), (53, .inl (0, 7, .inl (zA bg)))]) ∧ (Rg bg 7 0 4) ∧ (Rg rg 1260 (-2147483648) 2147483647) ∧ (m2 = Hi ff) ∧ (p2 = bsum ff) ∧ (RowsTo rg ff m2))) (nh, hc fh [(53, .inl (0, 7, .inl (zA b1_7))), (51, .inr (0, [.ref 52, .ref 53, .int (zI many), .int (zI p_7)]))]) 0 0 7 [some (.ref 51), some (.ref 2), some (.int (zI co_7)), none] [] := by
    intro N7
    induction N7 with
    | zero => intro co_7 p_7 b1_7 i7_0 i7_1 i7_2 i7_3 i7_4 i7_5 i7_6 hm; exact absurd hm (Nat.not_lt_zero _)
    | succ N7 ih7 =>
      intro co_7 p_7 b1_7 i7_0 i7_1 i7_2 i7_3 i7_4 i7_5 i7_6 hm7
      refine J_iload_n dX0_settle_7 rfl rfl ?_
      refine Z_iconst (n := 5) dX0_settle_8 ?_
      refine Z_icmp_ge (tgt := 62) dX0_settle_9 (by decide) (v_a6208d3904 i7_0 i7_1) v_3961fe0d0d (fun h5 => ?_) (fun h5 => ?_)
      · have g6 : psum ff 5 = bsum ff := psum_5 ff
        have g7 : psum ff co_7 = bsum ff := by rw [show co_7 = 5 from (v_53b10c1713 i7_1 h5)]; exact psum_5 ff
        refine J_aload_n dX0_settle_62 rfl rfl ?_
        refine Z_iconst (n := 0) dX0_settle_63 ?_
        refine K_put (fs2 := [.ref 52, .ref 53, .int (zI 0), .int (zI p_7)]) dX0_settle_64 fw_X0_18 rfl (Nat.le_of_ble_eq_true rfl) (fun _ => ⟨rfl, rfl⟩) rfl ?_
        refine Z_iconst (n := 1) dX0_settle_67 ?_
        refine J_istore_n dX0_settle_68 rfl (Nat.le_of_ble_eq_true rfl) rfl ?_
        refine J_ls (ls2 := [some (.ref 51), some (.ref 2), some (.int (zI 1)), none]) rfl ?_
        refine Z_iconst (n := 0) dX0_settle_69 ?_
        refine J_istore_n dX0_settle_70 rfl (Nat.le_of_ble_eq_true rfl) rfl ?_
        refine J_ls (ls2 := [some (.ref 51), some (.ref 2), some (.int (zI 1)), some (.int (zI 0))]) rfl ?_
        refine J_touch (k := 52) (e := .inl (0, 1260, .inl (zA rf))) hk52 ?_
        refine J_mask (L2 := [(52, .inl (0, 1260, .inl (zA rf))), (51, .inr (0, [.ref 52, .ref 53, .int (zI 0), .int (zI p_7)])), (53, .inl (0, 7, .inl (zA b1_7)))]) (ks := [52, 51, 53, 51]) [true, true, true, false] rfl (by decide +kernel) rfl ?_
        have lp71 : ∀ (N71 : Nat) (more_71 : Int) (k_71 : Int) (m_71 : Int) (r1_71 : Int → Int) (b3_71 : Int → Int), (0 ≤ k_71) → (m_71 = k_71) → (0 ≤ more_71) → (more_71 ≤ 1) → (k_71 + more_71 ≤ Hi ff) → (Hi ff ≤ k_71 + 1260 * more_71) → (Rg b3_71 7 0 4) → (RowsTo r1_71 ff k_71) → (more_71 = 1 → EqOn (bsum ff) b3_71 (itB ff (k_71).toNat)) → (Rg r1_71 1260 (-2147483648) 2147483647) → (1260 - k_71).toNat < N71 → J l G MX0_settle { frames := 2, cells := 0, slots := 0, locals := 47 } jE (jMQ G { frames := 2, cells := 0, slots := 0, locals := 47 } (fun rr h9 => ∃ bg : Int → Int, ∃ rg : Int → Int, ∃ m2 : Int, ∃ p2 : Int, rr = none ∧ h9 = (nh, hc fh [(51, .inr (0, [.ref 52, .ref 53, .int (zI m2), .int (zI p2)])), (52, .inl (0, 1260, .inl (zA rg))), (53, .inl (0, 7, .inl (zA bg)))]) ∧ (Rg bg 7 0 4) ∧ (Rg rg 1260 (-2147483648) 2147483647) ∧ (m2 = Hi ff) ∧ (p2 = bsum ff) ∧ (RowsTo rg ff m2))) (nh, hc fh [(52, .inl (0, 1260, .inl (zA r1_71))), (51, .inr (0, [.ref 52, .ref 53, .int (zI m_71), .int (zI p_7)])), (53, .inl (0, 7, .inl (zA b3_71)))]) 0 0 71 [some (.ref 51), some (.ref 2), some (.int (zI more_71)), some (.int (zI k_71))] [] := by
          intro N71
          induction N71 with
          | zero => intro more_71 k_71 m_71 r1_71 b3_71 i71_0 i71_1 i71_2 i71_3 i71_4 i71_5 i71_6 i71_7 i71_8 i71_9 hm; exact absurd hm (Nat.not_lt_zero _)
          | succ N71 ih71 =>
            intro more_71 k_71 m_71 r1_71 b3_71 i71_0 i71_1 i71_2 i71_3 i71_4 i71_5 i71_6 i71_7 i71_8 i71_9 hm71
            refine J_iload_n dX0_settle_71 rfl rfl ?_
            refine Z_sipush (n := 1260) dX0_settle_72 (by decide +kernel) ?_
            refine Z_icmp_ge (tgt := 116) dX0_settle_75 (by decide) (v_36ae6da805 g4 i71_0 i71_2 i71_4) v_4ed7e157d3 (fun h8 => ?_) (fun h8 => ?_)
            · refine J_touch (k := 53) (e := .inl (0, 7, .inl (zA b3_71))) rfl ?_
              refine J_touch (k := 52) (e := .inl (0, 1260, .inl (zA r1_71))) rfl ?_
              refine J_touch (k := 51) (e := .inr (0, [.ref 52, .ref 53, .int (zI m_71), .int (zI p_7)])) rfl ?_
              refine J_mask (L2 := [(51, .inr (0, [.ref 52, .ref 53, .int (zI m_71), .int (zI p_7)])), (52, .inl (0, 1260, .inl (zA r1_71))), (53, .inl (0, 7, .inl (zA b3_71)))]) (ks := [51, 52, 53, 52, 51, 53]) [true, true, true, false, false, false] rfl (by decide +kernel) rfl ?_
              exact J_vret dX0_settle_116 rfl (Nat.le_of_ble_eq_true rfl) (Nat.le_of_ble_eq_true rfl) ⟨b3_71, r1_71, m_71, p_7, rfl, rfl, i71_6, i71_9, (v_7fbb390bd8 g4 i71_1 i71_4 i71_5 h8), (v_16210d82de i7_2 g7), (by rw [i71_1]; exact i71_7)⟩
            · refine J_iload_n dX0_settle_78 rfl rfl ?_
              refine Z_if_eq (tgt := 116) dX0_settle_79 (by decide) (v_5f10a759cd i71_2 i71_3) (fun h9 => ?_) (fun h9 => ?_)
              · refine J_touch (k := 53) (e := .inl (0, 7, .inl (zA b3_71))) rfl ?_
                refine J_touch (k := 52) (e := .inl (0, 1260, .inl (zA r1_71))) rfl ?_
                refine J_touch (k := 51) (e := .inr (0, [.ref 52, .ref 53, .int (zI m_71), .int (zI p_7)])) rfl ?_
                refine J_mask (L2 := [(51, .inr (0, [.ref 52, .ref 53, .int (zI m_71), .int (zI p_7)])), (52, .inl (0, 1260, .inl (zA r1_71))), (53, .inl (0, 7, .inl (zA b3_71)))]) (ks := [51, 52, 53, 52, 51, 53]) [true, true, true, false, false, false] rfl (by decide +kernel) rfl ?_
                exact J_vret dX0_settle_116 rfl (Nat.le_of_ble_eq_true rfl) (Nat.le_of_ble_eq_true rfl) ⟨b3_71, r1_71, m_71, p_7, rfl, rfl, i71_6, i71_9, (v_59cd9a18f0 i71_1 i71_4 i71_5 h9), (v_16210d82de i7_2 g7), (by rw [i71_1]; exact i71_7)⟩
              · refine J_aload_n dX0_settle_82 rfl rfl ?_
                refine J_get (v := .ref 52) dX0_settle_83 fl_X0_9 rfl rfl ?_
                refine J_aload_n dX0_settle_86 rfl rfl ?_
                refine J_get (v := .int (zI m_71)) dX0_settle_87 fl_X0_18 rfl rfl ?_
                refine J_aload_n dX0_settle_90 rfl rfl ?_
                refine J_callV (st := [.int (zI m_71), .ref 52]) dX0_settle_91 cv_X0_25 (g_packed b3_71 m_71 p_7 i7_5 i7_6 i71_6 rfl rfl) rfl rfl rfl (Nat.le_of_ble_eq_true rfl) ⟨(Nat.le_of_ble_eq_true rfl), (Nat.le_of_ble_eq_true rfl)⟩ ⟨(Nat.le_of_ble_eq_true rfl), (Nat.le_of_ble_eq_true rfl)⟩ (fun r h9 hp => ?_)
                obtain ⟨z10, rfl, rfl, h11, h12⟩ := hp
                refine J_nf (nh2 := nh) (ck2 := 0) (sk2 := 0) (st2 := [.int (zI z10), .int (zI m_71), .ref 52]) rfl rfl rfl rfl ?_
                refine Y_iast (v := z10) 1260 dX0_settle_94 rfl rfl (by decide) (v_7d1748b1cc i71_0 i71_1) (v_e7ecec5d55 i71_1 h8) (fun f13 ef13 => ?_)
                have h14 : Rg f13 1260 (-2147483648) 2147483647 := Rg.ups i71_9 ef13 (v_9c631c66d9 h11) (v_602fda786b h11)
                refine J_aload_n dX0_settle_95 rfl rfl ?_
                refine J_dup dX0_settle_96 rfl ?_
                refine J_get (v := .int (zI m_71)) dX0_settle_97 fl_X0_18 rfl rfl ?_
                refine Z_iconst (n := 1) dX0_settle_100 ?_
                refine Z_iadd (c := m_71 + 1) dX0_settle_101 rfl ?_
                refine K_put (fs2 := [.ref 52, .ref 53, .int (zI (m_71 + 1)), .int (zI p_7)]) dX0_settle_102 fw_X0_18 rfl (Nat.le_of_ble_eq_true rfl) (fun _ => ⟨rfl, rfl⟩) rfl ?_
                refine J_aload_n dX0_settle_105 rfl rfl ?_
                refine J_callV (st := []) dX0_settle_106 cv_X0_29 (g_nextOrder b3_71 (m_71 + 1) p_7 i7_5 i7_6 i71_6 rfl rfl) rfl rfl rfl (Nat.le_of_ble_eq_true rfl) ⟨(Nat.le_of_ble_eq_true rfl), (Nat.le_of_ble_eq_true rfl)⟩ ⟨(Nat.le_of_ble_eq_true rfl), (Nat.le_of_ble_eq_true rfl)⟩ (fun r h9 hp => ?_)
                obtain ⟨f15, z16, rfl, rfl, h17, h18, h19, h20⟩ := hp
                refine J_nf (nh2 := nh) (ck2 := 0) (sk2 := 0) (st2 := [.int (zI z16)]) rfl rfl rfl rfl ?_
                refine J_app (L3 := [(53, .inl (0, 7, .inl (zA f15))), (51, .inr (0, [.ref 52, .ref 53, .int (zI (m_71 + 1)), .int (zI p_7)])), (52, .inl (0, 1260, .inl (zA f13))), (52, .inl (0, 1260, .inl (zA r1_71))), (51, .inr (0, [.ref 52, .ref 53, .int (zI m_71), .int (zI p_7)])), (53, .inl (0, 7, .inl (zA b3_71)))]) rfl ?_
                refine J_mask (L2 := [(53, .inl (0, 7, .inl (zA f15))), (51, .inr (0, [.ref 52, .ref 53, .int (zI (m_71 + 1)), .int (zI p_7)])), (52, .inl (0, 1260, .inl (zA f13)))]) (ks := [53, 51, 52, 52, 51, 53]) [true, true, true, false, false, false] rfl (by decide +kernel) rfl ?_
                have g21 := it_r q0 i71_0 i71_4 i71_8 (v_8b15499c4b i71_2 i71_3 h9) (v_16210d82de i7_2 g7) h18
                refine J_istore_n dX0_settle_109 rfl (Nat.le_of_ble_eq_true rfl) rfl ?_
                refine J_ls (ls2 := [some (.ref 51), some (.ref 2), some (.int (zI z16)), some (.int (zI k_71))]) rfl ?_
                refine Z_iinc (c := k_71 + 1) (ls2 := [some (.ref 51), some (.ref 2), some (.int (zI z16)), some (.int (zI (k_71 + 1)))]) dX0_settle_110 rfl (Nat.le_of_ble_eq_true rfl) rfl rfl rfl ?_
                refine J_goto (tgt := 71) dX0_settle_113 (by decide) ?_
                refine J_touch (k := 53) (e := .inl (0, 7, .inl (zA f15))) rfl ?_
                refine J_touch (k := 51) (e := .inr (0, [.ref 52, .ref 53, .int (zI (m_71 + 1)), .int (zI p_7)])) rfl ?_
                refine J_touch (k := 52) (e := .inl (0, 1260, .inl (zA f13))) rfl ?_
                refine J_mask (L2 := [(52, .inl (0, 1260, .inl (zA f13))), (51, .inr (0, [.ref 52, .ref 53, .int (zI (m_71 + 1)), .int (zI p_7)])), (53, .inl (0, 7, .inl (zA f15)))]) (ks := [52, 51, 53, 53, 51, 52]) [true, true, true, false, false, false] rfl (by decide +kernel) rfl ?_
                exact ih71 z16 (k_71 + 1) (m_71 + 1) f13 f15 (v_da458fa48a i71_0) (v_47ad433e4d i71_1) h19 h20 g21.1 g21.2 (NOf_Rg i71_6 (v_2b02420001 i7_5) (v_dc59a041dc i7_6) h17) (RowsTo_push i71_7 (by rw [← i71_1]; exact ef13) i71_8 (v_8b15499c4b i71_2 i71_3 h9) (by rw [← show p_7 = bsum ff from (v_16210d82de i7_2 g7)]; exact h12)) (it_go i71_0 i71_8 (v_8b15499c4b i71_2 i71_3 h9) (v_16210d82de i7_2 g7) h17) h14 (meas_lt v_c44c1d6d32 (v_ca84b50ff2 h8) hm71)
        exact lp71 _ 1 0 0 rf b1_7 v_939070ca3f v_2ca2bbca1f v_316afd7d0b v_bbcfac9b7d (v_653c814585 g3) (v_f403e9520d g4) i7_4 (RowsTo_0) (Bds_it i7_3 (v_16210d82de i7_2 g7)) q2 (Nat.lt_succ_self _)
      · refine Z_iconst (n := 0) dX0_settle_12 ?_
        refine J_istore_n dX0_settle_13 rfl (Nat.le_of_ble_eq_true rfl) rfl ?_
        refine J_ls (ls2 := [some (.ref 51), some (.ref 2), some (.int (zI co_7)), some (.int (zI 0))]) rfl ?_
        have lp14 : ∀ (N14 : Nat) (i_14 : Int) (pp_14 : Int) (b2_14 : Int → Int), (0 ≤ i_14) → (pp_14 = p_7 + i_14) → (0 ≤ pp_14) → (pp_14 ≤ 7) → (Bds b2_14 ff pp_14) → (Rg b2_14 7 0 4) → (i_14 ≤ ff co_7) → (7 - i_14).toNat < N14 → J l G MX0_settle { frames := 2, cells := 0, slots := 0, locals := 47 } jE (jMQ G { frames := 2, cells := 0, slots := 0, locals := 47 } (fun rr h9 => ∃ bg : Int → Int, ∃ rg : Int → Int, ∃ m2 : Int, ∃ p2 : Int, rr = none ∧ h9 = (nh, hc fh [(51, .inr (0, [.ref 52, .ref 53, .int (zI m2), .int (zI p2)])), (52, .inl (0, 1260, .inl (zA rg))), (53, .inl (0, 7, .inl (zA bg)))]) ∧ (Rg bg 7 0 4) ∧ (Rg rg 1260 (-2147483648) 2147483647) ∧ (m2 = Hi ff) ∧ (p2 = bsum ff) ∧ (RowsTo rg ff m2))) (nh, hc fh [(53, .inl (0, 7, .inl (zA b2_14))), (51, .inr (0, [.ref 52, .ref 53, .int (zI many), .int (zI pp_14)]))]) 0 0 14 [some (.ref 51), some (.ref 2), some (.int (zI co_7)), some (.int (zI i_14))] [] := by
          intro N14
          induction N14 with
          | zero => intro i_14 pp_14 b2_14 i14_0 i14_1 i14_2 i14_3 i14_4 i14_5 i14_6 hm; exact absurd hm (Nat.not_lt_zero _)
          | succ N14 ih14 =>
            intro i_14 pp_14 b2_14 i14_0 i14_1 i14_2 i14_3 i14_4 i14_5 i14_6 hm14
            refine J_iload_n dX0_settle_14 rfl rfl ?_
            refine J_aload_n dX0_settle_15 rfl rfl ?_
            refine J_iload_n dX0_settle_16 rfl rfl ?_
            obtain ⟨z22, ez22⟩ : ∃ z : Int, ff co_7 = z := ⟨_, rfl⟩
            refine Y_iald (z := z22) 5 dX0_settle_17 hk2 rfl (by decide) (v_2b02420001 i7_0) (v_a9de8d4631 h5) ez22 ?_
            have g23 := okF_at q0 i7_0 (v_122ef500b3 h5) ez22
            refine Z_icmp_ge (tgt := 56) dX0_settle_18 (by decide) (v_1cbf021d6c i7_5 i14_0 i14_1 i14_3) (v_2ee1de483d g23.1 g23.2.1) (fun h24 => ?_) (fun h24 => ?_)
            · have g25 := psum_step (f := ff) i7_0 (v_122ef500b3 h5)
              refine Z_iinc (c := co_7 + 1) (ls2 := [some (.ref 51), some (.ref 2), some (.int (zI (co_7 + 1))), some (.int (zI i_14))]) dX0_settle_56 rfl (Nat.le_of_ble_eq_true rfl) rfl rfl rfl ?_
              refine J_goto (tgt := 7) dX0_settle_59 (by decide) ?_
              have g26 : 0 ≤ bsum ff := (bsum_rng q0).1
              have g27 : bsum ff ≤ 7 := (bsum_rng q0).2
              have g28 : 1 ≤ Hi ff := (Hi_rng q0).1
              have g29 : Hi ff ≤ 1260 := (Hi_rng q0).2
              refine J_drop (ls2 := [some (.ref 51), some (.ref 2), some (.int (zI (co_7 + 1))), none]) [true, true, true, false] rfl ?_
              exact ih7 (co_7 + 1) pp_14 b2_14 (v_da458fa48a i7_0) (v_3868a63a10 h5) (v_4d2fb717f3 i7_2 i14_1 i14_6 ez22 h24 g25) (i14_4) i14_5 i14_2 i14_3 (meas_lt v_20f1226439 (v_b58bb7b78b h5) hm7)
            · refine J_aload_n dX0_settle_21 rfl rfl ?_
              refine J_get (v := .int (zI pp_14)) dX0_settle_22 fl_X0_22 rfl rfl ?_
              refine Z_bipush (n := 7) dX0_settle_25 (by decide +kernel) ?_
              refine Z_icmp_ge (tgt := 56) dX0_settle_27 (by decide) (v_2ee1de483d i14_2 i14_3) v_c3fe1a091f (fun h30 => absurd h30 (v_9485c26caf i7_2 i14_1 g23.2.2.1 h24)) (fun h30 => ?_)
              refine J_aload_n dX0_settle_30 rfl rfl ?_
              refine J_get (v := .ref 53) dX0_settle_31 fl_X0_15 rfl rfl ?_
              refine J_aload_n dX0_settle_34 rfl rfl ?_
              refine J_get (v := .int (zI pp_14)) dX0_settle_35 fl_X0_22 rfl rfl ?_
              refine J_iload_n dX0_settle_38 rfl rfl ?_
              refine Y_iast (v := co_7) 7 dX0_settle_39 rfl rfl (by decide) (v_2b02420001 i14_2) (v_a19a548577 h30) (fun f31 ef31 => ?_)
              have h32 : Rg f31 7 0 4 := Rg.ups i14_5 ef31 (v_2b02420001 i7_0) (v_122ef500b3 h5)
              refine J_aload_n dX0_settle_40 rfl rfl ?_
              refine J_dup dX0_settle_41 rfl ?_
              refine J_get (v := .int (zI pp_14)) dX0_settle_42 fl_X0_22 rfl rfl ?_
              refine Z_iconst (n := 1) dX0_settle_45 ?_
              refine Z_iadd (c := pp_14 + 1) dX0_settle_46 rfl ?_
              refine K_put (fs2 := [.ref 52, .ref 53, .int (zI many), .int (zI (pp_14 + 1))]) dX0_settle_47 fw_X0_22 rfl (Nat.le_of_ble_eq_true rfl) (fun _ => ⟨rfl, rfl⟩) rfl ?_
              refine Z_iinc (c := i_14 + 1) (ls2 := [some (.ref 51), some (.ref 2), some (.int (zI co_7)), some (.int (zI (i_14 + 1)))]) dX0_settle_50 rfl (Nat.le_of_ble_eq_true rfl) rfl rfl rfl ?_
              refine J_goto (tgt := 14) dX0_settle_53 (by decide) ?_
              refine J_mask (L2 := [(51, .inr (0, [.ref 52, .ref 53, .int (zI many), .int (zI (pp_14 + 1))])), (53, .inl (0, 7, .inl (zA f31)))]) (ks := [51, 53, 53, 51]) [true, true, false, false] rfl (by decide +kernel) rfl ?_
              refine J_touch (k := 51) (e := .inr (0, [.ref 52, .ref 53, .int (zI many), .int (zI (pp_14 + 1))])) rfl ?_
              refine J_touch (k := 53) (e := .inl (0, 7, .inl (zA f31))) rfl ?_
              refine J_mask (L2 := [(53, .inl (0, 7, .inl (zA f31))), (51, .inr (0, [.ref 52, .ref 53, .int (zI many), .int (zI (pp_14 + 1))]))]) (ks := [53, 51, 51, 53]) [true, true, false, false] rfl (by decide +kernel) rfl ?_
              exact ih14 (i_14 + 1) (pp_14 + 1) f31 (v_da458fa48a i14_0) (v_88b65ed625 i14_1) (v_da458fa48a i14_2) (v_dd5ce0356b h30) (Bds_push i14_4 q0 ef31 i7_0 (v_122ef500b3 h5) ez22 (v_5525024f24 i7_2 i14_0 i14_1) (v_b1cd41b959 i7_2 i14_1 h24)) h32 (v_5a90fa72ab ez22 h24) (meas_lt v_2adab8813b (v_a7b5c24ec8 i7_5 i14_1 h30) hm14)
        exact lp14 _ 0 p_7 b1_7 v_939070ca3f v_76ab4688c1 i7_5 i7_6 (i7_3) i7_4 ((okF_at q0 i7_0 (v_122ef500b3 h5) rfl).1) (Nat.lt_succ_self _)
  exact lp7 _ 0 0 bf v_939070ca3f v_17fcbbe8da (psum_0 ff) (Bds_0) q1 v_939070ca3f v_9801f0d3f8 (Nat.lt_succ_self _)
set_option maxHeartbeats 4000000 in
set_option maxRecDepth 100000 in
theorem g_exchanged {l : Launch} {G : jG} {nh : Nat} {fh : Nat → Option va_E} (x : Int) (a : Int) (b : Int) (q0 : zr x) (q1 : zr a) (q2 : zr b) : JM l G yX0_exchanged MX0_exchanged { frames := 1, cells := 0, slots := 0, locals := 21 } [.int (zI x), .int (zI a), .int (zI b)] (nh, fh) (fun rr h9 => ∃ r : Int, rr = some (.int (zI r)) ∧ h9 = (nh, fh) ∧ (zr r) ∧ (exV x a b = r)) := by
  refine JM.of (by decide) rfl (fun h => by cases h) (Nat.le_of_ble_eq_true rfl) ⟨1, rfl⟩ ?_
  refine J_hc0 (J_ls (ls2 := [some (.int (zI x)), some (.int (zI a)), some (.int (zI b)), none]) rfl ?_)
  refine J_iload_n dX0_exchanged_0 rfl rfl ?_
  refine J_iload_n dX0_exchanged_1 rfl rfl ?_
  refine J_callS (st := []) dX0_exchanged_2 cs_X0_45 (g_colourAt x a q0 q1) rfl rfl (Nat.le_of_ble_eq_true rfl) ⟨(Nat.le_of_ble_eq_true rfl), (Nat.le_of_ble_eq_true rfl)⟩ ⟨(Nat.le_of_ble_eq_true rfl), (Nat.le_of_ble_eq_true rfl)⟩ (fun r h9 hp => ?_)
  obtain ⟨z1, rfl, rfl, h2, h3, h4⟩ := hp
  refine J_nf (nh2 := nh) (ck2 := 0) (sk2 := 0) (st2 := [.int (zI z1)]) rfl rfl rfl rfl ?_
  refine J_iload_n dX0_exchanged_5 rfl rfl ?_
  refine J_iload_n dX0_exchanged_6 rfl rfl ?_
  refine J_callS (st := [.int (zI z1)]) dX0_exchanged_7 cs_X0_45 (g_colourAt x b q0 q2) rfl rfl (Nat.le_of_ble_eq_true rfl) ⟨(Nat.le_of_ble_eq_true rfl), (Nat.le_of_ble_eq_true rfl)⟩ ⟨(Nat.le_of_ble_eq_true rfl), (Nat.le_of_ble_eq_true rfl)⟩ (fun r h9 hp => ?_)
  obtain ⟨z5, rfl, rfl, h6, h7, h8⟩ := hp
  refine J_nf (nh2 := nh) (ck2 := 0) (sk2 := 0) (st2 := [.int (zI z5), .int (zI z1)]) rfl rfl rfl rfl ?_
  obtain ⟨z9, ez9⟩ : ∃ z : Int, zxor z1 z5 = z := ⟨_, rfl⟩
  refine Y_ixor (z := z9) dX0_exchanged_10 ez9 ?_
  have h10 : zr z9 := by rw [← ez9]; exact zr_toInt _
  refine J_istore_n dX0_exchanged_11 rfl (Nat.le_of_ble_eq_true rfl) rfl ?_
  refine J_ls (ls2 := [some (.int (zI x)), some (.int (zI a)), some (.int (zI b)), some (.int (zI z9))]) rfl ?_
  refine J_iload_n dX0_exchanged_12 rfl rfl ?_
  refine J_iload_n dX0_exchanged_13 rfl rfl ?_
  refine J_iload_n dX0_exchanged_14 rfl rfl ?_
  obtain ⟨z11, ez11⟩ : ∃ z : Int, zshl z9 a = z := ⟨_, rfl⟩
  refine Y_ishl (z := z11) dX0_exchanged_15 ez11 ?_
  have h12 : zr z11 := by rw [← ez11]; exact zr_toInt _
  obtain ⟨z13, ez13⟩ : ∃ z : Int, zxor x z11 = z := ⟨_, rfl⟩
  refine Y_ixor (z := z13) dX0_exchanged_16 ez13 ?_
  have h14 : zr z13 := by rw [← ez13]; exact zr_toInt _
  refine J_iload_n dX0_exchanged_17 rfl rfl ?_
  refine J_iload_n dX0_exchanged_18 rfl rfl ?_
  obtain ⟨z15, ez15⟩ : ∃ z : Int, zshl z9 b = z := ⟨_, rfl⟩
  refine Y_ishl (z := z15) dX0_exchanged_19 ez15 ?_
  have h16 : zr z15 := by rw [← ez15]; exact zr_toInt _
  obtain ⟨z17, ez17⟩ : ∃ z : Int, zxor z13 z15 = z := ⟨_, rfl⟩
  refine Y_ixor (z := z17) dX0_exchanged_20 ez17 ?_
  have h18 : zr z17 := by rw [← ez17]; exact zr_toInt _
  exact J_iret dX0_exchanged_21 rfl rfl (Nat.le_of_ble_eq_true rfl) (Nat.le_of_ble_eq_true rfl) ⟨z17, rfl, rfl, h18, (by subst_vars; rfl)⟩
set_option maxHeartbeats 4000000 in
set_option maxRecDepth 100000 in
theorem g_turned {l : Launch} {G : jG} {nh : Nat} {fh : Nat → Option va_E} (x : Int) (many : Int) (places : Int) (q0 : zr x) (q1 : 0 ≤ places) (q2 : places ≤ 7) (hk51 : fh 51 = some (.inr (0, [.ref 52, .ref 53, .int (zI many), .int (zI places)]))) : JM l G yX0_turned MX0_turned { frames := 1, cells := 0, slots := 0, locals := 21 } [.ref 51, .int (zI x)] (nh, fh) (fun rr h9 => ∃ r : Int, rr = some (.int (zI r)) ∧ h9 = (nh, fh) ∧ (zr r)) := by
  refine JM.of (by decide) rfl (fun h => by cases h) (Nat.le_of_ble_eq_true rfl) ⟨2, rfl⟩ ?_
  refine J_hc0 (J_ls (ls2 := [some (.ref 51), some (.int (zI x)), none, none]) rfl ?_)
  refine J_aload_n dX0_turned_0 rfl rfl ?_
  refine J_get (v := .int (zI places)) dX0_turned_1 fl_X0_22 hk51 rfl ?_
  refine Z_iconst (n := 2) dX0_turned_4 ?_
  refine Z_icmp_ge (tgt := 10) dX0_turned_5 (by decide) (v_2ee1de483d q1 q2) v_9ea63c5f56 (fun h1 => ?_) (fun h1 => ?_)
  · refine J_iload_n dX0_turned_10 rfl rfl ?_
    refine J_aload_n dX0_turned_11 rfl rfl ?_
    refine Z_iconst (n := 0) dX0_turned_12 ?_
    refine J_callV (st := [.int (zI x)]) dX0_turned_13 cv_X0_48 (g_shiftOf 0 many places v_939070ca3f v_9801f0d3f8 q1 q2 hk51) hk51 rfl rfl (Nat.le_of_ble_eq_true rfl) ⟨(Nat.le_of_ble_eq_true rfl), (Nat.le_of_ble_eq_true rfl)⟩ ⟨(Nat.le_of_ble_eq_true rfl), (Nat.le_of_ble_eq_true rfl)⟩ (fun r h9 hp => ?_)
    obtain ⟨z2, rfl, rfl, h3⟩ := hp
    refine J_nf (nh2 := nh) (ck2 := 0) (sk2 := 0) (st2 := [.int (zI z2), .int (zI x)]) rfl rfl rfl rfl ?_
    refine J_callS (st := []) dX0_turned_16 cs_X0_45 (g_colourAt x z2 q0 (v_6136b89256 q2 h1 h3)) rfl rfl (Nat.le_of_ble_eq_true rfl) ⟨(Nat.le_of_ble_eq_true rfl), (Nat.le_of_ble_eq_true rfl)⟩ ⟨(Nat.le_of_ble_eq_true rfl), (Nat.le_of_ble_eq_true rfl)⟩ (fun r h9 hp => ?_)
    obtain ⟨z4, rfl, rfl, h5, h6, h7⟩ := hp
    refine J_nf (nh2 := nh) (ck2 := 0) (sk2 := 0) (st2 := [.int (zI z4)]) rfl rfl rfl rfl ?_
    refine J_istore_n dX0_turned_19 rfl (Nat.le_of_ble_eq_true rfl) rfl ?_
    refine J_ls (ls2 := [some (.ref 51), some (.int (zI x)), some (.int (zI z4)), none]) rfl ?_
    refine J_iload_n dX0_turned_20 rfl rfl ?_
    refine Z_iconst (n := 1) dX0_turned_21 ?_
    refine J_aload_n dX0_turned_22 rfl rfl ?_
    refine Z_iconst (n := 0) dX0_turned_23 ?_
    refine J_callV (st := [.int (zI 1), .int (zI x)]) dX0_turned_24 cv_X0_48 (g_shiftOf 0 many places v_939070ca3f v_9801f0d3f8 q1 q2 hk51) hk51 rfl rfl (Nat.le_of_ble_eq_true rfl) ⟨(Nat.le_of_ble_eq_true rfl), (Nat.le_of_ble_eq_true rfl)⟩ ⟨(Nat.le_of_ble_eq_true rfl), (Nat.le_of_ble_eq_true rfl)⟩ (fun r h9 hp => ?_)
    obtain ⟨z8, rfl, rfl, h9⟩ := hp
    refine J_nf (nh2 := nh) (ck2 := 0) (sk2 := 0) (st2 := [.int (zI z8), .int (zI 1), .int (zI x)]) rfl rfl rfl rfl ?_
    obtain ⟨z10, ez10⟩ : ∃ z : Int, zshl 1 z8 = z := ⟨_, rfl⟩
    refine Y_ishl (z := z10) dX0_turned_27 ez10 ?_
    have h11 : zr z10 := by rw [← ez10]; exact zr_toInt _
    refine Z_iconst (n := 1) dX0_turned_28 ?_
    refine Z_isub (c := z10 - 1) dX0_turned_29 rfl ?_
    obtain ⟨z12, ez12⟩ : ∃ z : Int, zand x (z10 - 1) = z := ⟨_, rfl⟩
    refine Y_iand (z := z12) dX0_turned_30 ez12 ?_
    have h13 : zr z12 := by rw [← ez12]; exact zr_toInt _
    refine J_istore_n dX0_turned_31 rfl (Nat.le_of_ble_eq_true rfl) rfl ?_
    refine J_ls (ls2 := [some (.ref 51), some (.int (zI x)), some (.int (zI z4)), some (.int (zI z12))]) rfl ?_
    refine J_iload_n dX0_turned_32 rfl rfl ?_
    refine J_iload_n dX0_turned_33 rfl rfl ?_
    refine J_callS (st := []) dX0_turned_34 cs_X0_33 (g_behind z12 z4 h13 (v_2ee1de483d h5 h6)) rfl rfl (Nat.le_of_ble_eq_true rfl) ⟨(Nat.le_of_ble_eq_true rfl), (Nat.le_of_ble_eq_true rfl)⟩ ⟨(Nat.le_of_ble_eq_true rfl), (Nat.le_of_ble_eq_true rfl)⟩ (fun r h9 hp => ?_)
    obtain ⟨z14, rfl, rfl, h15, h16⟩ := hp
    refine J_nf (nh2 := nh) (ck2 := 0) (sk2 := 0) (st2 := [.int (zI z14)]) rfl rfl rfl rfl ?_
    exact J_iret dX0_turned_37 rfl rfl (Nat.le_of_ble_eq_true rfl) (Nat.le_of_ble_eq_true rfl) ⟨z14, rfl, rfl, h15⟩
  · refine J_iload_n dX0_turned_8 rfl rfl ?_
    exact J_iret dX0_turned_9 rfl rfl (Nat.le_of_ble_eq_true rfl) (Nat.le_of_ble_eq_true rfl) ⟨x, rfl, rfl, q0⟩
set_option maxHeartbeats 4000000 in
set_option maxRecDepth 100000 in
theorem g_codeOf {l : Launch} {G : jG} {nh : Nat} {fh : Nat → Option va_E} (x : Int) (many : Int) (places : Int) (rf : Int → Int) (ff : Int → Int) (q0 : 0 ≤ x) (q1 : x < many) (q2 : 1 ≤ many) (q3 : many ≤ 1260) (q4 : 0 ≤ places) (q5 : places ≤ 7) (q6 : Rg rf 1260 (-2147483648) 2147483647) (q7 : okF ff) (q8 : many = Hi ff) (q9 : places = bsum ff) (q10 : RowsTo rf ff many) (hk51 : fh 51 = some (.inr (0, [.ref 52, .ref 53, .int (zI many), .int (zI places)]))) (hk52 : fh 52 = some (.inl (0, 1260, .inl (zA rf)))) : JM l G yX0_codeOf MX0_codeOf { frames := 2, cells := 0, slots := 0, locals := 42 } [.ref 51, .int (zI x)] (nh, fh) (fun rr h9 => ∃ r : Int, rr = some (.int (zI r)) ∧ h9 = (nh, fh) ∧ (cod5 (itB ff (x).toNat) (places).toNat = r)) := by
  refine JM.of (by decide) rfl (fun h => by cases h) (Nat.le_of_ble_eq_true rfl) ⟨2, rfl⟩ ?_
  refine J_hc0 (J_ls (ls2 := [some (.ref 51), some (.int (zI x)), none, none]) rfl ?_)
  refine Z_iconst (n := 0) dX0_codeOf_0 ?_
  refine J_istore_n dX0_codeOf_1 rfl (Nat.le_of_ble_eq_true rfl) rfl ?_
  refine J_ls (ls2 := [some (.ref 51), some (.int (zI x)), some (.int (zI 0)), none]) rfl ?_
  refine Z_iconst (n := 0) dX0_codeOf_2 ?_
  refine J_istore_n dX0_codeOf_3 rfl (Nat.le_of_ble_eq_true rfl) rfl ?_
  refine J_ls (ls2 := [some (.ref 51), some (.int (zI x)), some (.int (zI 0)), some (.int (zI 0))]) rfl ?_
  have lp4 : ∀ (N4 : Nat) (v_4 : Int) (i_4 : Int), (0 ≤ i_4) → (i_4 ≤ places) → (cod5 (itB ff (x).toNat) (i_4).toNat = v_4) → (places - i_4).toNat < N4 → J l G MX0_codeOf { frames := 2, cells := 0, slots := 0, locals := 42 } jE (jMQ G { frames := 2, cells := 0, slots := 0, locals := 42 } (fun rr h9 => ∃ r : Int, rr = some (.int (zI r)) ∧ h9 = (nh, fh) ∧ (cod5 (itB ff (x).toNat) (places).toNat = r))) (nh, hc fh []) 0 0 4 [some (.ref 51), some (.int (zI x)), some (.int (zI v_4)), some (.int (zI i_4))] [] := by
    intro N4
    induction N4 with
    | zero => intro v_4 i_4 i4_0 i4_1 i4_2 hm; exact absurd hm (Nat.not_lt_zero _)
    | succ N4 ih4 =>
      intro v_4 i_4 i4_0 i4_1 i4_2 hm4
      refine J_iload_n dX0_codeOf_4 rfl rfl ?_
      refine J_aload_n dX0_codeOf_5 rfl rfl ?_
      refine J_get (v := .int (zI places)) dX0_codeOf_6 fl_X0_22 hk51 rfl ?_
      refine Z_icmp_ge (tgt := 36) dX0_codeOf_9 (by decide) (v_ee3170dbf0 q5 i4_0 i4_1) (v_2ee1de483d q4 q5) (fun h1 => ?_) (fun h1 => ?_)
      · refine J_iload_n dX0_codeOf_36 rfl rfl ?_
        exact J_iret dX0_codeOf_37 rfl rfl (Nat.le_of_ble_eq_true rfl) (Nat.le_of_ble_eq_true rfl) ⟨v_4, rfl, rfl, (by have e : i_4 = places := (v_9b8f42b01e i4_1 h1); have h := i4_2; rw [e] at h; exact h)⟩
      · refine J_iload_n dX0_codeOf_12 rfl rfl ?_
        refine Z_iconst (n := 5) dX0_codeOf_13 ?_
        refine Z_imul (c := 5 * v_4) dX0_codeOf_14 v_17a439e0e6 ?_
        refine J_aload_n dX0_codeOf_15 rfl rfl ?_
        refine J_iload_n dX0_codeOf_16 rfl rfl ?_
        refine J_callV (st := [.int (zI (5 * v_4))]) dX0_codeOf_17 cv_X0_52 (g_rowOf x many places rf q0 q1 q2 q3 hk51 hk52) hk51 rfl rfl (Nat.le_of_ble_eq_true rfl) ⟨(Nat.le_of_ble_eq_true rfl), (Nat.le_of_ble_eq_true rfl)⟩ ⟨(Nat.le_of_ble_eq_true rfl), (Nat.le_of_ble_eq_true rfl)⟩ (fun r h9 hp => ?_)
        obtain ⟨z2, rfl, rfl, h3⟩ := hp
        have h4 := Rg.at q6 (v_2b02420001 q0) (v_6251b724b8 q1 q3) h3
        refine J_nf (nh2 := nh) (ck2 := 0) (sk2 := 0) (st2 := [.int (zI z2), .int (zI (5 * v_4))]) rfl rfl rfl rfl ?_
        refine J_aload_n dX0_codeOf_20 rfl rfl ?_
        refine J_iload_n dX0_codeOf_21 rfl rfl ?_
        refine J_callV (st := [.int (zI z2), .int (zI (5 * v_4))]) dX0_codeOf_22 cv_X0_48 (g_shiftOf i_4 many places i4_0 (v_4e1fda5c2f q5 h1) q4 q5 hk51) hk51 rfl rfl (Nat.le_of_ble_eq_true rfl) ⟨(Nat.le_of_ble_eq_true rfl), (Nat.le_of_ble_eq_true rfl)⟩ ⟨(Nat.le_of_ble_eq_true rfl), (Nat.le_of_ble_eq_true rfl)⟩ (fun r h9 hp => ?_)
        obtain ⟨z5, rfl, rfl, h6⟩ := hp
        refine J_nf (nh2 := nh) (ck2 := 0) (sk2 := 0) (st2 := [.int (zI z5), .int (zI z2), .int (zI (5 * v_4))]) rfl rfl rfl rfl ?_
        refine J_callS (st := [.int (zI (5 * v_4))]) dX0_codeOf_25 cs_X0_45 (g_colourAt z2 z5 (v_f306e1cdb8 h4.1 h4.2) (v_d8240659b1 q5 i4_0 h1 h6)) rfl rfl (Nat.le_of_ble_eq_true rfl) ⟨(Nat.le_of_ble_eq_true rfl), (Nat.le_of_ble_eq_true rfl)⟩ ⟨(Nat.le_of_ble_eq_true rfl), (Nat.le_of_ble_eq_true rfl)⟩ (fun r h9 hp => ?_)
        obtain ⟨z7, rfl, rfl, h8, h9, h10⟩ := hp
        refine J_nf (nh2 := nh) (ck2 := 0) (sk2 := 0) (st2 := [.int (zI z7), .int (zI (5 * v_4))]) rfl rfl rfl rfl ?_
        have g11 := Rows_dig q10 q7 q8 (v_2b02420001 q0) (v_b9aca61388 q1) h3 q9 (v_2b02420001 i4_0) (v_fe9ea41faa h1) (v_dc6c8b5b14 h6) h10
        refine Z_iadd (c := 5 * v_4 + z7) dX0_codeOf_28 rfl ?_
        refine J_istore_n dX0_codeOf_29 rfl (Nat.le_of_ble_eq_true rfl) rfl ?_
        refine J_ls (ls2 := [some (.ref 51), some (.int (zI x)), some (.int (zI (5 * v_4 + z7))), some (.int (zI i_4))]) rfl ?_
        refine Z_iinc (c := i_4 + 1) (ls2 := [some (.ref 51), some (.int (zI x)), some (.int (zI (5 * v_4 + z7))), some (.int (zI (i_4 + 1)))]) dX0_codeOf_30 rfl (Nat.le_of_ble_eq_true rfl) rfl rfl rfl ?_
        refine J_goto (tgt := 4) dX0_codeOf_33 (by decide) ?_
        exact ih4 (5 * v_4 + z7) (i_4 + 1) (v_da458fa48a i4_0) (v_e390a36114 h1) (cod5_step i4_2 i4_0 g11.1.symm v_6eb70b74d0) (meas_lt v_90eacd6fd4 (v_8b7dd7d486 h1) hm4)
  exact lp4 _ 0 0 v_939070ca3f q4 (rfl) (Nat.lt_succ_self _)
set_option maxHeartbeats 4000000 in
set_option maxRecDepth 100000 in
theorem g_withCode {l : Launch} {G : jG} {nh : Nat} {fh : Nat → Option va_E} (x : Int) (many : Int) (places : Int) (rf : Int → Int) (ff : Int → Int) (q0 : zr x) (q1 : 1 ≤ many) (q2 : many ≤ 1260) (q3 : 0 ≤ places) (q4 : places ≤ 7) (q5 : Rg rf 1260 (-2147483648) 2147483647) (q6 : okF ff) (q7 : many = Hi ff) (q8 : places = bsum ff) (q9 : RowsTo rf ff many) (hk51 : fh 51 = some (.inr (0, [.ref 52, .ref 53, .int (zI many), .int (zI places)]))) (hk52 : fh 52 = some (.inl (0, 1260, .inl (zA rf)))) : JM l G yX0_withCode MX0_withCode { frames := 1, cells := 0, slots := 0, locals := 24 } [.ref 51, .int (zI x)] (nh, fh) (fun rr h9 => ∃ r : Int, rr = some (.int (zI r)) ∧ h9 = (nh, fh) ∧ (-1 ≤ r) ∧ (r < many) ∧ (HcR ff x r)) := by
  refine JM.of (by decide) rfl (fun h => by cases h) (Nat.le_of_ble_eq_true rfl) ⟨3, rfl⟩ ?_
  refine J_hc0 (J_ls (ls2 := [some (.ref 51), some (.int (zI x)), none, none, none]) rfl ?_)
  refine J_iload_n dX0_withCode_0 rfl rfl ?_
  refine Z_if_ge (tgt := 6) dX0_withCode_1 (by decide) (v_b25fa51a85 q0) (fun h1 => ?_) (fun h1 => ?_)
  · refine J_iload_n dX0_withCode_6 rfl rfl ?_
    refine J_istore_n dX0_withCode_7 rfl (Nat.le_of_ble_eq_true rfl) rfl ?_
    refine J_ls (ls2 := [some (.ref 51), some (.int (zI x)), some (.int (zI x)), none, none]) rfl ?_
    refine Z_iconst (n := 0) dX0_withCode_8 ?_
    refine J_istore_n dX0_withCode_9 rfl (Nat.le_of_ble_eq_true rfl) rfl ?_
    refine J_ls (ls2 := [some (.ref 51), some (.int (zI x)), some (.int (zI x)), some (.int (zI 0)), none]) rfl ?_
    refine J_aload_n dX0_withCode_10 rfl rfl ?_
    refine J_get (v := .int (zI places)) dX0_withCode_11 fl_X0_22 hk51 rfl ?_
    refine Z_iconst (n := 1) dX0_withCode_14 ?_
    refine Z_isub (c := places - 1) dX0_withCode_15 rfl ?_
    refine J_istore dX0_withCode_16 (Nat.le_of_ble_eq_true rfl) rfl ?_
    refine J_ls (ls2 := [some (.ref 51), some (.int (zI x)), some (.int (zI x)), some (.int (zI 0)), some (.int (zI (places - 1)))]) rfl ?_
    have lp18 : ∀ (N18 : Nat) (left_18 : Int) (row_18 : Int) (i_18 : Int), (-1 ≤ i_18) → (i_18 < places) → (zr row_18) → (0 ≤ left_18) → (zr left_18) → (left_18 = ((x.toNat / 5 ^ (places - 1 - i_18).toNat : Nat) : Int)) → (row_18 = ((tlV (dgD x places) places (places - 1 - i_18).toNat : Nat) : Int)) → (i_18 + 1).toNat < N18 → J l G MX0_withCode { frames := 1, cells := 0, slots := 0, locals := 24 } jE (jMQ G { frames := 1, cells := 0, slots := 0, locals := 24 } (fun rr h9 => ∃ r : Int, rr = some (.int (zI r)) ∧ h9 = (nh, fh) ∧ (-1 ≤ r) ∧ (r < many) ∧ (HcR ff x r))) (nh, hc fh []) 0 0 18 [some (.ref 51), some (.int (zI x)), some (.int (zI left_18)), some (.int (zI row_18)), some (.int (zI i_18))] [] := by
      intro N18
      induction N18 with
      | zero => intro left_18 row_18 i_18 i18_0 i18_1 i18_2 i18_3 i18_4 i18_5 i18_6 hm; exact absurd hm (Nat.not_lt_zero _)
      | succ N18 ih18 =>
        intro left_18 row_18 i_18 i18_0 i18_1 i18_2 i18_3 i18_4 i18_5 i18_6 hm18
        refine J_iload dX0_withCode_18 rfl ?_
        refine Z_if_lt (tgt := 46) dX0_withCode_20 (by decide) (v_aad35d55c1 q4 i18_0 i18_1) (fun h2 => ?_) (fun h2 => ?_)
        · refine J_iload_n dX0_withCode_46 rfl rfl ?_
          refine Z_if_ne (tgt := 58) dX0_withCode_47 (by decide) (v_9e25595c56 i18_3 i18_4) (fun h3 => ?_) (fun h3 => ?_)
          · refine Z_iconst (n := -1) dX0_withCode_58 ?_
            exact J_iret dX0_withCode_59 rfl rfl (Nat.le_of_ble_eq_true rfl) (Nat.le_of_ble_eq_true rfl) ⟨(-1), rfl, rfl, v_4d9e6ac08a, (v_7e0ab68801 q1), (HcR.none q6 (Or.inr (left1 (v_2b02420001 h1) (show left_18 = ((x.toNat / 5 ^ (bsum ff).toNat : Nat) : Int) by have u := i18_5; rw [show (places - 1 - i_18) = bsum ff by omega] at u; exact u) (v_d47f715d39 i18_3 h3))))⟩
          · refine J_aload_n dX0_withCode_50 rfl rfl ?_
            refine J_iload_n dX0_withCode_51 rfl rfl ?_
            refine J_callV (st := []) dX0_withCode_52 cv_X0_55 (g_find row_18 many places rf i18_2 q1 q2 q5 (Rows_mono q9 q6 q7) hk51 hk52) hk51 rfl rfl (Nat.le_of_ble_eq_true rfl) ⟨(Nat.le_of_ble_eq_true rfl), (Nat.le_of_ble_eq_true rfl)⟩ ⟨(Nat.le_of_ble_eq_true rfl), (Nat.le_of_ble_eq_true rfl)⟩ (fun r h9 hp => ?_)
            obtain ⟨z4, rfl, rfl, h5, h6, h7⟩ := hp
            refine J_nf (nh2 := nh) (ck2 := 0) (sk2 := 0) (st2 := [.int (zI z4)]) rfl rfl rfl rfl ?_
            refine J_goto (tgt := 59) dX0_withCode_55 (by decide) ?_
            exact J_iret dX0_withCode_59 rfl rfl (Nat.le_of_ble_eq_true rfl) (Nat.le_of_ble_eq_true rfl) ⟨z4, rfl, rfl, h5, h6, (HcR.find q9 q6 q7 (v_2b02420001 h1) (left0 (v_2b02420001 h1) (show left_18 = ((x.toNat / 5 ^ (bsum ff).toNat : Nat) : Int) by have u := i18_5; rw [show (places - 1 - i_18) = bsum ff by omega] at u; exact u) (v_bd6c74a791 i18_3 h3)) (by have u := i18_6; rw [show (places - 1 - i_18) = bsum ff by omega, q8] at u; exact u) (v_4f729da59d h5) (v_b9aca61388 h6) h7)⟩
        · refine J_iload_n dX0_withCode_23 rfl rfl ?_
          refine J_iload_n dX0_withCode_24 rfl rfl ?_
          refine Z_iconst (n := 5) dX0_withCode_25 ?_
          refine Z_irem dX0_withCode_26 (v_9e25595c56 i18_3 i18_4) v_3961fe0d0d (v_2b02420001 i18_3) v_9947d9f5ce ?_
          obtain ⟨z8, ez8⟩ : ∃ z : Int, left_18 % 5 = z := ⟨_, rfl⟩
          rw [ez8]
          have h9 : 0 ≤ z8 ∧ z8 < 5 := md_lem ez8 (by decide)
          have h10 : z8 ≤ left_18 := mdle_lem ez8 (v_2b02420001 i18_3) (by decide)
          refine J_aload_n dX0_withCode_27 rfl rfl ?_
          refine J_iload dX0_withCode_28 rfl ?_
          refine J_callV (st := [.int (zI z8), .int (zI row_18)]) dX0_withCode_30 cv_X0_48 (g_shiftOf i_18 many places (v_b2d8922659 h2) (v_347ffa3a47 q4 i18_1) q3 q4 hk51) hk51 rfl rfl (Nat.le_of_ble_eq_true rfl) ⟨(Nat.le_of_ble_eq_true rfl), (Nat.le_of_ble_eq_true rfl)⟩ ⟨(Nat.le_of_ble_eq_true rfl), (Nat.le_of_ble_eq_true rfl)⟩ (fun r h9 hp => ?_)
          obtain ⟨z11, rfl, rfl, h12⟩ := hp
          refine J_nf (nh2 := nh) (ck2 := 0) (sk2 := 0) (st2 := [.int (zI z11), .int (zI z8), .int (zI row_18)]) rfl rfl rfl rfl ?_
          obtain ⟨z13, ez13⟩ : ∃ z : Int, zshl z8 z11 = z := ⟨_, rfl⟩
          refine Y_ishl (z := z13) dX0_withCode_33 ez13 ?_
          have h14 : zr z13 := by rw [← ez13]; exact zr_toInt _
          obtain ⟨z15, ez15⟩ : ∃ z : Int, zor row_18 z13 = z := ⟨_, rfl⟩
          refine Y_ior (z := z15) dX0_withCode_34 ez15 ?_
          have h16 : zr z15 := by rw [← ez15]; exact zr_toInt _
          refine J_istore_n dX0_withCode_35 rfl (Nat.le_of_ble_eq_true rfl) rfl ?_
          refine J_ls (ls2 := [some (.ref 51), some (.int (zI x)), some (.int (zI left_18)), some (.int (zI z15)), some (.int (zI i_18))]) rfl ?_
          refine J_iload_n dX0_withCode_36 rfl rfl ?_
          refine Z_iconst (n := 5) dX0_withCode_37 ?_
          refine Z_idiv dX0_withCode_38 (v_9e25595c56 i18_3 i18_4) v_3961fe0d0d (v_2b02420001 i18_3) v_9947d9f5ce ?_
          obtain ⟨z17, ez17⟩ : ∃ z : Int, left_18 / 5 = z := ⟨_, rfl⟩
          rw [ez17]
          have h18 : 5 * z17 ≤ left_18 ∧ left_18 ≤ 5 * z17 + 4 := dv_lem ez17 (by decide)
          refine J_istore_n dX0_withCode_39 rfl (Nat.le_of_ble_eq_true rfl) rfl ?_
          refine J_ls (ls2 := [some (.ref 51), some (.int (zI x)), some (.int (zI z17)), some (.int (zI z15)), some (.int (zI i_18))]) rfl ?_
          refine Z_iinc (c := i_18 - 1) (ls2 := [some (.ref 51), some (.int (zI x)), some (.int (zI z17)), some (.int (zI z15)), some (.int (zI (i_18 - 1)))]) dX0_withCode_40 rfl (Nat.le_of_ble_eq_true rfl) rfl v_c11a8386d1 rfl ?_
          refine J_goto (tgt := 18) dX0_withCode_43 (by decide) ?_
          exact ih18 z17 z15 (i_18 - 1) (v_4f7f53223b h2) (v_194e055bf2 i18_1) h16 (v_85ec7a9799 i18_3 h18.2) (v_b924689d5d i18_3 i18_4 h18.1 h18.2) (by have u := dv5 (v_2b02420001 h1) i18_5 ez17; rw [show (places - 1 - i_18).toNat + 1 = (places - 1 - (i_18 - 1)).toNat by omega] at u; exact u) (tlV_step dgD_ok (v_dc59a041dc q4) (v_b2d8922659 h2) (v_b9aca61388 i18_1) i18_6 (md5 i18_5 ez8) (v_dc6c8b5b14 h12) ez13 ez15) (meas_lt v_dfc8f0fdaf (v_e451e883c0 h2) hm18)
    exact lp18 _ x 0 (places - 1) (v_b3b9f07fb8 q3) v_c458e5b2bb v_b17331891f h1 q0 (by rw [show (places - 1 - (places - 1)).toNat = 0 by omega, Nat.pow_zero, Nat.div_one]; omega) (by rw [show (places - 1 - (places - 1)).toNat = 0 by omega]; rfl) (Nat.lt_succ_self _)
  · refine Z_iconst (n := -1) dX0_withCode_4 ?_
    exact J_iret dX0_withCode_5 rfl rfl (Nat.le_of_ble_eq_true rfl) (Nat.le_of_ble_eq_true rfl) ⟨(-1), rfl, rfl, v_4d9e6ac08a, (v_7e0ab68801 q1), (HcR.none q6 (Or.inl (v_8427911f98 h1)))⟩
set_option maxHeartbeats 4000000 in
set_option maxRecDepth 100000 in
theorem g_backwardOf {l : Launch} {G : jG} {nh : Nat} {fh : Nat → Option va_E} (x : Int) (many : Int) (places : Int) (rf : Int → Int) (ff : Int → Int) (q0 : 0 ≤ x) (q1 : x < many) (q2 : 1 ≤ many) (q3 : many ≤ 1260) (q4 : 0 ≤ places) (q5 : places ≤ 7) (q6 : Rg rf 1260 (-2147483648) 2147483647) (q7 : okF ff) (q8 : many = Hi ff) (q9 : places = bsum ff) (q10 : RowsTo rf ff many) (hk51 : fh 51 = some (.inr (0, [.ref 52, .ref 53, .int (zI many), .int (zI places)]))) (hk52 : fh 52 = some (.inl (0, 1260, .inl (zA rf)))) : JM l G yX0_backwardOf MX0_backwardOf { frames := 2, cells := 0, slots := 0, locals := 42 } [.ref 51, .int (zI x)] (nh, fh) (fun rr h9 => ∃ r : Int, rr = some (.int (zI r)) ∧ h9 = (nh, fh) ∧ (-1 ≤ r) ∧ (r < many) ∧ (OrR ff (rvB (itB ff (x).toNat) places) r)) := by
  refine JM.of (by decide) rfl (fun h => by cases h) (Nat.le_of_ble_eq_true rfl) ⟨2, rfl⟩ ?_
  refine J_hc0 (J_ls (ls2 := [some (.ref 51), some (.int (zI x)), none, none]) rfl ?_)
  refine Z_iconst (n := 0) dX0_backwardOf_0 ?_
  refine J_istore_n dX0_backwardOf_1 rfl (Nat.le_of_ble_eq_true rfl) rfl ?_
  refine J_ls (ls2 := [some (.ref 51), some (.int (zI x)), some (.int (zI 0)), none]) rfl ?_
  refine J_aload_n dX0_backwardOf_2 rfl rfl ?_
  refine J_get (v := .int (zI places)) dX0_backwardOf_3 fl_X0_22 hk51 rfl ?_
  refine Z_iconst (n := 1) dX0_backwardOf_6 ?_
  refine Z_isub (c := places - 1) dX0_backwardOf_7 rfl ?_
  refine J_istore_n dX0_backwardOf_8 rfl (Nat.le_of_ble_eq_true rfl) rfl ?_
  refine J_ls (ls2 := [some (.ref 51), some (.int (zI x)), some (.int (zI 0)), some (.int (zI (places - 1)))]) rfl ?_
  have lp9 : ∀ (N9 : Nat) (row_9 : Int) (i_9 : Int), (-1 ≤ i_9) → (i_9 < places) → (zr row_9) → (pk3 (rvB (itB ff (x).toNat) places) (places - 1 - i_9).toNat = row_9) → (i_9 + 1).toNat < N9 → J l G MX0_backwardOf { frames := 2, cells := 0, slots := 0, locals := 42 } jE (jMQ G { frames := 2, cells := 0, slots := 0, locals := 42 } (fun rr h9 => ∃ r : Int, rr = some (.int (zI r)) ∧ h9 = (nh, fh) ∧ (-1 ≤ r) ∧ (r < many) ∧ (OrR ff (rvB (itB ff (x).toNat) places) r))) (nh, hc fh []) 0 0 9 [some (.ref 51), some (.int (zI x)), some (.int (zI row_9)), some (.int (zI i_9))] [] := by
    intro N9
    induction N9 with
    | zero => intro row_9 i_9 i9_0 i9_1 i9_2 i9_3 hm; exact absurd hm (Nat.not_lt_zero _)
    | succ N9 ih9 =>
      intro row_9 i_9 i9_0 i9_1 i9_2 i9_3 hm9
      refine J_iload_n dX0_backwardOf_9 rfl rfl ?_
      refine Z_if_lt (tgt := 37) dX0_backwardOf_10 (by decide) (v_aad35d55c1 q5 i9_0 i9_1) (fun h1 => ?_) (fun h1 => ?_)
      · refine J_aload_n dX0_backwardOf_37 rfl rfl ?_
        refine J_iload_n dX0_backwardOf_38 rfl rfl ?_
        refine J_callV (st := []) dX0_backwardOf_39 cv_X0_55 (g_find row_9 many places rf i9_2 q2 q3 q6 (Rows_mono q10 q7 q8) hk51 hk52) hk51 rfl rfl (Nat.le_of_ble_eq_true rfl) ⟨(Nat.le_of_ble_eq_true rfl), (Nat.le_of_ble_eq_true rfl)⟩ ⟨(Nat.le_of_ble_eq_true rfl), (Nat.le_of_ble_eq_true rfl)⟩ (fun r h9 hp => ?_)
        obtain ⟨z2, rfl, rfl, h3, h4, h5⟩ := hp
        refine J_nf (nh2 := nh) (ck2 := 0) (sk2 := 0) (st2 := [.int (zI z2)]) rfl rfl rfl rfl ?_
        exact J_iret dX0_backwardOf_42 rfl rfl (Nat.le_of_ble_eq_true rfl) (Nat.le_of_ble_eq_true rfl) ⟨z2, rfl, rfl, h3, h4, (OrR.find q10 q7 q8 (by rw [q9]; exact rvB_ok (it_inv q7 (x).toNat (by have u := q8; have w := (v_b9aca61388 q1); unfold Hi at u; omega)).2.2) (by have u := i9_3; rw [show (places - 1 - i_9) = bsum ff by omega] at u; exact u) (v_4f729da59d h3) (v_b9aca61388 h4) h5)⟩
      · refine J_iload_n dX0_backwardOf_13 rfl rfl ?_
        refine J_aload_n dX0_backwardOf_14 rfl rfl ?_
        refine J_iload_n dX0_backwardOf_15 rfl rfl ?_
        refine J_callV (st := [.int (zI row_9)]) dX0_backwardOf_16 cv_X0_52 (g_rowOf x many places rf q0 q1 q2 q3 hk51 hk52) hk51 rfl rfl (Nat.le_of_ble_eq_true rfl) ⟨(Nat.le_of_ble_eq_true rfl), (Nat.le_of_ble_eq_true rfl)⟩ ⟨(Nat.le_of_ble_eq_true rfl), (Nat.le_of_ble_eq_true rfl)⟩ (fun r h9 hp => ?_)
        obtain ⟨z6, rfl, rfl, h7⟩ := hp
        have h8 := Rg.at q6 (v_2b02420001 q0) (v_6251b724b8 q1 q3) h7
        refine J_nf (nh2 := nh) (ck2 := 0) (sk2 := 0) (st2 := [.int (zI z6), .int (zI row_9)]) rfl rfl rfl rfl ?_
        refine J_aload_n dX0_backwardOf_19 rfl rfl ?_
        refine J_iload_n dX0_backwardOf_20 rfl rfl ?_
        refine J_callV (st := [.int (zI z6), .int (zI row_9)]) dX0_backwardOf_21 cv_X0_48 (g_shiftOf i_9 many places (v_b2d8922659 h1) (v_347ffa3a47 q5 i9_1) q4 q5 hk51) hk51 rfl rfl (Nat.le_of_ble_eq_true rfl) ⟨(Nat.le_of_ble_eq_true rfl), (Nat.le_of_ble_eq_true rfl)⟩ ⟨(Nat.le_of_ble_eq_true rfl), (Nat.le_of_ble_eq_true rfl)⟩ (fun r h9 hp => ?_)
        obtain ⟨z9, rfl, rfl, h10⟩ := hp
        refine J_nf (nh2 := nh) (ck2 := 0) (sk2 := 0) (st2 := [.int (zI z9), .int (zI z6), .int (zI row_9)]) rfl rfl rfl rfl ?_
        refine J_callS (st := [.int (zI row_9)]) dX0_backwardOf_24 cs_X0_45 (g_colourAt z6 z9 (v_f306e1cdb8 h8.1 h8.2) (v_b6b316c074 q5 i9_1 h1 h10)) rfl rfl (Nat.le_of_ble_eq_true rfl) ⟨(Nat.le_of_ble_eq_true rfl), (Nat.le_of_ble_eq_true rfl)⟩ ⟨(Nat.le_of_ble_eq_true rfl), (Nat.le_of_ble_eq_true rfl)⟩ (fun r h9 hp => ?_)
        obtain ⟨z11, rfl, rfl, h12, h13, h14⟩ := hp
        refine J_nf (nh2 := nh) (ck2 := 0) (sk2 := 0) (st2 := [.int (zI z11), .int (zI row_9)]) rfl rfl rfl rfl ?_
        have g15 := Rows_dig q10 q7 q8 (v_2b02420001 q0) (v_b9aca61388 q1) h7 q9 (v_b2d8922659 h1) (v_b9aca61388 i9_1) (v_dc6c8b5b14 h10) h14
        refine J_callS (st := []) dX0_backwardOf_27 cs_X0_33 (g_behind row_9 z11 i9_2 (v_573cdf4e23 h12 g15.2.2)) rfl rfl (Nat.le_of_ble_eq_true rfl) ⟨(Nat.le_of_ble_eq_true rfl), (Nat.le_of_ble_eq_true rfl)⟩ ⟨(Nat.le_of_ble_eq_true rfl), (Nat.le_of_ble_eq_true rfl)⟩ (fun r h9 hp => ?_)
        obtain ⟨z16, rfl, rfl, h17, h18⟩ := hp
        refine J_nf (nh2 := nh) (ck2 := 0) (sk2 := 0) (st2 := [.int (zI z16)]) rfl rfl rfl rfl ?_
        refine J_istore_n dX0_backwardOf_30 rfl (Nat.le_of_ble_eq_true rfl) rfl ?_
        refine J_ls (ls2 := [some (.ref 51), some (.int (zI x)), some (.int (zI z16)), some (.int (zI i_9))]) rfl ?_
        refine Z_iinc (c := i_9 - 1) (ls2 := [some (.ref 51), some (.int (zI x)), some (.int (zI z16)), some (.int (zI (i_9 - 1)))]) dX0_backwardOf_31 rfl (Nat.le_of_ble_eq_true rfl) rfl v_c11a8386d1 rfl ?_
        refine J_goto (tgt := 9) dX0_backwardOf_34 (by decide) ?_
        exact ih9 z16 (i_9 - 1) (v_4f7f53223b h1) (v_194e055bf2 i9_1) h17 (rvB_step i9_3 (v_b2d8922659 h1) (v_b9aca61388 i9_1) g15.1 h18) (meas_lt v_dfc8f0fdaf (v_e451e883c0 h1) hm9)
  exact lp9 _ 0 (places - 1) (v_b3b9f07fb8 q4) v_c458e5b2bb v_b17331891f (by rw [show (places - 1 - (places - 1)).toNat = 0 by omega]; rfl) (Nat.lt_succ_self _)
set_option maxHeartbeats 4000000 in
set_option maxRecDepth 100000 in
theorem g_inversionsOf {l : Launch} {G : jG} {nh : Nat} {fh : Nat → Option va_E} (x : Int) (many : Int) (places : Int) (rf : Int → Int) (ff : Int → Int) (q0 : 0 ≤ x) (q1 : x < many) (q2 : 1 ≤ many) (q3 : many ≤ 1260) (q4 : 0 ≤ places) (q5 : places ≤ 7) (q6 : Rg rf 1260 (-2147483648) 2147483647) (q7 : okF ff) (q8 : many = Hi ff) (q9 : places = bsum ff) (q10 : RowsTo rf ff many) (hk51 : fh 51 = some (.inr (0, [.ref 52, .ref 53, .int (zI many), .int (zI places)]))) (hk52 : fh 52 = some (.inl (0, 1260, .inl (zA rf)))) : JM l G yX0_inversionsOf MX0_inversionsOf { frames := 2, cells := 0, slots := 0, locals := 42 } [.ref 51, .int (zI x)] (nh, fh) (fun rr h9 => ∃ r : Int, rr = some (.int (zI r)) ∧ h9 = (nh, fh) ∧ (r = inN (itB ff (x).toNat) (places).toNat (places).toNat)) := by
  refine JM.of (by decide) rfl (fun h => by cases h) (Nat.le_of_ble_eq_true rfl) ⟨5, rfl⟩ ?_
  refine J_hc0 (J_ls (ls2 := [some (.ref 51), some (.int (zI x)), none, none, none, none, none]) rfl ?_)
  refine J_aload_n dX0_inversionsOf_0 rfl rfl ?_
  refine J_iload_n dX0_inversionsOf_1 rfl rfl ?_
  refine J_callV (st := []) dX0_inversionsOf_2 cv_X0_52 (g_rowOf x many places rf q0 q1 q2 q3 hk51 hk52) hk51 rfl rfl (Nat.le_of_ble_eq_true rfl) ⟨(Nat.le_of_ble_eq_true rfl), (Nat.le_of_ble_eq_true rfl)⟩ ⟨(Nat.le_of_ble_eq_true rfl), (Nat.le_of_ble_eq_true rfl)⟩ (fun r h9 hp => ?_)
  obtain ⟨z1, rfl, rfl, h2⟩ := hp
  have h3 := Rg.at q6 (v_2b02420001 q0) (v_6251b724b8 q1 q3) h2
  refine J_nf (nh2 := nh) (ck2 := 0) (sk2 := 0) (st2 := [.int (zI z1)]) rfl rfl rfl rfl ?_
  refine J_istore_n dX0_inversionsOf_5 rfl (Nat.le_of_ble_eq_true rfl) rfl ?_
  refine J_ls (ls2 := [some (.ref 51), some (.int (zI x)), some (.int (zI z1)), none, none, none, none]) rfl ?_
  refine Z_iconst (n := 0) dX0_inversionsOf_6 ?_
  refine J_istore_n dX0_inversionsOf_7 rfl (Nat.le_of_ble_eq_true rfl) rfl ?_
  refine J_ls (ls2 := [some (.ref 51), some (.int (zI x)), some (.int (zI z1)), some (.int (zI 0)), none, none, none]) rfl ?_
  refine Z_iconst (n := 0) dX0_inversionsOf_8 ?_
  refine J_istore dX0_inversionsOf_9 (Nat.le_of_ble_eq_true rfl) rfl ?_
  refine J_ls (ls2 := [some (.ref 51), some (.int (zI x)), some (.int (zI z1)), some (.int (zI 0)), some (.int (zI 0)), none, none]) rfl ?_
  have lp11 : ∀ (N11 : Nat) (n_11 : Int) (l_11 : Int), (0 ≤ l_11) → (l_11 ≤ places) → (n_11 = inN (itB ff (x).toNat) (places).toNat (l_11).toNat) → (places - l_11).toNat < N11 → J l G MX0_inversionsOf { frames := 2, cells := 0, slots := 0, locals := 42 } jE (jMQ G { frames := 2, cells := 0, slots := 0, locals := 42 } (fun rr h9 => ∃ r : Int, rr = some (.int (zI r)) ∧ h9 = (nh, fh) ∧ (r = inN (itB ff (x).toNat) (places).toNat (places).toNat))) (nh, hc fh []) 0 0 11 [some (.ref 51), some (.int (zI x)), some (.int (zI z1)), some (.int (zI n_11)), some (.int (zI l_11)), none, none] [] := by
    intro N11
    induction N11 with
    | zero => intro n_11 l_11 i11_0 i11_1 i11_2 hm; exact absurd hm (Nat.not_lt_zero _)
    | succ N11 ih11 =>
      intro n_11 l_11 i11_0 i11_1 i11_2 hm11
      refine J_iload dX0_inversionsOf_11 rfl ?_
      refine J_aload_n dX0_inversionsOf_13 rfl rfl ?_
      refine J_get (v := .int (zI places)) dX0_inversionsOf_14 fl_X0_22 hk51 rfl ?_
      refine Z_icmp_ge (tgt := 77) dX0_inversionsOf_17 (by decide) (v_ee3170dbf0 q5 i11_0 i11_1) (v_2ee1de483d q4 q5) (fun h4 => ?_) (fun h4 => ?_)
      · refine J_iload_n dX0_inversionsOf_77 rfl rfl ?_
        exact J_iret dX0_inversionsOf_78 rfl rfl (Nat.le_of_ble_eq_true rfl) (Nat.le_of_ble_eq_true rfl) ⟨n_11, rfl, rfl, (by have e : l_11 = places := (v_9b8f42b01e i11_1 h4); have h := i11_2; rw [e] at h; exact h)⟩
      · refine J_iload_n dX0_inversionsOf_20 rfl rfl ?_
        refine J_aload_n dX0_inversionsOf_21 rfl rfl ?_
        refine J_iload dX0_inversionsOf_22 rfl ?_
        refine J_callV (st := [.int (zI z1)]) dX0_inversionsOf_24 cv_X0_48 (g_shiftOf l_11 many places i11_0 (v_4e1fda5c2f q5 h4) q4 q5 hk51) hk51 rfl rfl (Nat.le_of_ble_eq_true rfl) ⟨(Nat.le_of_ble_eq_true rfl), (Nat.le_of_ble_eq_true rfl)⟩ ⟨(Nat.le_of_ble_eq_true rfl), (Nat.le_of_ble_eq_true rfl)⟩ (fun r h9 hp => ?_)
        obtain ⟨z5, rfl, rfl, h6⟩ := hp
        refine J_nf (nh2 := nh) (ck2 := 0) (sk2 := 0) (st2 := [.int (zI z5), .int (zI z1)]) rfl rfl rfl rfl ?_
        refine J_callS (st := []) dX0_inversionsOf_27 cs_X0_45 (g_colourAt z1 z5 (v_f306e1cdb8 h3.1 h3.2) (v_d8240659b1 q5 i11_0 h4 h6)) rfl rfl (Nat.le_of_ble_eq_true rfl) ⟨(Nat.le_of_ble_eq_true rfl), (Nat.le_of_ble_eq_true rfl)⟩ ⟨(Nat.le_of_ble_eq_true rfl), (Nat.le_of_ble_eq_true rfl)⟩ (fun r h9 hp => ?_)
        obtain ⟨z7, rfl, rfl, h8, h9, h10⟩ := hp
        refine J_nf (nh2 := nh) (ck2 := 0) (sk2 := 0) (st2 := [.int (zI z7)]) rfl rfl rfl rfl ?_
        have g11 := Rows_dig q10 q7 q8 (v_2b02420001 q0) (v_b9aca61388 q1) h2 q9 (v_2b02420001 i11_0) (v_fe9ea41faa h4) (v_dc6c8b5b14 h6) h10
        refine J_istore dX0_inversionsOf_30 (Nat.le_of_ble_eq_true rfl) rfl ?_
        refine J_ls (ls2 := [some (.ref 51), some (.int (zI x)), some (.int (zI z1)), some (.int (zI n_11)), some (.int (zI l_11)), some (.int (zI z7)), none]) rfl ?_
        refine J_iload dX0_inversionsOf_32 rfl ?_
        refine Z_iconst (n := 1) dX0_inversionsOf_34 ?_
        refine Z_iadd (c := l_11 + 1) dX0_inversionsOf_35 rfl ?_
        refine J_istore dX0_inversionsOf_36 (Nat.le_of_ble_eq_true rfl) rfl ?_
        refine J_ls (ls2 := [some (.ref 51), some (.int (zI x)), some (.int (zI z1)), some (.int (zI n_11)), some (.int (zI l_11)), some (.int (zI z7)), some (.int (zI (l_11 + 1)))]) rfl ?_
        have lp38 : ∀ (N38 : Nat) (n_38 : Int) (r_38 : Int), (l_11 + 1 ≤ r_38) → (r_38 ≤ places) → (n_38 = n_11 + inC (itB ff (x).toNat) l_11 (r_38).toNat) → (places - r_38).toNat < N38 → J l G MX0_inversionsOf { frames := 2, cells := 0, slots := 0, locals := 42 } jE (jMQ G { frames := 2, cells := 0, slots := 0, locals := 42 } (fun rr h9 => ∃ r : Int, rr = some (.int (zI r)) ∧ h9 = (nh, fh) ∧ (r = inN (itB ff (x).toNat) (places).toNat (places).toNat))) (nh, hc fh []) 0 0 38 [some (.ref 51), some (.int (zI x)), some (.int (zI z1)), some (.int (zI n_38)), some (.int (zI l_11)), some (.int (zI z7)), some (.int (zI r_38))] [] := by
          intro N38
          induction N38 with
          | zero => intro n_38 r_38 i38_0 i38_1 i38_2 hm; exact absurd hm (Nat.not_lt_zero _)
          | succ N38 ih38 =>
            intro n_38 r_38 i38_0 i38_1 i38_2 hm38
            refine J_iload dX0_inversionsOf_38 rfl ?_
            refine J_aload_n dX0_inversionsOf_40 rfl rfl ?_
            refine J_get (v := .int (zI places)) dX0_inversionsOf_41 fl_X0_22 hk51 rfl ?_
            refine Z_icmp_ge (tgt := 71) dX0_inversionsOf_44 (by decide) (v_a1d89844be q5 i11_0 i38_0 i38_1) (v_2ee1de483d q4 q5) (fun h12 => ?_) (fun h12 => ?_)
            · refine Z_iinc (c := l_11 + 1) (ls2 := [some (.ref 51), some (.int (zI x)), some (.int (zI z1)), some (.int (zI n_38)), some (.int (zI (l_11 + 1))), some (.int (zI z7)), some (.int (zI r_38))]) dX0_inversionsOf_71 rfl (Nat.le_of_ble_eq_true rfl) rfl rfl rfl ?_
              refine J_goto (tgt := 11) dX0_inversionsOf_74 (by decide) ?_
              refine J_drop (ls2 := [some (.ref 51), some (.int (zI x)), some (.int (zI z1)), some (.int (zI n_38)), some (.int (zI (l_11 + 1))), none, none]) [true, true, true, true, true, false, false] rfl ?_
              exact ih11 n_38 (l_11 + 1) (v_da458fa48a i11_0) (v_e390a36114 h4) (inN_step i11_2 i11_0 (by have e : r_38 = places := (v_9b8f42b01e i38_1 h12); have h := i38_2; rw [e] at h; exact h)) (meas_lt v_90eacd6fd4 (v_8b7dd7d486 h4) hm11)
            · refine J_iload dX0_inversionsOf_47 rfl ?_
              refine J_iload_n dX0_inversionsOf_49 rfl rfl ?_
              refine J_aload_n dX0_inversionsOf_50 rfl rfl ?_
              refine J_iload dX0_inversionsOf_51 rfl ?_
              refine J_callV (st := [.int (zI z1), .int (zI z7)]) dX0_inversionsOf_53 cv_X0_48 (g_shiftOf r_38 many places (v_d253cb2c59 i11_0 i38_0) (v_4e1fda5c2f q5 h12) q4 q5 hk51) hk51 rfl rfl (Nat.le_of_ble_eq_true rfl) ⟨(Nat.le_of_ble_eq_true rfl), (Nat.le_of_ble_eq_true rfl)⟩ ⟨(Nat.le_of_ble_eq_true rfl), (Nat.le_of_ble_eq_true rfl)⟩ (fun r h9 hp => ?_)
              obtain ⟨z13, rfl, rfl, h14⟩ := hp
              refine J_nf (nh2 := nh) (ck2 := 0) (sk2 := 0) (st2 := [.int (zI z13), .int (zI z1), .int (zI z7)]) rfl rfl rfl rfl ?_
              refine J_callS (st := [.int (zI z7)]) dX0_inversionsOf_56 cs_X0_45 (g_colourAt z1 z13 (v_f306e1cdb8 h3.1 h3.2) (v_919d70eacf q5 i11_0 i38_0 h12 h14)) rfl rfl (Nat.le_of_ble_eq_true rfl) ⟨(Nat.le_of_ble_eq_true rfl), (Nat.le_of_ble_eq_true rfl)⟩ ⟨(Nat.le_of_ble_eq_true rfl), (Nat.le_of_ble_eq_true rfl)⟩ (fun r h9 hp => ?_)
              obtain ⟨z15, rfl, rfl, h16, h17, h18⟩ := hp
              refine J_nf (nh2 := nh) (ck2 := 0) (sk2 := 0) (st2 := [.int (zI z15), .int (zI z7)]) rfl rfl rfl rfl ?_
              have g19 := Rows_dig q10 q7 q8 (v_2b02420001 q0) (v_b9aca61388 q1) h2 q9 (v_d253cb2c59 i11_0 i38_0) (v_fe9ea41faa h12) (v_dc6c8b5b14 h14) h18
              refine Z_icmp_le (tgt := 65) dX0_inversionsOf_59 (by decide) (v_573cdf4e23 h8 g11.2.2) (v_573cdf4e23 h16 g19.2.2) (fun h20 => ?_) (fun h20 => ?_)
              · refine Z_iinc (c := r_38 + 1) (ls2 := [some (.ref 51), some (.int (zI x)), some (.int (zI z1)), some (.int (zI n_38)), some (.int (zI l_11)), some (.int (zI z7)), some (.int (zI (r_38 + 1)))]) dX0_inversionsOf_65 rfl (Nat.le_of_ble_eq_true rfl) rfl rfl rfl ?_
                refine J_goto (tgt := 38) dX0_inversionsOf_68 (by decide) ?_
                exact ih38 n_38 (r_38 + 1) (v_b108d4967d i38_0) (v_e390a36114 h12) (inC_step i38_2 (v_d253cb2c59 i11_0 i38_0) (v_b4ac995fb8 i38_0) g11.1.symm g19.1.symm (by omega)) (meas_lt v_90eacd6fd4 (v_8b7dd7d486 h12) hm38)
              · refine Z_iinc (c := n_38 + 1) (ls2 := [some (.ref 51), some (.int (zI x)), some (.int (zI z1)), some (.int (zI (n_38 + 1))), some (.int (zI l_11)), some (.int (zI z7)), some (.int (zI r_38))]) dX0_inversionsOf_62 rfl (Nat.le_of_ble_eq_true rfl) rfl rfl rfl ?_
                refine Z_iinc (c := r_38 + 1) (ls2 := [some (.ref 51), some (.int (zI x)), some (.int (zI z1)), some (.int (zI (n_38 + 1))), some (.int (zI l_11)), some (.int (zI z7)), some (.int (zI (r_38 + 1)))]) dX0_inversionsOf_65 rfl (Nat.le_of_ble_eq_true rfl) rfl rfl rfl ?_
                refine J_goto (tgt := 38) dX0_inversionsOf_68 (by decide) ?_
                exact ih38 (n_38 + 1) (r_38 + 1) (v_b108d4967d i38_0) (v_e390a36114 h12) (inC_step i38_2 (v_d253cb2c59 i11_0 i38_0) (v_b4ac995fb8 i38_0) g11.1.symm g19.1.symm (by omega)) (meas_lt v_90eacd6fd4 (v_8b7dd7d486 h12) hm38)
        exact lp38 _ n_11 (l_11 + 1) v_3bdb46b03b (v_e390a36114 h4) (by rw [inC_lo _ (by omega)]; omega) (Nat.lt_succ_self _)
  exact lp11 _ 0 0 v_939070ca3f q4 (rfl) (Nat.lt_succ_self _)
