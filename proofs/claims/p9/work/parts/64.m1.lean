abbrev MX12_refuses : jM := (RX12, cX12_refuses, 2, some .int, false)
set_option maxRecDepth 20000 in
theorem iX12_at : ∀ k : Nat, k < 56 → u_lay RX12 TX12 k ∈ jtb
  | 0, _ => jt6 130 rfl rfl
  | 1, _ => jt6 132 rfl rfl
  | 2, _ => jt6 134 rfl rfl
  | 3, _ => jt6 136 rfl rfl
  | 4, _ => jt6 138 rfl rfl
  | 5, _ => jt6 140 rfl rfl
  | 6, _ => jt6 142 rfl rfl
  | 7, _ => jt6 144 rfl rfl
  | 8, _ => jt6 146 rfl rfl
  | 9, _ => jt6 148 rfl rfl
  | 10, _ => jt6 150 rfl rfl
  | 11, _ => jt6 152 rfl rfl
  | 12, _ => jt6 154 rfl rfl
  | 13, _ => jt6 156 rfl rfl
  | 14, _ => jt6 158 rfl rfl
  | 15, _ => jt6 160 rfl rfl
  | 16, _ => jt6 162 rfl rfl
  | 17, _ => jt6 164 rfl rfl
  | 18, _ => jt6 166 rfl rfl
  | 19, _ => jt6 168 rfl rfl
  | 20, _ => jt6 170 rfl rfl
  | 21, _ => jt6 172 rfl rfl
  | 22, _ => jt6 174 rfl rfl
  | 23, _ => jt6 176 rfl rfl
  | 24, _ => jt6 178 rfl rfl
  | 25, _ => jt6 180 rfl rfl
  | 26, _ => jt6 182 rfl rfl
  | 27, _ => jt6 184 rfl rfl
  | 28, _ => jt6 186 rfl rfl
  | 29, _ => jt6 188 rfl rfl
  | 30, _ => jt6 190 rfl rfl
  | 31, _ => jt6 192 rfl rfl
  | 32, _ => jt6 194 rfl rfl
  | 33, _ => jt6 196 rfl rfl
  | 34, _ => jt6 198 rfl rfl
  | 35, _ => jt6 200 rfl rfl
  | 36, _ => jt6 202 rfl rfl
  | 37, _ => jt6 204 rfl rfl
  | 38, _ => jt6 206 rfl rfl
  | 39, _ => jt6 208 rfl rfl
  | 40, _ => jt6 210 rfl rfl
  | 41, _ => jt6 212 rfl rfl
  | 42, _ => jt6 214 rfl rfl
  | 43, _ => jt6 216 rfl rfl
  | 44, _ => jt6 218 rfl rfl
  | 45, _ => jt6 220 rfl rfl
  | 46, _ => jt6 222 rfl rfl
  | 47, _ => jt6 224 rfl rfl
  | 48, _ => jt6 226 rfl rfl
  | 49, _ => jt6 228 rfl rfl
  | 50, _ => jt6 230 rfl rfl
  | 51, _ => jt6 232 rfl rfl
  | 52, _ => jt6 234 rfl rfl
  | 53, _ => jt6 236 rfl rfl
  | 54, _ => jt6 238 rfl rfl
  | 55, _ => jt7 0 rfl rfl
  | (n + 56), h => absurd h (by omega)
theorem iX12 : ∀ w ∈ u_ws RX12 TX12 56, w ∈ jtb := fun w hw => by
  obtain ⟨k, hk, rfl⟩ := List.mem_map.mp hw
  exact iX12_at k (List.mem_range.mp hk)
theorem fw_X12_3 : jFW RX12 3 12 0 (.int) false := ⟨_, _, _, tyX12, rfl, iX12, tyX12_ok, nmX12, by decide, rfl, rfl, (fun h => by cases h), Or.inl (jt6 74 rfl rfl)⟩
theorem fl_X12_7 : jFL RX12 7 12 2 := ⟨_, _, _, rfl, iX12, by decide, Or.inl (jt6 76 rfl rfl)⟩
abbrev MX12_good : jM := (RX12, cX12_good, 2, some .int, false)
theorem fl_X12_11 : jFL RX12 11 12 1 := ⟨_, _, _, rfl, iX12, by decide, Or.inl (jt6 75 rfl rfl)⟩
theorem fw_X12_11 : jFW RX12 11 12 1 (.int) false := ⟨_, _, _, tyX12, rfl, iX12, tyX12_ok, nmX12, by decide, rfl, rfl, (fun h => by cases h), Or.inl (jt6 75 rfl rfl)⟩
abbrev MX12_lies : jM := (RX12, cX12_lies, 3, some .boolean, false)
abbrev MX12_places : jM := (RX12, cX12_places, 3, some .int, false)
theorem fl_X12_20 : jFL RX12 20 12 3 := ⟨_, _, _, rfl, iX12, by decide, Or.inl (jt6 77 rfl rfl)⟩
abbrev MX12_changes : jM := (RX12, cX12_changes, 4, none, false)
theorem fl_X12_76 : jFL RX12 76 12 31 := ⟨_, _, _, rfl, iX12, by decide, Or.inl (jt6 105 rfl rfl)⟩
abbrev MX12_nextOrder : jM := (RX12, cX12_nextOrder, 5, some .boolean, false)
theorem fl_X12_293 : jFL RX12 293 12 33 := ⟨_, _, _, rfl, iX12, by decide, Or.inl (jt6 107 rfl rfl)⟩
theorem cv_X12_304 : jCV RX12 304 12 yX12_changes MX12_changes 2 := ⟨_, _, rfl, (jt7 53 rfl rfl), (jt7 52 rfl rfl), (jtp (q := (⟨"BeanStreetModel", "changes", "(II)V"⟩, 56)) (List.mem_of_getElem? (i := 60) rfl)), (jt1 13 rfl rfl), ⟨by decide, by decide, by decide +kernel⟩, Or.inl (jt7 50 rfl rfl)⟩
abbrev MX12_orderCode : jM := (RX12, cX12_orderCode, 3, some .int, false)
abbrev MX12_colourOf : jM := (RX12, cX12_colourOf, 3, some .int, false)
theorem fl_X12_55 : jFL RX12 55 12 24 := ⟨_, _, _, rfl, iX12, by decide, Or.inl (jt6 98 rfl rfl)⟩
abbrev MX12_laysHouses : jM := (RX12, cX12_laysHouses, 5, none, false)
theorem fl_X12_79 : jFL RX12 79 12 34 := ⟨_, _, _, rfl, iX12, by decide, Or.inl (jt6 108 rfl rfl)⟩
theorem fw_X12_79 : jFW RX12 79 12 34 (.int) false := ⟨_, _, _, tyX12, rfl, iX12, tyX12_ok, nmX12, by decide, rfl, rfl, (fun h => by cases h), Or.inl (jt6 108 rfl rfl)⟩
theorem cv_X12_149 : jCV RX12 149 12 yX12_places MX12_places 0 := ⟨_, _, rfl, (jt7 29 rfl rfl), (jt7 28 rfl rfl), (jtp (q := (⟨"BeanStreetModel", "places", "()I"⟩, 56)) (List.mem_of_getElem? (i := 56) rfl)), (jt1 13 rfl rfl), ⟨by decide, by decide, by decide +kernel⟩, Or.inl (jt7 26 rfl rfl)⟩
theorem fw_X12_293 : jFW RX12 293 12 33 (.int) false := ⟨_, _, _, tyX12, rfl, iX12, tyX12_ok, nmX12, by decide, rfl, rfl, (fun h => by cases h), Or.inl (jt6 107 rfl rfl)⟩
theorem fw_X12_298 : jFW RX12 298 12 32 (.int) false := ⟨_, _, _, tyX12, rfl, iX12, tyX12_ok, nmX12, by decide, rfl, rfl, (fun h => by cases h), Or.inl (jt6 106 rfl rfl)⟩
theorem fl_X12_58 : jFL RX12 58 12 25 := ⟨_, _, _, rfl, iX12, by decide, Or.inl (jt6 99 rfl rfl)⟩
theorem fl_X12_298 : jFL RX12 298 12 32 := ⟨_, _, _, rfl, iX12, by decide, Or.inl (jt6 106 rfl rfl)⟩
theorem cv_X12_301 : jCV RX12 301 12 yX12_nextOrder MX12_nextOrder 0 := ⟨_, _, rfl, (jt7 49 rfl rfl), (jt7 48 rfl rfl), (jtp (q := (⟨"BeanStreetModel", "nextOrder", "()Z"⟩, 56)) (List.mem_of_getElem? (i := 59) rfl)), (jt1 13 rfl rfl), ⟨by decide, by decide, by decide +kernel⟩, Or.inl (jt7 46 rfl rfl)⟩
abbrev MX12_houseOf : jM := (RX12, cX12_houseOf, 5, some .int, false)
abbrev MX12_takesOrder : jM := (RX12, cX12_takesOrder, 3, none, false)
theorem cv_X12_290 : jCV RX12 290 12 yX12_colourOf MX12_colourOf 2 := ⟨_, _, rfl, (jt7 187 rfl rfl), (jt7 186 rfl rfl), (jtp (q := (⟨"BeanStreetModel", "colourOf", "(II)I"⟩, 56)) (List.mem_of_getElem? (i := 80) rfl)), (jt1 13 rfl rfl), ⟨by decide, by decide, by decide +kernel⟩, Or.inl (jt7 184 rfl rfl)⟩
abbrev MX12_hasWall : jM := (RX12, cX12_hasWall, 6, some .boolean, false)
abbrev MX12_isHouse : jM := (RX12, cX12_isHouse, 2, some .boolean, false)
theorem cv_X12_159 : jCV RX12 159 12 yX12_laysHouses MX12_laysHouses 0 := ⟨_, _, rfl, (jt7 45 rfl rfl), (jt7 44 rfl rfl), (jtp (q := (⟨"BeanStreetModel", "laysHouses", "()V"⟩, 56)) (List.mem_of_getElem? (i := 58) rfl)), (jt1 13 rfl rfl), ⟨by decide, by decide, by decide +kernel⟩, Or.inl (jt7 42 rfl rfl)⟩
theorem cs_X12_138 : jCS RX12 138 yX12_lies MX12_lies 3 := ⟨(jt7 9 rfl rfl), (jt7 8 rfl rfl), (jt1 13 rfl rfl), ⟨by decide, by decide, by decide +kernel⟩, Or.inl (jt7 7 rfl rfl)⟩
theorem dX12_refuses_0 : decode cX12_refuses 0 = .ok (.aload_n 0, 1) := by decide +kernel
theorem dX12_refuses_1 : decode cX12_refuses 1 = .ok (.iload_n 1, 1) := by decide +kernel
theorem dX12_refuses_2 : decode cX12_refuses 2 = .ok (.putfield 3, 3) := by decide +kernel
theorem dX12_refuses_5 : decode cX12_refuses 5 = .ok (.aload_n 0, 1) := by decide +kernel
theorem dX12_refuses_6 : decode cX12_refuses 6 = .ok (.getfield 7, 3) := by decide +kernel
theorem dX12_refuses_9 : decode cX12_refuses 9 = .ok (.iload_n 1, 1) := by decide +kernel
theorem dX12_refuses_10 : decode cX12_refuses 10 = .ok (.ineg, 1) := by decide +kernel
theorem dX12_refuses_11 : decode cX12_refuses 11 = .ok (.dup2, 1) := by decide +kernel
theorem dX12_refuses_12 : decode cX12_refuses 12 = .ok (.iaload, 1) := by decide +kernel
theorem dX12_refuses_13 : decode cX12_refuses 13 = .ok (.iconst 1, 1) := by decide +kernel
theorem dX12_refuses_14 : decode cX12_refuses 14 = .ok (.iadd, 1) := by decide +kernel
theorem dX12_refuses_15 : decode cX12_refuses 15 = .ok (.iastore, 1) := by decide +kernel
theorem dX12_refuses_16 : decode cX12_refuses 16 = .ok (.iload_n 1, 1) := by decide +kernel
theorem dX12_refuses_17 : decode cX12_refuses 17 = .ok (.ireturn, 1) := by decide +kernel
theorem dX12_good_0 : decode cX12_good 0 = .ok (.aload_n 0, 1) := by decide +kernel
theorem dX12_good_1 : decode cX12_good 1 = .ok (.iconst 0, 1) := by decide +kernel
theorem dX12_good_2 : decode cX12_good 2 = .ok (.putfield 3, 3) := by decide +kernel
theorem dX12_good_5 : decode cX12_good 5 = .ok (.aload_n 0, 1) := by decide +kernel
theorem dX12_good_6 : decode cX12_good 6 = .ok (.dup, 1) := by decide +kernel
theorem dX12_good_7 : decode cX12_good 7 = .ok (.getfield 11, 3) := by decide +kernel
theorem dX12_good_10 : decode cX12_good 10 = .ok (.iconst 1, 1) := by decide +kernel
theorem dX12_good_11 : decode cX12_good 11 = .ok (.iadd, 1) := by decide +kernel
theorem dX12_good_12 : decode cX12_good 12 = .ok (.putfield 11, 3) := by decide +kernel
theorem dX12_good_15 : decode cX12_good 15 = .ok (.iload_n 1, 1) := by decide +kernel
theorem dX12_good_16 : decode cX12_good 16 = .ok (.ireturn, 1) := by decide +kernel
theorem dX12_lies_0 : decode cX12_lies 0 = .ok (.iload_n 0, 1) := by decide +kernel
theorem dX12_lies_1 : decode cX12_lies 1 = .ok (.iload_n 1, 1) := by decide +kernel
theorem dX12_lies_2 : decode cX12_lies 2 = .ok (.if_icmp .lt 12, 3) := by decide +kernel
theorem dX12_lies_14 : decode cX12_lies 14 = .ok (.iconst 0, 1) := by decide +kernel
theorem dX12_lies_15 : decode cX12_lies 15 = .ok (.ireturn, 1) := by decide +kernel
theorem dX12_lies_5 : decode cX12_lies 5 = .ok (.iload_n 0, 1) := by decide +kernel
theorem dX12_lies_6 : decode cX12_lies 6 = .ok (.iload_n 2, 1) := by decide +kernel
theorem dX12_lies_7 : decode cX12_lies 7 = .ok (.if_icmp .gt 7, 3) := by decide +kernel
theorem dX12_lies_10 : decode cX12_lies 10 = .ok (.iconst 1, 1) := by decide +kernel
theorem dX12_lies_11 : decode cX12_lies 11 = .ok (.goto 4, 3) := by decide +kernel
theorem dX12_places_0 : decode cX12_places 0 = .ok (.iconst 0, 1) := by decide +kernel
theorem dX12_places_1 : decode cX12_places 1 = .ok (.istore_n 1, 1) := by decide +kernel
theorem dX12_places_2 : decode cX12_places 2 = .ok (.iconst 0, 1) := by decide +kernel
theorem dX12_places_3 : decode cX12_places 3 = .ok (.istore_n 2, 1) := by decide +kernel
theorem dX12_places_4 : decode cX12_places 4 = .ok (.iload_n 2, 1) := by decide +kernel
theorem dX12_places_5 : decode cX12_places 5 = .ok (.iconst 5, 1) := by decide +kernel
theorem dX12_places_6 : decode cX12_places 6 = .ok (.if_icmp .ge 20, 3) := by decide +kernel
theorem dX12_places_26 : decode cX12_places 26 = .ok (.iload_n 1, 1) := by decide +kernel
theorem dX12_places_27 : decode cX12_places 27 = .ok (.ireturn, 1) := by decide +kernel
theorem dX12_places_9 : decode cX12_places 9 = .ok (.iload_n 1, 1) := by decide +kernel
theorem dX12_places_10 : decode cX12_places 10 = .ok (.aload_n 0, 1) := by decide +kernel
theorem dX12_places_11 : decode cX12_places 11 = .ok (.getfield 20, 3) := by decide +kernel
theorem dX12_places_14 : decode cX12_places 14 = .ok (.iconst 0, 1) := by decide +kernel
theorem dX12_places_15 : decode cX12_places 15 = .ok (.iload_n 2, 1) := by decide +kernel
theorem dX12_places_16 : decode cX12_places 16 = .ok (.iadd, 1) := by decide +kernel
theorem dX12_places_17 : decode cX12_places 17 = .ok (.iaload, 1) := by decide +kernel
theorem dX12_places_18 : decode cX12_places 18 = .ok (.iadd, 1) := by decide +kernel
theorem dX12_places_19 : decode cX12_places 19 = .ok (.istore_n 1, 1) := by decide +kernel
theorem dX12_places_20 : decode cX12_places 20 = .ok (.iinc 2 1, 3) := by decide +kernel
theorem dX12_places_23 : decode cX12_places 23 = .ok (.goto (-19), 3) := by decide +kernel
theorem dX12_changes_0 : decode cX12_changes 0 = .ok (.aload_n 0, 1) := by decide +kernel
theorem dX12_changes_1 : decode cX12_changes 1 = .ok (.getfield 76, 3) := by decide +kernel
theorem dX12_changes_4 : decode cX12_changes 4 = .ok (.iload_n 1, 1) := by decide +kernel
theorem dX12_changes_5 : decode cX12_changes 5 = .ok (.iaload, 1) := by decide +kernel
theorem dX12_changes_6 : decode cX12_changes 6 = .ok (.istore_n 3, 1) := by decide +kernel
theorem dX12_changes_7 : decode cX12_changes 7 = .ok (.aload_n 0, 1) := by decide +kernel
theorem dX12_changes_8 : decode cX12_changes 8 = .ok (.getfield 76, 3) := by decide +kernel
theorem dX12_changes_11 : decode cX12_changes 11 = .ok (.iload_n 1, 1) := by decide +kernel
theorem dX12_changes_12 : decode cX12_changes 12 = .ok (.aload_n 0, 1) := by decide +kernel
theorem dX12_changes_13 : decode cX12_changes 13 = .ok (.getfield 76, 3) := by decide +kernel
theorem dX12_changes_16 : decode cX12_changes 16 = .ok (.iload_n 2, 1) := by decide +kernel
theorem dX12_changes_17 : decode cX12_changes 17 = .ok (.iaload, 1) := by decide +kernel
theorem dX12_changes_18 : decode cX12_changes 18 = .ok (.iastore, 1) := by decide +kernel
theorem dX12_changes_19 : decode cX12_changes 19 = .ok (.aload_n 0, 1) := by decide +kernel
theorem dX12_changes_20 : decode cX12_changes 20 = .ok (.getfield 76, 3) := by decide +kernel
theorem dX12_changes_23 : decode cX12_changes 23 = .ok (.iload_n 2, 1) := by decide +kernel
theorem dX12_changes_24 : decode cX12_changes 24 = .ok (.iload_n 3, 1) := by decide +kernel
theorem dX12_changes_25 : decode cX12_changes 25 = .ok (.iastore, 1) := by decide +kernel
theorem dX12_changes_26 : decode cX12_changes 26 = .ok (.return_, 1) := by decide +kernel
theorem dX12_nextOrder_0 : decode cX12_nextOrder 0 = .ok (.aload_n 0, 1) := by decide +kernel
theorem dX12_nextOrder_1 : decode cX12_nextOrder 1 = .ok (.getfield 293, 3) := by decide +kernel
theorem dX12_nextOrder_4 : decode cX12_nextOrder 4 = .ok (.iconst 2, 1) := by decide +kernel
theorem dX12_nextOrder_5 : decode cX12_nextOrder 5 = .ok (.isub, 1) := by decide +kernel
theorem dX12_nextOrder_6 : decode cX12_nextOrder 6 = .ok (.istore_n 1, 1) := by decide +kernel
theorem dX12_nextOrder_7 : decode cX12_nextOrder 7 = .ok (.iload_n 1, 1) := by decide +kernel
theorem dX12_nextOrder_8 : decode cX12_nextOrder 8 = .ok (.ifCond .lt 26, 3) := by decide +kernel
theorem dX12_nextOrder_34 : decode cX12_nextOrder 34 = .ok (.iload_n 1, 1) := by decide +kernel
theorem dX12_nextOrder_35 : decode cX12_nextOrder 35 = .ok (.ifCond .ge 5, 3) := by decide +kernel
theorem dX12_nextOrder_38 : decode cX12_nextOrder 38 = .ok (.iconst 0, 1) := by decide +kernel
theorem dX12_nextOrder_39 : decode cX12_nextOrder 39 = .ok (.ireturn, 1) := by decide +kernel
theorem dX12_nextOrder_11 : decode cX12_nextOrder 11 = .ok (.aload_n 0, 1) := by decide +kernel
theorem dX12_nextOrder_12 : decode cX12_nextOrder 12 = .ok (.getfield 76, 3) := by decide +kernel
theorem dX12_nextOrder_15 : decode cX12_nextOrder 15 = .ok (.iload_n 1, 1) := by decide +kernel
theorem dX12_nextOrder_16 : decode cX12_nextOrder 16 = .ok (.iaload, 1) := by decide +kernel
theorem dX12_nextOrder_17 : decode cX12_nextOrder 17 = .ok (.aload_n 0, 1) := by decide +kernel
theorem dX12_nextOrder_18 : decode cX12_nextOrder 18 = .ok (.getfield 76, 3) := by decide +kernel
theorem dX12_nextOrder_21 : decode cX12_nextOrder 21 = .ok (.iload_n 1, 1) := by decide +kernel
theorem dX12_nextOrder_22 : decode cX12_nextOrder 22 = .ok (.iconst 1, 1) := by decide +kernel
theorem dX12_nextOrder_23 : decode cX12_nextOrder 23 = .ok (.iadd, 1) := by decide +kernel
theorem dX12_nextOrder_24 : decode cX12_nextOrder 24 = .ok (.iaload, 1) := by decide +kernel
theorem dX12_nextOrder_25 : decode cX12_nextOrder 25 = .ok (.if_icmp .lt 9, 3) := by decide +kernel
theorem dX12_nextOrder_40 : decode cX12_nextOrder 40 = .ok (.aload_n 0, 1) := by decide +kernel
theorem dX12_nextOrder_41 : decode cX12_nextOrder 41 = .ok (.getfield 293, 3) := by decide +kernel
theorem dX12_nextOrder_44 : decode cX12_nextOrder 44 = .ok (.iconst 1, 1) := by decide +kernel
theorem dX12_nextOrder_45 : decode cX12_nextOrder 45 = .ok (.isub, 1) := by decide +kernel
theorem dX12_nextOrder_46 : decode cX12_nextOrder 46 = .ok (.istore_n 2, 1) := by decide +kernel
theorem dX12_nextOrder_47 : decode cX12_nextOrder 47 = .ok (.aload_n 0, 1) := by decide +kernel
theorem dX12_nextOrder_48 : decode cX12_nextOrder 48 = .ok (.getfield 76, 3) := by decide +kernel
theorem dX12_nextOrder_51 : decode cX12_nextOrder 51 = .ok (.iload_n 2, 1) := by decide +kernel
theorem dX12_nextOrder_52 : decode cX12_nextOrder 52 = .ok (.iaload, 1) := by decide +kernel
theorem dX12_nextOrder_53 : decode cX12_nextOrder 53 = .ok (.aload_n 0, 1) := by decide +kernel
theorem dX12_nextOrder_54 : decode cX12_nextOrder 54 = .ok (.getfield 76, 3) := by decide +kernel
theorem dX12_nextOrder_57 : decode cX12_nextOrder 57 = .ok (.iload_n 1, 1) := by decide +kernel
theorem dX12_nextOrder_58 : decode cX12_nextOrder 58 = .ok (.iaload, 1) := by decide +kernel
theorem dX12_nextOrder_59 : decode cX12_nextOrder 59 = .ok (.if_icmp .gt 9, 3) := by decide +kernel
theorem dX12_nextOrder_68 : decode cX12_nextOrder 68 = .ok (.aload_n 0, 1) := by decide +kernel
theorem dX12_nextOrder_69 : decode cX12_nextOrder 69 = .ok (.iload_n 1, 1) := by decide +kernel
theorem dX12_nextOrder_70 : decode cX12_nextOrder 70 = .ok (.iload_n 2, 1) := by decide +kernel
theorem dX12_nextOrder_71 : decode cX12_nextOrder 71 = .ok (.invokevirtual 304, 3) := by decide +kernel
theorem dX12_nextOrder_74 : decode cX12_nextOrder 74 = .ok (.iload_n 1, 1) := by decide +kernel
theorem dX12_nextOrder_75 : decode cX12_nextOrder 75 = .ok (.iconst 1, 1) := by decide +kernel
theorem dX12_nextOrder_76 : decode cX12_nextOrder 76 = .ok (.iadd, 1) := by decide +kernel
theorem dX12_nextOrder_77 : decode cX12_nextOrder 77 = .ok (.istore_n 3, 1) := by decide +kernel
theorem dX12_nextOrder_78 : decode cX12_nextOrder 78 = .ok (.aload_n 0, 1) := by decide +kernel
theorem dX12_nextOrder_79 : decode cX12_nextOrder 79 = .ok (.getfield 293, 3) := by decide +kernel
theorem dX12_nextOrder_82 : decode cX12_nextOrder 82 = .ok (.iconst 1, 1) := by decide +kernel
theorem dX12_nextOrder_83 : decode cX12_nextOrder 83 = .ok (.isub, 1) := by decide +kernel
theorem dX12_nextOrder_84 : decode cX12_nextOrder 84 = .ok (.istore 4, 2) := by decide +kernel
theorem dX12_nextOrder_86 : decode cX12_nextOrder 86 = .ok (.iload_n 3, 1) := by decide +kernel
theorem dX12_nextOrder_87 : decode cX12_nextOrder 87 = .ok (.iload 4, 2) := by decide +kernel
theorem dX12_nextOrder_89 : decode cX12_nextOrder 89 = .ok (.if_icmp .ge 19, 3) := by decide +kernel
theorem dX12_nextOrder_108 : decode cX12_nextOrder 108 = .ok (.iconst 1, 1) := by decide +kernel
theorem dX12_nextOrder_109 : decode cX12_nextOrder 109 = .ok (.ireturn, 1) := by decide +kernel
theorem dX12_nextOrder_92 : decode cX12_nextOrder 92 = .ok (.aload_n 0, 1) := by decide +kernel
theorem dX12_nextOrder_93 : decode cX12_nextOrder 93 = .ok (.iload_n 3, 1) := by decide +kernel
theorem dX12_nextOrder_94 : decode cX12_nextOrder 94 = .ok (.iload 4, 2) := by decide +kernel
theorem dX12_nextOrder_96 : decode cX12_nextOrder 96 = .ok (.invokevirtual 304, 3) := by decide +kernel
theorem dX12_nextOrder_99 : decode cX12_nextOrder 99 = .ok (.iinc 3 1, 3) := by decide +kernel
theorem dX12_nextOrder_102 : decode cX12_nextOrder 102 = .ok (.iinc 4 (-1), 3) := by decide +kernel
theorem dX12_nextOrder_105 : decode cX12_nextOrder 105 = .ok (.goto (-19), 3) := by decide +kernel
theorem dX12_nextOrder_62 : decode cX12_nextOrder 62 = .ok (.iinc 2 (-1), 3) := by decide +kernel
theorem dX12_nextOrder_65 : decode cX12_nextOrder 65 = .ok (.goto (-18), 3) := by decide +kernel
theorem dX12_nextOrder_28 : decode cX12_nextOrder 28 = .ok (.iinc 1 (-1), 3) := by decide +kernel
theorem dX12_nextOrder_31 : decode cX12_nextOrder 31 = .ok (.goto (-24), 3) := by decide +kernel
theorem dX12_orderCode_0 : decode cX12_orderCode 0 = .ok (.iconst 0, 1) := by decide +kernel
theorem dX12_orderCode_1 : decode cX12_orderCode 1 = .ok (.istore_n 1, 1) := by decide +kernel
theorem dX12_orderCode_2 : decode cX12_orderCode 2 = .ok (.iconst 0, 1) := by decide +kernel
theorem dX12_orderCode_3 : decode cX12_orderCode 3 = .ok (.istore_n 2, 1) := by decide +kernel
theorem dX12_orderCode_4 : decode cX12_orderCode 4 = .ok (.iload_n 2, 1) := by decide +kernel
theorem dX12_orderCode_5 : decode cX12_orderCode 5 = .ok (.aload_n 0, 1) := by decide +kernel
theorem dX12_orderCode_6 : decode cX12_orderCode 6 = .ok (.getfield 293, 3) := by decide +kernel
theorem dX12_orderCode_9 : decode cX12_orderCode 9 = .ok (.if_icmp .ge 20, 3) := by decide +kernel
theorem dX12_orderCode_29 : decode cX12_orderCode 29 = .ok (.iload_n 1, 1) := by decide +kernel
theorem dX12_orderCode_30 : decode cX12_orderCode 30 = .ok (.ireturn, 1) := by decide +kernel
theorem dX12_orderCode_12 : decode cX12_orderCode 12 = .ok (.iconst 5, 1) := by decide +kernel
theorem dX12_orderCode_13 : decode cX12_orderCode 13 = .ok (.iload_n 1, 1) := by decide +kernel
theorem dX12_orderCode_14 : decode cX12_orderCode 14 = .ok (.imul, 1) := by decide +kernel
theorem dX12_orderCode_15 : decode cX12_orderCode 15 = .ok (.aload_n 0, 1) := by decide +kernel
theorem dX12_orderCode_16 : decode cX12_orderCode 16 = .ok (.getfield 76, 3) := by decide +kernel
theorem dX12_orderCode_19 : decode cX12_orderCode 19 = .ok (.iload_n 2, 1) := by decide +kernel
theorem dX12_orderCode_20 : decode cX12_orderCode 20 = .ok (.iaload, 1) := by decide +kernel
theorem dX12_orderCode_21 : decode cX12_orderCode 21 = .ok (.iadd, 1) := by decide +kernel
theorem dX12_orderCode_22 : decode cX12_orderCode 22 = .ok (.istore_n 1, 1) := by decide +kernel
theorem dX12_orderCode_23 : decode cX12_orderCode 23 = .ok (.iinc 2 1, 3) := by decide +kernel
theorem dX12_orderCode_26 : decode cX12_orderCode 26 = .ok (.goto (-22), 3) := by decide +kernel
theorem dX12_colourOf_0 : decode cX12_colourOf 0 = .ok (.aload_n 0, 1) := by decide +kernel
theorem dX12_colourOf_1 : decode cX12_colourOf 1 = .ok (.getfield 55, 3) := by decide +kernel
theorem dX12_colourOf_4 : decode cX12_colourOf 4 = .ok (.bipush 7, 2) := by decide +kernel
theorem dX12_colourOf_6 : decode cX12_colourOf 6 = .ok (.iload_n 1, 1) := by decide +kernel
theorem dX12_colourOf_7 : decode cX12_colourOf 7 = .ok (.imul, 1) := by decide +kernel
theorem dX12_colourOf_8 : decode cX12_colourOf 8 = .ok (.iload_n 2, 1) := by decide +kernel
theorem dX12_colourOf_9 : decode cX12_colourOf 9 = .ok (.iadd, 1) := by decide +kernel
theorem dX12_colourOf_10 : decode cX12_colourOf 10 = .ok (.iaload, 1) := by decide +kernel
theorem dX12_colourOf_11 : decode cX12_colourOf 11 = .ok (.ireturn, 1) := by decide +kernel
theorem dX12_laysHouses_0 : decode cX12_laysHouses 0 = .ok (.aload_n 0, 1) := by decide +kernel
theorem dX12_laysHouses_1 : decode cX12_laysHouses 1 = .ok (.getfield 79, 3) := by decide +kernel
theorem dX12_laysHouses_4 : decode cX12_laysHouses 4 = .ok (.aload_n 0, 1) := by decide +kernel
theorem dX12_laysHouses_5 : decode cX12_laysHouses 5 = .ok (.getfield 11, 3) := by decide +kernel
theorem dX12_laysHouses_8 : decode cX12_laysHouses 8 = .ok (.if_icmp .ne 4, 3) := by decide +kernel
theorem dX12_laysHouses_12 : decode cX12_laysHouses 12 = .ok (.aload_n 0, 1) := by decide +kernel
theorem dX12_laysHouses_13 : decode cX12_laysHouses 13 = .ok (.aload_n 0, 1) := by decide +kernel
theorem dX12_laysHouses_14 : decode cX12_laysHouses 14 = .ok (.getfield 11, 3) := by decide +kernel
theorem dX12_laysHouses_17 : decode cX12_laysHouses 17 = .ok (.putfield 79, 3) := by decide +kernel
theorem dX12_laysHouses_20 : decode cX12_laysHouses 20 = .ok (.aload_n 0, 1) := by decide +kernel
theorem dX12_laysHouses_21 : decode cX12_laysHouses 21 = .ok (.aload_n 0, 1) := by decide +kernel
theorem dX12_laysHouses_22 : decode cX12_laysHouses 22 = .ok (.invokevirtual 149, 3) := by decide +kernel
theorem dX12_laysHouses_25 : decode cX12_laysHouses 25 = .ok (.putfield 293, 3) := by decide +kernel
theorem dX12_laysHouses_28 : decode cX12_laysHouses 28 = .ok (.iconst 0, 1) := by decide +kernel
theorem dX12_laysHouses_29 : decode cX12_laysHouses 29 = .ok (.istore_n 1, 1) := by decide +kernel
theorem dX12_laysHouses_30 : decode cX12_laysHouses 30 = .ok (.iconst 0, 1) := by decide +kernel
theorem dX12_laysHouses_31 : decode cX12_laysHouses 31 = .ok (.istore_n 2, 1) := by decide +kernel
theorem dX12_laysHouses_32 : decode cX12_laysHouses 32 = .ok (.iload_n 2, 1) := by decide +kernel
theorem dX12_laysHouses_33 : decode cX12_laysHouses 33 = .ok (.iconst 5, 1) := by decide +kernel
theorem dX12_laysHouses_34 : decode cX12_laysHouses 34 = .ok (.if_icmp .ge 39, 3) := by decide +kernel
theorem dX12_laysHouses_73 : decode cX12_laysHouses 73 = .ok (.aload_n 0, 1) := by decide +kernel
theorem dX12_laysHouses_74 : decode cX12_laysHouses 74 = .ok (.iconst 0, 1) := by decide +kernel
theorem dX12_laysHouses_75 : decode cX12_laysHouses 75 = .ok (.putfield 298, 3) := by decide +kernel
theorem dX12_laysHouses_78 : decode cX12_laysHouses 78 = .ok (.iconst 1, 1) := by decide +kernel
theorem dX12_laysHouses_79 : decode cX12_laysHouses 79 = .ok (.istore_n 2, 1) := by decide +kernel
theorem dX12_laysHouses_80 : decode cX12_laysHouses 80 = .ok (.iload_n 2, 1) := by decide +kernel
theorem dX12_laysHouses_81 : decode cX12_laysHouses 81 = .ok (.ifCond .eq 85, 3) := by decide +kernel
theorem dX12_laysHouses_166 : decode cX12_laysHouses 166 = .ok (.return_, 1) := by decide +kernel
theorem dX12_laysHouses_84 : decode cX12_laysHouses 84 = .ok (.iconst 0, 1) := by decide +kernel
theorem dX12_laysHouses_85 : decode cX12_laysHouses 85 = .ok (.istore_n 3, 1) := by decide +kernel
theorem dX12_laysHouses_86 : decode cX12_laysHouses 86 = .ok (.iconst 0, 1) := by decide +kernel
theorem dX12_laysHouses_87 : decode cX12_laysHouses 87 = .ok (.istore 4, 2) := by decide +kernel
theorem dX12_laysHouses_89 : decode cX12_laysHouses 89 = .ok (.iload 4, 2) := by decide +kernel
theorem dX12_laysHouses_91 : decode cX12_laysHouses 91 = .ok (.aload_n 0, 1) := by decide +kernel
theorem dX12_laysHouses_92 : decode cX12_laysHouses 92 = .ok (.getfield 293, 3) := by decide +kernel
theorem dX12_laysHouses_95 : decode cX12_laysHouses 95 = .ok (.if_icmp .ge 43, 3) := by decide +kernel
theorem dX12_laysHouses_138 : decode cX12_laysHouses 138 = .ok (.aload_n 0, 1) := by decide +kernel
theorem dX12_laysHouses_139 : decode cX12_laysHouses 139 = .ok (.getfield 58, 3) := by decide +kernel
theorem dX12_laysHouses_142 : decode cX12_laysHouses 142 = .ok (.aload_n 0, 1) := by decide +kernel
theorem dX12_laysHouses_143 : decode cX12_laysHouses 143 = .ok (.getfield 298, 3) := by decide +kernel
theorem dX12_laysHouses_146 : decode cX12_laysHouses 146 = .ok (.iload_n 3, 1) := by decide +kernel
theorem dX12_laysHouses_147 : decode cX12_laysHouses 147 = .ok (.iastore, 1) := by decide +kernel
theorem dX12_laysHouses_148 : decode cX12_laysHouses 148 = .ok (.aload_n 0, 1) := by decide +kernel
theorem dX12_laysHouses_149 : decode cX12_laysHouses 149 = .ok (.dup, 1) := by decide +kernel
theorem dX12_laysHouses_150 : decode cX12_laysHouses 150 = .ok (.getfield 298, 3) := by decide +kernel
theorem dX12_laysHouses_153 : decode cX12_laysHouses 153 = .ok (.iconst 1, 1) := by decide +kernel
theorem dX12_laysHouses_154 : decode cX12_laysHouses 154 = .ok (.iadd, 1) := by decide +kernel
theorem dX12_laysHouses_155 : decode cX12_laysHouses 155 = .ok (.putfield 298, 3) := by decide +kernel
theorem dX12_laysHouses_158 : decode cX12_laysHouses 158 = .ok (.aload_n 0, 1) := by decide +kernel
theorem dX12_laysHouses_159 : decode cX12_laysHouses 159 = .ok (.invokevirtual 301, 3) := by decide +kernel
theorem dX12_laysHouses_162 : decode cX12_laysHouses 162 = .ok (.istore_n 2, 1) := by decide +kernel
theorem dX12_laysHouses_163 : decode cX12_laysHouses 163 = .ok (.goto (-83), 3) := by decide +kernel
theorem dX12_laysHouses_98 : decode cX12_laysHouses 98 = .ok (.aload_n 0, 1) := by decide +kernel
theorem dX12_laysHouses_99 : decode cX12_laysHouses 99 = .ok (.getfield 55, 3) := by decide +kernel
theorem dX12_laysHouses_102 : decode cX12_laysHouses 102 = .ok (.bipush 7, 2) := by decide +kernel
theorem dX12_laysHouses_104 : decode cX12_laysHouses 104 = .ok (.aload_n 0, 1) := by decide +kernel
theorem dX12_laysHouses_105 : decode cX12_laysHouses 105 = .ok (.getfield 298, 3) := by decide +kernel
theorem dX12_laysHouses_108 : decode cX12_laysHouses 108 = .ok (.imul, 1) := by decide +kernel
theorem dX12_laysHouses_109 : decode cX12_laysHouses 109 = .ok (.iload 4, 2) := by decide +kernel
theorem dX12_laysHouses_111 : decode cX12_laysHouses 111 = .ok (.iadd, 1) := by decide +kernel
theorem dX12_laysHouses_112 : decode cX12_laysHouses 112 = .ok (.aload_n 0, 1) := by decide +kernel
theorem dX12_laysHouses_113 : decode cX12_laysHouses 113 = .ok (.getfield 76, 3) := by decide +kernel
theorem dX12_laysHouses_116 : decode cX12_laysHouses 116 = .ok (.iload 4, 2) := by decide +kernel
theorem dX12_laysHouses_118 : decode cX12_laysHouses 118 = .ok (.iaload, 1) := by decide +kernel
theorem dX12_laysHouses_119 : decode cX12_laysHouses 119 = .ok (.iastore, 1) := by decide +kernel
theorem dX12_laysHouses_120 : decode cX12_laysHouses 120 = .ok (.iconst 5, 1) := by decide +kernel
theorem dX12_laysHouses_121 : decode cX12_laysHouses 121 = .ok (.iload_n 3, 1) := by decide +kernel
theorem dX12_laysHouses_122 : decode cX12_laysHouses 122 = .ok (.imul, 1) := by decide +kernel
theorem dX12_laysHouses_123 : decode cX12_laysHouses 123 = .ok (.aload_n 0, 1) := by decide +kernel
theorem dX12_laysHouses_124 : decode cX12_laysHouses 124 = .ok (.getfield 76, 3) := by decide +kernel
theorem dX12_laysHouses_127 : decode cX12_laysHouses 127 = .ok (.iload 4, 2) := by decide +kernel
theorem dX12_laysHouses_129 : decode cX12_laysHouses 129 = .ok (.iaload, 1) := by decide +kernel
theorem dX12_laysHouses_130 : decode cX12_laysHouses 130 = .ok (.iadd, 1) := by decide +kernel
theorem dX12_laysHouses_131 : decode cX12_laysHouses 131 = .ok (.istore_n 3, 1) := by decide +kernel
theorem dX12_laysHouses_132 : decode cX12_laysHouses 132 = .ok (.iinc 4 1, 3) := by decide +kernel
theorem dX12_laysHouses_135 : decode cX12_laysHouses 135 = .ok (.goto (-46), 3) := by decide +kernel
theorem dX12_laysHouses_37 : decode cX12_laysHouses 37 = .ok (.iconst 0, 1) := by decide +kernel
theorem dX12_laysHouses_38 : decode cX12_laysHouses 38 = .ok (.istore_n 3, 1) := by decide +kernel
theorem dX12_laysHouses_39 : decode cX12_laysHouses 39 = .ok (.iload_n 3, 1) := by decide +kernel
theorem dX12_laysHouses_40 : decode cX12_laysHouses 40 = .ok (.aload_n 0, 1) := by decide +kernel
theorem dX12_laysHouses_41 : decode cX12_laysHouses 41 = .ok (.getfield 20, 3) := by decide +kernel
theorem dX12_laysHouses_44 : decode cX12_laysHouses 44 = .ok (.iconst 0, 1) := by decide +kernel
theorem dX12_laysHouses_45 : decode cX12_laysHouses 45 = .ok (.iload_n 2, 1) := by decide +kernel
theorem dX12_laysHouses_46 : decode cX12_laysHouses 46 = .ok (.iadd, 1) := by decide +kernel
theorem dX12_laysHouses_47 : decode cX12_laysHouses 47 = .ok (.iaload, 1) := by decide +kernel
theorem dX12_laysHouses_48 : decode cX12_laysHouses 48 = .ok (.if_icmp .ge 19, 3) := by decide +kernel
theorem dX12_laysHouses_67 : decode cX12_laysHouses 67 = .ok (.iinc 2 1, 3) := by decide +kernel
theorem dX12_laysHouses_70 : decode cX12_laysHouses 70 = .ok (.goto (-38), 3) := by decide +kernel
theorem dX12_laysHouses_51 : decode cX12_laysHouses 51 = .ok (.aload_n 0, 1) := by decide +kernel
theorem dX12_laysHouses_52 : decode cX12_laysHouses 52 = .ok (.getfield 76, 3) := by decide +kernel
theorem dX12_laysHouses_55 : decode cX12_laysHouses 55 = .ok (.iload_n 1, 1) := by decide +kernel
theorem dX12_laysHouses_56 : decode cX12_laysHouses 56 = .ok (.iload_n 2, 1) := by decide +kernel
theorem dX12_laysHouses_57 : decode cX12_laysHouses 57 = .ok (.iastore, 1) := by decide +kernel
theorem dX12_laysHouses_58 : decode cX12_laysHouses 58 = .ok (.iinc 1 1, 3) := by decide +kernel
theorem dX12_laysHouses_61 : decode cX12_laysHouses 61 = .ok (.iinc 3 1, 3) := by decide +kernel
theorem dX12_laysHouses_64 : decode cX12_laysHouses 64 = .ok (.goto (-25), 3) := by decide +kernel
theorem dX12_laysHouses_11 : decode cX12_laysHouses 11 = .ok (.return_, 1) := by decide +kernel
theorem dX12_houseOf_0 : decode cX12_houseOf 0 = .ok (.iconst 0, 1) := by decide +kernel
theorem dX12_houseOf_1 : decode cX12_houseOf 1 = .ok (.istore_n 2, 1) := by decide +kernel
theorem dX12_houseOf_2 : decode cX12_houseOf 2 = .ok (.aload_n 0, 1) := by decide +kernel
theorem dX12_houseOf_3 : decode cX12_houseOf 3 = .ok (.getfield 298, 3) := by decide +kernel
theorem dX12_houseOf_6 : decode cX12_houseOf 6 = .ok (.iconst 1, 1) := by decide +kernel
theorem dX12_houseOf_7 : decode cX12_houseOf 7 = .ok (.isub, 1) := by decide +kernel
theorem dX12_houseOf_8 : decode cX12_houseOf 8 = .ok (.istore_n 3, 1) := by decide +kernel
theorem dX12_houseOf_9 : decode cX12_houseOf 9 = .ok (.iload_n 2, 1) := by decide +kernel
theorem dX12_houseOf_10 : decode cX12_houseOf 10 = .ok (.iload_n 3, 1) := by decide +kernel
theorem dX12_houseOf_11 : decode cX12_houseOf 11 = .ok (.if_icmp .ge 35, 3) := by decide +kernel
theorem dX12_houseOf_46 : decode cX12_houseOf 46 = .ok (.aload_n 0, 1) := by decide +kernel
theorem dX12_houseOf_47 : decode cX12_houseOf 47 = .ok (.getfield 58, 3) := by decide +kernel
theorem dX12_houseOf_50 : decode cX12_houseOf 50 = .ok (.iload_n 2, 1) := by decide +kernel
theorem dX12_houseOf_51 : decode cX12_houseOf 51 = .ok (.iaload, 1) := by decide +kernel
theorem dX12_houseOf_52 : decode cX12_houseOf 52 = .ok (.iload_n 1, 1) := by decide +kernel
theorem dX12_houseOf_53 : decode cX12_houseOf 53 = .ok (.if_icmp .ne 7, 3) := by decide +kernel
theorem dX12_houseOf_60 : decode cX12_houseOf 60 = .ok (.iconst (-1), 1) := by decide +kernel
theorem dX12_houseOf_61 : decode cX12_houseOf 61 = .ok (.ireturn, 1) := by decide +kernel
theorem dX12_houseOf_56 : decode cX12_houseOf 56 = .ok (.iload_n 2, 1) := by decide +kernel
theorem dX12_houseOf_57 : decode cX12_houseOf 57 = .ok (.goto 4, 3) := by decide +kernel
theorem dX12_houseOf_14 : decode cX12_houseOf 14 = .ok (.iload_n 2, 1) := by decide +kernel
theorem dX12_houseOf_15 : decode cX12_houseOf 15 = .ok (.iload_n 3, 1) := by decide +kernel
theorem dX12_houseOf_16 : decode cX12_houseOf 16 = .ok (.iadd, 1) := by decide +kernel
theorem dX12_houseOf_17 : decode cX12_houseOf 17 = .ok (.iconst 2, 1) := by decide +kernel
theorem dX12_houseOf_18 : decode cX12_houseOf 18 = .ok (.idiv, 1) := by decide +kernel
theorem dX12_houseOf_19 : decode cX12_houseOf 19 = .ok (.istore 4, 2) := by decide +kernel
theorem dX12_houseOf_21 : decode cX12_houseOf 21 = .ok (.aload_n 0, 1) := by decide +kernel
theorem dX12_houseOf_22 : decode cX12_houseOf 22 = .ok (.getfield 58, 3) := by decide +kernel
theorem dX12_houseOf_25 : decode cX12_houseOf 25 = .ok (.iload 4, 2) := by decide +kernel
theorem dX12_houseOf_27 : decode cX12_houseOf 27 = .ok (.iaload, 1) := by decide +kernel
theorem dX12_houseOf_28 : decode cX12_houseOf 28 = .ok (.iload_n 1, 1) := by decide +kernel
theorem dX12_houseOf_29 : decode cX12_houseOf 29 = .ok (.if_icmp .ge 11, 3) := by decide +kernel
theorem dX12_houseOf_40 : decode cX12_houseOf 40 = .ok (.iload 4, 2) := by decide +kernel
theorem dX12_houseOf_42 : decode cX12_houseOf 42 = .ok (.istore_n 3, 1) := by decide +kernel
theorem dX12_houseOf_43 : decode cX12_houseOf 43 = .ok (.goto (-34), 3) := by decide +kernel
theorem dX12_houseOf_32 : decode cX12_houseOf 32 = .ok (.iload 4, 2) := by decide +kernel
theorem dX12_houseOf_34 : decode cX12_houseOf 34 = .ok (.iconst 1, 1) := by decide +kernel
theorem dX12_houseOf_35 : decode cX12_houseOf 35 = .ok (.iadd, 1) := by decide +kernel
theorem dX12_houseOf_36 : decode cX12_houseOf 36 = .ok (.istore_n 2, 1) := by decide +kernel
theorem dX12_houseOf_37 : decode cX12_houseOf 37 = .ok (.goto 6, 3) := by decide +kernel
theorem dX12_takesOrder_0 : decode cX12_takesOrder 0 = .ok (.iconst 0, 1) := by decide +kernel
theorem dX12_takesOrder_1 : decode cX12_takesOrder 1 = .ok (.istore_n 2, 1) := by decide +kernel
theorem dX12_takesOrder_2 : decode cX12_takesOrder 2 = .ok (.iload_n 2, 1) := by decide +kernel
theorem dX12_takesOrder_3 : decode cX12_takesOrder 3 = .ok (.aload_n 0, 1) := by decide +kernel
theorem dX12_takesOrder_4 : decode cX12_takesOrder 4 = .ok (.getfield 293, 3) := by decide +kernel
theorem dX12_takesOrder_7 : decode cX12_takesOrder 7 = .ok (.if_icmp .ge 21, 3) := by decide +kernel
theorem dX12_takesOrder_28 : decode cX12_takesOrder 28 = .ok (.return_, 1) := by decide +kernel
theorem dX12_takesOrder_10 : decode cX12_takesOrder 10 = .ok (.aload_n 0, 1) := by decide +kernel
theorem dX12_takesOrder_11 : decode cX12_takesOrder 11 = .ok (.getfield 76, 3) := by decide +kernel
theorem dX12_takesOrder_14 : decode cX12_takesOrder 14 = .ok (.iload_n 2, 1) := by decide +kernel
theorem dX12_takesOrder_15 : decode cX12_takesOrder 15 = .ok (.aload_n 0, 1) := by decide +kernel
theorem dX12_takesOrder_16 : decode cX12_takesOrder 16 = .ok (.iload_n 1, 1) := by decide +kernel
theorem dX12_takesOrder_17 : decode cX12_takesOrder 17 = .ok (.iload_n 2, 1) := by decide +kernel
theorem dX12_takesOrder_18 : decode cX12_takesOrder 18 = .ok (.invokevirtual 290, 3) := by decide +kernel
theorem dX12_takesOrder_21 : decode cX12_takesOrder 21 = .ok (.iastore, 1) := by decide +kernel
theorem dX12_takesOrder_22 : decode cX12_takesOrder 22 = .ok (.iinc 2 1, 3) := by decide +kernel
theorem dX12_takesOrder_25 : decode cX12_takesOrder 25 = .ok (.goto (-23), 3) := by decide +kernel
theorem dX12_hasWall_0 : decode cX12_hasWall 0 = .ok (.iconst 0, 1) := by decide +kernel
theorem dX12_hasWall_1 : decode cX12_hasWall 1 = .ok (.istore_n 3, 1) := by decide +kernel
theorem dX12_hasWall_2 : decode cX12_hasWall 2 = .ok (.iload_n 3, 1) := by decide +kernel
theorem dX12_hasWall_3 : decode cX12_hasWall 3 = .ok (.aload_n 0, 1) := by decide +kernel
theorem dX12_hasWall_4 : decode cX12_hasWall 4 = .ok (.getfield 20, 3) := by decide +kernel
theorem dX12_hasWall_7 : decode cX12_hasWall 7 = .ok (.bipush 59, 2) := by decide +kernel
theorem dX12_hasWall_9 : decode cX12_hasWall 9 = .ok (.iaload, 1) := by decide +kernel
theorem dX12_hasWall_10 : decode cX12_hasWall 10 = .ok (.if_icmp .ge 63, 3) := by decide +kernel
theorem dX12_hasWall_73 : decode cX12_hasWall 73 = .ok (.iconst 0, 1) := by decide +kernel
theorem dX12_hasWall_74 : decode cX12_hasWall 74 = .ok (.ireturn, 1) := by decide +kernel
theorem dX12_hasWall_13 : decode cX12_hasWall 13 = .ok (.aload_n 0, 1) := by decide +kernel
theorem dX12_hasWall_14 : decode cX12_hasWall 14 = .ok (.getfield 20, 3) := by decide +kernel
theorem dX12_hasWall_17 : decode cX12_hasWall 17 = .ok (.bipush 7, 2) := by decide +kernel
theorem dX12_hasWall_19 : decode cX12_hasWall 19 = .ok (.iconst 2, 1) := by decide +kernel
theorem dX12_hasWall_20 : decode cX12_hasWall 20 = .ok (.iload_n 3, 1) := by decide +kernel
theorem dX12_hasWall_21 : decode cX12_hasWall 21 = .ok (.imul, 1) := by decide +kernel
theorem dX12_hasWall_22 : decode cX12_hasWall 22 = .ok (.iadd, 1) := by decide +kernel
theorem dX12_hasWall_23 : decode cX12_hasWall 23 = .ok (.iaload, 1) := by decide +kernel
theorem dX12_hasWall_24 : decode cX12_hasWall 24 = .ok (.istore 4, 2) := by decide +kernel
theorem dX12_hasWall_26 : decode cX12_hasWall 26 = .ok (.aload_n 0, 1) := by decide +kernel
theorem dX12_hasWall_27 : decode cX12_hasWall 27 = .ok (.getfield 20, 3) := by decide +kernel
theorem dX12_hasWall_30 : decode cX12_hasWall 30 = .ok (.bipush 7, 2) := by decide +kernel
theorem dX12_hasWall_32 : decode cX12_hasWall 32 = .ok (.iconst 2, 1) := by decide +kernel
theorem dX12_hasWall_33 : decode cX12_hasWall 33 = .ok (.iload_n 3, 1) := by decide +kernel
theorem dX12_hasWall_34 : decode cX12_hasWall 34 = .ok (.imul, 1) := by decide +kernel
theorem dX12_hasWall_35 : decode cX12_hasWall 35 = .ok (.iadd, 1) := by decide +kernel
theorem dX12_hasWall_36 : decode cX12_hasWall 36 = .ok (.iconst 1, 1) := by decide +kernel
theorem dX12_hasWall_37 : decode cX12_hasWall 37 = .ok (.iadd, 1) := by decide +kernel
theorem dX12_hasWall_38 : decode cX12_hasWall 38 = .ok (.iaload, 1) := by decide +kernel
theorem dX12_hasWall_39 : decode cX12_hasWall 39 = .ok (.istore 5, 2) := by decide +kernel
theorem dX12_hasWall_41 : decode cX12_hasWall 41 = .ok (.iload 4, 2) := by decide +kernel
theorem dX12_hasWall_43 : decode cX12_hasWall 43 = .ok (.iload_n 1, 1) := by decide +kernel
theorem dX12_hasWall_44 : decode cX12_hasWall 44 = .ok (.if_icmp .ne 9, 3) := by decide +kernel
theorem dX12_hasWall_53 : decode cX12_hasWall 53 = .ok (.iload 4, 2) := by decide +kernel
theorem dX12_hasWall_55 : decode cX12_hasWall 55 = .ok (.iload_n 2, 1) := by decide +kernel
theorem dX12_hasWall_56 : decode cX12_hasWall 56 = .ok (.if_icmp .ne 11, 3) := by decide +kernel
theorem dX12_hasWall_67 : decode cX12_hasWall 67 = .ok (.iinc 3 1, 3) := by decide +kernel
theorem dX12_hasWall_70 : decode cX12_hasWall 70 = .ok (.goto (-68), 3) := by decide +kernel
theorem dX12_hasWall_59 : decode cX12_hasWall 59 = .ok (.iload 5, 2) := by decide +kernel
theorem dX12_hasWall_61 : decode cX12_hasWall 61 = .ok (.iload_n 1, 1) := by decide +kernel
theorem dX12_hasWall_62 : decode cX12_hasWall 62 = .ok (.if_icmp .ne 5, 3) := by decide +kernel
theorem dX12_hasWall_65 : decode cX12_hasWall 65 = .ok (.iconst 1, 1) := by decide +kernel
theorem dX12_hasWall_66 : decode cX12_hasWall 66 = .ok (.ireturn, 1) := by decide +kernel
theorem dX12_hasWall_47 : decode cX12_hasWall 47 = .ok (.iload 5, 2) := by decide +kernel
theorem dX12_hasWall_49 : decode cX12_hasWall 49 = .ok (.iload_n 2, 1) := by decide +kernel
theorem dX12_hasWall_50 : decode cX12_hasWall 50 = .ok (.if_icmp .eq 15, 3) := by decide +kernel
theorem dX12_isHouse_0 : decode cX12_isHouse 0 = .ok (.aload_n 0, 1) := by decide +kernel
theorem dX12_isHouse_1 : decode cX12_isHouse 1 = .ok (.invokevirtual 159, 3) := by decide +kernel
theorem dX12_isHouse_4 : decode cX12_isHouse 4 = .ok (.iload_n 1, 1) := by decide +kernel
theorem dX12_isHouse_5 : decode cX12_isHouse 5 = .ok (.iconst 0, 1) := by decide +kernel
theorem dX12_isHouse_6 : decode cX12_isHouse 6 = .ok (.aload_n 0, 1) := by decide +kernel
theorem dX12_isHouse_7 : decode cX12_isHouse 7 = .ok (.getfield 298, 3) := by decide +kernel
theorem dX12_isHouse_10 : decode cX12_isHouse 10 = .ok (.iconst 1, 1) := by decide +kernel
theorem dX12_isHouse_11 : decode cX12_isHouse 11 = .ok (.isub, 1) := by decide +kernel
theorem dX12_isHouse_12 : decode cX12_isHouse 12 = .ok (.invokestatic 138, 3) := by decide +kernel
theorem dX12_isHouse_15 : decode cX12_isHouse 15 = .ok (.ireturn, 1) := by decide +kernel
theorem v_103506e43e {a0 : Int} (h0 : a0 ≤ -1) : 0 ≤ -a0 := by omega
theorem v_25a4286c37 {a0 : Int} (h0 : -6 ≤ a0) : -a0 < 7 := by omega
theorem v_a8cc381b6d {a0 : Int} : 0 + a0 = a0 := by omega
theorem v_8d7e1234de {a0 : Int} (h0 : ¬ 5 ≤ a0) : a0 < 4870 := by omega
theorem v_daf36ae0f8 {a0 a1 : Int} (h0 : 0 ≤ a0) (h1 : 0 ≤ a1) : 0 ≤ 7 * a0 + a1 := by omega
theorem v_6b67ff21e5 {a0 a1 : Int} (h0 : a0 < 1260) (h1 : a1 < 7) : 7 * a0 + a1 < 8820 := by omega
theorem v_b09d0e65de {a0 a1 a2 : Int} (h0 : a0 + a1 ≤ a2) (h1 : a2 ≤ a0 + 1260 * a1) (h2 : a1 = 0) : a0 = a2 := by omega
theorem v_0b0dff4df3 {a0 a1 a2 : Int} (h0 : 1 ≤ a0) (h1 : a0 ≤ a1 + 1260 * a2) (h2 : a2 = 0) : 1 ≤ a1 := by omega
theorem v_5e0cdf7130 {a0 a1 a2 : Int} (h0 : a0 ≤ 1260) (h1 : 0 ≤ a1) (h2 : a2 + a1 ≤ a0) : a2 ≤ 1260 := by omega
theorem v_116b9e631d {a0 a1 : Int} (h0 : a0 ≤ 7) (h1 : a1 = a0) : a1 ≤ 7 := by omega
theorem v_9f753bbf59 {a0 a1 a2 : Int} (h0 : a0 ≤ 7) (h1 : a1 = a0) (h2 : 0 ≤ a2) (h3 : a2 ≤ a1) : zr a2 := by omega
theorem v_694b5ff260 {a0 a1 a2 : Int} (h0 : a0 ≤ 7) (h1 : a1 = a0) (h2 : 0 ≤ a2) (h3 : a2 ≤ a1) : zr a1 := by omega
theorem v_6202d3aaca {a0 a1 a2 : Int} (h0 : a0 ≤ 1260) (h1 : 0 ≤ a1) (h2 : a2 + a1 ≤ a0) (h3 : ¬ a1 = 0) : a2 < 1260 := by omega
theorem v_83d03e04bc {a0 : Int} : 1261 - (a0 + 1) < (1261 - a0) := by omega
theorem v_10f0ad0121 {a0 a1 a2 : Int} (h0 : a0 ≤ 1260) (h1 : a1 + 1 + a2 ≤ a0) (h2 : a0 ≤ a1 + 1 + 1260 * a2) : 0 < 1261 - a1 := by omega
theorem v_d142622cc1 {a0 a1 : Int} : 7 * a0 + a1 = a1 + 7 * a0 := by omega
theorem v_a4a6cba796 {a0 a1 a2 : Int} (h0 : a0 ≤ 7) (h1 : a1 = a0) (h2 : ¬ a1 ≤ a2) : a2 < 7 := by omega
theorem v_a2815b84b5 {a0 a1 : Int} (h0 : 0 ≤ a0) (h1 : 0 ≤ a1) : 0 ≤ a1 + 7 * a0 := by omega
theorem v_dc4f4f9926 {a0 a1 a2 a3 a4 a5 : Int} (h0 : a0 ≤ 7) (h1 : a1 ≤ 1260) (h2 : a2 = a0) (h3 : 0 ≤ a3) (h4 : a4 + a3 ≤ a1) (h5 : ¬ a3 = 0) (h6 : ¬ a2 ≤ a5) : a5 + 7 * a4 < 8820 := by omega
theorem v_0ec1a83e7b {a0 a1 : Int} : a0 + 7 * a1 = 7 * a1 + a0 := by omega
theorem v_15ef55d059 {a0 a1 a2 a3 a4 : Int} (h0 : a0 = a1) (h1 : a2 = a1 + a3) (h2 : a0 + a4 ≤ 7) (h3 : ¬ a4 ≤ a3) : a2 < 7 := by omega
theorem v_f1896ca1c0 {a0 a1 a2 a3 a4 : Int} (h0 : a0 = a1) (h1 : a2 = a1 + a3) (h2 : a0 + a4 ≤ 7) (h3 : ¬ a4 ≤ a3) : (a2 + 1) ≤ 7 := by omega
theorem v_4bb9e69bde {a0 a1 : Int} (h0 : a0 ≤ 7) (h1 : ¬ a0 ≤ a1) : 0 < 7 - a1 := by omega
theorem v_5f64b26fc7 {a0 a1 : Int} (h0 : 1 ≤ a0) (h1 : a1 = a0) : 1 ≤ a1 := by omega
theorem v_59da6bd3cb {a0 a1 : Int} (h0 : a0 ≤ 1260) (h1 : a1 = a0) : a1 ≤ 1260 := by omega
theorem v_cae5a9b4f3 {a0 : Int} (h0 : 1 ≤ a0) : 0 ≤ (a0 - 1) := by omega
theorem v_f7ba798426 {a0 a1 a2 : Int} (h0 : a0 ≤ 1260) (h1 : 0 ≤ a1) (h2 : a1 ≤ a2) (h3 : a2 < a0) : zr a1 := by omega
theorem v_e31665dd25 {a0 a1 a2 : Int} (h0 : a0 ≤ 1260) (h1 : 0 ≤ a1) (h2 : a1 ≤ a2) (h3 : a2 < a0) : zr a2 := by omega
theorem v_fbc5fb4b12 {a0 a1 a2 : Int} (h0 : a0 ≤ 1260) (h1 : a1 ≤ a2) (h2 : a2 < a0) : a1 < 1260 := by omega
theorem v_b6394f9c29 {a0 a1 a2 : Int} (h0 : a0 ≤ a1) (h1 : a1 < a2) : a0 < a2 := by omega
theorem v_ae3ec8d5bc {a0 : Int} (h0 : 0 ≤ a0) (h1 : a0 < 78125) : zr a0 := by omega
theorem v_cab4133e8c {a0 a1 a2 : Int} (h0 : a0 ≤ 1260) (h1 : 0 ≤ a1) (h2 : a2 < a0) (h3 : ¬ a2 ≤ a1) : zr ((a2 + a1)) := by omega
theorem v_76426696ba {a0 a1 : Int} (h0 : 0 ≤ a0) (h1 : ¬ a1 ≤ a0) : 0 ≤ a1 + a0 := by omega
theorem v_ee75fb0104 {a0 a1 a2 : Int} (h0 : 0 ≤ a0) (h1 : ¬ a1 ≤ a0) (h2 : a1 + a0 ≤ 2 * a2 + 1) : 0 ≤ a2 := by omega
theorem v_3dcbf4112b {a0 a1 a2 a3 : Int} (h0 : a0 ≤ 1260) (h1 : a1 < a0) (h2 : ¬ a1 ≤ a2) (h3 : 2 * a3 ≤ a1 + a2) : a3 < 1260 := by omega
theorem v_0f109f820e {a0 a1 a2 a3 : Int} (h0 : a0 < a1) (h1 : ¬ a0 ≤ a2) (h2 : 2 * a3 ≤ a0 + a2) : a3 < a1 := by omega
theorem v_3e13e49e6f {a0 a1 a2 : Int} (h0 : ¬ a0 ≤ a1) (h1 : a0 + a1 ≤ 2 * a2 + 1) : a1 ≤ a2 := by omega
theorem v_6f1b0ff342 {a0 a1 a2 : Int} (h0 : ¬ a0 ≤ a1) (h1 : 2 * a2 ≤ a0 + a1) : a2 - a1 < (a0 - a1) := by omega
theorem v_8ef53d9fee {a0 a1 a2 : Int} (h0 : 0 ≤ a0) (h1 : ¬ a1 ≤ a0) (h2 : a1 + a0 ≤ 2 * a2 + 1) : 0 ≤ (a2 + 1) := by omega
theorem v_f1edea1ccf {a0 a1 a2 : Int} (h0 : ¬ a0 ≤ a1) (h1 : 2 * a2 ≤ a0 + a1) : (a2 + 1) ≤ a0 := by omega
theorem v_17515218c5 {a0 a1 a2 : Int} (h0 : ¬ a0 ≤ a1) (h1 : a0 + a1 ≤ 2 * a2 + 1) : a0 - (a2 + 1) < (a0 - a1) := by omega
theorem v_1b95ffae78 {a0 a1 a2 : Int} (h0 : a0 = a1) (h1 : a2 ≤ a0) (h2 : a0 ≤ a2) : a2 = a1 := by omega
theorem v_b7686aa830 {a0 a1 a2 : Int} (h0 : a0 = a1) (h1 : ¬ a0 ≤ a2) : a2 < a1 := by omega
theorem v_77407988c7 {a0 : Int} (h0 : a0 ≤ 4) : a0 ≤ 4 := by omega
theorem v_028d633eb8 : (59 : Int) < 4870 := by omega
theorem v_2e2647420e {a0 a1 a2 : Int} (h0 : a0 = a1) (h1 : a1 ≤ a2) : a0 ≤ a2 := by omega
theorem v_3e4b903c63 {a0 : Int} : 7 + (2 * a0) = 2 * a0 + 7 := by omega
theorem v_d8a521b453 {a0 : Int} (h0 : 0 ≤ a0) : 0 ≤ 2 * a0 + 7 := by omega
theorem v_8cb1863ae6 {a0 a1 : Int} (h0 : a0 ≤ 8) (h1 : a1 ≤ a0) : 2 * a1 + 7 < 4870 := by omega
theorem v_7118128835 {a0 : Int} : 2 * a0 + 7 + 1 = 2 * a0 + 8 := by omega
theorem v_ea20a10f10 {a0 : Int} (h0 : 0 ≤ a0) : 0 ≤ 2 * a0 + 8 := by omega
theorem v_e3fa7f1e71 {a0 a1 : Int} (h0 : a0 ≤ 8) (h1 : a1 ≤ a0) : 2 * a1 + 8 < 4870 := by omega
theorem v_3d52b46b20 {a0 a1 a2 : Int} (h0 : a0 = a1) (h1 : ¬ a1 ≤ a2) : 0 < a0 - a2 := by omega
theorem v_e7507601e3 {a0 : Int} (h0 : 1 ≤ a0) (h1 : a0 ≤ 1260) : zr ((a0 - 1)) := by omega
theorem v_23a59df3fe {a0 a1 : Int} (h0 : a0 ≤ (a1 - 1)) : a0 < a1 := by omega
theorem v_98459e9e06 {a0 a1 : Int} (h0 : (a0 - 1) < a1) : a0 ≤ a1 := by omega
set_option maxHeartbeats 4000000 in
set_option maxRecDepth 100000 in
theorem k_refuses {l : Launch} {G : jG} {nh : Nat} {fh : Nat → Option va_E} (x : Int) (rf7 : Int → Int) (ms : Int) (mv : Int) (mt : Int) (mfa : Int) (mtn : Int) (mtk : Int) (mlv : Int) (mbd : Int) (mgo : Int) (mge : Int) (mbk : Int) (mtt : Int) (mtl : Int) (hm : Int) (pm : Int) (hb : Int) (sb : Int) (mfu : Int) (mdm : Int) (mla : Int) (q0 : -6 ≤ x) (q1 : x ≤ -1) (hk98 : fh 98 = some (.inr (12, (.int (zI ms) :: .int (zI mv) :: .ref 99 :: .ref 100 :: .ref 101 :: .ref 102 :: .ref 103 :: .ref 104 :: .ref 105 :: .int (zI mt) :: .int (zI mfa) :: .ref 106 :: .ref 107 :: .ref 108 :: .int (zI mtn) :: .int (zI mtk) :: .int (zI mlv) :: .int (zI mbd) :: .int (zI mgo) :: .int (zI mge) :: .int (zI mbk) :: .ref 109 :: .int (zI mtt) :: .int (zI mtl) :: .ref 110 :: .ref 111 :: .ref 112 :: .ref 113 :: .ref 114 :: .ref 115 :: .ref 116 :: .ref 117 :: .int (zI hm) :: .int (zI pm) :: .int (zI hb) :: .int (zI sb) :: .ref 118 :: .ref 119 :: .ref 120 :: .ref 121 :: .ref 122 :: .ref 123 :: .ref 124 :: .ref 125 :: .ref 126 :: .ref 127 :: .ref 128 :: .ref 129 :: .int (zI mfu) :: .ref 130 :: .ref 131 :: .ref 132 :: .ref 133 :: .ref 134 :: .int (zI mdm) :: .int (zI mla) :: [])))) (hk99 : fh 99 = some (.inl (0, 7, .inl (zA rf7)))) : JM l G yX12_refuses MX12_refuses { frames := 0, cells := 0, slots := 0, locals := 0 } [.ref 98, .int (zI x)] (nh, fh) (fun rr h9 => ∃ rg7 : Int → Int, rr = some (.int (zI x)) ∧ h9 = (nh, hc fh [(98, .inr (12, (.int (zI x) :: .int (zI mv) :: .ref 99 :: .ref 100 :: .ref 101 :: .ref 102 :: .ref 103 :: .ref 104 :: .ref 105 :: .int (zI mt) :: .int (zI mfa) :: .ref 106 :: .ref 107 :: .ref 108 :: .int (zI mtn) :: .int (zI mtk) :: .int (zI mlv) :: .int (zI mbd) :: .int (zI mgo) :: .int (zI mge) :: .int (zI mbk) :: .ref 109 :: .int (zI mtt) :: .int (zI mtl) :: .ref 110 :: .ref 111 :: .ref 112 :: .ref 113 :: .ref 114 :: .ref 115 :: .ref 116 :: .ref 117 :: .int (zI hm) :: .int (zI pm) :: .int (zI hb) :: .int (zI sb) :: .ref 118 :: .ref 119 :: .ref 120 :: .ref 121 :: .ref 122 :: .ref 123 :: .ref 124 :: .ref 125 :: .ref 126 :: .ref 127 :: .ref 128 :: .ref 129 :: .int (zI mfu) :: .ref 130 :: .ref 131 :: .ref 132 :: .ref 133 :: .ref 134 :: .int (zI mdm) :: .int (zI mla) :: []))), (99, .inl (0, 7, .inl (zA rg7)))])) := by
  refine JM.of (by decide) rfl (fun h => by cases h) (Nat.le_of_ble_eq_true rfl) ⟨0, rfl⟩ ?_
  refine J_hc0 (J_ls (ls2 := [some (.ref 98), some (.int (zI x))]) rfl ?_)
  refine J_aload_n dX12_refuses_0 rfl rfl ?_
  refine J_iload_n dX12_refuses_1 rfl rfl ?_
  refine K_put (fs2 := (.int (zI x) :: .int (zI mv) :: .ref 99 :: .ref 100 :: .ref 101 :: .ref 102 :: .ref 103 :: .ref 104 :: .ref 105 :: .int (zI mt) :: .int (zI mfa) :: .ref 106 :: .ref 107 :: .ref 108 :: .int (zI mtn) :: .int (zI mtk) :: .int (zI mlv) :: .int (zI mbd) :: .int (zI mgo) :: .int (zI mge) :: .int (zI mbk) :: .ref 109 :: .int (zI mtt) :: .int (zI mtl) :: .ref 110 :: .ref 111 :: .ref 112 :: .ref 113 :: .ref 114 :: .ref 115 :: .ref 116 :: .ref 117 :: .int (zI hm) :: .int (zI pm) :: .int (zI hb) :: .int (zI sb) :: .ref 118 :: .ref 119 :: .ref 120 :: .ref 121 :: .ref 122 :: .ref 123 :: .ref 124 :: .ref 125 :: .ref 126 :: .ref 127 :: .ref 128 :: .ref 129 :: .int (zI mfu) :: .ref 130 :: .ref 131 :: .ref 132 :: .ref 133 :: .ref 134 :: .int (zI mdm) :: .int (zI mla) :: [])) dX12_refuses_2 fw_X12_3 hk98 (Nat.le_of_ble_eq_true rfl) (fun _ => ⟨rfl, rfl⟩) rfl ?_
  refine J_aload_n dX12_refuses_5 rfl rfl ?_
  refine J_get (v := .ref 99) dX12_refuses_6 fl_X12_7 rfl rfl ?_
  refine J_iload_n dX12_refuses_9 rfl rfl ?_
  refine Z_ineg (c := -x) dX12_refuses_10 rfl ?_
  refine J_dup2_11 dX12_refuses_11 rfl rfl ?_
  obtain ⟨z1, ez1⟩ : ∃ z : Int, rf7 (-x) = z := ⟨_, rfl⟩
  refine Y_iald (z := z1) 7 dX12_refuses_12 hk99 rfl (by decide) (v_103506e43e q1) (v_25a4286c37 q0) ez1 ?_
  refine Z_iconst (n := 1) dX12_refuses_13 ?_
  refine Z_iadd (c := z1 + 1) dX12_refuses_14 rfl ?_
  refine Y_iast (v := z1 + 1) 7 dX12_refuses_15 hk99 rfl (by decide) (v_103506e43e q1) (v_25a4286c37 q0) (fun f2 ef2 => ?_)
  refine J_iload_n dX12_refuses_16 rfl rfl ?_
  refine J_touch (k := 99) (e := .inl (0, 7, .inl (zA f2))) rfl ?_
  refine J_touch (k := 98) (e := .inr (12, (.int (zI x) :: .int (zI mv) :: .ref 99 :: .ref 100 :: .ref 101 :: .ref 102 :: .ref 103 :: .ref 104 :: .ref 105 :: .int (zI mt) :: .int (zI mfa) :: .ref 106 :: .ref 107 :: .ref 108 :: .int (zI mtn) :: .int (zI mtk) :: .int (zI mlv) :: .int (zI mbd) :: .int (zI mgo) :: .int (zI mge) :: .int (zI mbk) :: .ref 109 :: .int (zI mtt) :: .int (zI mtl) :: .ref 110 :: .ref 111 :: .ref 112 :: .ref 113 :: .ref 114 :: .ref 115 :: .ref 116 :: .ref 117 :: .int (zI hm) :: .int (zI pm) :: .int (zI hb) :: .int (zI sb) :: .ref 118 :: .ref 119 :: .ref 120 :: .ref 121 :: .ref 122 :: .ref 123 :: .ref 124 :: .ref 125 :: .ref 126 :: .ref 127 :: .ref 128 :: .ref 129 :: .int (zI mfu) :: .ref 130 :: .ref 131 :: .ref 132 :: .ref 133 :: .ref 134 :: .int (zI mdm) :: .int (zI mla) :: []))) rfl ?_
  refine J_mask (L2 := [(98, .inr (12, (.int (zI x) :: .int (zI mv) :: .ref 99 :: .ref 100 :: .ref 101 :: .ref 102 :: .ref 103 :: .ref 104 :: .ref 105 :: .int (zI mt) :: .int (zI mfa) :: .ref 106 :: .ref 107 :: .ref 108 :: .int (zI mtn) :: .int (zI mtk) :: .int (zI mlv) :: .int (zI mbd) :: .int (zI mgo) :: .int (zI mge) :: .int (zI mbk) :: .ref 109 :: .int (zI mtt) :: .int (zI mtl) :: .ref 110 :: .ref 111 :: .ref 112 :: .ref 113 :: .ref 114 :: .ref 115 :: .ref 116 :: .ref 117 :: .int (zI hm) :: .int (zI pm) :: .int (zI hb) :: .int (zI sb) :: .ref 118 :: .ref 119 :: .ref 120 :: .ref 121 :: .ref 122 :: .ref 123 :: .ref 124 :: .ref 125 :: .ref 126 :: .ref 127 :: .ref 128 :: .ref 129 :: .int (zI mfu) :: .ref 130 :: .ref 131 :: .ref 132 :: .ref 133 :: .ref 134 :: .int (zI mdm) :: .int (zI mla) :: []))), (99, .inl (0, 7, .inl (zA f2)))]) (ks := [98, 99, 99, 98]) [true, true, false, false] rfl (by decide +kernel) rfl ?_
  exact J_iret dX12_refuses_17 rfl rfl (Nat.le_of_ble_eq_true rfl) (Nat.le_of_ble_eq_true rfl) ⟨f2, rfl, rfl⟩
set_option maxHeartbeats 4000000 in
set_option maxRecDepth 100000 in
theorem k_good {l : Launch} {G : jG} {nh : Nat} {fh : Nat → Option va_E} (x : Int) (ms : Int) (mv : Int) (mt : Int) (mfa : Int) (mtn : Int) (mtk : Int) (mlv : Int) (mbd : Int) (mgo : Int) (mge : Int) (mbk : Int) (mtt : Int) (mtl : Int) (hm : Int) (pm : Int) (hb : Int) (sb : Int) (mfu : Int) (mdm : Int) (mla : Int) (hk98 : fh 98 = some (.inr (12, (.int (zI ms) :: .int (zI mv) :: .ref 99 :: .ref 100 :: .ref 101 :: .ref 102 :: .ref 103 :: .ref 104 :: .ref 105 :: .int (zI mt) :: .int (zI mfa) :: .ref 106 :: .ref 107 :: .ref 108 :: .int (zI mtn) :: .int (zI mtk) :: .int (zI mlv) :: .int (zI mbd) :: .int (zI mgo) :: .int (zI mge) :: .int (zI mbk) :: .ref 109 :: .int (zI mtt) :: .int (zI mtl) :: .ref 110 :: .ref 111 :: .ref 112 :: .ref 113 :: .ref 114 :: .ref 115 :: .ref 116 :: .ref 117 :: .int (zI hm) :: .int (zI pm) :: .int (zI hb) :: .int (zI sb) :: .ref 118 :: .ref 119 :: .ref 120 :: .ref 121 :: .ref 122 :: .ref 123 :: .ref 124 :: .ref 125 :: .ref 126 :: .ref 127 :: .ref 128 :: .ref 129 :: .int (zI mfu) :: .ref 130 :: .ref 131 :: .ref 132 :: .ref 133 :: .ref 134 :: .int (zI mdm) :: .int (zI mla) :: [])))) : JM l G yX12_good MX12_good { frames := 0, cells := 0, slots := 0, locals := 0 } [.ref 98, .int (zI x)] (nh, fh) (fun rr h9 => rr = some (.int (zI x)) ∧ h9 = (nh, hc fh [(98, .inr (12, (.int (zI 0) :: .int (zI (mv + 1)) :: .ref 99 :: .ref 100 :: .ref 101 :: .ref 102 :: .ref 103 :: .ref 104 :: .ref 105 :: .int (zI mt) :: .int (zI mfa) :: .ref 106 :: .ref 107 :: .ref 108 :: .int (zI mtn) :: .int (zI mtk) :: .int (zI mlv) :: .int (zI mbd) :: .int (zI mgo) :: .int (zI mge) :: .int (zI mbk) :: .ref 109 :: .int (zI mtt) :: .int (zI mtl) :: .ref 110 :: .ref 111 :: .ref 112 :: .ref 113 :: .ref 114 :: .ref 115 :: .ref 116 :: .ref 117 :: .int (zI hm) :: .int (zI pm) :: .int (zI hb) :: .int (zI sb) :: .ref 118 :: .ref 119 :: .ref 120 :: .ref 121 :: .ref 122 :: .ref 123 :: .ref 124 :: .ref 125 :: .ref 126 :: .ref 127 :: .ref 128 :: .ref 129 :: .int (zI mfu) :: .ref 130 :: .ref 131 :: .ref 132 :: .ref 133 :: .ref 134 :: .int (zI mdm) :: .int (zI mla) :: [])))])) := by
  refine JM.of (by decide) rfl (fun h => by cases h) (Nat.le_of_ble_eq_true rfl) ⟨0, rfl⟩ ?_
  refine J_hc0 (J_ls (ls2 := [some (.ref 98), some (.int (zI x))]) rfl ?_)
  refine J_aload_n dX12_good_0 rfl rfl ?_
  refine Z_iconst (n := 0) dX12_good_1 ?_
  refine K_put (fs2 := (.int (zI 0) :: .int (zI mv) :: .ref 99 :: .ref 100 :: .ref 101 :: .ref 102 :: .ref 103 :: .ref 104 :: .ref 105 :: .int (zI mt) :: .int (zI mfa) :: .ref 106 :: .ref 107 :: .ref 108 :: .int (zI mtn) :: .int (zI mtk) :: .int (zI mlv) :: .int (zI mbd) :: .int (zI mgo) :: .int (zI mge) :: .int (zI mbk) :: .ref 109 :: .int (zI mtt) :: .int (zI mtl) :: .ref 110 :: .ref 111 :: .ref 112 :: .ref 113 :: .ref 114 :: .ref 115 :: .ref 116 :: .ref 117 :: .int (zI hm) :: .int (zI pm) :: .int (zI hb) :: .int (zI sb) :: .ref 118 :: .ref 119 :: .ref 120 :: .ref 121 :: .ref 122 :: .ref 123 :: .ref 124 :: .ref 125 :: .ref 126 :: .ref 127 :: .ref 128 :: .ref 129 :: .int (zI mfu) :: .ref 130 :: .ref 131 :: .ref 132 :: .ref 133 :: .ref 134 :: .int (zI mdm) :: .int (zI mla) :: [])) dX12_good_2 fw_X12_3 hk98 (Nat.le_of_ble_eq_true rfl) (fun _ => ⟨rfl, rfl⟩) rfl ?_
  refine J_aload_n dX12_good_5 rfl rfl ?_
  refine J_dup dX12_good_6 rfl ?_
  refine J_get (v := .int (zI mv)) dX12_good_7 fl_X12_11 rfl rfl ?_
  refine Z_iconst (n := 1) dX12_good_10 ?_
  refine Z_iadd (c := mv + 1) dX12_good_11 rfl ?_
  refine K_put (fs2 := (.int (zI 0) :: .int (zI (mv + 1)) :: .ref 99 :: .ref 100 :: .ref 101 :: .ref 102 :: .ref 103 :: .ref 104 :: .ref 105 :: .int (zI mt) :: .int (zI mfa) :: .ref 106 :: .ref 107 :: .ref 108 :: .int (zI mtn) :: .int (zI mtk) :: .int (zI mlv) :: .int (zI mbd) :: .int (zI mgo) :: .int (zI mge) :: .int (zI mbk) :: .ref 109 :: .int (zI mtt) :: .int (zI mtl) :: .ref 110 :: .ref 111 :: .ref 112 :: .ref 113 :: .ref 114 :: .ref 115 :: .ref 116 :: .ref 117 :: .int (zI hm) :: .int (zI pm) :: .int (zI hb) :: .int (zI sb) :: .ref 118 :: .ref 119 :: .ref 120 :: .ref 121 :: .ref 122 :: .ref 123 :: .ref 124 :: .ref 125 :: .ref 126 :: .ref 127 :: .ref 128 :: .ref 129 :: .int (zI mfu) :: .ref 130 :: .ref 131 :: .ref 132 :: .ref 133 :: .ref 134 :: .int (zI mdm) :: .int (zI mla) :: [])) dX12_good_12 fw_X12_11 rfl (Nat.le_of_ble_eq_true rfl) (fun _ => ⟨rfl, rfl⟩) rfl ?_
  refine J_iload_n dX12_good_15 rfl rfl ?_
  refine J_mask (L2 := [(98, .inr (12, (.int (zI 0) :: .int (zI (mv + 1)) :: .ref 99 :: .ref 100 :: .ref 101 :: .ref 102 :: .ref 103 :: .ref 104 :: .ref 105 :: .int (zI mt) :: .int (zI mfa) :: .ref 106 :: .ref 107 :: .ref 108 :: .int (zI mtn) :: .int (zI mtk) :: .int (zI mlv) :: .int (zI mbd) :: .int (zI mgo) :: .int (zI mge) :: .int (zI mbk) :: .ref 109 :: .int (zI mtt) :: .int (zI mtl) :: .ref 110 :: .ref 111 :: .ref 112 :: .ref 113 :: .ref 114 :: .ref 115 :: .ref 116 :: .ref 117 :: .int (zI hm) :: .int (zI pm) :: .int (zI hb) :: .int (zI sb) :: .ref 118 :: .ref 119 :: .ref 120 :: .ref 121 :: .ref 122 :: .ref 123 :: .ref 124 :: .ref 125 :: .ref 126 :: .ref 127 :: .ref 128 :: .ref 129 :: .int (zI mfu) :: .ref 130 :: .ref 131 :: .ref 132 :: .ref 133 :: .ref 134 :: .int (zI mdm) :: .int (zI mla) :: [])))]) (ks := [98, 98]) [true, false] rfl (by decide +kernel) rfl ?_
  exact J_iret dX12_good_16 rfl rfl (Nat.le_of_ble_eq_true rfl) (Nat.le_of_ble_eq_true rfl) ⟨rfl, rfl⟩
set_option maxHeartbeats 4000000 in
set_option maxRecDepth 100000 in
theorem k_lies {l : Launch} {G : jG} {nh : Nat} {fh : Nat → Option va_E} (x : Int) (a : Int) (b : Int) (q0 : zr x) (q1 : zr a) (q2 : zr b) : JM l G yX12_lies MX12_lies { frames := 0, cells := 0, slots := 0, locals := 0 } [.int (zI x), .int (zI a), .int (zI b)] (nh, fh) (fun rr h9 => (rr = some (.int (zI 1)) ∧ h9 = (nh, fh) ∧ (a ≤ x) ∧ (x ≤ b)) ∨ (rr = some (.int (zI 0)) ∧ h9 = (nh, fh) ∧ (x < a)) ∨ (rr = some (.int (zI 0)) ∧ h9 = (nh, fh) ∧ (b < x))) := by
  refine JM.of (by decide) rfl (fun h => by cases h) (Nat.le_of_ble_eq_true rfl) ⟨0, rfl⟩ ?_
  refine J_hc0 (J_ls (ls2 := [some (.int (zI x)), some (.int (zI a)), some (.int (zI b))]) rfl ?_)
  refine J_iload_n dX12_lies_0 rfl rfl ?_
  refine J_iload_n dX12_lies_1 rfl rfl ?_
  refine Z_icmp_lt (tgt := 14) dX12_lies_2 (by decide) (v_b25fa51a85 q0) (v_b25fa51a85 q1) (fun h1 => ?_) (fun h1 => ?_)
  · refine Z_iconst (n := 0) dX12_lies_14 ?_
    exact J_iret dX12_lies_15 rfl (jbn v_939070ca3f v_316afd7d0b) (Nat.le_of_ble_eq_true rfl) (Nat.le_of_ble_eq_true rfl) (Or.inr (Or.inl ⟨rfl, rfl, h1⟩))
  · refine J_iload_n dX12_lies_5 rfl rfl ?_
    refine J_iload_n dX12_lies_6 rfl rfl ?_
    refine Z_icmp_gt (tgt := 14) dX12_lies_7 (by decide) (v_b25fa51a85 q0) (v_b25fa51a85 q2) (fun h2 => ?_) (fun h2 => ?_)
    · refine Z_iconst (n := 0) dX12_lies_14 ?_
      exact J_iret dX12_lies_15 rfl (jbn v_939070ca3f v_316afd7d0b) (Nat.le_of_ble_eq_true rfl) (Nat.le_of_ble_eq_true rfl) (Or.inr (Or.inr ⟨rfl, rfl, h2⟩))
    · refine Z_iconst (n := 1) dX12_lies_10 ?_
      refine J_goto (tgt := 15) dX12_lies_11 (by decide) ?_
      exact J_iret dX12_lies_15 rfl (jbn v_316afd7d0b v_bbcfac9b7d) (Nat.le_of_ble_eq_true rfl) (Nat.le_of_ble_eq_true rfl) (Or.inl ⟨rfl, rfl, (v_a8d8b48da6 h1), (v_a8d8b48da6 h2)⟩)
set_option maxHeartbeats 4000000 in
set_option maxRecDepth 100000 in
theorem k_places {l : Launch} {G : jG} {nh : Nat} {fh : Nat → Option va_E} (ms : Int) (mv : Int) (mt : Int) (mfa : Int) (mtn : Int) (mtk : Int) (mlv : Int) (mbd : Int) (mgo : Int) (mge : Int) (mbk : Int) (mtt : Int) (mtl : Int) (hm : Int) (pm : Int) (hb : Int) (sb : Int) (mfu : Int) (mdm : Int) (mla : Int) (K : Int → Int) (hk98 : fh 98 = some (.inr (12, (.int (zI ms) :: .int (zI mv) :: .ref 99 :: .ref 100 :: .ref 101 :: .ref 102 :: .ref 103 :: .ref 104 :: .ref 105 :: .int (zI mt) :: .int (zI mfa) :: .ref 106 :: .ref 107 :: .ref 108 :: .int (zI mtn) :: .int (zI mtk) :: .int (zI mlv) :: .int (zI mbd) :: .int (zI mgo) :: .int (zI mge) :: .int (zI mbk) :: .ref 109 :: .int (zI mtt) :: .int (zI mtl) :: .ref 110 :: .ref 111 :: .ref 112 :: .ref 113 :: .ref 114 :: .ref 115 :: .ref 116 :: .ref 117 :: .int (zI hm) :: .int (zI pm) :: .int (zI hb) :: .int (zI sb) :: .ref 118 :: .ref 119 :: .ref 120 :: .ref 121 :: .ref 122 :: .ref 123 :: .ref 124 :: .ref 125 :: .ref 126 :: .ref 127 :: .ref 128 :: .ref 129 :: .int (zI mfu) :: .ref 130 :: .ref 131 :: .ref 132 :: .ref 133 :: .ref 134 :: .int (zI mdm) :: .int (zI mla) :: [])))) (hk100 : fh 100 = some (.inl (0, 4870, .inl (zA K)))) : JM l G yX12_places MX12_places { frames := 0, cells := 0, slots := 0, locals := 0 } [.ref 98] (nh, fh) (fun rr h9 => ∃ r : Int, rr = some (.int (zI r)) ∧ h9 = (nh, fh) ∧ (r = bsum K)) := by
  refine JM.of (by decide) rfl (fun h => by cases h) (Nat.le_of_ble_eq_true rfl) ⟨2, rfl⟩ ?_
  refine J_hc0 (J_ls (ls2 := [some (.ref 98), none, none]) rfl ?_)
  refine Z_iconst (n := 0) dX12_places_0 ?_
  refine J_istore_n dX12_places_1 rfl (Nat.le_of_ble_eq_true rfl) rfl ?_
  refine J_ls (ls2 := [some (.ref 98), some (.int (zI 0)), none]) rfl ?_
  refine Z_iconst (n := 0) dX12_places_2 ?_
  refine J_istore_n dX12_places_3 rfl (Nat.le_of_ble_eq_true rfl) rfl ?_
  refine J_ls (ls2 := [some (.ref 98), some (.int (zI 0)), some (.int (zI 0))]) rfl ?_
  have lp4 : ∀ (N4 : Nat) (n_4 : Int) (c_4 : Int), (0 ≤ c_4) → (c_4 ≤ 5) → (psum K c_4 = n_4) → (5 - c_4).toNat < N4 → J l G MX12_places { frames := 0, cells := 0, slots := 0, locals := 0 } jE (jMQ G { frames := 0, cells := 0, slots := 0, locals := 0 } (fun rr h9 => ∃ r : Int, rr = some (.int (zI r)) ∧ h9 = (nh, fh) ∧ (r = bsum K))) (nh, hc fh []) 0 0 4 [some (.ref 98), some (.int (zI n_4)), some (.int (zI c_4))] [] := by
    intro N4
    induction N4 with
    | zero => intro n_4 c_4 i4_0 i4_1 i4_2 hm; exact absurd hm (Nat.not_lt_zero _)
    | succ N4 ih4 =>
      intro n_4 c_4 i4_0 i4_1 i4_2 hm4
      refine J_iload_n dX12_places_4 rfl rfl ?_
      refine Z_iconst (n := 5) dX12_places_5 ?_
      refine Z_icmp_ge (tgt := 26) dX12_places_6 (by decide) (v_a6208d3904 i4_0 i4_1) v_3961fe0d0d (fun h1 => ?_) (fun h1 => ?_)
      · refine J_iload_n dX12_places_26 rfl rfl ?_
        exact J_iret dX12_places_27 rfl rfl (Nat.le_of_ble_eq_true rfl) (Nat.le_of_ble_eq_true rfl) ⟨n_4, rfl, rfl, (by have e : c_4 = 5 := (v_53b10c1713 i4_1 h1); rw [e] at i4_2; rw [← i4_2]; exact psum_5 K)⟩
      · refine J_iload_n dX12_places_9 rfl rfl ?_
        refine J_aload_n dX12_places_10 rfl rfl ?_
        refine J_get (v := .ref 100) dX12_places_11 fl_X12_20 hk98 rfl ?_
        refine Z_iconst (n := 0) dX12_places_14 ?_
        refine J_iload_n dX12_places_15 rfl rfl ?_
        refine Z_iadd (c := c_4) dX12_places_16 v_a8cc381b6d ?_
        obtain ⟨z2, ez2⟩ : ∃ z : Int, K c_4 = z := ⟨_, rfl⟩
        refine Y_iald (z := z2) 4870 dX12_places_17 hk100 rfl (by decide) (v_2b02420001 i4_0) (v_8d7e1234de h1) ez2 ?_
        refine Z_iadd (c := n_4 + z2) dX12_places_18 rfl ?_
        refine J_istore_n dX12_places_19 rfl (Nat.le_of_ble_eq_true rfl) rfl ?_
        refine J_ls (ls2 := [some (.ref 98), some (.int (zI (n_4 + z2))), some (.int (zI c_4))]) rfl ?_
        refine Z_iinc (c := c_4 + 1) (ls2 := [some (.ref 98), some (.int (zI (n_4 + z2))), some (.int (zI (c_4 + 1)))]) dX12_places_20 rfl (Nat.le_of_ble_eq_true rfl) rfl rfl rfl ?_
        refine J_goto (tgt := 4) dX12_places_23 (by decide) ?_
        exact ih4 (n_4 + z2) (c_4 + 1) (v_da458fa48a i4_0) (v_3868a63a10 h1) (by rw [psum_step i4_0 (v_122ef500b3 h1), i4_2, ez2]) (meas_lt v_20f1226439 (v_b58bb7b78b h1) hm4)
  exact lp4 _ 0 0 v_939070ca3f v_17fcbbe8da (psum_0 K) (Nat.lt_succ_self _)
set_option maxHeartbeats 4000000 in
set_option maxRecDepth 100000 in
theorem k_changes {l : Launch} {G : jG} {nh : Nat} {fh : Nat → Option va_E} (a : Int) (b : Int) (of : Int → Int) (ms : Int) (mv : Int) (mt : Int) (mfa : Int) (mtn : Int) (mtk : Int) (mlv : Int) (mbd : Int) (mgo : Int) (mge : Int) (mbk : Int) (mtt : Int) (mtl : Int) (hm : Int) (pm : Int) (hb : Int) (sb : Int) (mfu : Int) (mdm : Int) (mla : Int) (q0 : 0 ≤ a) (q1 : a < 7) (q2 : 0 ≤ b) (q3 : b < 7) (hk98 : fh 98 = some (.inr (12, (.int (zI ms) :: .int (zI mv) :: .ref 99 :: .ref 100 :: .ref 101 :: .ref 102 :: .ref 103 :: .ref 104 :: .ref 105 :: .int (zI mt) :: .int (zI mfa) :: .ref 106 :: .ref 107 :: .ref 108 :: .int (zI mtn) :: .int (zI mtk) :: .int (zI mlv) :: .int (zI mbd) :: .int (zI mgo) :: .int (zI mge) :: .int (zI mbk) :: .ref 109 :: .int (zI mtt) :: .int (zI mtl) :: .ref 110 :: .ref 111 :: .ref 112 :: .ref 113 :: .ref 114 :: .ref 115 :: .ref 116 :: .ref 117 :: .int (zI hm) :: .int (zI pm) :: .int (zI hb) :: .int (zI sb) :: .ref 118 :: .ref 119 :: .ref 120 :: .ref 121 :: .ref 122 :: .ref 123 :: .ref 124 :: .ref 125 :: .ref 126 :: .ref 127 :: .ref 128 :: .ref 129 :: .int (zI mfu) :: .ref 130 :: .ref 131 :: .ref 132 :: .ref 133 :: .ref 134 :: .int (zI mdm) :: .int (zI mla) :: [])))) (hk117 : fh 117 = some (.inl (0, 7, .inl (zA of)))) : JM l G yX12_changes MX12_changes { frames := 0, cells := 0, slots := 0, locals := 0 } [.ref 98, .int (zI a), .int (zI b)] (nh, fh) (fun rr h9 => ∃ og : Int → Int, rr = none ∧ h9 = (nh, hc fh [(117, .inl (0, 7, .inl (zA og)))]) ∧ (og = swp of a b)) := by
  refine JM.of (by decide) rfl (fun h => by cases h) (Nat.le_of_ble_eq_true rfl) ⟨1, rfl⟩ ?_
  refine J_hc0 (J_ls (ls2 := [some (.ref 98), some (.int (zI a)), some (.int (zI b)), none]) rfl ?_)
  refine J_aload_n dX12_changes_0 rfl rfl ?_
  refine J_get (v := .ref 117) dX12_changes_1 fl_X12_76 hk98 rfl ?_
  refine J_iload_n dX12_changes_4 rfl rfl ?_
  obtain ⟨z1, ez1⟩ : ∃ z : Int, of a = z := ⟨_, rfl⟩
  refine Y_iald (z := z1) 7 dX12_changes_5 hk117 rfl (by decide) (v_2b02420001 q0) (v_d4360c9026 q1) ez1 ?_
  refine J_istore_n dX12_changes_6 rfl (Nat.le_of_ble_eq_true rfl) rfl ?_
  refine J_ls (ls2 := [some (.ref 98), some (.int (zI a)), some (.int (zI b)), some (.int (zI z1))]) rfl ?_
  refine J_aload_n dX12_changes_7 rfl rfl ?_
  refine J_get (v := .ref 117) dX12_changes_8 fl_X12_76 hk98 rfl ?_
  refine J_iload_n dX12_changes_11 rfl rfl ?_
  refine J_aload_n dX12_changes_12 rfl rfl ?_
  refine J_get (v := .ref 117) dX12_changes_13 fl_X12_76 hk98 rfl ?_
  refine J_iload_n dX12_changes_16 rfl rfl ?_
  obtain ⟨z2, ez2⟩ : ∃ z : Int, of b = z := ⟨_, rfl⟩
  refine Y_iald (z := z2) 7 dX12_changes_17 hk117 rfl (by decide) (v_2b02420001 q2) (v_d4360c9026 q3) ez2 ?_
  refine Y_iast (v := z2) 7 dX12_changes_18 hk117 rfl (by decide) (v_2b02420001 q0) (v_d4360c9026 q1) (fun f3 ef3 => ?_)
  refine J_aload_n dX12_changes_19 rfl rfl ?_
  refine J_get (v := .ref 117) dX12_changes_20 fl_X12_76 hk98 rfl ?_
  refine J_iload_n dX12_changes_23 rfl rfl ?_
  refine J_iload_n dX12_changes_24 rfl rfl ?_
  refine Y_iast (v := z1) 7 dX12_changes_25 rfl rfl (by decide) (v_2b02420001 q2) (v_d4360c9026 q3) (fun f4 ef4 => ?_)
  refine J_mask (L2 := [(117, .inl (0, 7, .inl (zA f4)))]) (ks := [117, 117]) [true, false] rfl (by decide +kernel) rfl ?_
  exact J_vret dX12_changes_26 rfl (Nat.le_of_ble_eq_true rfl) (Nat.le_of_ble_eq_true rfl) ⟨f4, rfl, rfl, (up_swp ef3 ef4 ez1 ez2)⟩
set_option maxHeartbeats 4000000 in
set_option maxRecDepth 100000 in
theorem k_nextOrder {l : Launch} {G : jG} {nh : Nat} {fh : Nat → Option va_E} (of : Int → Int) (ms : Int) (mv : Int) (mt : Int) (mfa : Int) (mtn : Int) (mtk : Int) (mlv : Int) (mbd : Int) (mgo : Int) (mge : Int) (mbk : Int) (mtt : Int) (mtl : Int) (hm : Int) (pm : Int) (hb : Int) (sb : Int) (mfu : Int) (mdm : Int) (mla : Int) (q0 : 0 ≤ pm) (q1 : pm ≤ 7) (q2 : Rg of 7 0 4) (hk98 : fh 98 = some (.inr (12, (.int (zI ms) :: .int (zI mv) :: .ref 99 :: .ref 100 :: .ref 101 :: .ref 102 :: .ref 103 :: .ref 104 :: .ref 105 :: .int (zI mt) :: .int (zI mfa) :: .ref 106 :: .ref 107 :: .ref 108 :: .int (zI mtn) :: .int (zI mtk) :: .int (zI mlv) :: .int (zI mbd) :: .int (zI mgo) :: .int (zI mge) :: .int (zI mbk) :: .ref 109 :: .int (zI mtt) :: .int (zI mtl) :: .ref 110 :: .ref 111 :: .ref 112 :: .ref 113 :: .ref 114 :: .ref 115 :: .ref 116 :: .ref 117 :: .int (zI hm) :: .int (zI pm) :: .int (zI hb) :: .int (zI sb) :: .ref 118 :: .ref 119 :: .ref 120 :: .ref 121 :: .ref 122 :: .ref 123 :: .ref 124 :: .ref 125 :: .ref 126 :: .ref 127 :: .ref 128 :: .ref 129 :: .int (zI mfu) :: .ref 130 :: .ref 131 :: .ref 132 :: .ref 133 :: .ref 134 :: .int (zI mdm) :: .int (zI mla) :: [])))) (hk117 : fh 117 = some (.inl (0, 7, .inl (zA of)))) : JM l G yX12_nextOrder MX12_nextOrder { frames := 1, cells := 0, slots := 0, locals := 23 } [.ref 98] (nh, fh) (fun rr h9 => ∃ og : Int → Int, ∃ r : Int, rr = some (.int (zI r)) ∧ h9 = (nh, hc fh [(117, .inl (0, 7, .inl (zA og)))]) ∧ (og = NOf pm of) ∧ (r = NOr pm of) ∧ (0 ≤ r) ∧ (r ≤ 1)) := by
  refine JM.of (by decide) rfl (fun h => by cases h) (Nat.le_of_ble_eq_true rfl) ⟨4, rfl⟩ ?_
  refine J_hc0 (J_ls (ls2 := [some (.ref 98), none, none, none, none]) rfl ?_)
  refine J_aload_n dX12_nextOrder_0 rfl rfl ?_
  refine J_get (v := .int (zI pm)) dX12_nextOrder_1 fl_X12_293 hk98 rfl ?_
  refine Z_iconst (n := 2) dX12_nextOrder_4 ?_
  refine Z_isub (c := pm - 2) dX12_nextOrder_5 rfl ?_
  refine J_istore_n dX12_nextOrder_6 rfl (Nat.le_of_ble_eq_true rfl) rfl ?_
  refine J_ls (ls2 := [some (.ref 98), some (.int (zI (pm - 2))), none, none, none]) rfl ?_
  have lp7 : ∀ (N7 : Nat) (low_7 : Int), (-2 ≤ low_7) → (low_7 ≤ pm - 2) → (lowG of (low_7 + 1).toNat = lowN pm of) → (low_7 + 2).toNat < N7 → J l G MX12_nextOrder { frames := 1, cells := 0, slots := 0, locals := 23 } jE (jMQ G { frames := 1, cells := 0, slots := 0, locals := 23 } (fun rr h9 => ∃ og : Int → Int, ∃ r : Int, rr = some (.int (zI r)) ∧ h9 = (nh, hc fh [(117, .inl (0, 7, .inl (zA og)))]) ∧ (og = NOf pm of) ∧ (r = NOr pm of) ∧ (0 ≤ r) ∧ (r ≤ 1))) (nh, hc fh []) 0 0 7 [some (.ref 98), some (.int (zI low_7)), none, none, none] [] := by
    intro N7
    induction N7 with
    | zero => intro low_7 i7_0 i7_1 i7_2 hm; exact absurd hm (Nat.not_lt_zero _)
    | succ N7 ih7 =>
      intro low_7 i7_0 i7_1 i7_2 hm7
      refine J_iload_n dX12_nextOrder_7 rfl rfl ?_
      refine Z_if_lt (tgt := 34) dX12_nextOrder_8 (by decide) (v_adb6e8f089 q1 i7_0 i7_1) (fun h1 => ?_) (fun h1 => ?_)
      · refine J_iload_n dX12_nextOrder_34 rfl rfl ?_
        refine Z_if_ge (tgt := 40) dX12_nextOrder_35 (by decide) (v_4d146759ca i7_0 h1) (fun h2 => absurd h2 (v_dccefa8cdf h1)) (fun h2 => ?_)
        refine Z_iconst (n := 0) dX12_nextOrder_38 ?_
        refine J_touch (k := 117) (e := .inl (0, 7, .inl (zA of))) hk117 ?_
        exact J_iret dX12_nextOrder_39 rfl (jbn v_939070ca3f v_316afd7d0b) (Nat.le_of_ble_eq_true rfl) (Nat.le_of_ble_eq_true rfl) ⟨of, 0, rfl, rfl, ((NO_none i7_2 (v_8b303f9981 h1)).1), ((NO_none i7_2 (v_8b303f9981 h1)).2), v_939070ca3f, v_316afd7d0b⟩
      · refine J_aload_n dX12_nextOrder_11 rfl rfl ?_
        refine J_get (v := .ref 117) dX12_nextOrder_12 fl_X12_76 hk98 rfl ?_
        refine J_iload_n dX12_nextOrder_15 rfl rfl ?_
        obtain ⟨z3, ez3⟩ : ∃ z : Int, of low_7 = z := ⟨_, rfl⟩
        have h4 := Rg.at q2 (v_b2d8922659 h1) (v_cf9035fa57 q1 i7_1) ez3
        refine Y_iald (z := z3) 7 dX12_nextOrder_16 hk117 rfl (by decide) (v_b2d8922659 h1) (v_cf9035fa57 q1 i7_1) ez3 ?_
        refine J_aload_n dX12_nextOrder_17 rfl rfl ?_
        refine J_get (v := .ref 117) dX12_nextOrder_18 fl_X12_76 hk98 rfl ?_
        refine J_iload_n dX12_nextOrder_21 rfl rfl ?_
        refine Z_iconst (n := 1) dX12_nextOrder_22 ?_
        refine Z_iadd (c := low_7 + 1) dX12_nextOrder_23 rfl ?_
        obtain ⟨z5, ez5⟩ : ∃ z : Int, of (low_7 + 1) = z := ⟨_, rfl⟩
        have h6 := Rg.at q2 (v_a3fe6729a2 h1) (v_4e755f133a q1 i7_1) ez5
        refine Y_iald (z := z5) 7 dX12_nextOrder_24 hk117 rfl (by decide) (v_a3fe6729a2 h1) (v_4e755f133a q1 i7_1) ez5 ?_
        refine Z_icmp_lt (tgt := 34) dX12_nextOrder_25 (by decide) (v_573cdf4e23 h4.1 h4.2) (v_573cdf4e23 h6.1 h6.2) (fun h7 => ?_) (fun h7 => ?_)
        · refine J_iload_n dX12_nextOrder_34 rfl rfl ?_
          refine Z_if_ge (tgt := 40) dX12_nextOrder_35 (by decide) (v_a95543211e q1 i7_1 h1) (fun h8 => ?_) (fun h8 => absurd h8 (fun q => q (v_b2d8922659 h1)))
          refine J_aload_n dX12_nextOrder_40 rfl rfl ?_
          refine J_get (v := .int (zI pm)) dX12_nextOrder_41 fl_X12_293 hk98 rfl ?_
          refine Z_iconst (n := 1) dX12_nextOrder_44 ?_
          refine Z_isub (c := pm - 1) dX12_nextOrder_45 rfl ?_
          refine J_istore_n dX12_nextOrder_46 rfl (Nat.le_of_ble_eq_true rfl) rfl ?_
          refine J_ls (ls2 := [some (.ref 98), some (.int (zI low_7)), some (.int (zI (pm - 1))), none, none]) rfl ?_
          have lp47 : ∀ (N47 : Nat) (high_47 : Int), (low_7 + 1 ≤ high_47) → (high_47 ≤ pm - 1) → (highG of (of low_7) (high_47 + 1).toNat = highN pm of) → (high_47 + 1).toNat < N47 → J l G MX12_nextOrder { frames := 1, cells := 0, slots := 0, locals := 23 } jE (jMQ G { frames := 1, cells := 0, slots := 0, locals := 23 } (fun rr h9 => ∃ og : Int → Int, ∃ r : Int, rr = some (.int (zI r)) ∧ h9 = (nh, hc fh [(117, .inl (0, 7, .inl (zA og)))]) ∧ (og = NOf pm of) ∧ (r = NOr pm of) ∧ (0 ≤ r) ∧ (r ≤ 1))) (nh, hc fh []) 0 0 47 [some (.ref 98), some (.int (zI low_7)), some (.int (zI high_47)), none, none] [] := by
            intro N47
            induction N47 with
            | zero => intro high_47 i47_0 i47_1 i47_2 hm; exact absurd hm (Nat.not_lt_zero _)
            | succ N47 ih47 =>
              intro high_47 i47_0 i47_1 i47_2 hm47
              refine J_aload_n dX12_nextOrder_47 rfl rfl ?_
              refine J_get (v := .ref 117) dX12_nextOrder_48 fl_X12_76 hk98 rfl ?_
              refine J_iload_n dX12_nextOrder_51 rfl rfl ?_
              obtain ⟨z9, ez9⟩ : ∃ z : Int, of high_47 = z := ⟨_, rfl⟩
              have h10 := Rg.at q2 (v_8aff604d51 h1 i47_0) (v_8248ce89ec q1 i47_1) ez9
              refine Y_iald (z := z9) 7 dX12_nextOrder_52 hk117 rfl (by decide) (v_8aff604d51 h1 i47_0) (v_8248ce89ec q1 i47_1) ez9 ?_
              refine J_aload_n dX12_nextOrder_53 rfl rfl ?_
              refine J_get (v := .ref 117) dX12_nextOrder_54 fl_X12_76 hk98 rfl ?_
              refine J_iload_n dX12_nextOrder_57 rfl rfl ?_
              refine Y_iald (z := z3) 7 dX12_nextOrder_58 hk117 rfl (by decide) (v_b2d8922659 h1) (v_cf9035fa57 q1 i7_1) ez3 ?_
              refine Z_icmp_gt (tgt := 68) dX12_nextOrder_59 (by decide) (v_573cdf4e23 h10.1 h10.2) (v_573cdf4e23 h4.1 h4.2) (fun h11 => ?_) (fun h11 => ?_)
              · refine J_aload_n dX12_nextOrder_68 rfl rfl ?_
                refine J_iload_n dX12_nextOrder_69 rfl rfl ?_
                refine J_iload_n dX12_nextOrder_70 rfl rfl ?_
                refine J_callV (st := []) dX12_nextOrder_71 cv_X12_304 (k_changes low_7 high_47 of ms mv mt mfa mtn mtk mlv mbd mgo mge mbk mtt mtl hm pm hb sb mfu mdm mla h8 (v_cf9035fa57 q1 i7_1) (v_8aff604d51 h1 i47_0) (v_8248ce89ec q1 i47_1) hk98 hk117) hk98 rfl rfl (Nat.le_of_ble_eq_true rfl) ⟨(Nat.le_of_ble_eq_true rfl), (Nat.le_of_ble_eq_true rfl)⟩ ⟨(Nat.le_of_ble_eq_true rfl), (Nat.le_of_ble_eq_true rfl)⟩ (fun r h9 hp => ?_)
                obtain ⟨f12, rfl, rfl, h13⟩ := hp
                refine J_nf (nh2 := nh) (ck2 := 0) (sk2 := 0) (st2 := []) rfl rfl rfl rfl ?_
                refine J_app (L3 := [(117, .inl (0, 7, .inl (zA f12)))]) rfl ?_
                refine J_iload_n dX12_nextOrder_74 rfl rfl ?_
                refine Z_iconst (n := 1) dX12_nextOrder_75 ?_
                refine Z_iadd (c := low_7 + 1) dX12_nextOrder_76 rfl ?_
                refine J_istore_n dX12_nextOrder_77 rfl (Nat.le_of_ble_eq_true rfl) rfl ?_
                refine J_ls (ls2 := [some (.ref 98), some (.int (zI low_7)), some (.int (zI high_47)), some (.int (zI (low_7 + 1))), none]) rfl ?_
                refine J_aload_n dX12_nextOrder_78 rfl rfl ?_
                refine J_get (v := .int (zI pm)) dX12_nextOrder_79 fl_X12_293 hk98 rfl ?_
                refine Z_iconst (n := 1) dX12_nextOrder_82 ?_
                refine Z_isub (c := pm - 1) dX12_nextOrder_83 rfl ?_
                refine J_istore dX12_nextOrder_84 (Nat.le_of_ble_eq_true rfl) rfl ?_
                refine J_ls (ls2 := [some (.ref 98), some (.int (zI low_7)), some (.int (zI high_47)), some (.int (zI (low_7 + 1))), some (.int (zI (pm - 1)))]) rfl ?_
                have lp86 : ∀ (N86 : Nat) (left_86 : Int) (right_86 : Int) (bh_86 : Int → Int), (low_7 < left_86) → (left_86 ≤ pm) → (right_86 < pm) → (-1 ≤ right_86) → (left_86 + right_86 = low_7 + pm) → (bh_86 = prv (swp of low_7 high_47) (low_7 + 1) (pm - 1) left_86) → (right_86 - left_86 + 8).toNat < N86 → J l G MX12_nextOrder { frames := 1, cells := 0, slots := 0, locals := 23 } jE (jMQ G { frames := 1, cells := 0, slots := 0, locals := 23 } (fun rr h9 => ∃ og : Int → Int, ∃ r : Int, rr = some (.int (zI r)) ∧ h9 = (nh, hc fh [(117, .inl (0, 7, .inl (zA og)))]) ∧ (og = NOf pm of) ∧ (r = NOr pm of) ∧ (0 ≤ r) ∧ (r ≤ 1))) (nh, hc fh [(117, .inl (0, 7, .inl (zA bh_86)))]) 0 0 86 [some (.ref 98), some (.int (zI low_7)), some (.int (zI high_47)), some (.int (zI left_86)), some (.int (zI right_86))] [] := by
                  intro N86
                  induction N86 with
                  | zero => intro left_86 right_86 bh_86 i86_0 i86_1 i86_2 i86_3 i86_4 i86_5 hm; exact absurd hm (Nat.not_lt_zero _)
                  | succ N86 ih86 =>
                    intro left_86 right_86 bh_86 i86_0 i86_1 i86_2 i86_3 i86_4 i86_5 hm86
                    refine J_iload_n dX12_nextOrder_86 rfl rfl ?_
                    refine J_iload dX12_nextOrder_87 rfl ?_
                    refine Z_icmp_ge (tgt := 108) dX12_nextOrder_89 (by decide) (v_02a398b7d0 q1 h1 i86_0 i86_1) (v_370fdddf83 q1 i86_2 i86_3) (fun h14 => ?_) (fun h14 => ?_)
                    · refine Z_iconst (n := 1) dX12_nextOrder_108 ?_
                      exact J_iret dX12_nextOrder_109 rfl (jbn v_316afd7d0b v_bbcfac9b7d) (Nat.le_of_ble_eq_true rfl) (Nat.le_of_ble_eq_true rfl) ⟨bh_86, 1, rfl, rfl, ((NO_some (lowG_end i7_2 (v_b2d8922659 h1) ez3 ez5 (v_b9aca61388 h7)) (highG_end i47_2 (v_8aff604d51 h1 i47_0) ez9 (by rw [ez3]; exact (v_b9aca61388 h11))) (v_b2d8922659 h1) rfl (prv_end i86_5 (v_496a0fc3d0 i86_4) (v_b598cf8bfa h14) (v_02af071399 i86_1) (v_309e9c99a4 i86_0))).1), ((NO_some (lowG_end i7_2 (v_b2d8922659 h1) ez3 ez5 (v_b9aca61388 h7)) (highG_end i47_2 (v_8aff604d51 h1 i47_0) ez9 (by rw [ez3]; exact (v_b9aca61388 h11))) (v_b2d8922659 h1) rfl (prv_end i86_5 (v_496a0fc3d0 i86_4) (v_b598cf8bfa h14) (v_02af071399 i86_1) (v_309e9c99a4 i86_0))).2), v_316afd7d0b, v_bbcfac9b7d⟩
                    · refine J_aload_n dX12_nextOrder_92 rfl rfl ?_
                      refine J_iload_n dX12_nextOrder_93 rfl rfl ?_
                      refine J_iload dX12_nextOrder_94 rfl ?_
                      refine J_callV (st := []) dX12_nextOrder_96 cv_X12_304 (k_changes left_86 right_86 bh_86 ms mv mt mfa mtn mtk mlv mbd mgo mge mbk mtt mtl hm pm hb sb mfu mdm mla (v_c66a5668b3 h1 i86_0) (v_358b0c6646 q1 i86_2 h14) (v_d46fff44f4 h1 i86_0 h14) (v_77953abf68 q1 i86_2) hk98 rfl) hk98 rfl rfl (Nat.le_of_ble_eq_true rfl) ⟨(Nat.le_of_ble_eq_true rfl), (Nat.le_of_ble_eq_true rfl)⟩ ⟨(Nat.le_of_ble_eq_true rfl), (Nat.le_of_ble_eq_true rfl)⟩ (fun r h9 hp => ?_)
                      obtain ⟨f15, rfl, rfl, h16⟩ := hp
                      refine J_nf (nh2 := nh) (ck2 := 0) (sk2 := 0) (st2 := []) rfl rfl rfl rfl ?_
                      refine J_app (L3 := [(117, .inl (0, 7, .inl (zA f15))), (117, .inl (0, 7, .inl (zA bh_86)))]) rfl ?_
                      refine J_mask (L2 := [(117, .inl (0, 7, .inl (zA f15)))]) (ks := [117, 117]) [true, false] rfl (by decide +kernel) rfl ?_
                      refine Z_iinc (c := left_86 + 1) (ls2 := [some (.ref 98), some (.int (zI low_7)), some (.int (zI high_47)), some (.int (zI (left_86 + 1))), some (.int (zI right_86))]) dX12_nextOrder_99 rfl (Nat.le_of_ble_eq_true rfl) rfl rfl rfl ?_
                      refine Z_iinc (c := right_86 - 1) (ls2 := [some (.ref 98), some (.int (zI low_7)), some (.int (zI high_47)), some (.int (zI (left_86 + 1))), some (.int (zI (right_86 - 1)))]) dX12_nextOrder_102 rfl (Nat.le_of_ble_eq_true rfl) rfl v_c11a8386d1 rfl ?_
                      refine J_goto (tgt := 86) dX12_nextOrder_105 (by decide) ?_
                      exact ih86 (left_86 + 1) (right_86 - 1) f15 (v_d6f53c5707 i86_0) (v_81fbb4c7b7 i7_1 i86_4 h14) (v_194e055bf2 i86_2) (v_5075923af6 h1 i86_0 h14) (v_bc3ebe0508 i86_4) (prv_step i86_5 h16 (v_496a0fc3d0 i86_4) (v_fe9ea41faa h14) v_7157e5c4fa (v_309e9c99a4 i86_0)) (meas_lt v_5dc0ecd203 (v_7cb04e7ac0 h14) hm86)
                exact lp86 _ (low_7 + 1) (pm - 1) f12 v_97c7d6ad5b (v_7bf0901ef1 i7_1) v_c458e5b2bb (v_b3b9f07fb8 q0) v_7b89fa2e27 (by rw [← h13]; exact prv_0) (Nat.lt_succ_self _)
              · refine Z_iinc (c := high_47 - 1) (ls2 := [some (.ref 98), some (.int (zI low_7)), some (.int (zI (high_47 - 1))), none, none]) dX12_nextOrder_62 rfl (Nat.le_of_ble_eq_true rfl) rfl v_c11a8386d1 rfl ?_
                refine J_goto (tgt := 47) dX12_nextOrder_65 (by decide) ?_
                exact ih47 (high_47 - 1) (hi_step i47_0 ez9 ez3 ez5 (v_b9aca61388 h7) (v_a8d8b48da6 h11)) (v_83aaf9715a i47_1) (highG_step i47_2 (v_8aff604d51 h1 i47_0) ez9 (by rw [ez3]; exact (v_a8d8b48da6 h11))) (meas_lt v_dfc8f0fdaf (v_1f78000b33 h1 i47_0) hm47)
          exact lp47 _ (pm - 1) (v_91d63a5ebb i7_1) v_efcce80e22 (by unfold highN; rw [lowG_end i7_2 (v_b2d8922659 h1) ez3 ez5 (v_b9aca61388 h7)]; congr 1; omega) (Nat.lt_succ_self _)
        · refine Z_iinc (c := low_7 - 1) (ls2 := [some (.ref 98), some (.int (zI (low_7 - 1))), none, none, none]) dX12_nextOrder_28 rfl (Nat.le_of_ble_eq_true rfl) rfl v_c11a8386d1 rfl ?_
          refine J_goto (tgt := 7) dX12_nextOrder_31 (by decide) ?_
          exact ih7 (low_7 - 1) (v_85b24afd50 h1) (v_2270b43bd9 i7_1) (lowG_step i7_2 (v_b2d8922659 h1) ez3 ez5 (v_a8d8b48da6 h7)) (meas_lt v_134b51b9df (v_b6e8f60f2e h1) hm7)
  exact lp7 _ (pm - 2) (v_4a6eca51e9 q0) v_07753b4338 (by unfold lowN; congr 1; omega) (Nat.lt_succ_self _)
set_option maxHeartbeats 4000000 in
set_option maxRecDepth 100000 in
theorem k_orderCode {l : Launch} {G : jG} {nh : Nat} {fh : Nat → Option va_E} (of : Int → Int) (ms : Int) (mv : Int) (mt : Int) (mfa : Int) (mtn : Int) (mtk : Int) (mlv : Int) (mbd : Int) (mgo : Int) (mge : Int) (mbk : Int) (mtt : Int) (mtl : Int) (hm : Int) (pm : Int) (hb : Int) (sb : Int) (mfu : Int) (mdm : Int) (mla : Int) (q0 : 0 ≤ pm) (q1 : pm ≤ 7) (hk98 : fh 98 = some (.inr (12, (.int (zI ms) :: .int (zI mv) :: .ref 99 :: .ref 100 :: .ref 101 :: .ref 102 :: .ref 103 :: .ref 104 :: .ref 105 :: .int (zI mt) :: .int (zI mfa) :: .ref 106 :: .ref 107 :: .ref 108 :: .int (zI mtn) :: .int (zI mtk) :: .int (zI mlv) :: .int (zI mbd) :: .int (zI mgo) :: .int (zI mge) :: .int (zI mbk) :: .ref 109 :: .int (zI mtt) :: .int (zI mtl) :: .ref 110 :: .ref 111 :: .ref 112 :: .ref 113 :: .ref 114 :: .ref 115 :: .ref 116 :: .ref 117 :: .int (zI hm) :: .int (zI pm) :: .int (zI hb) :: .int (zI sb) :: .ref 118 :: .ref 119 :: .ref 120 :: .ref 121 :: .ref 122 :: .ref 123 :: .ref 124 :: .ref 125 :: .ref 126 :: .ref 127 :: .ref 128 :: .ref 129 :: .int (zI mfu) :: .ref 130 :: .ref 131 :: .ref 132 :: .ref 133 :: .ref 134 :: .int (zI mdm) :: .int (zI mla) :: [])))) (hk117 : fh 117 = some (.inl (0, 7, .inl (zA of)))) : JM l G yX12_orderCode MX12_orderCode { frames := 0, cells := 0, slots := 0, locals := 0 } [.ref 98] (nh, fh) (fun rr h9 => ∃ r : Int, rr = some (.int (zI r)) ∧ h9 = (nh, fh) ∧ (cod5 of (pm).toNat = r)) := by
  refine JM.of (by decide) rfl (fun h => by cases h) (Nat.le_of_ble_eq_true rfl) ⟨2, rfl⟩ ?_
  refine J_hc0 (J_ls (ls2 := [some (.ref 98), none, none]) rfl ?_)
  refine Z_iconst (n := 0) dX12_orderCode_0 ?_
  refine J_istore_n dX12_orderCode_1 rfl (Nat.le_of_ble_eq_true rfl) rfl ?_
  refine J_ls (ls2 := [some (.ref 98), some (.int (zI 0)), none]) rfl ?_
  refine Z_iconst (n := 0) dX12_orderCode_2 ?_
  refine J_istore_n dX12_orderCode_3 rfl (Nat.le_of_ble_eq_true rfl) rfl ?_
  refine J_ls (ls2 := [some (.ref 98), some (.int (zI 0)), some (.int (zI 0))]) rfl ?_
  have lp4 : ∀ (N4 : Nat) (v_4 : Int) (i_4 : Int), (0 ≤ i_4) → (i_4 ≤ pm) → (cod5 of (i_4).toNat = v_4) → (pm - i_4).toNat < N4 → J l G MX12_orderCode { frames := 0, cells := 0, slots := 0, locals := 0 } jE (jMQ G { frames := 0, cells := 0, slots := 0, locals := 0 } (fun rr h9 => ∃ r : Int, rr = some (.int (zI r)) ∧ h9 = (nh, fh) ∧ (cod5 of (pm).toNat = r))) (nh, hc fh []) 0 0 4 [some (.ref 98), some (.int (zI v_4)), some (.int (zI i_4))] [] := by
    intro N4
    induction N4 with
    | zero => intro v_4 i_4 i4_0 i4_1 i4_2 hm; exact absurd hm (Nat.not_lt_zero _)
    | succ N4 ih4 =>
      intro v_4 i_4 i4_0 i4_1 i4_2 hm4
      refine J_iload_n dX12_orderCode_4 rfl rfl ?_
      refine J_aload_n dX12_orderCode_5 rfl rfl ?_
      refine J_get (v := .int (zI pm)) dX12_orderCode_6 fl_X12_293 hk98 rfl ?_
      refine Z_icmp_ge (tgt := 29) dX12_orderCode_9 (by decide) (v_ee3170dbf0 q1 i4_0 i4_1) (v_2ee1de483d q0 q1) (fun h1 => ?_) (fun h1 => ?_)
      · refine J_iload_n dX12_orderCode_29 rfl rfl ?_
        exact J_iret dX12_orderCode_30 rfl rfl (Nat.le_of_ble_eq_true rfl) (Nat.le_of_ble_eq_true rfl) ⟨v_4, rfl, rfl, (by have e : pm = i_4 := (v_5b9403af20 i4_1 h1); rw [e]; exact i4_2)⟩
      · refine Z_iconst (n := 5) dX12_orderCode_12 ?_
        refine J_iload_n dX12_orderCode_13 rfl rfl ?_
        refine Z_imul (c := 5 * v_4) dX12_orderCode_14 rfl ?_
        refine J_aload_n dX12_orderCode_15 rfl rfl ?_
        refine J_get (v := .ref 117) dX12_orderCode_16 fl_X12_76 hk98 rfl ?_
        refine J_iload_n dX12_orderCode_19 rfl rfl ?_
        obtain ⟨z2, ez2⟩ : ∃ z : Int, of i_4 = z := ⟨_, rfl⟩
        refine Y_iald (z := z2) 7 dX12_orderCode_20 hk117 rfl (by decide) (v_2b02420001 i4_0) (v_3549d48a69 q1 h1) ez2 ?_
        refine Z_iadd (c := 5 * v_4 + z2) dX12_orderCode_21 rfl ?_
        refine J_istore_n dX12_orderCode_22 rfl (Nat.le_of_ble_eq_true rfl) rfl ?_
        refine J_ls (ls2 := [some (.ref 98), some (.int (zI (5 * v_4 + z2))), some (.int (zI i_4))]) rfl ?_
        refine Z_iinc (c := i_4 + 1) (ls2 := [some (.ref 98), some (.int (zI (5 * v_4 + z2))), some (.int (zI (i_4 + 1)))]) dX12_orderCode_23 rfl (Nat.le_of_ble_eq_true rfl) rfl rfl rfl ?_
        refine J_goto (tgt := 4) dX12_orderCode_26 (by decide) ?_
        exact ih4 (5 * v_4 + z2) (i_4 + 1) (v_da458fa48a i4_0) (v_e390a36114 h1) (cod5_step i4_2 i4_0 ez2 v_6eb70b74d0) (meas_lt v_90eacd6fd4 (v_8b7dd7d486 h1) hm4)
  exact lp4 _ 0 0 v_939070ca3f q0 (rfl) (Nat.lt_succ_self _)
set_option maxHeartbeats 4000000 in
set_option maxRecDepth 100000 in
theorem k_colourOf {l : Launch} {G : jG} {nh : Nat} {fh : Nat → Option va_E} (h : Int) (p : Int) (co : Int → Int) (ms : Int) (mv : Int) (mt : Int) (mfa : Int) (mtn : Int) (mtk : Int) (mlv : Int) (mbd : Int) (mgo : Int) (mge : Int) (mbk : Int) (mtt : Int) (mtl : Int) (hm : Int) (pm : Int) (hb : Int) (sb : Int) (mfu : Int) (mdm : Int) (mla : Int) (q0 : 0 ≤ h) (q1 : h < 1260) (q2 : 0 ≤ p) (q3 : p < 7) (hk98 : fh 98 = some (.inr (12, (.int (zI ms) :: .int (zI mv) :: .ref 99 :: .ref 100 :: .ref 101 :: .ref 102 :: .ref 103 :: .ref 104 :: .ref 105 :: .int (zI mt) :: .int (zI mfa) :: .ref 106 :: .ref 107 :: .ref 108 :: .int (zI mtn) :: .int (zI mtk) :: .int (zI mlv) :: .int (zI mbd) :: .int (zI mgo) :: .int (zI mge) :: .int (zI mbk) :: .ref 109 :: .int (zI mtt) :: .int (zI mtl) :: .ref 110 :: .ref 111 :: .ref 112 :: .ref 113 :: .ref 114 :: .ref 115 :: .ref 116 :: .ref 117 :: .int (zI hm) :: .int (zI pm) :: .int (zI hb) :: .int (zI sb) :: .ref 118 :: .ref 119 :: .ref 120 :: .ref 121 :: .ref 122 :: .ref 123 :: .ref 124 :: .ref 125 :: .ref 126 :: .ref 127 :: .ref 128 :: .ref 129 :: .int (zI mfu) :: .ref 130 :: .ref 131 :: .ref 132 :: .ref 133 :: .ref 134 :: .int (zI mdm) :: .int (zI mla) :: [])))) (hk110 : fh 110 = some (.inl (0, 8820, .inl (zA co)))) : JM l G yX12_colourOf MX12_colourOf { frames := 0, cells := 0, slots := 0, locals := 0 } [.ref 98, .int (zI h), .int (zI p)] (nh, fh) (fun rr h9 => ∃ r : Int, rr = some (.int (zI r)) ∧ h9 = (nh, fh) ∧ (co (7 * h + p) = r)) := by
  refine JM.of (by decide) rfl (fun h => by cases h) (Nat.le_of_ble_eq_true rfl) ⟨0, rfl⟩ ?_
  refine J_hc0 (J_ls (ls2 := [some (.ref 98), some (.int (zI h)), some (.int (zI p))]) rfl ?_)
  refine J_aload_n dX12_colourOf_0 rfl rfl ?_
  refine J_get (v := .ref 110) dX12_colourOf_1 fl_X12_55 hk98 rfl ?_
  refine Z_bipush (n := 7) dX12_colourOf_4 (by decide +kernel) ?_
  refine J_iload_n dX12_colourOf_6 rfl rfl ?_
  refine Z_imul (c := 7 * h) dX12_colourOf_7 rfl ?_
  refine J_iload_n dX12_colourOf_8 rfl rfl ?_
  refine Z_iadd (c := 7 * h + p) dX12_colourOf_9 rfl ?_
  obtain ⟨z1, ez1⟩ : ∃ z : Int, co (7 * h + p) = z := ⟨_, rfl⟩
  refine Y_iald (z := z1) 8820 dX12_colourOf_10 hk110 rfl (by decide) (v_daf36ae0f8 q0 q2) (v_6b67ff21e5 q1 q3) ez1 ?_
  exact J_iret dX12_colourOf_11 rfl rfl (Nat.le_of_ble_eq_true rfl) (Nat.le_of_ble_eq_true rfl) ⟨z1, rfl, rfl, (ez1)⟩
set_option maxHeartbeats 4000000 in
set_option maxRecDepth 100000 in
theorem k_laysHouses {l : Launch} {G : jG} {nh : Nat} {fh : Nat → Option va_E} (ms : Int) (mv : Int) (mt : Int) (mfa : Int) (mtn : Int) (mtk : Int) (mlv : Int) (mbd : Int) (mgo : Int) (mge : Int) (mbk : Int) (mtt : Int) (mtl : Int) (hm : Int) (pm : Int) (hb : Int) (sb : Int) (mfu : Int) (mdm : Int) (mla : Int) (K : Int → Int) (co : Int → Int) (cd : Int → Int) (of : Int → Int) (q0 : okF K) (q1 : Rg of 7 0 4) (q2 : zr hb) (q3 : zr mv) (q4 : hb = mv → HouT co cd K hm ∧ hm = Hi K ∧ pm = bsum K) (hk98 : fh 98 = some (.inr (12, (.int (zI ms) :: .int (zI mv) :: .ref 99 :: .ref 100 :: .ref 101 :: .ref 102 :: .ref 103 :: .ref 104 :: .ref 105 :: .int (zI mt) :: .int (zI mfa) :: .ref 106 :: .ref 107 :: .ref 108 :: .int (zI mtn) :: .int (zI mtk) :: .int (zI mlv) :: .int (zI mbd) :: .int (zI mgo) :: .int (zI mge) :: .int (zI mbk) :: .ref 109 :: .int (zI mtt) :: .int (zI mtl) :: .ref 110 :: .ref 111 :: .ref 112 :: .ref 113 :: .ref 114 :: .ref 115 :: .ref 116 :: .ref 117 :: .int (zI hm) :: .int (zI pm) :: .int (zI hb) :: .int (zI sb) :: .ref 118 :: .ref 119 :: .ref 120 :: .ref 121 :: .ref 122 :: .ref 123 :: .ref 124 :: .ref 125 :: .ref 126 :: .ref 127 :: .ref 128 :: .ref 129 :: .int (zI mfu) :: .ref 130 :: .ref 131 :: .ref 132 :: .ref 133 :: .ref 134 :: .int (zI mdm) :: .int (zI mla) :: [])))) (hk100 : fh 100 = some (.inl (0, 4870, .inl (zA K)))) (hk110 : fh 110 = some (.inl (0, 8820, .inl (zA co)))) (hk111 : fh 111 = some (.inl (0, 1260, .inl (zA cd)))) (hk117 : fh 117 = some (.inl (0, 7, .inl (zA of)))) : JM l G yX12_laysHouses MX12_laysHouses { frames := 2, cells := 0, slots := 0, locals := 47 } [.ref 98] (nh, fh) (fun rr h9 => ∃ hm2 : Int, ∃ pm2 : Int, ∃ hb2 : Int, ∃ co2 : Int → Int, ∃ cd2 : Int → Int, ∃ of2 : Int → Int, rr = none ∧ h9 = (nh, hc fh [(98, .inr (12, (.int (zI ms) :: .int (zI mv) :: .ref 99 :: .ref 100 :: .ref 101 :: .ref 102 :: .ref 103 :: .ref 104 :: .ref 105 :: .int (zI mt) :: .int (zI mfa) :: .ref 106 :: .ref 107 :: .ref 108 :: .int (zI mtn) :: .int (zI mtk) :: .int (zI mlv) :: .int (zI mbd) :: .int (zI mgo) :: .int (zI mge) :: .int (zI mbk) :: .ref 109 :: .int (zI mtt) :: .int (zI mtl) :: .ref 110 :: .ref 111 :: .ref 112 :: .ref 113 :: .ref 114 :: .ref 115 :: .ref 116 :: .ref 117 :: .int (zI hm2) :: .int (zI pm2) :: .int (zI hb2) :: .int (zI sb) :: .ref 118 :: .ref 119 :: .ref 120 :: .ref 121 :: .ref 122 :: .ref 123 :: .ref 124 :: .ref 125 :: .ref 126 :: .ref 127 :: .ref 128 :: .ref 129 :: .int (zI mfu) :: .ref 130 :: .ref 131 :: .ref 132 :: .ref 133 :: .ref 134 :: .int (zI mdm) :: .int (zI mla) :: []))), (110, .inl (0, 8820, .inl (zA co2))), (111, .inl (0, 1260, .inl (zA cd2))), (117, .inl (0, 7, .inl (zA of2)))]) ∧ (hm2 = Hi K) ∧ (pm2 = bsum K) ∧ (HouT co2 cd2 K hm2) ∧ (Rg of2 7 0 4) ∧ (1 ≤ hm2) ∧ (hm2 ≤ 1260) ∧ (0 ≤ pm2) ∧ (pm2 ≤ 7) ∧ (hb2 = mv)) := by
  refine JM.of (by decide) rfl (fun h => by cases h) (Nat.le_of_ble_eq_true rfl) ⟨4, rfl⟩ ?_
  refine J_hc0 (J_ls (ls2 := [some (.ref 98), none, none, none, none]) rfl ?_)
  have g1 : 0 ≤ bsum K := (bsum_rng q0).1
  have g2 : bsum K ≤ 7 := (bsum_rng q0).2
  have g3 : 1 ≤ Hi K := (Hi_rng q0).1
  have g4 : Hi K ≤ 1260 := (Hi_rng q0).2
  refine J_aload_n dX12_laysHouses_0 rfl rfl ?_
  refine J_get (v := .int (zI hb)) dX12_laysHouses_1 fl_X12_79 hk98 rfl ?_
  refine J_aload_n dX12_laysHouses_4 rfl rfl ?_
  refine J_get (v := .int (zI mv)) dX12_laysHouses_5 fl_X12_11 hk98 rfl ?_
  refine Z_icmp_ne (tgt := 12) dX12_laysHouses_8 (by decide) (v_b25fa51a85 q2) (v_b25fa51a85 q3) (fun h5 => ?_) (fun h5 => ?_)
  · refine J_aload_n dX12_laysHouses_12 rfl rfl ?_
    refine J_aload_n dX12_laysHouses_13 rfl rfl ?_
    refine J_get (v := .int (zI mv)) dX12_laysHouses_14 fl_X12_11 hk98 rfl ?_
    refine K_put (fs2 := (.int (zI ms) :: .int (zI mv) :: .ref 99 :: .ref 100 :: .ref 101 :: .ref 102 :: .ref 103 :: .ref 104 :: .ref 105 :: .int (zI mt) :: .int (zI mfa) :: .ref 106 :: .ref 107 :: .ref 108 :: .int (zI mtn) :: .int (zI mtk) :: .int (zI mlv) :: .int (zI mbd) :: .int (zI mgo) :: .int (zI mge) :: .int (zI mbk) :: .ref 109 :: .int (zI mtt) :: .int (zI mtl) :: .ref 110 :: .ref 111 :: .ref 112 :: .ref 113 :: .ref 114 :: .ref 115 :: .ref 116 :: .ref 117 :: .int (zI hm) :: .int (zI pm) :: .int (zI mv) :: .int (zI sb) :: .ref 118 :: .ref 119 :: .ref 120 :: .ref 121 :: .ref 122 :: .ref 123 :: .ref 124 :: .ref 125 :: .ref 126 :: .ref 127 :: .ref 128 :: .ref 129 :: .int (zI mfu) :: .ref 130 :: .ref 131 :: .ref 132 :: .ref 133 :: .ref 134 :: .int (zI mdm) :: .int (zI mla) :: [])) dX12_laysHouses_17 fw_X12_79 hk98 (Nat.le_of_ble_eq_true rfl) (fun _ => ⟨rfl, rfl⟩) rfl ?_
    refine J_aload_n dX12_laysHouses_20 rfl rfl ?_
    refine J_aload_n dX12_laysHouses_21 rfl rfl ?_
    refine J_callV (st := [.ref 98]) dX12_laysHouses_22 cv_X12_149 (k_places ms mv mt mfa mtn mtk mlv mbd mgo mge mbk mtt mtl hm pm mv sb mfu mdm mla K rfl hk100) rfl rfl rfl (Nat.le_of_ble_eq_true rfl) ⟨(Nat.le_of_ble_eq_true rfl), (Nat.le_of_ble_eq_true rfl)⟩ ⟨(Nat.le_of_ble_eq_true rfl), (Nat.le_of_ble_eq_true rfl)⟩ (fun r h9 hp => ?_)
    obtain ⟨z6, rfl, rfl, h7⟩ := hp
    refine J_nf (nh2 := nh) (ck2 := 0) (sk2 := 0) (st2 := [.int (zI z6), .ref 98]) rfl rfl rfl rfl ?_
    refine K_put (fs2 := (.int (zI ms) :: .int (zI mv) :: .ref 99 :: .ref 100 :: .ref 101 :: .ref 102 :: .ref 103 :: .ref 104 :: .ref 105 :: .int (zI mt) :: .int (zI mfa) :: .ref 106 :: .ref 107 :: .ref 108 :: .int (zI mtn) :: .int (zI mtk) :: .int (zI mlv) :: .int (zI mbd) :: .int (zI mgo) :: .int (zI mge) :: .int (zI mbk) :: .ref 109 :: .int (zI mtt) :: .int (zI mtl) :: .ref 110 :: .ref 111 :: .ref 112 :: .ref 113 :: .ref 114 :: .ref 115 :: .ref 116 :: .ref 117 :: .int (zI hm) :: .int (zI z6) :: .int (zI mv) :: .int (zI sb) :: .ref 118 :: .ref 119 :: .ref 120 :: .ref 121 :: .ref 122 :: .ref 123 :: .ref 124 :: .ref 125 :: .ref 126 :: .ref 127 :: .ref 128 :: .ref 129 :: .int (zI mfu) :: .ref 130 :: .ref 131 :: .ref 132 :: .ref 133 :: .ref 134 :: .int (zI mdm) :: .int (zI mla) :: [])) dX12_laysHouses_25 fw_X12_293 rfl (Nat.le_of_ble_eq_true rfl) (fun _ => ⟨rfl, rfl⟩) rfl ?_
    refine Z_iconst (n := 0) dX12_laysHouses_28 ?_
    refine J_istore_n dX12_laysHouses_29 rfl (Nat.le_of_ble_eq_true rfl) rfl ?_
    refine J_ls (ls2 := [some (.ref 98), some (.int (zI 0)), none, none, none]) rfl ?_
    refine Z_iconst (n := 0) dX12_laysHouses_30 ?_
    refine J_istore_n dX12_laysHouses_31 rfl (Nat.le_of_ble_eq_true rfl) rfl ?_
    refine J_ls (ls2 := [some (.ref 98), some (.int (zI 0)), some (.int (zI 0)), none, none]) rfl ?_
    refine J_touch (k := 117) (e := .inl (0, 7, .inl (zA of))) hk117 ?_
    refine J_mask (L2 := [(117, .inl (0, 7, .inl (zA of))), (98, .inr (12, (.int (zI ms) :: .int (zI mv) :: .ref 99 :: .ref 100 :: .ref 101 :: .ref 102 :: .ref 103 :: .ref 104 :: .ref 105 :: .int (zI mt) :: .int (zI mfa) :: .ref 106 :: .ref 107 :: .ref 108 :: .int (zI mtn) :: .int (zI mtk) :: .int (zI mlv) :: .int (zI mbd) :: .int (zI mgo) :: .int (zI mge) :: .int (zI mbk) :: .ref 109 :: .int (zI mtt) :: .int (zI mtl) :: .ref 110 :: .ref 111 :: .ref 112 :: .ref 113 :: .ref 114 :: .ref 115 :: .ref 116 :: .ref 117 :: .int (zI hm) :: .int (zI z6) :: .int (zI mv) :: .int (zI sb) :: .ref 118 :: .ref 119 :: .ref 120 :: .ref 121 :: .ref 122 :: .ref 123 :: .ref 124 :: .ref 125 :: .ref 126 :: .ref 127 :: .ref 128 :: .ref 129 :: .int (zI mfu) :: .ref 130 :: .ref 131 :: .ref 132 :: .ref 133 :: .ref 134 :: .int (zI mdm) :: .int (zI mla) :: [])))]) (ks := [117, 98, 98]) [true, true, false] rfl (by decide +kernel) rfl ?_
    have lp32 : ∀ (N32 : Nat) (n_32 : Int) (c_32 : Int) (o_32 : Int → Int), (0 ≤ c_32) → (c_32 ≤ 5) → (psum K c_32 = n_32) → (Bds o_32 K n_32) → (Rg o_32 7 0 4) → (0 ≤ n_32) → (n_32 ≤ 7) → (5 - c_32).toNat < N32 → J l G MX12_laysHouses { frames := 2, cells := 0, slots := 0, locals := 47 } jE (jMQ G { frames := 2, cells := 0, slots := 0, locals := 47 } (fun rr h9 => ∃ hm2 : Int, ∃ pm2 : Int, ∃ hb2 : Int, ∃ co2 : Int → Int, ∃ cd2 : Int → Int, ∃ of2 : Int → Int, rr = none ∧ h9 = (nh, hc fh [(98, .inr (12, (.int (zI ms) :: .int (zI mv) :: .ref 99 :: .ref 100 :: .ref 101 :: .ref 102 :: .ref 103 :: .ref 104 :: .ref 105 :: .int (zI mt) :: .int (zI mfa) :: .ref 106 :: .ref 107 :: .ref 108 :: .int (zI mtn) :: .int (zI mtk) :: .int (zI mlv) :: .int (zI mbd) :: .int (zI mgo) :: .int (zI mge) :: .int (zI mbk) :: .ref 109 :: .int (zI mtt) :: .int (zI mtl) :: .ref 110 :: .ref 111 :: .ref 112 :: .ref 113 :: .ref 114 :: .ref 115 :: .ref 116 :: .ref 117 :: .int (zI hm2) :: .int (zI pm2) :: .int (zI hb2) :: .int (zI sb) :: .ref 118 :: .ref 119 :: .ref 120 :: .ref 121 :: .ref 122 :: .ref 123 :: .ref 124 :: .ref 125 :: .ref 126 :: .ref 127 :: .ref 128 :: .ref 129 :: .int (zI mfu) :: .ref 130 :: .ref 131 :: .ref 132 :: .ref 133 :: .ref 134 :: .int (zI mdm) :: .int (zI mla) :: []))), (110, .inl (0, 8820, .inl (zA co2))), (111, .inl (0, 1260, .inl (zA cd2))), (117, .inl (0, 7, .inl (zA of2)))]) ∧ (hm2 = Hi K) ∧ (pm2 = bsum K) ∧ (HouT co2 cd2 K hm2) ∧ (Rg of2 7 0 4) ∧ (1 ≤ hm2) ∧ (hm2 ≤ 1260) ∧ (0 ≤ pm2) ∧ (pm2 ≤ 7) ∧ (hb2 = mv))) (nh, hc fh [(117, .inl (0, 7, .inl (zA o_32))), (98, .inr (12, (.int (zI ms) :: .int (zI mv) :: .ref 99 :: .ref 100 :: .ref 101 :: .ref 102 :: .ref 103 :: .ref 104 :: .ref 105 :: .int (zI mt) :: .int (zI mfa) :: .ref 106 :: .ref 107 :: .ref 108 :: .int (zI mtn) :: .int (zI mtk) :: .int (zI mlv) :: .int (zI mbd) :: .int (zI mgo) :: .int (zI mge) :: .int (zI mbk) :: .ref 109 :: .int (zI mtt) :: .int (zI mtl) :: .ref 110 :: .ref 111 :: .ref 112 :: .ref 113 :: .ref 114 :: .ref 115 :: .ref 116 :: .ref 117 :: .int (zI hm) :: .int (zI z6) :: .int (zI mv) :: .int (zI sb) :: .ref 118 :: .ref 119 :: .ref 120 :: .ref 121 :: .ref 122 :: .ref 123 :: .ref 124 :: .ref 125 :: .ref 126 :: .ref 127 :: .ref 128 :: .ref 129 :: .int (zI mfu) :: .ref 130 :: .ref 131 :: .ref 132 :: .ref 133 :: .ref 134 :: .int (zI mdm) :: .int (zI mla) :: [])))]) 0 0 32 [some (.ref 98), some (.int (zI n_32)), some (.int (zI c_32)), none, none] [] := by
      intro N32
      induction N32 with
      | zero => intro n_32 c_32 o_32 i32_0 i32_1 i32_2 i32_3 i32_4 i32_5 i32_6 hm; exact absurd hm (Nat.not_lt_zero _)
      | succ N32 ih32 =>
        intro n_32 c_32 o_32 i32_0 i32_1 i32_2 i32_3 i32_4 i32_5 i32_6 hm32
        refine J_iload_n dX12_laysHouses_32 rfl rfl ?_
        refine Z_iconst (n := 5) dX12_laysHouses_33 ?_
        refine Z_icmp_ge (tgt := 73) dX12_laysHouses_34 (by decide) (v_a6208d3904 i32_0 i32_1) v_3961fe0d0d (fun h8 => ?_) (fun h8 => ?_)
        · have g9 : psum K c_32 = bsum K := by rw [show c_32 = 5 from (v_53b10c1713 i32_1 h8)]; exact psum_5 K
          refine J_aload_n dX12_laysHouses_73 rfl rfl ?_
          refine Z_iconst (n := 0) dX12_laysHouses_74 ?_
          refine K_put (fs2 := (.int (zI ms) :: .int (zI mv) :: .ref 99 :: .ref 100 :: .ref 101 :: .ref 102 :: .ref 103 :: .ref 104 :: .ref 105 :: .int (zI mt) :: .int (zI mfa) :: .ref 106 :: .ref 107 :: .ref 108 :: .int (zI mtn) :: .int (zI mtk) :: .int (zI mlv) :: .int (zI mbd) :: .int (zI mgo) :: .int (zI mge) :: .int (zI mbk) :: .ref 109 :: .int (zI mtt) :: .int (zI mtl) :: .ref 110 :: .ref 111 :: .ref 112 :: .ref 113 :: .ref 114 :: .ref 115 :: .ref 116 :: .ref 117 :: .int (zI 0) :: .int (zI z6) :: .int (zI mv) :: .int (zI sb) :: .ref 118 :: .ref 119 :: .ref 120 :: .ref 121 :: .ref 122 :: .ref 123 :: .ref 124 :: .ref 125 :: .ref 126 :: .ref 127 :: .ref 128 :: .ref 129 :: .int (zI mfu) :: .ref 130 :: .ref 131 :: .ref 132 :: .ref 133 :: .ref 134 :: .int (zI mdm) :: .int (zI mla) :: [])) dX12_laysHouses_75 fw_X12_298 rfl (Nat.le_of_ble_eq_true rfl) (fun _ => ⟨rfl, rfl⟩) rfl ?_
          refine Z_iconst (n := 1) dX12_laysHouses_78 ?_
          refine J_istore_n dX12_laysHouses_79 rfl (Nat.le_of_ble_eq_true rfl) rfl ?_
          refine J_ls (ls2 := [some (.ref 98), some (.int (zI n_32)), some (.int (zI 1)), none, none]) rfl ?_
          refine J_touch (k := 110) (e := .inl (0, 8820, .inl (zA co))) hk110 ?_
          refine J_touch (k := 111) (e := .inl (0, 1260, .inl (zA cd))) hk111 ?_
          refine J_mask (L2 := [(111, .inl (0, 1260, .inl (zA cd))), (110, .inl (0, 8820, .inl (zA co))), (98, .inr (12, (.int (zI ms) :: .int (zI mv) :: .ref 99 :: .ref 100 :: .ref 101 :: .ref 102 :: .ref 103 :: .ref 104 :: .ref 105 :: .int (zI mt) :: .int (zI mfa) :: .ref 106 :: .ref 107 :: .ref 108 :: .int (zI mtn) :: .int (zI mtk) :: .int (zI mlv) :: .int (zI mbd) :: .int (zI mgo) :: .int (zI mge) :: .int (zI mbk) :: .ref 109 :: .int (zI mtt) :: .int (zI mtl) :: .ref 110 :: .ref 111 :: .ref 112 :: .ref 113 :: .ref 114 :: .ref 115 :: .ref 116 :: .ref 117 :: .int (zI 0) :: .int (zI z6) :: .int (zI mv) :: .int (zI sb) :: .ref 118 :: .ref 119 :: .ref 120 :: .ref 121 :: .ref 122 :: .ref 123 :: .ref 124 :: .ref 125 :: .ref 126 :: .ref 127 :: .ref 128 :: .ref 129 :: .int (zI mfu) :: .ref 130 :: .ref 131 :: .ref 132 :: .ref 133 :: .ref 134 :: .int (zI mdm) :: .int (zI mla) :: []))), (117, .inl (0, 7, .inl (zA o_32)))]) (ks := [111, 110, 98, 117, 98]) [true, true, true, true, false] rfl (by decide +kernel) rfl ?_
          have lp80 : ∀ (N80 : Nat) (more_80 : Int) (m_80 : Int) (co_80 : Int → Int) (cd_80 : Int → Int) (o_80 : Int → Int), (0 ≤ m_80) → (0 ≤ more_80) → (more_80 ≤ 1) → (m_80 + more_80 ≤ Hi K) → (Hi K ≤ m_80 + 1260 * more_80) → (Rg o_80 7 0 4) → (HouT co_80 cd_80 K m_80) → (more_80 = 1 → EqOn (bsum K) o_80 (itB K (m_80).toNat)) → (1261 - m_80).toNat < N80 → J l G MX12_laysHouses { frames := 2, cells := 0, slots := 0, locals := 47 } jE (jMQ G { frames := 2, cells := 0, slots := 0, locals := 47 } (fun rr h9 => ∃ hm2 : Int, ∃ pm2 : Int, ∃ hb2 : Int, ∃ co2 : Int → Int, ∃ cd2 : Int → Int, ∃ of2 : Int → Int, rr = none ∧ h9 = (nh, hc fh [(98, .inr (12, (.int (zI ms) :: .int (zI mv) :: .ref 99 :: .ref 100 :: .ref 101 :: .ref 102 :: .ref 103 :: .ref 104 :: .ref 105 :: .int (zI mt) :: .int (zI mfa) :: .ref 106 :: .ref 107 :: .ref 108 :: .int (zI mtn) :: .int (zI mtk) :: .int (zI mlv) :: .int (zI mbd) :: .int (zI mgo) :: .int (zI mge) :: .int (zI mbk) :: .ref 109 :: .int (zI mtt) :: .int (zI mtl) :: .ref 110 :: .ref 111 :: .ref 112 :: .ref 113 :: .ref 114 :: .ref 115 :: .ref 116 :: .ref 117 :: .int (zI hm2) :: .int (zI pm2) :: .int (zI hb2) :: .int (zI sb) :: .ref 118 :: .ref 119 :: .ref 120 :: .ref 121 :: .ref 122 :: .ref 123 :: .ref 124 :: .ref 125 :: .ref 126 :: .ref 127 :: .ref 128 :: .ref 129 :: .int (zI mfu) :: .ref 130 :: .ref 131 :: .ref 132 :: .ref 133 :: .ref 134 :: .int (zI mdm) :: .int (zI mla) :: []))), (110, .inl (0, 8820, .inl (zA co2))), (111, .inl (0, 1260, .inl (zA cd2))), (117, .inl (0, 7, .inl (zA of2)))]) ∧ (hm2 = Hi K) ∧ (pm2 = bsum K) ∧ (HouT co2 cd2 K hm2) ∧ (Rg of2 7 0 4) ∧ (1 ≤ hm2) ∧ (hm2 ≤ 1260) ∧ (0 ≤ pm2) ∧ (pm2 ≤ 7) ∧ (hb2 = mv))) (nh, hc fh [(111, .inl (0, 1260, .inl (zA cd_80))), (110, .inl (0, 8820, .inl (zA co_80))), (98, .inr (12, (.int (zI ms) :: .int (zI mv) :: .ref 99 :: .ref 100 :: .ref 101 :: .ref 102 :: .ref 103 :: .ref 104 :: .ref 105 :: .int (zI mt) :: .int (zI mfa) :: .ref 106 :: .ref 107 :: .ref 108 :: .int (zI mtn) :: .int (zI mtk) :: .int (zI mlv) :: .int (zI mbd) :: .int (zI mgo) :: .int (zI mge) :: .int (zI mbk) :: .ref 109 :: .int (zI mtt) :: .int (zI mtl) :: .ref 110 :: .ref 111 :: .ref 112 :: .ref 113 :: .ref 114 :: .ref 115 :: .ref 116 :: .ref 117 :: .int (zI m_80) :: .int (zI z6) :: .int (zI mv) :: .int (zI sb) :: .ref 118 :: .ref 119 :: .ref 120 :: .ref 121 :: .ref 122 :: .ref 123 :: .ref 124 :: .ref 125 :: .ref 126 :: .ref 127 :: .ref 128 :: .ref 129 :: .int (zI mfu) :: .ref 130 :: .ref 131 :: .ref 132 :: .ref 133 :: .ref 134 :: .int (zI mdm) :: .int (zI mla) :: []))), (117, .inl (0, 7, .inl (zA o_80)))]) 0 0 80 [some (.ref 98), some (.int (zI n_32)), some (.int (zI more_80)), none, none] [] := by
            intro N80
            induction N80 with
            | zero => intro more_80 m_80 co_80 cd_80 o_80 i80_0 i80_1 i80_2 i80_3 i80_4 i80_5 i80_6 i80_7 hm; exact absurd hm (Nat.not_lt_zero _)
            | succ N80 ih80 =>
              intro more_80 m_80 co_80 cd_80 o_80 i80_0 i80_1 i80_2 i80_3 i80_4 i80_5 i80_6 i80_7 hm80
              refine J_iload_n dX12_laysHouses_80 rfl rfl ?_
              refine Z_if_eq (tgt := 166) dX12_laysHouses_81 (by decide) (v_5f10a759cd i80_1 i80_2) (fun h10 => ?_) (fun h10 => ?_)
              · refine J_touch (k := 117) (e := .inl (0, 7, .inl (zA o_80))) rfl ?_
                refine J_touch (k := 111) (e := .inl (0, 1260, .inl (zA cd_80))) rfl ?_
                refine J_touch (k := 110) (e := .inl (0, 8820, .inl (zA co_80))) rfl ?_
                refine J_touch (k := 98) (e := .inr (12, (.int (zI ms) :: .int (zI mv) :: .ref 99 :: .ref 100 :: .ref 101 :: .ref 102 :: .ref 103 :: .ref 104 :: .ref 105 :: .int (zI mt) :: .int (zI mfa) :: .ref 106 :: .ref 107 :: .ref 108 :: .int (zI mtn) :: .int (zI mtk) :: .int (zI mlv) :: .int (zI mbd) :: .int (zI mgo) :: .int (zI mge) :: .int (zI mbk) :: .ref 109 :: .int (zI mtt) :: .int (zI mtl) :: .ref 110 :: .ref 111 :: .ref 112 :: .ref 113 :: .ref 114 :: .ref 115 :: .ref 116 :: .ref 117 :: .int (zI m_80) :: .int (zI z6) :: .int (zI mv) :: .int (zI sb) :: .ref 118 :: .ref 119 :: .ref 120 :: .ref 121 :: .ref 122 :: .ref 123 :: .ref 124 :: .ref 125 :: .ref 126 :: .ref 127 :: .ref 128 :: .ref 129 :: .int (zI mfu) :: .ref 130 :: .ref 131 :: .ref 132 :: .ref 133 :: .ref 134 :: .int (zI mdm) :: .int (zI mla) :: []))) rfl ?_
                refine J_mask (L2 := [(98, .inr (12, (.int (zI ms) :: .int (zI mv) :: .ref 99 :: .ref 100 :: .ref 101 :: .ref 102 :: .ref 103 :: .ref 104 :: .ref 105 :: .int (zI mt) :: .int (zI mfa) :: .ref 106 :: .ref 107 :: .ref 108 :: .int (zI mtn) :: .int (zI mtk) :: .int (zI mlv) :: .int (zI mbd) :: .int (zI mgo) :: .int (zI mge) :: .int (zI mbk) :: .ref 109 :: .int (zI mtt) :: .int (zI mtl) :: .ref 110 :: .ref 111 :: .ref 112 :: .ref 113 :: .ref 114 :: .ref 115 :: .ref 116 :: .ref 117 :: .int (zI m_80) :: .int (zI z6) :: .int (zI mv) :: .int (zI sb) :: .ref 118 :: .ref 119 :: .ref 120 :: .ref 121 :: .ref 122 :: .ref 123 :: .ref 124 :: .ref 125 :: .ref 126 :: .ref 127 :: .ref 128 :: .ref 129 :: .int (zI mfu) :: .ref 130 :: .ref 131 :: .ref 132 :: .ref 133 :: .ref 134 :: .int (zI mdm) :: .int (zI mla) :: []))), (110, .inl (0, 8820, .inl (zA co_80))), (111, .inl (0, 1260, .inl (zA cd_80))), (117, .inl (0, 7, .inl (zA o_80)))]) (ks := [98, 110, 111, 117, 111, 110, 98, 117]) [true, true, true, true, false, false, false, false] rfl (by decide +kernel) rfl ?_
                exact J_vret dX12_laysHouses_166 rfl (Nat.le_of_ble_eq_true rfl) (Nat.le_of_ble_eq_true rfl) ⟨m_80, z6, mv, co_80, cd_80, o_80, rfl, rfl, (v_b09d0e65de i80_3 i80_4 h10), h7, (i80_6), i80_5, (v_0b0dff4df3 g3 i80_4 h10), (v_5e0cdf7130 g4 i80_1 i80_3), (v_7d1748b1cc g1 h7), (v_116b9e631d g2 h7), v_a0572702c4⟩
              · refine Z_iconst (n := 0) dX12_laysHouses_84 ?_
                refine J_istore_n dX12_laysHouses_85 rfl (Nat.le_of_ble_eq_true rfl) rfl ?_
                refine J_ls (ls2 := [some (.ref 98), some (.int (zI n_32)), some (.int (zI more_80)), some (.int (zI 0)), none]) rfl ?_
                refine Z_iconst (n := 0) dX12_laysHouses_86 ?_
                refine J_istore dX12_laysHouses_87 (Nat.le_of_ble_eq_true rfl) rfl ?_
                refine J_ls (ls2 := [some (.ref 98), some (.int (zI n_32)), some (.int (zI more_80)), some (.int (zI 0)), some (.int (zI 0))]) rfl ?_
                have lp89 : ∀ (N89 : Nat) (v_89 : Int) (k_89 : Int) (cx_89 : Int → Int), (0 ≤ k_89) → (k_89 ≤ z6) → (ColT co_80 cx_89 o_80 m_80 k_89) → (cod5 o_80 (k_89).toNat = v_89) → (z6 - k_89).toNat < N89 → J l G MX12_laysHouses { frames := 2, cells := 0, slots := 0, locals := 47 } jE (jMQ G { frames := 2, cells := 0, slots := 0, locals := 47 } (fun rr h9 => ∃ hm2 : Int, ∃ pm2 : Int, ∃ hb2 : Int, ∃ co2 : Int → Int, ∃ cd2 : Int → Int, ∃ of2 : Int → Int, rr = none ∧ h9 = (nh, hc fh [(98, .inr (12, (.int (zI ms) :: .int (zI mv) :: .ref 99 :: .ref 100 :: .ref 101 :: .ref 102 :: .ref 103 :: .ref 104 :: .ref 105 :: .int (zI mt) :: .int (zI mfa) :: .ref 106 :: .ref 107 :: .ref 108 :: .int (zI mtn) :: .int (zI mtk) :: .int (zI mlv) :: .int (zI mbd) :: .int (zI mgo) :: .int (zI mge) :: .int (zI mbk) :: .ref 109 :: .int (zI mtt) :: .int (zI mtl) :: .ref 110 :: .ref 111 :: .ref 112 :: .ref 113 :: .ref 114 :: .ref 115 :: .ref 116 :: .ref 117 :: .int (zI hm2) :: .int (zI pm2) :: .int (zI hb2) :: .int (zI sb) :: .ref 118 :: .ref 119 :: .ref 120 :: .ref 121 :: .ref 122 :: .ref 123 :: .ref 124 :: .ref 125 :: .ref 126 :: .ref 127 :: .ref 128 :: .ref 129 :: .int (zI mfu) :: .ref 130 :: .ref 131 :: .ref 132 :: .ref 133 :: .ref 134 :: .int (zI mdm) :: .int (zI mla) :: []))), (110, .inl (0, 8820, .inl (zA co2))), (111, .inl (0, 1260, .inl (zA cd2))), (117, .inl (0, 7, .inl (zA of2)))]) ∧ (hm2 = Hi K) ∧ (pm2 = bsum K) ∧ (HouT co2 cd2 K hm2) ∧ (Rg of2 7 0 4) ∧ (1 ≤ hm2) ∧ (hm2 ≤ 1260) ∧ (0 ≤ pm2) ∧ (pm2 ≤ 7) ∧ (hb2 = mv))) (nh, hc fh [(111, .inl (0, 1260, .inl (zA cd_80))), (110, .inl (0, 8820, .inl (zA cx_89))), (98, .inr (12, (.int (zI ms) :: .int (zI mv) :: .ref 99 :: .ref 100 :: .ref 101 :: .ref 102 :: .ref 103 :: .ref 104 :: .ref 105 :: .int (zI mt) :: .int (zI mfa) :: .ref 106 :: .ref 107 :: .ref 108 :: .int (zI mtn) :: .int (zI mtk) :: .int (zI mlv) :: .int (zI mbd) :: .int (zI mgo) :: .int (zI mge) :: .int (zI mbk) :: .ref 109 :: .int (zI mtt) :: .int (zI mtl) :: .ref 110 :: .ref 111 :: .ref 112 :: .ref 113 :: .ref 114 :: .ref 115 :: .ref 116 :: .ref 117 :: .int (zI m_80) :: .int (zI z6) :: .int (zI mv) :: .int (zI sb) :: .ref 118 :: .ref 119 :: .ref 120 :: .ref 121 :: .ref 122 :: .ref 123 :: .ref 124 :: .ref 125 :: .ref 126 :: .ref 127 :: .ref 128 :: .ref 129 :: .int (zI mfu) :: .ref 130 :: .ref 131 :: .ref 132 :: .ref 133 :: .ref 134 :: .int (zI mdm) :: .int (zI mla) :: []))), (117, .inl (0, 7, .inl (zA o_80)))]) 0 0 89 [some (.ref 98), some (.int (zI n_32)), some (.int (zI more_80)), some (.int (zI v_89)), some (.int (zI k_89))] [] := by
                  intro N89
                  induction N89 with
                  | zero => intro v_89 k_89 cx_89 i89_0 i89_1 i89_2 i89_3 hm; exact absurd hm (Nat.not_lt_zero _)
                  | succ N89 ih89 =>
                    intro v_89 k_89 cx_89 i89_0 i89_1 i89_2 i89_3 hm89
                    refine J_iload dX12_laysHouses_89 rfl ?_
                    refine J_aload_n dX12_laysHouses_91 rfl rfl ?_
                    refine J_get (v := .int (zI z6)) dX12_laysHouses_92 fl_X12_293 rfl rfl ?_
                    refine Z_icmp_ge (tgt := 138) dX12_laysHouses_95 (by decide) (v_9f753bbf59 g2 h7 i89_0 i89_1) (v_694b5ff260 g2 h7 i89_0 i89_1) (fun h11 => ?_) (fun h11 => ?_)
                    · refine J_aload_n dX12_laysHouses_138 rfl rfl ?_
                      refine J_get (v := .ref 111) dX12_laysHouses_139 fl_X12_58 rfl rfl ?_
                      refine J_aload_n dX12_laysHouses_142 rfl rfl ?_
                      refine J_get (v := .int (zI m_80)) dX12_laysHouses_143 fl_X12_298 rfl rfl ?_
                      refine J_iload_n dX12_laysHouses_146 rfl rfl ?_
                      refine Y_iast (v := v_89) 1260 dX12_laysHouses_147 rfl rfl (by decide) (v_2b02420001 i80_0) (v_6202d3aaca g4 i80_1 i80_3 h10) (fun f12 ef12 => ?_)
                      refine J_aload_n dX12_laysHouses_148 rfl rfl ?_
                      refine J_dup dX12_laysHouses_149 rfl ?_
                      refine J_get (v := .int (zI m_80)) dX12_laysHouses_150 fl_X12_298 rfl rfl ?_
                      refine Z_iconst (n := 1) dX12_laysHouses_153 ?_
                      refine Z_iadd (c := m_80 + 1) dX12_laysHouses_154 rfl ?_
                      refine K_put (fs2 := (.int (zI ms) :: .int (zI mv) :: .ref 99 :: .ref 100 :: .ref 101 :: .ref 102 :: .ref 103 :: .ref 104 :: .ref 105 :: .int (zI mt) :: .int (zI mfa) :: .ref 106 :: .ref 107 :: .ref 108 :: .int (zI mtn) :: .int (zI mtk) :: .int (zI mlv) :: .int (zI mbd) :: .int (zI mgo) :: .int (zI mge) :: .int (zI mbk) :: .ref 109 :: .int (zI mtt) :: .int (zI mtl) :: .ref 110 :: .ref 111 :: .ref 112 :: .ref 113 :: .ref 114 :: .ref 115 :: .ref 116 :: .ref 117 :: .int (zI (m_80 + 1)) :: .int (zI z6) :: .int (zI mv) :: .int (zI sb) :: .ref 118 :: .ref 119 :: .ref 120 :: .ref 121 :: .ref 122 :: .ref 123 :: .ref 124 :: .ref 125 :: .ref 126 :: .ref 127 :: .ref 128 :: .ref 129 :: .int (zI mfu) :: .ref 130 :: .ref 131 :: .ref 132 :: .ref 133 :: .ref 134 :: .int (zI mdm) :: .int (zI mla) :: [])) dX12_laysHouses_155 fw_X12_298 rfl (Nat.le_of_ble_eq_true rfl) (fun _ => ⟨rfl, rfl⟩) rfl ?_
                      refine J_aload_n dX12_laysHouses_158 rfl rfl ?_
                      refine J_callV (st := []) dX12_laysHouses_159 cv_X12_301 (k_nextOrder o_80 ms mv mt mfa mtn mtk mlv mbd mgo mge mbk mtt mtl (m_80 + 1) z6 mv sb mfu mdm mla (v_21976c7318 i89_0 i89_1) (v_116b9e631d g2 h7) i80_5 rfl rfl) rfl rfl rfl (Nat.le_of_ble_eq_true rfl) ⟨(Nat.le_of_ble_eq_true rfl), (Nat.le_of_ble_eq_true rfl)⟩ ⟨(Nat.le_of_ble_eq_true rfl), (Nat.le_of_ble_eq_true rfl)⟩ (fun r h9 hp => ?_)
                      obtain ⟨f13, z14, rfl, rfl, h15, h16, h17, h18⟩ := hp
                      refine J_nf (nh2 := nh) (ck2 := 0) (sk2 := 0) (st2 := [.int (zI z14)]) rfl rfl rfl rfl ?_
                      refine J_app (L3 := [(117, .inl (0, 7, .inl (zA f13))), (98, .inr (12, (.int (zI ms) :: .int (zI mv) :: .ref 99 :: .ref 100 :: .ref 101 :: .ref 102 :: .ref 103 :: .ref 104 :: .ref 105 :: .int (zI mt) :: .int (zI mfa) :: .ref 106 :: .ref 107 :: .ref 108 :: .int (zI mtn) :: .int (zI mtk) :: .int (zI mlv) :: .int (zI mbd) :: .int (zI mgo) :: .int (zI mge) :: .int (zI mbk) :: .ref 109 :: .int (zI mtt) :: .int (zI mtl) :: .ref 110 :: .ref 111 :: .ref 112 :: .ref 113 :: .ref 114 :: .ref 115 :: .ref 116 :: .ref 117 :: .int (zI (m_80 + 1)) :: .int (zI z6) :: .int (zI mv) :: .int (zI sb) :: .ref 118 :: .ref 119 :: .ref 120 :: .ref 121 :: .ref 122 :: .ref 123 :: .ref 124 :: .ref 125 :: .ref 126 :: .ref 127 :: .ref 128 :: .ref 129 :: .int (zI mfu) :: .ref 130 :: .ref 131 :: .ref 132 :: .ref 133 :: .ref 134 :: .int (zI mdm) :: .int (zI mla) :: []))), (111, .inl (0, 1260, .inl (zA f12))), (111, .inl (0, 1260, .inl (zA cd_80))), (110, .inl (0, 8820, .inl (zA cx_89))), (98, .inr (12, (.int (zI ms) :: .int (zI mv) :: .ref 99 :: .ref 100 :: .ref 101 :: .ref 102 :: .ref 103 :: .ref 104 :: .ref 105 :: .int (zI mt) :: .int (zI mfa) :: .ref 106 :: .ref 107 :: .ref 108 :: .int (zI mtn) :: .int (zI mtk) :: .int (zI mlv) :: .int (zI mbd) :: .int (zI mgo) :: .int (zI mge) :: .int (zI mbk) :: .ref 109 :: .int (zI mtt) :: .int (zI mtl) :: .ref 110 :: .ref 111 :: .ref 112 :: .ref 113 :: .ref 114 :: .ref 115 :: .ref 116 :: .ref 117 :: .int (zI m_80) :: .int (zI z6) :: .int (zI mv) :: .int (zI sb) :: .ref 118 :: .ref 119 :: .ref 120 :: .ref 121 :: .ref 122 :: .ref 123 :: .ref 124 :: .ref 125 :: .ref 126 :: .ref 127 :: .ref 128 :: .ref 129 :: .int (zI mfu) :: .ref 130 :: .ref 131 :: .ref 132 :: .ref 133 :: .ref 134 :: .int (zI mdm) :: .int (zI mla) :: []))), (117, .inl (0, 7, .inl (zA o_80)))]) rfl ?_
                      refine J_mask (L2 := [(117, .inl (0, 7, .inl (zA f13))), (98, .inr (12, (.int (zI ms) :: .int (zI mv) :: .ref 99 :: .ref 100 :: .ref 101 :: .ref 102 :: .ref 103 :: .ref 104 :: .ref 105 :: .int (zI mt) :: .int (zI mfa) :: .ref 106 :: .ref 107 :: .ref 108 :: .int (zI mtn) :: .int (zI mtk) :: .int (zI mlv) :: .int (zI mbd) :: .int (zI mgo) :: .int (zI mge) :: .int (zI mbk) :: .ref 109 :: .int (zI mtt) :: .int (zI mtl) :: .ref 110 :: .ref 111 :: .ref 112 :: .ref 113 :: .ref 114 :: .ref 115 :: .ref 116 :: .ref 117 :: .int (zI (m_80 + 1)) :: .int (zI z6) :: .int (zI mv) :: .int (zI sb) :: .ref 118 :: .ref 119 :: .ref 120 :: .ref 121 :: .ref 122 :: .ref 123 :: .ref 124 :: .ref 125 :: .ref 126 :: .ref 127 :: .ref 128 :: .ref 129 :: .int (zI mfu) :: .ref 130 :: .ref 131 :: .ref 132 :: .ref 133 :: .ref 134 :: .int (zI mdm) :: .int (zI mla) :: []))), (111, .inl (0, 1260, .inl (zA f12))), (110, .inl (0, 8820, .inl (zA cx_89)))]) (ks := [117, 98, 111, 111, 110, 98, 117]) [true, true, true, false, true, false, false] rfl (by decide +kernel) rfl ?_
                      have g19 := it_r q0 i80_0 i80_3 i80_7 (v_8b15499c4b i80_1 i80_2 h10) (v_cd91a95e4e h7) h16
                      refine J_istore_n dX12_laysHouses_162 rfl (Nat.le_of_ble_eq_true rfl) rfl ?_
                      refine J_ls (ls2 := [some (.ref 98), some (.int (zI n_32)), some (.int (zI z14)), some (.int (zI v_89)), some (.int (zI k_89))]) rfl ?_
                      refine J_goto (tgt := 80) dX12_laysHouses_163 (by decide) ?_
                      refine J_touch (k := 117) (e := .inl (0, 7, .inl (zA f13))) rfl ?_
                      refine J_touch (k := 98) (e := .inr (12, (.int (zI ms) :: .int (zI mv) :: .ref 99 :: .ref 100 :: .ref 101 :: .ref 102 :: .ref 103 :: .ref 104 :: .ref 105 :: .int (zI mt) :: .int (zI mfa) :: .ref 106 :: .ref 107 :: .ref 108 :: .int (zI mtn) :: .int (zI mtk) :: .int (zI mlv) :: .int (zI mbd) :: .int (zI mgo) :: .int (zI mge) :: .int (zI mbk) :: .ref 109 :: .int (zI mtt) :: .int (zI mtl) :: .ref 110 :: .ref 111 :: .ref 112 :: .ref 113 :: .ref 114 :: .ref 115 :: .ref 116 :: .ref 117 :: .int (zI (m_80 + 1)) :: .int (zI z6) :: .int (zI mv) :: .int (zI sb) :: .ref 118 :: .ref 119 :: .ref 120 :: .ref 121 :: .ref 122 :: .ref 123 :: .ref 124 :: .ref 125 :: .ref 126 :: .ref 127 :: .ref 128 :: .ref 129 :: .int (zI mfu) :: .ref 130 :: .ref 131 :: .ref 132 :: .ref 133 :: .ref 134 :: .int (zI mdm) :: .int (zI mla) :: []))) rfl ?_
                      refine J_touch (k := 110) (e := .inl (0, 8820, .inl (zA cx_89))) rfl ?_
                      refine J_touch (k := 111) (e := .inl (0, 1260, .inl (zA f12))) rfl ?_
                      refine J_mask (L2 := [(111, .inl (0, 1260, .inl (zA f12))), (110, .inl (0, 8820, .inl (zA cx_89))), (98, .inr (12, (.int (zI ms) :: .int (zI mv) :: .ref 99 :: .ref 100 :: .ref 101 :: .ref 102 :: .ref 103 :: .ref 104 :: .ref 105 :: .int (zI mt) :: .int (zI mfa) :: .ref 106 :: .ref 107 :: .ref 108 :: .int (zI mtn) :: .int (zI mtk) :: .int (zI mlv) :: .int (zI mbd) :: .int (zI mgo) :: .int (zI mge) :: .int (zI mbk) :: .ref 109 :: .int (zI mtt) :: .int (zI mtl) :: .ref 110 :: .ref 111 :: .ref 112 :: .ref 113 :: .ref 114 :: .ref 115 :: .ref 116 :: .ref 117 :: .int (zI (m_80 + 1)) :: .int (zI z6) :: .int (zI mv) :: .int (zI sb) :: .ref 118 :: .ref 119 :: .ref 120 :: .ref 121 :: .ref 122 :: .ref 123 :: .ref 124 :: .ref 125 :: .ref 126 :: .ref 127 :: .ref 128 :: .ref 129 :: .int (zI mfu) :: .ref 130 :: .ref 131 :: .ref 132 :: .ref 133 :: .ref 134 :: .int (zI mdm) :: .int (zI mla) :: []))), (117, .inl (0, 7, .inl (zA f13)))]) (ks := [111, 110, 98, 117, 117, 98, 111, 110]) [true, true, true, true, false, false, false, false] rfl (by decide +kernel) rfl ?_
                      refine J_drop (ls2 := [some (.ref 98), some (.int (zI n_32)), some (.int (zI z14)), none, none]) [true, true, true, false, false] rfl ?_
                      exact ih80 z14 (m_80 + 1) cx_89 f12 f13 (v_da458fa48a i80_0) h17 h18 g19.1 g19.2 (NOf_Rg i80_5 (v_21976c7318 i89_0 i89_1) (v_116b9e631d g2 h7) h15) (HouT.push i80_6 i80_0 (by have e : k_89 = z6 := (v_9b8f42b01e i89_1 h11); rw [e] at i89_2; exact i89_2) (v_cd91a95e4e h7) (v_116b9e631d g2 h7) i80_7 (v_8b15499c4b i80_1 i80_2 h10) (by have e : k_89 = z6 := (v_9b8f42b01e i89_1 h11); rw [e] at i89_3; exact i89_3) ef12) (it_go i80_0 i80_7 (v_8b15499c4b i80_1 i80_2 h10) (v_cd91a95e4e h7) h15) (meas_lt v_83d03e04bc (v_10f0ad0121 g4 g19.1 g19.2) hm80)
                    · refine J_aload_n dX12_laysHouses_98 rfl rfl ?_
                      refine J_get (v := .ref 110) dX12_laysHouses_99 fl_X12_55 rfl rfl ?_
                      refine Z_bipush (n := 7) dX12_laysHouses_102 (by decide +kernel) ?_
                      refine J_aload_n dX12_laysHouses_104 rfl rfl ?_
                      refine J_get (v := .int (zI m_80)) dX12_laysHouses_105 fl_X12_298 rfl rfl ?_
                      refine Z_imul (c := 7 * m_80) dX12_laysHouses_108 rfl ?_
                      refine J_iload dX12_laysHouses_109 rfl ?_
                      refine Z_iadd (c := k_89 + 7 * m_80) dX12_laysHouses_111 v_d142622cc1 ?_
                      refine J_aload_n dX12_laysHouses_112 rfl rfl ?_
                      refine J_get (v := .ref 117) dX12_laysHouses_113 fl_X12_76 rfl rfl ?_
                      refine J_iload dX12_laysHouses_116 rfl ?_
                      obtain ⟨z20, ez20⟩ : ∃ z : Int, o_80 k_89 = z := ⟨_, rfl⟩
                      have h21 := Rg.at i80_5 (v_2b02420001 i89_0) (v_a4a6cba796 g2 h7 h11) ez20
                      refine Y_iald (z := z20) 7 dX12_laysHouses_118 rfl rfl (by decide) (v_2b02420001 i89_0) (v_a4a6cba796 g2 h7 h11) ez20 ?_
                      refine Y_iast (v := z20) 8820 dX12_laysHouses_119 rfl rfl (by decide) (v_a2815b84b5 i80_0 i89_0) (v_dc4f4f9926 g2 g4 h7 i80_1 i80_3 h10 h11) (fun f22 ef22 => ?_)
                      refine Z_iconst (n := 5) dX12_laysHouses_120 ?_
                      refine J_iload_n dX12_laysHouses_121 rfl rfl ?_
                      refine Z_imul (c := 5 * v_89) dX12_laysHouses_122 rfl ?_
                      refine J_aload_n dX12_laysHouses_123 rfl rfl ?_
                      refine J_get (v := .ref 117) dX12_laysHouses_124 fl_X12_76 rfl rfl ?_
                      refine J_iload dX12_laysHouses_127 rfl ?_
                      refine Y_iald (z := z20) 7 dX12_laysHouses_129 rfl rfl (by decide) (v_2b02420001 i89_0) (v_a4a6cba796 g2 h7 h11) ez20 ?_
                      refine Z_iadd (c := 5 * v_89 + z20) dX12_laysHouses_130 rfl ?_
                      refine J_istore_n dX12_laysHouses_131 rfl (Nat.le_of_ble_eq_true rfl) rfl ?_
                      refine J_ls (ls2 := [some (.ref 98), some (.int (zI n_32)), some (.int (zI more_80)), some (.int (zI (5 * v_89 + z20))), some (.int (zI k_89))]) rfl ?_
                      refine Z_iinc (c := k_89 + 1) (ls2 := [some (.ref 98), some (.int (zI n_32)), some (.int (zI more_80)), some (.int (zI (5 * v_89 + z20))), some (.int (zI (k_89 + 1)))]) dX12_laysHouses_132 rfl (Nat.le_of_ble_eq_true rfl) rfl rfl rfl ?_
                      refine J_goto (tgt := 89) dX12_laysHouses_135 (by decide) ?_
                      refine J_mask (L2 := [(110, .inl (0, 8820, .inl (zA f22))), (111, .inl (0, 1260, .inl (zA cd_80))), (98, .inr (12, (.int (zI ms) :: .int (zI mv) :: .ref 99 :: .ref 100 :: .ref 101 :: .ref 102 :: .ref 103 :: .ref 104 :: .ref 105 :: .int (zI mt) :: .int (zI mfa) :: .ref 106 :: .ref 107 :: .ref 108 :: .int (zI mtn) :: .int (zI mtk) :: .int (zI mlv) :: .int (zI mbd) :: .int (zI mgo) :: .int (zI mge) :: .int (zI mbk) :: .ref 109 :: .int (zI mtt) :: .int (zI mtl) :: .ref 110 :: .ref 111 :: .ref 112 :: .ref 113 :: .ref 114 :: .ref 115 :: .ref 116 :: .ref 117 :: .int (zI m_80) :: .int (zI z6) :: .int (zI mv) :: .int (zI sb) :: .ref 118 :: .ref 119 :: .ref 120 :: .ref 121 :: .ref 122 :: .ref 123 :: .ref 124 :: .ref 125 :: .ref 126 :: .ref 127 :: .ref 128 :: .ref 129 :: .int (zI mfu) :: .ref 130 :: .ref 131 :: .ref 132 :: .ref 133 :: .ref 134 :: .int (zI mdm) :: .int (zI mla) :: []))), (117, .inl (0, 7, .inl (zA o_80)))]) (ks := [110, 111, 110, 98, 117]) [true, true, false, true, true] rfl (by decide +kernel) rfl ?_
                      refine J_touch (k := 117) (e := .inl (0, 7, .inl (zA o_80))) rfl ?_
                      refine J_touch (k := 98) (e := .inr (12, (.int (zI ms) :: .int (zI mv) :: .ref 99 :: .ref 100 :: .ref 101 :: .ref 102 :: .ref 103 :: .ref 104 :: .ref 105 :: .int (zI mt) :: .int (zI mfa) :: .ref 106 :: .ref 107 :: .ref 108 :: .int (zI mtn) :: .int (zI mtk) :: .int (zI mlv) :: .int (zI mbd) :: .int (zI mgo) :: .int (zI mge) :: .int (zI mbk) :: .ref 109 :: .int (zI mtt) :: .int (zI mtl) :: .ref 110 :: .ref 111 :: .ref 112 :: .ref 113 :: .ref 114 :: .ref 115 :: .ref 116 :: .ref 117 :: .int (zI m_80) :: .int (zI z6) :: .int (zI mv) :: .int (zI sb) :: .ref 118 :: .ref 119 :: .ref 120 :: .ref 121 :: .ref 122 :: .ref 123 :: .ref 124 :: .ref 125 :: .ref 126 :: .ref 127 :: .ref 128 :: .ref 129 :: .int (zI mfu) :: .ref 130 :: .ref 131 :: .ref 132 :: .ref 133 :: .ref 134 :: .int (zI mdm) :: .int (zI mla) :: []))) rfl ?_
                      refine J_touch (k := 110) (e := .inl (0, 8820, .inl (zA f22))) rfl ?_
                      refine J_touch (k := 111) (e := .inl (0, 1260, .inl (zA cd_80))) rfl ?_
                      refine J_mask (L2 := [(111, .inl (0, 1260, .inl (zA cd_80))), (110, .inl (0, 8820, .inl (zA f22))), (98, .inr (12, (.int (zI ms) :: .int (zI mv) :: .ref 99 :: .ref 100 :: .ref 101 :: .ref 102 :: .ref 103 :: .ref 104 :: .ref 105 :: .int (zI mt) :: .int (zI mfa) :: .ref 106 :: .ref 107 :: .ref 108 :: .int (zI mtn) :: .int (zI mtk) :: .int (zI mlv) :: .int (zI mbd) :: .int (zI mgo) :: .int (zI mge) :: .int (zI mbk) :: .ref 109 :: .int (zI mtt) :: .int (zI mtl) :: .ref 110 :: .ref 111 :: .ref 112 :: .ref 113 :: .ref 114 :: .ref 115 :: .ref 116 :: .ref 117 :: .int (zI m_80) :: .int (zI z6) :: .int (zI mv) :: .int (zI sb) :: .ref 118 :: .ref 119 :: .ref 120 :: .ref 121 :: .ref 122 :: .ref 123 :: .ref 124 :: .ref 125 :: .ref 126 :: .ref 127 :: .ref 128 :: .ref 129 :: .int (zI mfu) :: .ref 130 :: .ref 131 :: .ref 132 :: .ref 133 :: .ref 134 :: .int (zI mdm) :: .int (zI mla) :: []))), (117, .inl (0, 7, .inl (zA o_80)))]) (ks := [111, 110, 98, 117, 110, 111, 98, 117]) [true, true, true, true, false, false, false, false] rfl (by decide +kernel) rfl ?_
                      exact ih89 (5 * v_89 + z20) (k_89 + 1) f22 (v_da458fa48a i89_0) (v_e390a36114 h11) (ColT.step i89_2 ez20 i89_0 v_0ec1a83e7b ef22) (cod5_step i89_3 i89_0 ez20 v_6eb70b74d0) (meas_lt v_90eacd6fd4 (v_8b7dd7d486 h11) hm89)
                exact lp89 _ 0 0 co_80 v_939070ca3f (v_7d1748b1cc g1 h7) (ColT_0) (rfl) (Nat.lt_succ_self _)
          exact lp80 _ 1 0 co cd o_32 v_939070ca3f v_316afd7d0b v_bbcfac9b7d (v_653c814585 g3) (v_f403e9520d g4) i32_4 (HouT_0) (Bds_it i32_3 (v_16210d82de i32_2 g9)) (Nat.lt_succ_self _)
        · refine Z_iconst (n := 0) dX12_laysHouses_37 ?_
          refine J_istore_n dX12_laysHouses_38 rfl (Nat.le_of_ble_eq_true rfl) rfl ?_
          refine J_ls (ls2 := [some (.ref 98), some (.int (zI n_32)), some (.int (zI c_32)), some (.int (zI 0)), none]) rfl ?_
          have lp39 : ∀ (N39 : Nat) (p_39 : Int) (i_39 : Int) (o_39 : Int → Int), (0 ≤ i_39) → (p_39 = n_32 + i_39) → (0 ≤ p_39) → (p_39 ≤ 7) → (Bds o_39 K p_39) → (Rg o_39 7 0 4) → (i_39 ≤ K c_32) → (7 - i_39).toNat < N39 → J l G MX12_laysHouses { frames := 2, cells := 0, slots := 0, locals := 47 } jE (jMQ G { frames := 2, cells := 0, slots := 0, locals := 47 } (fun rr h9 => ∃ hm2 : Int, ∃ pm2 : Int, ∃ hb2 : Int, ∃ co2 : Int → Int, ∃ cd2 : Int → Int, ∃ of2 : Int → Int, rr = none ∧ h9 = (nh, hc fh [(98, .inr (12, (.int (zI ms) :: .int (zI mv) :: .ref 99 :: .ref 100 :: .ref 101 :: .ref 102 :: .ref 103 :: .ref 104 :: .ref 105 :: .int (zI mt) :: .int (zI mfa) :: .ref 106 :: .ref 107 :: .ref 108 :: .int (zI mtn) :: .int (zI mtk) :: .int (zI mlv) :: .int (zI mbd) :: .int (zI mgo) :: .int (zI mge) :: .int (zI mbk) :: .ref 109 :: .int (zI mtt) :: .int (zI mtl) :: .ref 110 :: .ref 111 :: .ref 112 :: .ref 113 :: .ref 114 :: .ref 115 :: .ref 116 :: .ref 117 :: .int (zI hm2) :: .int (zI pm2) :: .int (zI hb2) :: .int (zI sb) :: .ref 118 :: .ref 119 :: .ref 120 :: .ref 121 :: .ref 122 :: .ref 123 :: .ref 124 :: .ref 125 :: .ref 126 :: .ref 127 :: .ref 128 :: .ref 129 :: .int (zI mfu) :: .ref 130 :: .ref 131 :: .ref 132 :: .ref 133 :: .ref 134 :: .int (zI mdm) :: .int (zI mla) :: []))), (110, .inl (0, 8820, .inl (zA co2))), (111, .inl (0, 1260, .inl (zA cd2))), (117, .inl (0, 7, .inl (zA of2)))]) ∧ (hm2 = Hi K) ∧ (pm2 = bsum K) ∧ (HouT co2 cd2 K hm2) ∧ (Rg of2 7 0 4) ∧ (1 ≤ hm2) ∧ (hm2 ≤ 1260) ∧ (0 ≤ pm2) ∧ (pm2 ≤ 7) ∧ (hb2 = mv))) (nh, hc fh [(117, .inl (0, 7, .inl (zA o_39))), (98, .inr (12, (.int (zI ms) :: .int (zI mv) :: .ref 99 :: .ref 100 :: .ref 101 :: .ref 102 :: .ref 103 :: .ref 104 :: .ref 105 :: .int (zI mt) :: .int (zI mfa) :: .ref 106 :: .ref 107 :: .ref 108 :: .int (zI mtn) :: .int (zI mtk) :: .int (zI mlv) :: .int (zI mbd) :: .int (zI mgo) :: .int (zI mge) :: .int (zI mbk) :: .ref 109 :: .int (zI mtt) :: .int (zI mtl) :: .ref 110 :: .ref 111 :: .ref 112 :: .ref 113 :: .ref 114 :: .ref 115 :: .ref 116 :: .ref 117 :: .int (zI hm) :: .int (zI z6) :: .int (zI mv) :: .int (zI sb) :: .ref 118 :: .ref 119 :: .ref 120 :: .ref 121 :: .ref 122 :: .ref 123 :: .ref 124 :: .ref 125 :: .ref 126 :: .ref 127 :: .ref 128 :: .ref 129 :: .int (zI mfu) :: .ref 130 :: .ref 131 :: .ref 132 :: .ref 133 :: .ref 134 :: .int (zI mdm) :: .int (zI mla) :: [])))]) 0 0 39 [some (.ref 98), some (.int (zI p_39)), some (.int (zI c_32)), some (.int (zI i_39)), none] [] := by
            intro N39
            induction N39 with
            | zero => intro p_39 i_39 o_39 i39_0 i39_1 i39_2 i39_3 i39_4 i39_5 i39_6 hm; exact absurd hm (Nat.not_lt_zero _)
            | succ N39 ih39 =>
              intro p_39 i_39 o_39 i39_0 i39_1 i39_2 i39_3 i39_4 i39_5 i39_6 hm39
              refine J_iload_n dX12_laysHouses_39 rfl rfl ?_
              refine J_aload_n dX12_laysHouses_40 rfl rfl ?_
              refine J_get (v := .ref 100) dX12_laysHouses_41 fl_X12_20 rfl rfl ?_
              refine Z_iconst (n := 0) dX12_laysHouses_44 ?_
              refine J_iload_n dX12_laysHouses_45 rfl rfl ?_
              refine Z_iadd (c := c_32) dX12_laysHouses_46 v_a8cc381b6d ?_
              obtain ⟨z23, ez23⟩ : ∃ z : Int, K c_32 = z := ⟨_, rfl⟩
              refine Y_iald (z := z23) 4870 dX12_laysHouses_47 hk100 rfl (by decide) (v_2b02420001 i32_0) (v_8d7e1234de h8) ez23 ?_
              have g24 := okF_at q0 i32_0 (v_122ef500b3 h8) ez23
              refine Z_icmp_ge (tgt := 67) dX12_laysHouses_48 (by decide) (v_1cbf021d6c i32_5 i39_0 i39_1 i39_3) (v_2ee1de483d g24.1 g24.2.1) (fun h25 => ?_) (fun h25 => ?_)
              · have g26 := psum_step (f := K) i32_0 (v_122ef500b3 h8)
                refine Z_iinc (c := c_32 + 1) (ls2 := [some (.ref 98), some (.int (zI p_39)), some (.int (zI (c_32 + 1))), some (.int (zI i_39)), none]) dX12_laysHouses_67 rfl (Nat.le_of_ble_eq_true rfl) rfl rfl rfl ?_
                refine J_goto (tgt := 32) dX12_laysHouses_70 (by decide) ?_
                refine J_drop (ls2 := [some (.ref 98), some (.int (zI p_39)), some (.int (zI (c_32 + 1))), none, none]) [true, true, true, false, false] rfl ?_
                exact ih32 p_39 (c_32 + 1) o_39 (v_da458fa48a i32_0) (v_3868a63a10 h8) (v_4d2fb717f3 i32_2 i39_1 i39_6 ez23 h25 g26) (i39_4) i39_5 i39_2 i39_3 (meas_lt v_20f1226439 (v_b58bb7b78b h8) hm32)
              · refine J_aload_n dX12_laysHouses_51 rfl rfl ?_
                refine J_get (v := .ref 117) dX12_laysHouses_52 fl_X12_76 rfl rfl ?_
                refine J_iload_n dX12_laysHouses_55 rfl rfl ?_
                refine J_iload_n dX12_laysHouses_56 rfl rfl ?_
                refine Y_iast (v := c_32) 7 dX12_laysHouses_57 rfl rfl (by decide) (v_2b02420001 i39_2) (v_15ef55d059 i32_2 i39_1 g24.2.2.1 h25) (fun f27 ef27 => ?_)
                have h28 : Rg f27 7 0 4 := Rg.ups i39_5 ef27 (v_2b02420001 i32_0) (v_122ef500b3 h8)
                refine Z_iinc (c := p_39 + 1) (ls2 := [some (.ref 98), some (.int (zI (p_39 + 1))), some (.int (zI c_32)), some (.int (zI i_39)), none]) dX12_laysHouses_58 rfl (Nat.le_of_ble_eq_true rfl) rfl rfl rfl ?_
                refine Z_iinc (c := i_39 + 1) (ls2 := [some (.ref 98), some (.int (zI (p_39 + 1))), some (.int (zI c_32)), some (.int (zI (i_39 + 1))), none]) dX12_laysHouses_61 rfl (Nat.le_of_ble_eq_true rfl) rfl rfl rfl ?_
                refine J_goto (tgt := 39) dX12_laysHouses_64 (by decide) ?_
                refine J_mask (L2 := [(117, .inl (0, 7, .inl (zA f27))), (98, .inr (12, (.int (zI ms) :: .int (zI mv) :: .ref 99 :: .ref 100 :: .ref 101 :: .ref 102 :: .ref 103 :: .ref 104 :: .ref 105 :: .int (zI mt) :: .int (zI mfa) :: .ref 106 :: .ref 107 :: .ref 108 :: .int (zI mtn) :: .int (zI mtk) :: .int (zI mlv) :: .int (zI mbd) :: .int (zI mgo) :: .int (zI mge) :: .int (zI mbk) :: .ref 109 :: .int (zI mtt) :: .int (zI mtl) :: .ref 110 :: .ref 111 :: .ref 112 :: .ref 113 :: .ref 114 :: .ref 115 :: .ref 116 :: .ref 117 :: .int (zI hm) :: .int (zI z6) :: .int (zI mv) :: .int (zI sb) :: .ref 118 :: .ref 119 :: .ref 120 :: .ref 121 :: .ref 122 :: .ref 123 :: .ref 124 :: .ref 125 :: .ref 126 :: .ref 127 :: .ref 128 :: .ref 129 :: .int (zI mfu) :: .ref 130 :: .ref 131 :: .ref 132 :: .ref 133 :: .ref 134 :: .int (zI mdm) :: .int (zI mla) :: [])))]) (ks := [117, 117, 98]) [true, false, true] rfl (by decide +kernel) rfl ?_
                exact ih39 (p_39 + 1) (i_39 + 1) f27 (v_da458fa48a i39_0) (v_88b65ed625 i39_1) (v_da458fa48a i39_2) (v_f1896ca1c0 i32_2 i39_1 g24.2.2.1 h25) (Bds_push i39_4 q0 ef27 i32_0 (v_122ef500b3 h8) ez23 (v_5525024f24 i32_2 i39_0 i39_1) (v_b1cd41b959 i32_2 i39_1 h25)) h28 (v_5a90fa72ab ez23 h25) (meas_lt v_2adab8813b (v_4bb9e69bde g24.2.1 h25) hm39)
          exact lp39 _ n_32 0 o_32 v_939070ca3f v_76ab4688c1 i32_5 i32_6 (i32_3) i32_4 ((okF_at q0 i32_0 (v_122ef500b3 h8) rfl).1) (Nat.lt_succ_self _)
    exact lp32 _ 0 0 of v_939070ca3f v_17fcbbe8da (psum_0 K) (Bds_0) q1 v_939070ca3f v_9801f0d3f8 (Nat.lt_succ_self _)
  · have g29 := q4 (v_cd91a95e4e h5)
    refine J_touch (k := 117) (e := .inl (0, 7, .inl (zA of))) hk117 ?_
    refine J_touch (k := 111) (e := .inl (0, 1260, .inl (zA cd))) hk111 ?_
    refine J_touch (k := 110) (e := .inl (0, 8820, .inl (zA co))) hk110 ?_
    refine J_touch (k := 98) (e := .inr (12, (.int (zI ms) :: .int (zI mv) :: .ref 99 :: .ref 100 :: .ref 101 :: .ref 102 :: .ref 103 :: .ref 104 :: .ref 105 :: .int (zI mt) :: .int (zI mfa) :: .ref 106 :: .ref 107 :: .ref 108 :: .int (zI mtn) :: .int (zI mtk) :: .int (zI mlv) :: .int (zI mbd) :: .int (zI mgo) :: .int (zI mge) :: .int (zI mbk) :: .ref 109 :: .int (zI mtt) :: .int (zI mtl) :: .ref 110 :: .ref 111 :: .ref 112 :: .ref 113 :: .ref 114 :: .ref 115 :: .ref 116 :: .ref 117 :: .int (zI hm) :: .int (zI pm) :: .int (zI hb) :: .int (zI sb) :: .ref 118 :: .ref 119 :: .ref 120 :: .ref 121 :: .ref 122 :: .ref 123 :: .ref 124 :: .ref 125 :: .ref 126 :: .ref 127 :: .ref 128 :: .ref 129 :: .int (zI mfu) :: .ref 130 :: .ref 131 :: .ref 132 :: .ref 133 :: .ref 134 :: .int (zI mdm) :: .int (zI mla) :: []))) hk98 ?_
    exact J_vret dX12_laysHouses_11 rfl (Nat.le_of_ble_eq_true rfl) (Nat.le_of_ble_eq_true rfl) ⟨hm, pm, hb, co, cd, of, rfl, rfl, g29.2.1, g29.2.2, (g29.1), q1, (v_5f64b26fc7 g3 g29.2.1), (v_59da6bd3cb g4 g29.2.1), (v_7d1748b1cc g1 g29.2.2), (v_116b9e631d g2 g29.2.2), h5⟩
set_option maxHeartbeats 4000000 in
set_option maxRecDepth 100000 in
theorem k_houseOf {l : Launch} {G : jG} {nh : Nat} {fh : Nat → Option va_E} (x : Int) (K : Int → Int) (co : Int → Int) (cd : Int → Int) (ms : Int) (mv : Int) (mt : Int) (mfa : Int) (mtn : Int) (mtk : Int) (mlv : Int) (mbd : Int) (mgo : Int) (mge : Int) (mbk : Int) (mtt : Int) (mtl : Int) (hm : Int) (pm : Int) (hb : Int) (sb : Int) (mfu : Int) (mdm : Int) (mla : Int) (q0 : zr x) (q1 : okF K) (q2 : hm = Hi K) (q3 : HouT co cd K hm) (q4 : 1 ≤ hm) (q5 : hm ≤ 1260) (hk98 : fh 98 = some (.inr (12, (.int (zI ms) :: .int (zI mv) :: .ref 99 :: .ref 100 :: .ref 101 :: .ref 102 :: .ref 103 :: .ref 104 :: .ref 105 :: .int (zI mt) :: .int (zI mfa) :: .ref 106 :: .ref 107 :: .ref 108 :: .int (zI mtn) :: .int (zI mtk) :: .int (zI mlv) :: .int (zI mbd) :: .int (zI mgo) :: .int (zI mge) :: .int (zI mbk) :: .ref 109 :: .int (zI mtt) :: .int (zI mtl) :: .ref 110 :: .ref 111 :: .ref 112 :: .ref 113 :: .ref 114 :: .ref 115 :: .ref 116 :: .ref 117 :: .int (zI hm) :: .int (zI pm) :: .int (zI hb) :: .int (zI sb) :: .ref 118 :: .ref 119 :: .ref 120 :: .ref 121 :: .ref 122 :: .ref 123 :: .ref 124 :: .ref 125 :: .ref 126 :: .ref 127 :: .ref 128 :: .ref 129 :: .int (zI mfu) :: .ref 130 :: .ref 131 :: .ref 132 :: .ref 133 :: .ref 134 :: .int (zI mdm) :: .int (zI mla) :: [])))) (hk100 : fh 100 = some (.inl (0, 4870, .inl (zA K)))) (hk110 : fh 110 = some (.inl (0, 8820, .inl (zA co)))) (hk111 : fh 111 = some (.inl (0, 1260, .inl (zA cd)))) : JM l G yX12_houseOf MX12_houseOf { frames := 0, cells := 0, slots := 0, locals := 0 } [.ref 98, .int (zI x)] (nh, fh) (fun rr h9 => ∃ r : Int, rr = some (.int (zI r)) ∧ h9 = (nh, fh) ∧ (-1 ≤ r) ∧ (r < hm) ∧ (HoR cd hm x r)) := by
  refine JM.of (by decide) rfl (fun h => by cases h) (Nat.le_of_ble_eq_true rfl) ⟨3, rfl⟩ ?_
  refine J_hc0 (J_ls (ls2 := [some (.ref 98), some (.int (zI x)), none, none, none]) rfl ?_)
  refine Z_iconst (n := 0) dX12_houseOf_0 ?_
  refine J_istore_n dX12_houseOf_1 rfl (Nat.le_of_ble_eq_true rfl) rfl ?_
  refine J_ls (ls2 := [some (.ref 98), some (.int (zI x)), some (.int (zI 0)), none, none]) rfl ?_
  refine J_aload_n dX12_houseOf_2 rfl rfl ?_
  refine J_get (v := .int (zI hm)) dX12_houseOf_3 fl_X12_298 hk98 rfl ?_
  refine Z_iconst (n := 1) dX12_houseOf_6 ?_
  refine Z_isub (c := hm - 1) dX12_houseOf_7 rfl ?_
  refine J_istore_n dX12_houseOf_8 rfl (Nat.le_of_ble_eq_true rfl) rfl ?_
  refine J_ls (ls2 := [some (.ref 98), some (.int (zI x)), some (.int (zI 0)), some (.int (zI (hm - 1))), none]) rfl ?_
  have lp9 : ∀ (N9 : Nat) (low_9 : Int) (high_9 : Int), (0 ≤ low_9) → (low_9 ≤ high_9) → (high_9 < hm) → (Tgt cd hm x low_9 high_9) → (high_9 - low_9).toNat < N9 → J l G MX12_houseOf { frames := 0, cells := 0, slots := 0, locals := 0 } jE (jMQ G { frames := 0, cells := 0, slots := 0, locals := 0 } (fun rr h9 => ∃ r : Int, rr = some (.int (zI r)) ∧ h9 = (nh, fh) ∧ (-1 ≤ r) ∧ (r < hm) ∧ (HoR cd hm x r))) (nh, hc fh []) 0 0 9 [some (.ref 98), some (.int (zI x)), some (.int (zI low_9)), some (.int (zI high_9)), none] [] := by
    intro N9
    induction N9 with
    | zero => intro low_9 high_9 i9_0 i9_1 i9_2 i9_3 hm; exact absurd hm (Nat.not_lt_zero _)
    | succ N9 ih9 =>
      intro low_9 high_9 i9_0 i9_1 i9_2 i9_3 hm9
      refine J_iload_n dX12_houseOf_9 rfl rfl ?_
      refine J_iload_n dX12_houseOf_10 rfl rfl ?_
      refine Z_icmp_ge (tgt := 46) dX12_houseOf_11 (by decide) (v_f7ba798426 q5 i9_0 i9_1 i9_2) (v_e31665dd25 q5 i9_0 i9_1 i9_2) (fun h1 => ?_) (fun h1 => ?_)
      · refine J_aload_n dX12_houseOf_46 rfl rfl ?_
        refine J_get (v := .ref 111) dX12_houseOf_47 fl_X12_58 hk98 rfl ?_
        refine J_iload_n dX12_houseOf_50 rfl rfl ?_
        obtain ⟨z2, ez2⟩ : ∃ z : Int, cd low_9 = z := ⟨_, rfl⟩
        have h3 := HouT.code q3 q1 q2 (v_2b02420001 i9_0) (v_b6394f9c29 i9_1 i9_2) ez2
        refine Y_iald (z := z2) 1260 dX12_houseOf_51 hk111 rfl (by decide) (v_2b02420001 i9_0) (v_fbc5fb4b12 q5 i9_1 i9_2) ez2 ?_
        refine J_iload_n dX12_houseOf_52 rfl rfl ?_
        refine Z_icmp_ne (tgt := 60) dX12_houseOf_53 (by decide) (v_ae3ec8d5bc h3.1 h3.2) (v_b25fa51a85 q0) (fun h4 => ?_) (fun h4 => ?_)
        · refine Z_iconst (n := -1) dX12_houseOf_60 ?_
          exact J_iret dX12_houseOf_61 rfl rfl (Nat.le_of_ble_eq_true rfl) (Nat.le_of_ble_eq_true rfl) ⟨(-1), rfl, rfl, v_4d9e6ac08a, (v_7e0ab68801 q4), (⟨fun w => absurd w (by decide), fun t a b c => by have w := i9_3 t a b c; have u := (v_d464d4c634 h1); have e : t = low_9 := (by omega); subst e; rw [ez2] at c; exact absurd c (v_da5cc3277e h4)⟩)⟩
        · refine J_iload_n dX12_houseOf_56 rfl rfl ?_
          refine J_goto (tgt := 61) dX12_houseOf_57 (by decide) ?_
          exact J_iret dX12_houseOf_61 rfl rfl (Nat.le_of_ble_eq_true rfl) (Nat.le_of_ble_eq_true rfl) ⟨low_9, rfl, rfl, (v_576129c2e8 i9_0), (v_b6394f9c29 i9_1 i9_2), (⟨fun _ => by rw [ez2]; exact (v_cd91a95e4e h4), fun t a b c => by have w := i9_3 t a b c; have := (v_d464d4c634 h1); omega⟩)⟩
      · refine J_iload_n dX12_houseOf_14 rfl rfl ?_
        refine J_iload_n dX12_houseOf_15 rfl rfl ?_
        refine Z_iadd (c := high_9 + low_9) dX12_houseOf_16 v_cb13ccdbf3 ?_
        refine Z_iconst (n := 2) dX12_houseOf_17 ?_
        refine Z_idiv dX12_houseOf_18 (v_cab4133e8c q5 i9_0 i9_2 h1) v_9ea63c5f56 (v_76426696ba i9_0 h1) v_72afd49884 ?_
        obtain ⟨z5, ez5⟩ : ∃ z : Int, (high_9 + low_9) / 2 = z := ⟨_, rfl⟩
        rw [ez5]
        have h6 : 2 * z5 ≤ high_9 + low_9 ∧ high_9 + low_9 ≤ 2 * z5 + 1 := dv_lem ez5 (by decide)
        refine J_istore dX12_houseOf_19 (Nat.le_of_ble_eq_true rfl) rfl ?_
        refine J_ls (ls2 := [some (.ref 98), some (.int (zI x)), some (.int (zI low_9)), some (.int (zI high_9)), some (.int (zI z5))]) rfl ?_
        refine J_aload_n dX12_houseOf_21 rfl rfl ?_
        refine J_get (v := .ref 111) dX12_houseOf_22 fl_X12_58 hk98 rfl ?_
        refine J_iload dX12_houseOf_25 rfl ?_
        obtain ⟨z7, ez7⟩ : ∃ z : Int, cd z5 = z := ⟨_, rfl⟩
        have h8 := HouT.code q3 q1 q2 (v_ee75fb0104 i9_0 h1 h6.2) (v_0f109f820e i9_2 h1 h6.1) ez7
        refine Y_iald (z := z7) 1260 dX12_houseOf_27 hk111 rfl (by decide) (v_ee75fb0104 i9_0 h1 h6.2) (v_3dcbf4112b q5 i9_2 h1 h6.1) ez7 ?_
        refine J_iload_n dX12_houseOf_28 rfl rfl ?_
        refine Z_icmp_ge (tgt := 40) dX12_houseOf_29 (by decide) (v_ae3ec8d5bc h8.1 h8.2) (v_b25fa51a85 q0) (fun h9 => ?_) (fun h9 => ?_)
        · refine J_iload dX12_houseOf_40 rfl ?_
          refine J_istore_n dX12_houseOf_42 rfl (Nat.le_of_ble_eq_true rfl) rfl ?_
          refine J_ls (ls2 := [some (.ref 98), some (.int (zI x)), some (.int (zI low_9)), some (.int (zI z5)), some (.int (zI z5))]) rfl ?_
          refine J_goto (tgt := 9) dX12_houseOf_43 (by decide) ?_
          refine J_drop (ls2 := [some (.ref 98), some (.int (zI x)), some (.int (zI low_9)), some (.int (zI z5)), none]) [true, true, true, true, false] rfl ?_
          exact ih9 low_9 z5 i9_0 (v_3e13e49e6f h1 h6.2) (v_0f109f820e i9_2 h1 h6.1) (Tgt.high i9_3 q3 q1 q2 (v_ee75fb0104 i9_0 h1 h6.2) (v_0f109f820e i9_2 h1 h6.1) ez7 (v_d464d4c634 h9)) (meas_lt (v_6f1b0ff342 h1 h6.1) (v_8b7dd7d486 h1) hm9)
        · refine J_iload dX12_houseOf_32 rfl ?_
          refine Z_iconst (n := 1) dX12_houseOf_34 ?_
          refine Z_iadd (c := z5 + 1) dX12_houseOf_35 rfl ?_
          refine J_istore_n dX12_houseOf_36 rfl (Nat.le_of_ble_eq_true rfl) rfl ?_
          refine J_ls (ls2 := [some (.ref 98), some (.int (zI x)), some (.int (zI (z5 + 1))), some (.int (zI high_9)), some (.int (zI z5))]) rfl ?_
          refine J_goto (tgt := 43) dX12_houseOf_37 (by decide) ?_
          refine J_goto (tgt := 9) dX12_houseOf_43 (by decide) ?_
          refine J_drop (ls2 := [some (.ref 98), some (.int (zI x)), some (.int (zI (z5 + 1))), some (.int (zI high_9)), none]) [true, true, true, true, false] rfl ?_
          exact ih9 (z5 + 1) high_9 (v_8ef53d9fee i9_0 h1 h6.2) (v_f1edea1ccf h1 h6.1) i9_2 (Tgt.low i9_3 q3 q1 q2 (v_ee75fb0104 i9_0 h1 h6.2) (v_0f109f820e i9_2 h1 h6.1) ez7 (v_fe9ea41faa h9)) (meas_lt (v_17515218c5 h1 h6.2) (v_8b7dd7d486 h1) hm9)
  exact lp9 _ 0 (hm - 1) v_939070ca3f (v_cae5a9b4f3 q4) v_c458e5b2bb (fun t a b c => ⟨a, by omega⟩) (Nat.lt_succ_self _)
set_option maxHeartbeats 4000000 in
set_option maxRecDepth 100000 in
theorem k_takesOrder {l : Launch} {G : jG} {nh : Nat} {fh : Nat → Option va_E} (h : Int) (K : Int → Int) (co : Int → Int) (cd : Int → Int) (of : Int → Int) (ms : Int) (mv : Int) (mt : Int) (mfa : Int) (mtn : Int) (mtk : Int) (mlv : Int) (mbd : Int) (mgo : Int) (mge : Int) (mbk : Int) (mtt : Int) (mtl : Int) (hm : Int) (pm : Int) (hb : Int) (sb : Int) (mfu : Int) (mdm : Int) (mla : Int) (q0 : 0 ≤ h) (q1 : h < hm) (q2 : okF K) (q3 : hm = Hi K) (q4 : pm = bsum K) (q5 : HouT co cd K hm) (q6 : Rg of 7 0 4) (q7 : 1 ≤ hm) (q8 : hm ≤ 1260) (q9 : 0 ≤ pm) (q10 : pm ≤ 7) (hk98 : fh 98 = some (.inr (12, (.int (zI ms) :: .int (zI mv) :: .ref 99 :: .ref 100 :: .ref 101 :: .ref 102 :: .ref 103 :: .ref 104 :: .ref 105 :: .int (zI mt) :: .int (zI mfa) :: .ref 106 :: .ref 107 :: .ref 108 :: .int (zI mtn) :: .int (zI mtk) :: .int (zI mlv) :: .int (zI mbd) :: .int (zI mgo) :: .int (zI mge) :: .int (zI mbk) :: .ref 109 :: .int (zI mtt) :: .int (zI mtl) :: .ref 110 :: .ref 111 :: .ref 112 :: .ref 113 :: .ref 114 :: .ref 115 :: .ref 116 :: .ref 117 :: .int (zI hm) :: .int (zI pm) :: .int (zI hb) :: .int (zI sb) :: .ref 118 :: .ref 119 :: .ref 120 :: .ref 121 :: .ref 122 :: .ref 123 :: .ref 124 :: .ref 125 :: .ref 126 :: .ref 127 :: .ref 128 :: .ref 129 :: .int (zI mfu) :: .ref 130 :: .ref 131 :: .ref 132 :: .ref 133 :: .ref 134 :: .int (zI mdm) :: .int (zI mla) :: [])))) (hk100 : fh 100 = some (.inl (0, 4870, .inl (zA K)))) (hk110 : fh 110 = some (.inl (0, 8820, .inl (zA co)))) (hk111 : fh 111 = some (.inl (0, 1260, .inl (zA cd)))) (hk117 : fh 117 = some (.inl (0, 7, .inl (zA of)))) : JM l G yX12_takesOrder MX12_takesOrder { frames := 1, cells := 0, slots := 0, locals := 22 } [.ref 98, .int (zI h)] (nh, fh) (fun rr h9 => ∃ og : Int → Int, rr = none ∧ h9 = (nh, hc fh [(117, .inl (0, 7, .inl (zA og)))]) ∧ (Rg og 7 0 4) ∧ (EqOn (bsum K) og (itB K (h).toNat))) := by
  refine JM.of (by decide) rfl (fun h => by cases h) (Nat.le_of_ble_eq_true rfl) ⟨1, rfl⟩ ?_
  refine J_hc0 (J_ls (ls2 := [some (.ref 98), some (.int (zI h)), none]) rfl ?_)
  refine Z_iconst (n := 0) dX12_takesOrder_0 ?_
  refine J_istore_n dX12_takesOrder_1 rfl (Nat.le_of_ble_eq_true rfl) rfl ?_
  refine J_ls (ls2 := [some (.ref 98), some (.int (zI h)), some (.int (zI 0))]) rfl ?_
  refine J_touch (k := 117) (e := .inl (0, 7, .inl (zA of))) hk117 ?_
  have lp2 : ∀ (N2 : Nat) (i_2 : Int) (o_2 : Int → Int), (0 ≤ i_2) → (i_2 ≤ pm) → (Rg o_2 7 0 4) → (EqOn i_2 o_2 (itB K (h).toNat)) → (pm - i_2).toNat < N2 → J l G MX12_takesOrder { frames := 1, cells := 0, slots := 0, locals := 22 } jE (jMQ G { frames := 1, cells := 0, slots := 0, locals := 22 } (fun rr h9 => ∃ og : Int → Int, rr = none ∧ h9 = (nh, hc fh [(117, .inl (0, 7, .inl (zA og)))]) ∧ (Rg og 7 0 4) ∧ (EqOn (bsum K) og (itB K (h).toNat)))) (nh, hc fh [(117, .inl (0, 7, .inl (zA o_2)))]) 0 0 2 [some (.ref 98), some (.int (zI h)), some (.int (zI i_2))] [] := by
    intro N2
    induction N2 with
    | zero => intro i_2 o_2 i2_0 i2_1 i2_2 i2_3 hm; exact absurd hm (Nat.not_lt_zero _)
    | succ N2 ih2 =>
      intro i_2 o_2 i2_0 i2_1 i2_2 i2_3 hm2
      refine J_iload_n dX12_takesOrder_2 rfl rfl ?_
      refine J_aload_n dX12_takesOrder_3 rfl rfl ?_
      refine J_get (v := .int (zI pm)) dX12_takesOrder_4 fl_X12_293 hk98 rfl ?_
      refine Z_icmp_ge (tgt := 28) dX12_takesOrder_7 (by decide) (v_ee3170dbf0 q10 i2_0 i2_1) (v_2ee1de483d q9 q10) (fun h1 => ?_) (fun h1 => ?_)
      · exact J_vret dX12_takesOrder_28 rfl (Nat.le_of_ble_eq_true rfl) (Nat.le_of_ble_eq_true rfl) ⟨o_2, rfl, rfl, i2_2, (by have e : i_2 = bsum K := (v_1b95ffae78 q4 i2_1 h1); rw [e] at i2_3; exact i2_3)⟩
      · refine J_aload_n dX12_takesOrder_10 rfl rfl ?_
        refine J_get (v := .ref 117) dX12_takesOrder_11 fl_X12_76 hk98 rfl ?_
        refine J_iload_n dX12_takesOrder_14 rfl rfl ?_
        refine J_aload_n dX12_takesOrder_15 rfl rfl ?_
        refine J_iload_n dX12_takesOrder_16 rfl rfl ?_
        refine J_iload_n dX12_takesOrder_17 rfl rfl ?_
        refine J_callV (st := [.int (zI i_2), .ref 117]) dX12_takesOrder_18 cv_X12_290 (k_colourOf h i_2 co ms mv mt mfa mtn mtk mlv mbd mgo mge mbk mtt mtl hm pm hb sb mfu mdm mla q0 (v_6251b724b8 q1 q8) i2_0 (v_3549d48a69 q10 h1) hk98 hk110) hk98 rfl rfl (Nat.le_of_ble_eq_true rfl) ⟨(Nat.le_of_ble_eq_true rfl), (Nat.le_of_ble_eq_true rfl)⟩ ⟨(Nat.le_of_ble_eq_true rfl), (Nat.le_of_ble_eq_true rfl)⟩ (fun r h9 hp => ?_)
        obtain ⟨z2, rfl, rfl, h3⟩ := hp
        refine J_nf (nh2 := nh) (ck2 := 0) (sk2 := 0) (st2 := [.int (zI z2), .int (zI i_2), .ref 117]) rfl rfl rfl rfl ?_
        have g4 := HouT.col q5 q2 q3 q0 q1 (v_2b02420001 i2_0) (v_b7686aa830 q4 h1) h3
        refine Y_iast (v := z2) 7 dX12_takesOrder_21 rfl rfl (by decide) (v_2b02420001 i2_0) (v_3549d48a69 q10 h1) (fun f5 ef5 => ?_)
        have h6 : Rg f5 7 0 4 := Rg.ups i2_2 ef5 (v_2b02420001 g4.2.1) (v_77407988c7 g4.2.2)
        refine Z_iinc (c := i_2 + 1) (ls2 := [some (.ref 98), some (.int (zI h)), some (.int (zI (i_2 + 1)))]) dX12_takesOrder_22 rfl (Nat.le_of_ble_eq_true rfl) rfl rfl rfl ?_
        refine J_goto (tgt := 2) dX12_takesOrder_25 (by decide) ?_
        refine J_mask (L2 := [(117, .inl (0, 7, .inl (zA f5)))]) (ks := [117, 117]) [true, false] rfl (by decide +kernel) rfl ?_
        exact ih2 (i_2 + 1) f5 (v_da458fa48a i2_0) (v_e390a36114 h1) h6 (EqOn.push i2_3 ef5 g4.1) (meas_lt v_90eacd6fd4 (v_8b7dd7d486 h1) hm2)
  exact lp2 _ 0 of v_939070ca3f q9 q6 (fun j a b => by omega) (Nat.lt_succ_self _)
set_option maxHeartbeats 4000000 in
set_option maxRecDepth 100000 in
theorem k_hasWall {l : Launch} {G : jG} {nh : Nat} {fh : Nat → Option va_E} (x : Int) (y : Int) (K : Int → Int) (ms : Int) (mv : Int) (mt : Int) (mfa : Int) (mtn : Int) (mtk : Int) (mlv : Int) (mbd : Int) (mgo : Int) (mge : Int) (mbk : Int) (mtt : Int) (mtl : Int) (hm : Int) (pm : Int) (hb : Int) (sb : Int) (mfu : Int) (mdm : Int) (mla : Int) (q0 : zr x) (q1 : zr y) (q2 : 0 ≤ K 59) (q3 : K 59 ≤ 8) (q4 : Rg K 4870 (-2147483648) 2147483647) (hk98 : fh 98 = some (.inr (12, (.int (zI ms) :: .int (zI mv) :: .ref 99 :: .ref 100 :: .ref 101 :: .ref 102 :: .ref 103 :: .ref 104 :: .ref 105 :: .int (zI mt) :: .int (zI mfa) :: .ref 106 :: .ref 107 :: .ref 108 :: .int (zI mtn) :: .int (zI mtk) :: .int (zI mlv) :: .int (zI mbd) :: .int (zI mgo) :: .int (zI mge) :: .int (zI mbk) :: .ref 109 :: .int (zI mtt) :: .int (zI mtl) :: .ref 110 :: .ref 111 :: .ref 112 :: .ref 113 :: .ref 114 :: .ref 115 :: .ref 116 :: .ref 117 :: .int (zI hm) :: .int (zI pm) :: .int (zI hb) :: .int (zI sb) :: .ref 118 :: .ref 119 :: .ref 120 :: .ref 121 :: .ref 122 :: .ref 123 :: .ref 124 :: .ref 125 :: .ref 126 :: .ref 127 :: .ref 128 :: .ref 129 :: .int (zI mfu) :: .ref 130 :: .ref 131 :: .ref 132 :: .ref 133 :: .ref 134 :: .int (zI mdm) :: .int (zI mla) :: [])))) (hk100 : fh 100 = some (.inl (0, 4870, .inl (zA K)))) : JM l G yX12_hasWall MX12_hasWall { frames := 0, cells := 0, slots := 0, locals := 0 } [.ref 98, .int (zI x), .int (zI y)] (nh, fh) (fun rr h9 => (rr = some (.int (zI 1)) ∧ h9 = (nh, fh) ∧ (¬ WNo (od K 7) (od K 8) (K 59) x y)) ∨ (rr = some (.int (zI 0)) ∧ h9 = (nh, fh) ∧ (WNo (od K 7) (od K 8) (K 59) x y))) := by
  refine JM.of (by decide) rfl (fun h => by cases h) (Nat.le_of_ble_eq_true rfl) ⟨3, rfl⟩ ?_
  refine J_hc0 (J_ls (ls2 := [some (.ref 98), some (.int (zI x)), some (.int (zI y)), none, none, none]) rfl ?_)
  refine Z_iconst (n := 0) dX12_hasWall_0 ?_
  refine J_istore_n dX12_hasWall_1 rfl (Nat.le_of_ble_eq_true rfl) rfl ?_
  refine J_ls (ls2 := [some (.ref 98), some (.int (zI x)), some (.int (zI y)), some (.int (zI 0)), none, none]) rfl ?_
  have lp2 : ∀ (N2 : Nat) (i_2 : Int), (0 ≤ i_2) → (i_2 ≤ K 59) → (WNo (od K 7) (od K 8) i_2 x y) → (K 59 - i_2).toNat < N2 → J l G MX12_hasWall { frames := 0, cells := 0, slots := 0, locals := 0 } jE (jMQ G { frames := 0, cells := 0, slots := 0, locals := 0 } (fun rr h9 => (rr = some (.int (zI 1)) ∧ h9 = (nh, fh) ∧ (¬ WNo (od K 7) (od K 8) (K 59) x y)) ∨ (rr = some (.int (zI 0)) ∧ h9 = (nh, fh) ∧ (WNo (od K 7) (od K 8) (K 59) x y)))) (nh, hc fh []) 0 0 2 [some (.ref 98), some (.int (zI x)), some (.int (zI y)), some (.int (zI i_2)), none, none] [] := by
    intro N2
    induction N2 with
    | zero => intro i_2 i2_0 i2_1 i2_2 hm; exact absurd hm (Nat.not_lt_zero _)
    | succ N2 ih2 =>
      intro i_2 i2_0 i2_1 i2_2 hm2
      refine J_iload_n dX12_hasWall_2 rfl rfl ?_
      refine J_aload_n dX12_hasWall_3 rfl rfl ?_
      refine J_get (v := .ref 100) dX12_hasWall_4 fl_X12_20 hk98 rfl ?_
      refine Z_bipush (n := 59) dX12_hasWall_7 (by decide +kernel) ?_
      obtain ⟨z1, ez1⟩ : ∃ z : Int, K 59 = z := ⟨_, rfl⟩
      have h2 := Rg.at q4 v_891b05d1c3 v_028d633eb8 ez1
      refine Y_iald (z := z1) 4870 dX12_hasWall_9 hk100 rfl (by decide) v_891b05d1c3 v_028d633eb8 ez1 ?_
      refine Z_icmp_ge (tgt := 73) dX12_hasWall_10 (by decide) (v_5a546eabe2 q3 i2_0 i2_1) (v_f306e1cdb8 h2.1 h2.2) (fun h3 => ?_) (fun h3 => ?_)
      · refine Z_iconst (n := 0) dX12_hasWall_73 ?_
        exact J_iret dX12_hasWall_74 rfl (jbn v_939070ca3f v_316afd7d0b) (Nat.le_of_ble_eq_true rfl) (Nat.le_of_ble_eq_true rfl) (Or.inr ⟨rfl, rfl, (WNo.end i2_2 (v_2e2647420e ez1 h3))⟩)
      · refine J_aload_n dX12_hasWall_13 rfl rfl ?_
        refine J_get (v := .ref 100) dX12_hasWall_14 fl_X12_20 hk98 rfl ?_
        refine Z_bipush (n := 7) dX12_hasWall_17 (by decide +kernel) ?_
        refine Z_iconst (n := 2) dX12_hasWall_19 ?_
        refine J_iload_n dX12_hasWall_20 rfl rfl ?_
        refine Z_imul (c := 2 * i_2) dX12_hasWall_21 rfl ?_
        refine Z_iadd (c := 2 * i_2 + 7) dX12_hasWall_22 v_3e4b903c63 ?_
        obtain ⟨z4, ez4⟩ : ∃ z : Int, K (2 * i_2 + 7) = z := ⟨_, rfl⟩
        have h5 := Rg.at q4 (v_d8a521b453 i2_0) (v_8cb1863ae6 q3 i2_1) ez4
        refine Y_iald (z := z4) 4870 dX12_hasWall_23 hk100 rfl (by decide) (v_d8a521b453 i2_0) (v_8cb1863ae6 q3 i2_1) ez4 ?_
        refine J_istore dX12_hasWall_24 (Nat.le_of_ble_eq_true rfl) rfl ?_
        refine J_ls (ls2 := [some (.ref 98), some (.int (zI x)), some (.int (zI y)), some (.int (zI i_2)), some (.int (zI z4)), none]) rfl ?_
        refine J_aload_n dX12_hasWall_26 rfl rfl ?_
        refine J_get (v := .ref 100) dX12_hasWall_27 fl_X12_20 hk98 rfl ?_
        refine Z_bipush (n := 7) dX12_hasWall_30 (by decide +kernel) ?_
        refine Z_iconst (n := 2) dX12_hasWall_32 ?_
        refine J_iload_n dX12_hasWall_33 rfl rfl ?_
        refine Z_imul (c := 2 * i_2) dX12_hasWall_34 rfl ?_
        refine Z_iadd (c := 2 * i_2 + 7) dX12_hasWall_35 v_3e4b903c63 ?_
        refine Z_iconst (n := 1) dX12_hasWall_36 ?_
        refine Z_iadd (c := 2 * i_2 + 8) dX12_hasWall_37 v_7118128835 ?_
        obtain ⟨z6, ez6⟩ : ∃ z : Int, K (2 * i_2 + 8) = z := ⟨_, rfl⟩
        have h7 := Rg.at q4 (v_ea20a10f10 i2_0) (v_e3fa7f1e71 q3 i2_1) ez6
        refine Y_iald (z := z6) 4870 dX12_hasWall_38 hk100 rfl (by decide) (v_ea20a10f10 i2_0) (v_e3fa7f1e71 q3 i2_1) ez6 ?_
        refine J_istore dX12_hasWall_39 (Nat.le_of_ble_eq_true rfl) rfl ?_
        refine J_ls (ls2 := [some (.ref 98), some (.int (zI x)), some (.int (zI y)), some (.int (zI i_2)), some (.int (zI z4)), some (.int (zI z6))]) rfl ?_
        refine J_iload dX12_hasWall_41 rfl ?_
        refine J_iload_n dX12_hasWall_43 rfl rfl ?_
        refine Z_icmp_ne (tgt := 53) dX12_hasWall_44 (by decide) (v_f306e1cdb8 h5.1 h5.2) (v_b25fa51a85 q0) (fun h8 => ?_) (fun h8 => ?_)
        · refine J_iload dX12_hasWall_53 rfl ?_
          refine J_iload_n dX12_hasWall_55 rfl rfl ?_
          refine Z_icmp_ne (tgt := 67) dX12_hasWall_56 (by decide) (v_f306e1cdb8 h5.1 h5.2) (v_b25fa51a85 q1) (fun h9 => ?_) (fun h9 => ?_)
          · refine Z_iinc (c := i_2 + 1) (ls2 := [some (.ref 98), some (.int (zI x)), some (.int (zI y)), some (.int (zI (i_2 + 1))), some (.int (zI z4)), some (.int (zI z6))]) dX12_hasWall_67 rfl (Nat.le_of_ble_eq_true rfl) rfl rfl rfl ?_
            refine J_goto (tgt := 2) dX12_hasWall_70 (by decide) ?_
            refine J_drop (ls2 := [some (.ref 98), some (.int (zI x)), some (.int (zI y)), some (.int (zI (i_2 + 1))), none, none]) [true, true, true, true, false, false] rfl ?_
            exact ih2 (i_2 + 1) (v_da458fa48a i2_0) (v_5a90fa72ab ez1 h3) (WNo.step i2_2 (by show ¬ WP (K (2 * i_2 + 7)) (K (2 * i_2 + 8)) x y; omega)) (meas_lt v_90eacd6fd4 (v_3d52b46b20 ez1 h3) hm2)
          · refine J_iload dX12_hasWall_59 rfl ?_
            refine J_iload_n dX12_hasWall_61 rfl rfl ?_
            refine Z_icmp_ne (tgt := 67) dX12_hasWall_62 (by decide) (v_f306e1cdb8 h7.1 h7.2) (v_b25fa51a85 q0) (fun h10 => ?_) (fun h10 => ?_)
            · refine Z_iinc (c := i_2 + 1) (ls2 := [some (.ref 98), some (.int (zI x)), some (.int (zI y)), some (.int (zI (i_2 + 1))), some (.int (zI z4)), some (.int (zI z6))]) dX12_hasWall_67 rfl (Nat.le_of_ble_eq_true rfl) rfl rfl rfl ?_
              refine J_goto (tgt := 2) dX12_hasWall_70 (by decide) ?_
              refine J_drop (ls2 := [some (.ref 98), some (.int (zI x)), some (.int (zI y)), some (.int (zI (i_2 + 1))), none, none]) [true, true, true, true, false, false] rfl ?_
              exact ih2 (i_2 + 1) (v_da458fa48a i2_0) (v_5a90fa72ab ez1 h3) (WNo.step i2_2 (by show ¬ WP (K (2 * i_2 + 7)) (K (2 * i_2 + 8)) x y; omega)) (meas_lt v_90eacd6fd4 (v_3d52b46b20 ez1 h3) hm2)
            · refine Z_iconst (n := 1) dX12_hasWall_65 ?_
              exact J_iret dX12_hasWall_66 rfl (jbn v_316afd7d0b v_bbcfac9b7d) (Nat.le_of_ble_eq_true rfl) (Nat.le_of_ble_eq_true rfl) (Or.inl ⟨rfl, rfl, (WNo.hit i2_0 (v_37aa6f4f04 ez1 h3) (by show WP (K (2 * i_2 + 7)) (K (2 * i_2 + 8)) x y; omega))⟩)
        · refine J_iload dX12_hasWall_47 rfl ?_
          refine J_iload_n dX12_hasWall_49 rfl rfl ?_
          refine Z_icmp_eq (tgt := 65) dX12_hasWall_50 (by decide) (v_f306e1cdb8 h7.1 h7.2) (v_b25fa51a85 q1) (fun h11 => ?_) (fun h11 => ?_)
          · refine Z_iconst (n := 1) dX12_hasWall_65 ?_
            exact J_iret dX12_hasWall_66 rfl (jbn v_316afd7d0b v_bbcfac9b7d) (Nat.le_of_ble_eq_true rfl) (Nat.le_of_ble_eq_true rfl) (Or.inl ⟨rfl, rfl, (WNo.hit i2_0 (v_37aa6f4f04 ez1 h3) (by show WP (K (2 * i_2 + 7)) (K (2 * i_2 + 8)) x y; omega))⟩)
          · refine J_iload dX12_hasWall_53 rfl ?_
            refine J_iload_n dX12_hasWall_55 rfl rfl ?_
            refine Z_icmp_ne (tgt := 67) dX12_hasWall_56 (by decide) (v_f306e1cdb8 h5.1 h5.2) (v_b25fa51a85 q1) (fun h12 => ?_) (fun h12 => ?_)
            · refine Z_iinc (c := i_2 + 1) (ls2 := [some (.ref 98), some (.int (zI x)), some (.int (zI y)), some (.int (zI (i_2 + 1))), some (.int (zI z4)), some (.int (zI z6))]) dX12_hasWall_67 rfl (Nat.le_of_ble_eq_true rfl) rfl rfl rfl ?_
              refine J_goto (tgt := 2) dX12_hasWall_70 (by decide) ?_
              refine J_drop (ls2 := [some (.ref 98), some (.int (zI x)), some (.int (zI y)), some (.int (zI (i_2 + 1))), none, none]) [true, true, true, true, false, false] rfl ?_
              exact ih2 (i_2 + 1) (v_da458fa48a i2_0) (v_5a90fa72ab ez1 h3) (WNo.step i2_2 (by show ¬ WP (K (2 * i_2 + 7)) (K (2 * i_2 + 8)) x y; omega)) (meas_lt v_90eacd6fd4 (v_3d52b46b20 ez1 h3) hm2)
            · refine J_iload dX12_hasWall_59 rfl ?_
              refine J_iload_n dX12_hasWall_61 rfl rfl ?_
              refine Z_icmp_ne (tgt := 67) dX12_hasWall_62 (by decide) (v_f306e1cdb8 h7.1 h7.2) (v_b25fa51a85 q0) (fun h13 => ?_) (fun h13 => absurd h13 (v_b25b5bac89 h8 h11 h12))
              refine Z_iinc (c := i_2 + 1) (ls2 := [some (.ref 98), some (.int (zI x)), some (.int (zI y)), some (.int (zI (i_2 + 1))), some (.int (zI z4)), some (.int (zI z6))]) dX12_hasWall_67 rfl (Nat.le_of_ble_eq_true rfl) rfl rfl rfl ?_
              refine J_goto (tgt := 2) dX12_hasWall_70 (by decide) ?_
              refine J_drop (ls2 := [some (.ref 98), some (.int (zI x)), some (.int (zI y)), some (.int (zI (i_2 + 1))), none, none]) [true, true, true, true, false, false] rfl ?_
              exact ih2 (i_2 + 1) (v_da458fa48a i2_0) (v_5a90fa72ab ez1 h3) (WNo.step i2_2 (by show ¬ WP (K (2 * i_2 + 7)) (K (2 * i_2 + 8)) x y; omega)) (meas_lt v_90eacd6fd4 (v_3d52b46b20 ez1 h3) hm2)
  exact lp2 _ 0 v_939070ca3f q2 (WNo_0) (Nat.lt_succ_self _)
set_option maxHeartbeats 4000000 in
set_option maxRecDepth 100000 in
theorem k_isHouse {l : Launch} {G : jG} {nh : Nat} {fh : Nat → Option va_E} (x : Int) (ms : Int) (mv : Int) (mt : Int) (mfa : Int) (mtn : Int) (mtk : Int) (mlv : Int) (mbd : Int) (mgo : Int) (mge : Int) (mbk : Int) (mtt : Int) (mtl : Int) (hm : Int) (pm : Int) (hb : Int) (sb : Int) (mfu : Int) (mdm : Int) (mla : Int) (K : Int → Int) (co : Int → Int) (cd : Int → Int) (of : Int → Int) (q0 : zr x) (q1 : okF K) (q2 : Rg of 7 0 4) (q3 : zr hb) (q4 : zr mv) (q5 : hb = mv → HouT co cd K hm ∧ hm = Hi K ∧ pm = bsum K) (hk98 : fh 98 = some (.inr (12, (.int (zI ms) :: .int (zI mv) :: .ref 99 :: .ref 100 :: .ref 101 :: .ref 102 :: .ref 103 :: .ref 104 :: .ref 105 :: .int (zI mt) :: .int (zI mfa) :: .ref 106 :: .ref 107 :: .ref 108 :: .int (zI mtn) :: .int (zI mtk) :: .int (zI mlv) :: .int (zI mbd) :: .int (zI mgo) :: .int (zI mge) :: .int (zI mbk) :: .ref 109 :: .int (zI mtt) :: .int (zI mtl) :: .ref 110 :: .ref 111 :: .ref 112 :: .ref 113 :: .ref 114 :: .ref 115 :: .ref 116 :: .ref 117 :: .int (zI hm) :: .int (zI pm) :: .int (zI hb) :: .int (zI sb) :: .ref 118 :: .ref 119 :: .ref 120 :: .ref 121 :: .ref 122 :: .ref 123 :: .ref 124 :: .ref 125 :: .ref 126 :: .ref 127 :: .ref 128 :: .ref 129 :: .int (zI mfu) :: .ref 130 :: .ref 131 :: .ref 132 :: .ref 133 :: .ref 134 :: .int (zI mdm) :: .int (zI mla) :: [])))) (hk100 : fh 100 = some (.inl (0, 4870, .inl (zA K)))) (hk110 : fh 110 = some (.inl (0, 8820, .inl (zA co)))) (hk111 : fh 111 = some (.inl (0, 1260, .inl (zA cd)))) (hk117 : fh 117 = some (.inl (0, 7, .inl (zA of)))) : JM l G yX12_isHouse MX12_isHouse { frames := 3, cells := 0, slots := 0, locals := 71 } [.ref 98, .int (zI x)] (nh, fh) (fun rr h9 => (∃ hm2 : Int, ∃ pm2 : Int, ∃ hb2 : Int, ∃ co2 : Int → Int, ∃ cd2 : Int → Int, ∃ of2 : Int → Int, rr = some (.int (zI 1)) ∧ h9 = (nh, hc fh [(98, .inr (12, (.int (zI ms) :: .int (zI mv) :: .ref 99 :: .ref 100 :: .ref 101 :: .ref 102 :: .ref 103 :: .ref 104 :: .ref 105 :: .int (zI mt) :: .int (zI mfa) :: .ref 106 :: .ref 107 :: .ref 108 :: .int (zI mtn) :: .int (zI mtk) :: .int (zI mlv) :: .int (zI mbd) :: .int (zI mgo) :: .int (zI mge) :: .int (zI mbk) :: .ref 109 :: .int (zI mtt) :: .int (zI mtl) :: .ref 110 :: .ref 111 :: .ref 112 :: .ref 113 :: .ref 114 :: .ref 115 :: .ref 116 :: .ref 117 :: .int (zI hm2) :: .int (zI pm2) :: .int (zI hb2) :: .int (zI sb) :: .ref 118 :: .ref 119 :: .ref 120 :: .ref 121 :: .ref 122 :: .ref 123 :: .ref 124 :: .ref 125 :: .ref 126 :: .ref 127 :: .ref 128 :: .ref 129 :: .int (zI mfu) :: .ref 130 :: .ref 131 :: .ref 132 :: .ref 133 :: .ref 134 :: .int (zI mdm) :: .int (zI mla) :: []))), (110, .inl (0, 8820, .inl (zA co2))), (111, .inl (0, 1260, .inl (zA cd2))), (117, .inl (0, 7, .inl (zA of2)))]) ∧ (hm2 = Hi K) ∧ (pm2 = bsum K) ∧ (HouT co2 cd2 K hm2) ∧ (Rg of2 7 0 4) ∧ (1 ≤ hm2) ∧ (hm2 ≤ 1260) ∧ (0 ≤ pm2) ∧ (pm2 ≤ 7) ∧ (hb2 = mv) ∧ (0 ≤ x) ∧ (x < hm2)) ∨ (∃ hm2 : Int, ∃ pm2 : Int, ∃ hb2 : Int, ∃ co2 : Int → Int, ∃ cd2 : Int → Int, ∃ of2 : Int → Int, rr = some (.int (zI 0)) ∧ h9 = (nh, hc fh [(98, .inr (12, (.int (zI ms) :: .int (zI mv) :: .ref 99 :: .ref 100 :: .ref 101 :: .ref 102 :: .ref 103 :: .ref 104 :: .ref 105 :: .int (zI mt) :: .int (zI mfa) :: .ref 106 :: .ref 107 :: .ref 108 :: .int (zI mtn) :: .int (zI mtk) :: .int (zI mlv) :: .int (zI mbd) :: .int (zI mgo) :: .int (zI mge) :: .int (zI mbk) :: .ref 109 :: .int (zI mtt) :: .int (zI mtl) :: .ref 110 :: .ref 111 :: .ref 112 :: .ref 113 :: .ref 114 :: .ref 115 :: .ref 116 :: .ref 117 :: .int (zI hm2) :: .int (zI pm2) :: .int (zI hb2) :: .int (zI sb) :: .ref 118 :: .ref 119 :: .ref 120 :: .ref 121 :: .ref 122 :: .ref 123 :: .ref 124 :: .ref 125 :: .ref 126 :: .ref 127 :: .ref 128 :: .ref 129 :: .int (zI mfu) :: .ref 130 :: .ref 131 :: .ref 132 :: .ref 133 :: .ref 134 :: .int (zI mdm) :: .int (zI mla) :: []))), (110, .inl (0, 8820, .inl (zA co2))), (111, .inl (0, 1260, .inl (zA cd2))), (117, .inl (0, 7, .inl (zA of2)))]) ∧ (hm2 = Hi K) ∧ (pm2 = bsum K) ∧ (HouT co2 cd2 K hm2) ∧ (Rg of2 7 0 4) ∧ (1 ≤ hm2) ∧ (hm2 ≤ 1260) ∧ (0 ≤ pm2) ∧ (pm2 ≤ 7) ∧ (hb2 = mv) ∧ (x < 0)) ∨ (∃ hm2 : Int, ∃ pm2 : Int, ∃ hb2 : Int, ∃ co2 : Int → Int, ∃ cd2 : Int → Int, ∃ of2 : Int → Int, rr = some (.int (zI 0)) ∧ h9 = (nh, hc fh [(98, .inr (12, (.int (zI ms) :: .int (zI mv) :: .ref 99 :: .ref 100 :: .ref 101 :: .ref 102 :: .ref 103 :: .ref 104 :: .ref 105 :: .int (zI mt) :: .int (zI mfa) :: .ref 106 :: .ref 107 :: .ref 108 :: .int (zI mtn) :: .int (zI mtk) :: .int (zI mlv) :: .int (zI mbd) :: .int (zI mgo) :: .int (zI mge) :: .int (zI mbk) :: .ref 109 :: .int (zI mtt) :: .int (zI mtl) :: .ref 110 :: .ref 111 :: .ref 112 :: .ref 113 :: .ref 114 :: .ref 115 :: .ref 116 :: .ref 117 :: .int (zI hm2) :: .int (zI pm2) :: .int (zI hb2) :: .int (zI sb) :: .ref 118 :: .ref 119 :: .ref 120 :: .ref 121 :: .ref 122 :: .ref 123 :: .ref 124 :: .ref 125 :: .ref 126 :: .ref 127 :: .ref 128 :: .ref 129 :: .int (zI mfu) :: .ref 130 :: .ref 131 :: .ref 132 :: .ref 133 :: .ref 134 :: .int (zI mdm) :: .int (zI mla) :: []))), (110, .inl (0, 8820, .inl (zA co2))), (111, .inl (0, 1260, .inl (zA cd2))), (117, .inl (0, 7, .inl (zA of2)))]) ∧ (hm2 = Hi K) ∧ (pm2 = bsum K) ∧ (HouT co2 cd2 K hm2) ∧ (Rg of2 7 0 4) ∧ (1 ≤ hm2) ∧ (hm2 ≤ 1260) ∧ (0 ≤ pm2) ∧ (pm2 ≤ 7) ∧ (hb2 = mv) ∧ (hm2 ≤ x))) := by
  refine JM.of (by decide) rfl (fun h => by cases h) (Nat.le_of_ble_eq_true rfl) ⟨0, rfl⟩ ?_
  refine J_hc0 (J_ls (ls2 := [some (.ref 98), some (.int (zI x))]) rfl ?_)
  refine J_aload_n dX12_isHouse_0 rfl rfl ?_
  refine J_callV (st := []) dX12_isHouse_1 cv_X12_159 (k_laysHouses ms mv mt mfa mtn mtk mlv mbd mgo mge mbk mtt mtl hm pm hb sb mfu mdm mla K co cd of q1 q2 q3 q4 q5 hk98 hk100 hk110 hk111 hk117) hk98 rfl rfl (Nat.le_of_ble_eq_true rfl) ⟨(Nat.le_of_ble_eq_true rfl), (Nat.le_of_ble_eq_true rfl)⟩ ⟨(Nat.le_of_ble_eq_true rfl), (Nat.le_of_ble_eq_true rfl)⟩ (fun r h9 hp => ?_)
  obtain ⟨z1, z2, z3, f4, f5, f6, rfl, rfl, h7, h8, h9, h10, h11, h12, h13, h14, h15⟩ := hp
  refine J_nf (nh2 := nh) (ck2 := 0) (sk2 := 0) (st2 := []) rfl rfl rfl rfl ?_
  refine J_app (L3 := [(98, .inr (12, (.int (zI ms) :: .int (zI mv) :: .ref 99 :: .ref 100 :: .ref 101 :: .ref 102 :: .ref 103 :: .ref 104 :: .ref 105 :: .int (zI mt) :: .int (zI mfa) :: .ref 106 :: .ref 107 :: .ref 108 :: .int (zI mtn) :: .int (zI mtk) :: .int (zI mlv) :: .int (zI mbd) :: .int (zI mgo) :: .int (zI mge) :: .int (zI mbk) :: .ref 109 :: .int (zI mtt) :: .int (zI mtl) :: .ref 110 :: .ref 111 :: .ref 112 :: .ref 113 :: .ref 114 :: .ref 115 :: .ref 116 :: .ref 117 :: .int (zI z1) :: .int (zI z2) :: .int (zI z3) :: .int (zI sb) :: .ref 118 :: .ref 119 :: .ref 120 :: .ref 121 :: .ref 122 :: .ref 123 :: .ref 124 :: .ref 125 :: .ref 126 :: .ref 127 :: .ref 128 :: .ref 129 :: .int (zI mfu) :: .ref 130 :: .ref 131 :: .ref 132 :: .ref 133 :: .ref 134 :: .int (zI mdm) :: .int (zI mla) :: []))), (110, .inl (0, 8820, .inl (zA f4))), (111, .inl (0, 1260, .inl (zA f5))), (117, .inl (0, 7, .inl (zA f6)))]) rfl ?_
  refine J_iload_n dX12_isHouse_4 rfl rfl ?_
  refine Z_iconst (n := 0) dX12_isHouse_5 ?_
  refine J_aload_n dX12_isHouse_6 rfl rfl ?_
  refine J_get (v := .int (zI z1)) dX12_isHouse_7 fl_X12_298 rfl rfl ?_
  refine Z_iconst (n := 1) dX12_isHouse_10 ?_
  refine Z_isub (c := z1 - 1) dX12_isHouse_11 rfl ?_
  refine J_callS (st := []) dX12_isHouse_12 cs_X12_138 (k_lies x 0 (z1 - 1) q0 v_b17331891f (v_e7507601e3 h11 h12)) rfl rfl (Nat.le_of_ble_eq_true rfl) ⟨(Nat.le_of_ble_eq_true rfl), (Nat.le_of_ble_eq_true rfl)⟩ ⟨(Nat.le_of_ble_eq_true rfl), (Nat.le_of_ble_eq_true rfl)⟩ (fun r h9 hp => ?_)
  rcases hp with ⟨rfl, rfl, h16, h17⟩ | ⟨rfl, rfl, h18⟩ | ⟨rfl, rfl, h19⟩
  · refine J_nf (nh2 := nh) (ck2 := 0) (sk2 := 0) (st2 := [.int (zI 1)]) rfl rfl rfl rfl ?_
    exact J_iret dX12_isHouse_15 rfl (jbn v_316afd7d0b v_bbcfac9b7d) (Nat.le_of_ble_eq_true rfl) (Nat.le_of_ble_eq_true rfl) (Or.inl ⟨z1, z2, z3, f4, f5, f6, rfl, rfl, h7, h8, h9, h10, h11, h12, h13, h14, h15, h16, (v_23a59df3fe h17)⟩)
  · refine J_nf (nh2 := nh) (ck2 := 0) (sk2 := 0) (st2 := [.int (zI 0)]) rfl rfl rfl rfl ?_
    exact J_iret dX12_isHouse_15 rfl (jbn v_939070ca3f v_316afd7d0b) (Nat.le_of_ble_eq_true rfl) (Nat.le_of_ble_eq_true rfl) (Or.inr (Or.inl ⟨z1, z2, z3, f4, f5, f6, rfl, rfl, h7, h8, h9, h10, h11, h12, h13, h14, h15, h18⟩))
  · refine J_nf (nh2 := nh) (ck2 := 0) (sk2 := 0) (st2 := [.int (zI 0)]) rfl rfl rfl rfl ?_
    exact J_iret dX12_isHouse_15 rfl (jbn v_939070ca3f v_316afd7d0b) (Nat.le_of_ble_eq_true rfl) (Nat.le_of_ble_eq_true rfl) (Or.inr (Or.inr ⟨z1, z2, z3, f4, f5, f6, rfl, rfl, h7, h8, h9, h10, h11, h12, h13, h14, h15, (v_98459e9e06 h19)⟩))
