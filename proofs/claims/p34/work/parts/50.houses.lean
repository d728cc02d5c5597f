abbrev MX0_many : jM := (RX0, cX0_many, 1, some .int, false)
set_option maxRecDepth 20000 in
theorem iX0_at : ∀ k : Nat, k < 4 → u_lay RX0 TX0 k ∈ jtb
  | 0, _ => jt1 110 rfl rfl
  | 1, _ => jt1 112 rfl rfl
  | 2, _ => jt1 114 rfl rfl
  | 3, _ => jt1 116 rfl rfl
  | (n + 4), h => absurd h (by omega)
theorem iX0 : ∀ w ∈ u_ws RX0 TX0 4, w ∈ jtb := fun w hw => by
  obtain ⟨k, hk, rfl⟩ := List.mem_map.mp hw
  exact iX0_at k (List.mem_range.mp hk)
theorem fl_X0_18 : jFL RX0 18 0 2 := ⟨_, _, _, rfl, iX0, by decide, Or.inl (jt1 108 rfl rfl)⟩
abbrev MX0_places : jM := (RX0, cX0_places, 1, some .int, false)
theorem fl_X0_22 : jFL RX0 22 0 3 := ⟨_, _, _, rfl, iX0, by decide, Or.inl (jt1 109 rfl rfl)⟩
abbrev MX0_has : jM := (RX0, cX0_has, 2, some .boolean, false)
abbrev MX0_rowOf : jM := (RX0, cX0_rowOf, 2, some .int, false)
theorem cv_X0_41 : jCV RX0 41 0 yX0_has MX0_has 1 := ⟨_, _, rfl, (jt3 76 rfl rfl), (jt3 74 rfl rfl), (jt3 75 rfl rfl), (jt1 3 rfl rfl), ⟨by decide, by decide, by decide +kernel⟩, Or.inl (jt3 85 rfl rfl)⟩
theorem fl_X0_9 : jFL RX0 9 0 0 := ⟨_, _, _, rfl, iX0, by decide, Or.inl (jt1 106 rfl rfl)⟩
abbrev MX0_shiftOf : jM := (RX0, cX0_shiftOf, 2, some .int, false)
abbrev MX0_colourAt : jM := (RX0, cX0_colourAt, 2, some .int, false)
abbrev MX0_behind : jM := (RX0, cX0_behind, 2, some .int, false)
abbrev MX0_changeBeads : jM := (RX0, cX0_changeBeads, 4, none, false)
theorem fl_X0_15 : jFL RX0 15 0 1 := ⟨_, _, _, rfl, iX0, by decide, Or.inl (jt1 107 rfl rfl)⟩
abbrev MX0_find : jM := (RX0, cX0_find, 5, some .int, false)
abbrev MX0_nextOrder : jM := (RX0, cX0_nextOrder, 5, some .boolean, false)
theorem cv_X0_37 : jCV RX0 37 0 yX0_changeBeads MX0_changeBeads 2 := ⟨_, _, rfl, (jt2 209 rfl rfl), (jt2 208 rfl rfl), (jtp (q := (⟨"BeanStreet$Houses", "changeBeads", "(II)V"⟩, 4)) (List.mem_of_getElem? (i := 2) rfl)), (jt1 3 rfl rfl), ⟨by decide, by decide, by decide +kernel⟩, Or.inl (jt2 206 rfl rfl)⟩
theorem dX0_many_0 : decode cX0_many 0 = .ok (.aload_n 0, 1) := by decide +kernel
theorem dX0_many_1 : decode cX0_many 1 = .ok (.getfield 18, 3) := by decide +kernel
theorem dX0_many_4 : decode cX0_many 4 = .ok (.ireturn, 1) := by decide +kernel
theorem dX0_places_0 : decode cX0_places 0 = .ok (.aload_n 0, 1) := by decide +kernel
theorem dX0_places_1 : decode cX0_places 1 = .ok (.getfield 22, 3) := by decide +kernel
theorem dX0_places_4 : decode cX0_places 4 = .ok (.ireturn, 1) := by decide +kernel
theorem dX0_has_0 : decode cX0_has 0 = .ok (.iload_n 1, 1) := by decide +kernel
theorem dX0_has_1 : decode cX0_has 1 = .ok (.ifCond .lt 15, 3) := by decide +kernel
theorem dX0_has_16 : decode cX0_has 16 = .ok (.iconst 0, 1) := by decide +kernel
theorem dX0_has_17 : decode cX0_has 17 = .ok (.ireturn, 1) := by decide +kernel
theorem dX0_has_4 : decode cX0_has 4 = .ok (.iload_n 1, 1) := by decide +kernel
theorem dX0_has_5 : decode cX0_has 5 = .ok (.aload_n 0, 1) := by decide +kernel
theorem dX0_has_6 : decode cX0_has 6 = .ok (.getfield 18, 3) := by decide +kernel
theorem dX0_has_9 : decode cX0_has 9 = .ok (.if_icmp .ge 7, 3) := by decide +kernel
theorem dX0_has_12 : decode cX0_has 12 = .ok (.iconst 1, 1) := by decide +kernel
theorem dX0_has_13 : decode cX0_has 13 = .ok (.goto 4, 3) := by decide +kernel
theorem dX0_rowOf_0 : decode cX0_rowOf 0 = .ok (.aload_n 0, 1) := by decide +kernel
theorem dX0_rowOf_1 : decode cX0_rowOf 1 = .ok (.iload_n 1, 1) := by decide +kernel
theorem dX0_rowOf_2 : decode cX0_rowOf 2 = .ok (.invokevirtual 41, 3) := by decide +kernel
theorem dX0_rowOf_5 : decode cX0_rowOf 5 = .ok (.ifCond .eq 12, 3) := by decide +kernel
theorem dX0_rowOf_8 : decode cX0_rowOf 8 = .ok (.aload_n 0, 1) := by decide +kernel
theorem dX0_rowOf_9 : decode cX0_rowOf 9 = .ok (.getfield 9, 3) := by decide +kernel
theorem dX0_rowOf_12 : decode cX0_rowOf 12 = .ok (.iload_n 1, 1) := by decide +kernel
theorem dX0_rowOf_13 : decode cX0_rowOf 13 = .ok (.iaload, 1) := by decide +kernel
theorem dX0_rowOf_14 : decode cX0_rowOf 14 = .ok (.goto 4, 3) := by decide +kernel
theorem dX0_rowOf_18 : decode cX0_rowOf 18 = .ok (.ireturn, 1) := by decide +kernel
theorem dX0_shiftOf_0 : decode cX0_shiftOf 0 = .ok (.iconst 3, 1) := by decide +kernel
theorem dX0_shiftOf_1 : decode cX0_shiftOf 1 = .ok (.aload_n 0, 1) := by decide +kernel
theorem dX0_shiftOf_2 : decode cX0_shiftOf 2 = .ok (.getfield 22, 3) := by decide +kernel
theorem dX0_shiftOf_5 : decode cX0_shiftOf 5 = .ok (.iconst 1, 1) := by decide +kernel
theorem dX0_shiftOf_6 : decode cX0_shiftOf 6 = .ok (.isub, 1) := by decide +kernel
theorem dX0_shiftOf_7 : decode cX0_shiftOf 7 = .ok (.iload_n 1, 1) := by decide +kernel
theorem dX0_shiftOf_8 : decode cX0_shiftOf 8 = .ok (.isub, 1) := by decide +kernel
theorem dX0_shiftOf_9 : decode cX0_shiftOf 9 = .ok (.imul, 1) := by decide +kernel
theorem dX0_shiftOf_10 : decode cX0_shiftOf 10 = .ok (.ireturn, 1) := by decide +kernel
theorem dX0_colourAt_0 : decode cX0_colourAt 0 = .ok (.iload_n 0, 1) := by decide +kernel
theorem dX0_colourAt_1 : decode cX0_colourAt 1 = .ok (.iload_n 1, 1) := by decide +kernel
theorem dX0_colourAt_2 : decode cX0_colourAt 2 = .ok (.ishr, 1) := by decide +kernel
theorem dX0_colourAt_3 : decode cX0_colourAt 3 = .ok (.bipush 7, 2) := by decide +kernel
theorem dX0_colourAt_5 : decode cX0_colourAt 5 = .ok (.iand, 1) := by decide +kernel
theorem dX0_colourAt_6 : decode cX0_colourAt 6 = .ok (.ireturn, 1) := by decide +kernel
theorem dX0_behind_0 : decode cX0_behind 0 = .ok (.iload_n 0, 1) := by decide +kernel
theorem dX0_behind_1 : decode cX0_behind 1 = .ok (.iconst 3, 1) := by decide +kernel
theorem dX0_behind_2 : decode cX0_behind 2 = .ok (.ishl, 1) := by decide +kernel
theorem dX0_behind_3 : decode cX0_behind 3 = .ok (.iload_n 1, 1) := by decide +kernel
theorem dX0_behind_4 : decode cX0_behind 4 = .ok (.ior, 1) := by decide +kernel
theorem dX0_behind_5 : decode cX0_behind 5 = .ok (.ireturn, 1) := by decide +kernel
theorem dX0_changeBeads_0 : decode cX0_changeBeads 0 = .ok (.aload_n 0, 1) := by decide +kernel
theorem dX0_changeBeads_1 : decode cX0_changeBeads 1 = .ok (.getfield 15, 3) := by decide +kernel
theorem dX0_changeBeads_4 : decode cX0_changeBeads 4 = .ok (.iload_n 1, 1) := by decide +kernel
theorem dX0_changeBeads_5 : decode cX0_changeBeads 5 = .ok (.iaload, 1) := by decide +kernel
theorem dX0_changeBeads_6 : decode cX0_changeBeads 6 = .ok (.istore_n 3, 1) := by decide +kernel
theorem dX0_changeBeads_7 : decode cX0_changeBeads 7 = .ok (.aload_n 0, 1) := by decide +kernel
theorem dX0_changeBeads_8 : decode cX0_changeBeads 8 = .ok (.getfield 15, 3) := by decide +kernel
theorem dX0_changeBeads_11 : decode cX0_changeBeads 11 = .ok (.iload_n 1, 1) := by decide +kernel
theorem dX0_changeBeads_12 : decode cX0_changeBeads 12 = .ok (.aload_n 0, 1) := by decide +kernel
theorem dX0_changeBeads_13 : decode cX0_changeBeads 13 = .ok (.getfield 15, 3) := by decide +kernel
theorem dX0_changeBeads_16 : decode cX0_changeBeads 16 = .ok (.iload_n 2, 1) := by decide +kernel
theorem dX0_changeBeads_17 : decode cX0_changeBeads 17 = .ok (.iaload, 1) := by decide +kernel
theorem dX0_changeBeads_18 : decode cX0_changeBeads 18 = .ok (.iastore, 1) := by decide +kernel
theorem dX0_changeBeads_19 : decode cX0_changeBeads 19 = .ok (.aload_n 0, 1) := by decide +kernel
theorem dX0_changeBeads_20 : decode cX0_changeBeads 20 = .ok (.getfield 15, 3) := by decide +kernel
theorem dX0_changeBeads_23 : decode cX0_changeBeads 23 = .ok (.iload_n 2, 1) := by decide +kernel
theorem dX0_changeBeads_24 : decode cX0_changeBeads 24 = .ok (.iload_n 3, 1) := by decide +kernel
theorem dX0_changeBeads_25 : decode cX0_changeBeads 25 = .ok (.iastore, 1) := by decide +kernel
theorem dX0_changeBeads_26 : decode cX0_changeBeads 26 = .ok (.return_, 1) := by decide +kernel
theorem dX0_find_0 : decode cX0_find 0 = .ok (.iconst 0, 1) := by decide +kernel
theorem dX0_find_1 : decode cX0_find 1 = .ok (.istore_n 2, 1) := by decide +kernel
theorem dX0_find_2 : decode cX0_find 2 = .ok (.aload_n 0, 1) := by decide +kernel
theorem dX0_find_3 : decode cX0_find 3 = .ok (.getfield 18, 3) := by decide +kernel
theorem dX0_find_6 : decode cX0_find 6 = .ok (.iconst 1, 1) := by decide +kernel
theorem dX0_find_7 : decode cX0_find 7 = .ok (.isub, 1) := by decide +kernel
theorem dX0_find_8 : decode cX0_find 8 = .ok (.istore_n 3, 1) := by decide +kernel
theorem dX0_find_9 : decode cX0_find 9 = .ok (.iload_n 2, 1) := by decide +kernel
theorem dX0_find_10 : decode cX0_find 10 = .ok (.iload_n 3, 1) := by decide +kernel
theorem dX0_find_11 : decode cX0_find 11 = .ok (.if_icmp .gt 51, 3) := by decide +kernel
theorem dX0_find_62 : decode cX0_find 62 = .ok (.iconst (-1), 1) := by decide +kernel
theorem dX0_find_63 : decode cX0_find 63 = .ok (.ireturn, 1) := by decide +kernel
theorem dX0_find_14 : decode cX0_find 14 = .ok (.iload_n 2, 1) := by decide +kernel
theorem dX0_find_15 : decode cX0_find 15 = .ok (.iload_n 3, 1) := by decide +kernel
theorem dX0_find_16 : decode cX0_find 16 = .ok (.iadd, 1) := by decide +kernel
theorem dX0_find_17 : decode cX0_find 17 = .ok (.iconst 1, 1) := by decide +kernel
theorem dX0_find_18 : decode cX0_find 18 = .ok (.ishr, 1) := by decide +kernel
theorem dX0_find_19 : decode cX0_find 19 = .ok (.istore 4, 2) := by decide +kernel
theorem dX0_find_21 : decode cX0_find 21 = .ok (.aload_n 0, 1) := by decide +kernel
theorem dX0_find_22 : decode cX0_find 22 = .ok (.getfield 9, 3) := by decide +kernel
theorem dX0_find_25 : decode cX0_find 25 = .ok (.iload 4, 2) := by decide +kernel
theorem dX0_find_27 : decode cX0_find 27 = .ok (.iaload, 1) := by decide +kernel
theorem dX0_find_28 : decode cX0_find 28 = .ok (.iload_n 1, 1) := by decide +kernel
theorem dX0_find_29 : decode cX0_find 29 = .ok (.if_icmp .ne 6, 3) := by decide +kernel
theorem dX0_find_35 : decode cX0_find 35 = .ok (.aload_n 0, 1) := by decide +kernel
theorem dX0_find_36 : decode cX0_find 36 = .ok (.getfield 9, 3) := by decide +kernel
theorem dX0_find_39 : decode cX0_find 39 = .ok (.iload 4, 2) := by decide +kernel
theorem dX0_find_41 : decode cX0_find 41 = .ok (.iaload, 1) := by decide +kernel
theorem dX0_find_42 : decode cX0_find 42 = .ok (.iload_n 1, 1) := by decide +kernel
theorem dX0_find_43 : decode cX0_find 43 = .ok (.if_icmp .ge 11, 3) := by decide +kernel
theorem dX0_find_54 : decode cX0_find 54 = .ok (.iload 4, 2) := by decide +kernel
theorem dX0_find_56 : decode cX0_find 56 = .ok (.iconst 1, 1) := by decide +kernel
theorem dX0_find_57 : decode cX0_find 57 = .ok (.isub, 1) := by decide +kernel
theorem dX0_find_58 : decode cX0_find 58 = .ok (.istore_n 3, 1) := by decide +kernel
theorem dX0_find_59 : decode cX0_find 59 = .ok (.goto (-50), 3) := by decide +kernel
theorem dX0_find_46 : decode cX0_find 46 = .ok (.iload 4, 2) := by decide +kernel
theorem dX0_find_48 : decode cX0_find 48 = .ok (.iconst 1, 1) := by decide +kernel
theorem dX0_find_49 : decode cX0_find 49 = .ok (.iadd, 1) := by decide +kernel
theorem dX0_find_50 : decode cX0_find 50 = .ok (.istore_n 2, 1) := by decide +kernel
theorem dX0_find_51 : decode cX0_find 51 = .ok (.goto 8, 3) := by decide +kernel
theorem dX0_find_32 : decode cX0_find 32 = .ok (.iload 4, 2) := by decide +kernel
theorem dX0_find_34 : decode cX0_find 34 = .ok (.ireturn, 1) := by decide +kernel
theorem dX0_nextOrder_0 : decode cX0_nextOrder 0 = .ok (.aload_n 0, 1) := by decide +kernel
theorem dX0_nextOrder_1 : decode cX0_nextOrder 1 = .ok (.getfield 22, 3) := by decide +kernel
theorem dX0_nextOrder_4 : decode cX0_nextOrder 4 = .ok (.iconst 2, 1) := by decide +kernel
theorem dX0_nextOrder_5 : decode cX0_nextOrder 5 = .ok (.isub, 1) := by decide +kernel
theorem dX0_nextOrder_6 : decode cX0_nextOrder 6 = .ok (.istore_n 1, 1) := by decide +kernel
theorem dX0_nextOrder_7 : decode cX0_nextOrder 7 = .ok (.iload_n 1, 1) := by decide +kernel
theorem dX0_nextOrder_8 : decode cX0_nextOrder 8 = .ok (.ifCond .lt 26, 3) := by decide +kernel
theorem dX0_nextOrder_34 : decode cX0_nextOrder 34 = .ok (.iload_n 1, 1) := by decide +kernel
theorem dX0_nextOrder_35 : decode cX0_nextOrder 35 = .ok (.ifCond .ge 5, 3) := by decide +kernel
theorem dX0_nextOrder_38 : decode cX0_nextOrder 38 = .ok (.iconst 0, 1) := by decide +kernel
theorem dX0_nextOrder_39 : decode cX0_nextOrder 39 = .ok (.ireturn, 1) := by decide +kernel
theorem dX0_nextOrder_11 : decode cX0_nextOrder 11 = .ok (.aload_n 0, 1) := by decide +kernel
theorem dX0_nextOrder_12 : decode cX0_nextOrder 12 = .ok (.getfield 15, 3) := by decide +kernel
theorem dX0_nextOrder_15 : decode cX0_nextOrder 15 = .ok (.iload_n 1, 1) := by decide +kernel
theorem dX0_nextOrder_16 : decode cX0_nextOrder 16 = .ok (.iaload, 1) := by decide +kernel
theorem dX0_nextOrder_17 : decode cX0_nextOrder 17 = .ok (.aload_n 0, 1) := by decide +kernel
theorem dX0_nextOrder_18 : decode cX0_nextOrder 18 = .ok (.getfield 15, 3) := by decide +kernel
theorem dX0_nextOrder_21 : decode cX0_nextOrder 21 = .ok (.iload_n 1, 1) := by decide +kernel
theorem dX0_nextOrder_22 : decode cX0_nextOrder 22 = .ok (.iconst 1, 1) := by decide +kernel
theorem dX0_nextOrder_23 : decode cX0_nextOrder 23 = .ok (.iadd, 1) := by decide +kernel
theorem dX0_nextOrder_24 : decode cX0_nextOrder 24 = .ok (.iaload, 1) := by decide +kernel
theorem dX0_nextOrder_25 : decode cX0_nextOrder 25 = .ok (.if_icmp .lt 9, 3) := by decide +kernel
theorem dX0_nextOrder_40 : decode cX0_nextOrder 40 = .ok (.aload_n 0, 1) := by decide +kernel
theorem dX0_nextOrder_41 : decode cX0_nextOrder 41 = .ok (.getfield 22, 3) := by decide +kernel
theorem dX0_nextOrder_44 : decode cX0_nextOrder 44 = .ok (.iconst 1, 1) := by decide +kernel
theorem dX0_nextOrder_45 : decode cX0_nextOrder 45 = .ok (.isub, 1) := by decide +kernel
theorem dX0_nextOrder_46 : decode cX0_nextOrder 46 = .ok (.istore_n 2, 1) := by decide +kernel
theorem dX0_nextOrder_47 : decode cX0_nextOrder 47 = .ok (.iload_n 2, 1) := by decide +kernel
theorem dX0_nextOrder_48 : decode cX0_nextOrder 48 = .ok (.iload_n 1, 1) := by decide +kernel
theorem dX0_nextOrder_49 : decode cX0_nextOrder 49 = .ok (.if_icmp .le 24, 3) := by decide +kernel
theorem dX0_nextOrder_52 : decode cX0_nextOrder 52 = .ok (.aload_n 0, 1) := by decide +kernel
theorem dX0_nextOrder_53 : decode cX0_nextOrder 53 = .ok (.getfield 15, 3) := by decide +kernel
theorem dX0_nextOrder_56 : decode cX0_nextOrder 56 = .ok (.iload_n 2, 1) := by decide +kernel
theorem dX0_nextOrder_57 : decode cX0_nextOrder 57 = .ok (.iaload, 1) := by decide +kernel
theorem dX0_nextOrder_58 : decode cX0_nextOrder 58 = .ok (.aload_n 0, 1) := by decide +kernel
theorem dX0_nextOrder_59 : decode cX0_nextOrder 59 = .ok (.getfield 15, 3) := by decide +kernel
theorem dX0_nextOrder_62 : decode cX0_nextOrder 62 = .ok (.iload_n 1, 1) := by decide +kernel
theorem dX0_nextOrder_63 : decode cX0_nextOrder 63 = .ok (.iaload, 1) := by decide +kernel
theorem dX0_nextOrder_64 : decode cX0_nextOrder 64 = .ok (.if_icmp .gt 9, 3) := by decide +kernel
theorem dX0_nextOrder_73 : decode cX0_nextOrder 73 = .ok (.aload_n 0, 1) := by decide +kernel
theorem dX0_nextOrder_74 : decode cX0_nextOrder 74 = .ok (.iload_n 1, 1) := by decide +kernel
theorem dX0_nextOrder_75 : decode cX0_nextOrder 75 = .ok (.iload_n 2, 1) := by decide +kernel
theorem dX0_nextOrder_76 : decode cX0_nextOrder 76 = .ok (.invokevirtual 37, 3) := by decide +kernel
theorem dX0_nextOrder_79 : decode cX0_nextOrder 79 = .ok (.iload_n 1, 1) := by decide +kernel
theorem dX0_nextOrder_80 : decode cX0_nextOrder 80 = .ok (.iconst 1, 1) := by decide +kernel
theorem dX0_nextOrder_81 : decode cX0_nextOrder 81 = .ok (.iadd, 1) := by decide +kernel
theorem dX0_nextOrder_82 : decode cX0_nextOrder 82 = .ok (.istore_n 3, 1) := by decide +kernel
theorem dX0_nextOrder_83 : decode cX0_nextOrder 83 = .ok (.aload_n 0, 1) := by decide +kernel
theorem dX0_nextOrder_84 : decode cX0_nextOrder 84 = .ok (.getfield 22, 3) := by decide +kernel
theorem dX0_nextOrder_87 : decode cX0_nextOrder 87 = .ok (.iconst 1, 1) := by decide +kernel
theorem dX0_nextOrder_88 : decode cX0_nextOrder 88 = .ok (.isub, 1) := by decide +kernel
theorem dX0_nextOrder_89 : decode cX0_nextOrder 89 = .ok (.istore 4, 2) := by decide +kernel
theorem dX0_nextOrder_91 : decode cX0_nextOrder 91 = .ok (.iload_n 3, 1) := by decide +kernel
theorem dX0_nextOrder_92 : decode cX0_nextOrder 92 = .ok (.iload 4, 2) := by decide +kernel
theorem dX0_nextOrder_94 : decode cX0_nextOrder 94 = .ok (.if_icmp .ge 19, 3) := by decide +kernel
theorem dX0_nextOrder_113 : decode cX0_nextOrder 113 = .ok (.iconst 1, 1) := by decide +kernel
theorem dX0_nextOrder_114 : decode cX0_nextOrder 114 = .ok (.ireturn, 1) := by decide +kernel
theorem dX0_nextOrder_97 : decode cX0_nextOrder 97 = .ok (.aload_n 0, 1) := by decide +kernel
theorem dX0_nextOrder_98 : decode cX0_nextOrder 98 = .ok (.iload_n 3, 1) := by decide +kernel
theorem dX0_nextOrder_99 : decode cX0_nextOrder 99 = .ok (.iload 4, 2) := by decide +kernel
theorem dX0_nextOrder_101 : decode cX0_nextOrder 101 = .ok (.invokevirtual 37, 3) := by decide +kernel
theorem dX0_nextOrder_104 : decode cX0_nextOrder 104 = .ok (.iinc 3 1, 3) := by decide +kernel
theorem dX0_nextOrder_107 : decode cX0_nextOrder 107 = .ok (.iinc 4 (-1), 3) := by decide +kernel
theorem dX0_nextOrder_110 : decode cX0_nextOrder 110 = .ok (.goto (-19), 3) := by decide +kernel
theorem dX0_nextOrder_67 : decode cX0_nextOrder 67 = .ok (.iinc 2 (-1), 3) := by decide +kernel
theorem dX0_nextOrder_70 : decode cX0_nextOrder 70 = .ok (.goto (-23), 3) := by decide +kernel
theorem dX0_nextOrder_28 : decode cX0_nextOrder 28 = .ok (.iinc 1 (-1), 3) := by decide +kernel
theorem dX0_nextOrder_31 : decode cX0_nextOrder 31 = .ok (.goto (-24), 3) := by decide +kernel
theorem v_1 {a0 : Int} (h0 : zr a0) : zr a0 := by omega
theorem v_2 : (0 : Int) ≤ 0 := by omega
theorem v_3 : (0 : Int) ≤ 1 := by omega
theorem v_4 {a0 : Int} (h0 : a0 < 0) : a0 < 0 := by omega
theorem v_5 {a0 : Int} (h0 : zr a0) (h1 : ¬ a0 < 0) : zr a0 := by omega
theorem v_6 {a0 : Int} (h0 : 1 ≤ a0) (h1 : a0 ≤ 1260) : zr a0 := by omega
theorem v_7 {a0 a1 : Int} (h0 : a0 ≤ a1) : a0 ≤ a1 := by omega
theorem v_8 : (1 : Int) ≤ 1 := by omega
theorem v_9 {a0 : Int} (h0 : ¬ a0 < 0) : 0 ≤ a0 := by omega
theorem v_10 {a0 a1 : Int} (h0 : ¬ a0 ≤ a1) : a1 < a0 := by omega
theorem v_11 {a0 a1 : Int} (h0 : 0 ≤ a0) (h1 : a0 < a1) (h2 : a1 ≤ 1260) : zr a0 := by omega
theorem v_12 {a0 : Int} (h0 : 1 ≤ a0) : 1 ≤ a0 := by omega
theorem v_13 {a0 : Int} (h0 : a0 ≤ 1260) : a0 ≤ 1260 := by omega
theorem v_14 : zr (1 : Int) := by omega
theorem v_15 : ¬ (1 : Int) = 0 := by omega
theorem v_16 {a0 : Int} (h0 : 0 ≤ a0) : 0 ≤ a0 := by omega
theorem v_17 {a0 a1 : Int} (h0 : a0 < a1) (h1 : a1 ≤ 1260) : a0 < 1260 := by omega
theorem v_18 {a0 a1 : Int} (h0 : a0 = a1) : a0 = a1 := by omega
theorem v_19 {a0 : Int} (h0 : 0 ≤ a0) (h1 : a0 < 0) : False := by omega
theorem v_20 {a0 a1 : Int} (h0 : a0 < a1) (h1 : a1 ≤ a0) : False := by omega
theorem v_21 {a0 a1 : Int} : a0 - 1 - a1 = -a1 + a0 - 1 := by omega
theorem v_22 {a0 a1 : Int} : 3 * (-a0 + a1 - 1) = -3 * a0 + 3 * a1 - 3 := by omega
theorem v_23 {a0 : Int} (h0 : a0 ≤ 7) : a0 ≤ 7 := by omega
theorem v_24 {a0 : Int} (h0 : a0 < 7) : a0 < 7 := by omega
theorem v_25 {a0 : Int} (h0 : 1 ≤ a0) : 0 ≤ a0 := by omega
theorem v_26 {a0 : Int} : (a0 - 1) < a0 := by omega
theorem v_27 {a0 : Int} (h0 : 1 ≤ a0) : -1 ≤ (a0 - 1) := by omega
theorem v_28 {a0 a1 : Int} (h0 : a0 ≤ 1260) (h1 : 0 ≤ a1) (h2 : a1 ≤ a0) : zr a1 := by omega
theorem v_29 {a0 a1 : Int} (h0 : a0 ≤ 1260) (h1 : a1 < a0) (h2 : -1 ≤ a1) : zr a1 := by omega
theorem v_30 : -(1 : Int) ≤ (-1) := by omega
theorem v_31 {a0 : Int} (h0 : 1 ≤ a0) : (-1) < a0 := by omega
theorem v_32 {a0 a1 : Int} : a0 + a1 = a1 + a0 := by omega
theorem v_33 {a0 a1 a2 : Int} (h0 : a0 ≤ 1260) (h1 : 0 ≤ a1) (h2 : a2 < a0) (h3 : ¬ a2 < a1) : zr ((a2 + a1)) := by omega
theorem v_34 {a0 a1 : Int} (h0 : 0 ≤ a0) (h1 : ¬ a1 < a0) : 0 ≤ a1 + a0 := by omega
theorem v_35 {a0 a1 a2 : Int} (h0 : 0 ≤ a0) (h1 : ¬ a1 < a0) (h2 : a1 + a0 ≤ 2 * a2 + 1) : 0 ≤ a2 := by omega
theorem v_36 {a0 a1 a2 a3 : Int} (h0 : a0 ≤ 1260) (h1 : a1 < a0) (h2 : ¬ a1 < a2) (h3 : 2 * a3 ≤ a1 + a2) : a3 < 1260 := by omega
theorem v_37 {a0 : Int} (h0 : -2147483648 ≤ a0) (h1 : a0 ≤ 2147483647) : zr a0 := by omega
theorem v_38 {a0 a1 a2 : Int} (h0 : a0 < a1) (h1 : ¬ a0 < a2) : a2 ≤ a1 := by omega
theorem v_39 {a0 a1 a2 a3 : Int} (h0 : a0 ≤ a1) (h1 : a2 < a1) (h2 : 2 * a3 ≤ a2 + a0) : (a3 - 1) < a1 := by omega
theorem v_40 {a0 a1 a2 : Int} (h0 : 0 ≤ a0) (h1 : ¬ a1 < a0) (h2 : a1 + a0 ≤ 2 * a2 + 1) : -1 ≤ (a2 - 1) := by omega
theorem v_41 {a0 a1 a2 : Int} (h0 : ¬ a0 < a1) (h1 : 2 * a2 ≤ a0 + a1) : (a2 - 1) - a1 + 1 < (a0 - a1 + 1) := by omega
theorem v_42 {a0 a1 : Int} (h0 : ¬ a0 < a1) : 0 < a0 - a1 + 1 := by omega
theorem v_43 {a0 a1 a2 : Int} (h0 : 0 ≤ a0) (h1 : -1 ≤ a1) (h2 : a1 + a0 ≤ 2 * a2 + 1) : 0 ≤ (a2 + 1) := by omega
theorem v_44 {a0 a1 a2 a3 : Int} (h0 : a0 ≤ a1) (h1 : a2 < a1) (h2 : 2 * a3 ≤ a2 + a0) : (a3 + 1) ≤ a1 := by omega
theorem v_45 {a0 a1 : Int} (h0 : a0 < a1) : a0 < a1 := by omega
theorem v_46 {a0 : Int} (h0 : -1 ≤ a0) : -1 ≤ a0 := by omega
theorem v_47 {a0 a1 a2 : Int} (h0 : ¬ a0 < a1) (h1 : a0 + a1 ≤ 2 * a2 + 1) : a0 - (a2 + 1) + 1 < (a0 - a1 + 1) := by omega
theorem v_48 {a0 a1 a2 : Int} (h0 : 0 ≤ a0) (h1 : -1 ≤ a1) (h2 : a1 + a0 ≤ 2 * a2 + 1) : -1 ≤ a2 := by omega
theorem v_49 {a0 a1 a2 a3 : Int} (h0 : a0 ≤ a1) (h1 : a2 < a1) (h2 : 2 * a3 ≤ a2 + a0) : a3 < a1 := by omega
theorem v_50 {a0 : Int} (h0 : 0 ≤ a0) : -2 ≤ (a0 - 2) := by omega
theorem v_51 {a0 : Int} : (a0 - 2) ≤ a0 - 2 := by omega
theorem v_52 {a0 a1 : Int} (h0 : a0 ≤ 7) (h1 : -2 ≤ a1) (h2 : a1 ≤ a0 - 2) : zr a1 := by omega
theorem v_53 {a0 : Int} (h0 : -2 ≤ a0) (h1 : a0 < 0) : zr a0 := by omega
theorem v_54 {a0 : Int} (h0 : a0 < 0) : ¬ 0 ≤ a0 := by omega
theorem v_55 {a0 a1 : Int} (h0 : a0 ≤ 7) (h1 : a1 ≤ a0 - 2) : a1 < 7 := by omega
theorem v_56 {a0 : Int} (h0 : ¬ a0 < 0) : 0 ≤ a0 + 1 := by omega
theorem v_57 {a0 a1 : Int} (h0 : a0 ≤ 7) (h1 : a1 ≤ a0 - 2) : a1 + 1 < 7 := by omega
theorem v_58 {a0 : Int} (h0 : 0 ≤ a0) (h1 : a0 ≤ 4) : zr a0 := by omega
theorem v_59 {a0 a1 : Int} (h0 : a0 ≤ 7) (h1 : a1 ≤ a0 - 2) (h2 : ¬ a1 < 0) : zr a1 := by omega
theorem v_60 {a0 a1 : Int} (h0 : a0 ≤ a1 - 2) : a0 + 1 ≤ (a1 - 1) := by omega
theorem v_61 {a0 : Int} : (a0 - 1) ≤ a0 - 1 := by omega
theorem v_62 {a0 a1 a2 : Int} (h0 : a0 ≤ 7) (h1 : ¬ a1 < 0) (h2 : a1 + 1 ≤ a2) (h3 : a2 ≤ a0 - 1) : zr a2 := by omega
theorem v_63 {a0 a1 : Int} (h0 : a0 + 1 ≤ a1) : ¬ a1 ≤ a0 := by omega
theorem v_64 {a0 a1 : Int} (h0 : ¬ a0 < 0) (h1 : a0 + 1 ≤ a1) : 0 ≤ a1 := by omega
theorem v_65 {a0 a1 : Int} (h0 : a0 ≤ 7) (h1 : a1 ≤ a0 - 1) : a1 < 7 := by omega
theorem v_66 {a0 : Int} : a0 < (a0 + 1) := by omega
theorem v_67 {a0 a1 : Int} (h0 : a0 ≤ a1 - 2) : (a0 + 1) ≤ a1 := by omega
theorem v_68 {a0 : Int} (h0 : 0 ≤ a0) : -1 ≤ (a0 - 1) := by omega
theorem v_69 {a0 a1 : Int} : (a0 + 1) + (a1 - 1) = a0 + a1 := by omega
theorem v_70 {a0 a1 a2 : Int} (h0 : a0 ≤ 7) (h1 : ¬ a1 < 0) (h2 : a1 < a2) (h3 : a2 ≤ a0) : zr a2 := by omega
theorem v_71 {a0 a1 : Int} (h0 : a0 ≤ 7) (h1 : a1 < a0) (h2 : -1 ≤ a1) : zr a1 := by omega
theorem v_72 {a0 a1 a2 a3 : Int} (h0 : a0 + a1 = a2 + a3) : a0 + a1 = a2 + 1 + (a3 - 1) := by omega
theorem v_73 {a0 a1 : Int} (h0 : a0 ≤ a1) : ¬ a1 < a0 := by omega
theorem v_74 {a0 a1 : Int} (h0 : a0 ≤ a1) : a0 ≤ a1 - 1 + 1 := by omega
theorem v_75 {a0 a1 : Int} (h0 : a0 < a1) : a0 + 1 ≤ a1 := by omega
theorem v_76 {a0 a1 : Int} (h0 : ¬ a0 < 0) (h1 : a0 < a1) : 0 ≤ a1 := by omega
theorem v_77 {a0 a1 a2 : Int} (h0 : a0 ≤ 7) (h1 : a1 < a0) (h2 : ¬ a1 ≤ a2) : a2 < 7 := by omega
theorem v_78 {a0 a1 a2 : Int} (h0 : ¬ a0 < 0) (h1 : a0 < a1) (h2 : ¬ a2 ≤ a1) : 0 ≤ a2 := by omega
theorem v_79 {a0 a1 : Int} (h0 : a0 ≤ 7) (h1 : a1 < a0) : a1 < 7 := by omega
theorem v_80 {a0 : Int} : a0 + (-1) = a0 - 1 := by omega
theorem v_81 {a0 a1 : Int} (h0 : a0 < a1) : a0 < (a1 + 1) := by omega
theorem v_82 {a0 a1 a2 a3 : Int} (h0 : a0 ≤ a1 - 2) (h1 : a2 + a3 = a0 + a1) (h2 : ¬ a3 ≤ a2) : (a2 + 1) ≤ a1 := by omega
theorem v_83 {a0 a1 : Int} (h0 : a0 < a1) : (a0 - 1) < a1 := by omega
theorem v_84 {a0 a1 a2 : Int} (h0 : ¬ a0 < 0) (h1 : a0 < a1) (h2 : ¬ a2 ≤ a1) : -1 ≤ (a2 - 1) := by omega
theorem v_85 {a0 a1 a2 a3 : Int} (h0 : a0 + a1 = a2 + a3) : (a0 + 1) + (a1 - 1) = a2 + a3 := by omega
theorem v_86 {a0 : Int} : a0 + 1 = a0 + 1 := by omega
theorem v_87 {a0 a1 : Int} : (a0 - 1) - (a1 + 1) + 8 < (a0 - a1 + 8) := by omega
theorem v_88 {a0 a1 : Int} (h0 : ¬ a0 ≤ a1) : 0 < a0 - a1 + 8 := by omega
theorem v_89 {a0 a1 : Int} (h0 : ¬ a0 < a1) : a1 ≤ a0 := by omega
theorem v_90 {a0 a1 : Int} (h0 : a0 ≤ a1 - 1) : (a0 - 1) ≤ a1 - 1 := by omega
theorem v_91 {a0 : Int} : (a0 - 1) + 1 < (a0 + 1) := by omega
theorem v_92 {a0 a1 : Int} (h0 : ¬ a0 < 0) (h1 : a0 + 1 ≤ a1) : 0 < a1 + 1 := by omega
theorem v_93 {a0 : Int} (h0 : ¬ a0 < 0) : -2 ≤ (a0 - 1) := by omega
theorem v_94 {a0 a1 : Int} (h0 : a0 ≤ a1 - 2) : (a0 - 1) ≤ a1 - 2 := by omega
theorem v_95 {a0 : Int} : (a0 - 1) + 2 < (a0 + 2) := by omega
theorem v_96 {a0 : Int} (h0 : ¬ a0 < 0) : 0 < a0 + 2 := by omega
set_option maxHeartbeats 4000000 in
set_option maxRecDepth 100000 in
theorem g_many {l : Launch} {G : jG} {nh : Nat} {fh : Nat → Option va_E} (many : Int) (places : Int) (hk51 : fh 51 = some (.inr (0, [.ref 52, .ref 53, .int (zI many), .int (zI places)]))) : JM l G yX0_many MX0_many { frames := 0, cells := 0, slots := 0, locals := 0 } [.ref 51] (nh, fh) (fun rr h9 => rr = some (.int (zI many)) ∧ h9 = (nh, fh)) := by
  refine JM.of (by decide) rfl (fun h => by cases h) (Nat.le_of_ble_eq_true rfl) ⟨0, rfl⟩ ?_
  refine J_hc0 (J_ls (ls2 := [some (.ref 51)]) rfl ?_)
  refine J_aload_n dX0_many_0 rfl rfl ?_
  refine J_get (v := .int (zI many)) dX0_many_1 fl_X0_18 hk51 rfl ?_
  exact J_iret dX0_many_4 rfl rfl (Nat.le_of_ble_eq_true rfl) (Nat.le_of_ble_eq_true rfl) ⟨rfl, rfl⟩
set_option maxHeartbeats 4000000 in
set_option maxRecDepth 100000 in
theorem g_places {l : Launch} {G : jG} {nh : Nat} {fh : Nat → Option va_E} (many : Int) (places : Int) (hk51 : fh 51 = some (.inr (0, [.ref 52, .ref 53, .int (zI many), .int (zI places)]))) : JM l G yX0_places MX0_places { frames := 0, cells := 0, slots := 0, locals := 0 } [.ref 51] (nh, fh) (fun rr h9 => rr = some (.int (zI places)) ∧ h9 = (nh, fh)) := by
  refine JM.of (by decide) rfl (fun h => by cases h) (Nat.le_of_ble_eq_true rfl) ⟨0, rfl⟩ ?_
  refine J_hc0 (J_ls (ls2 := [some (.ref 51)]) rfl ?_)
  refine J_aload_n dX0_places_0 rfl rfl ?_
  refine J_get (v := .int (zI places)) dX0_places_1 fl_X0_22 hk51 rfl ?_
  exact J_iret dX0_places_4 rfl rfl (Nat.le_of_ble_eq_true rfl) (Nat.le_of_ble_eq_true rfl) ⟨rfl, rfl⟩
set_option maxHeartbeats 4000000 in
set_option maxRecDepth 100000 in
theorem g_has {l : Launch} {G : jG} {nh : Nat} {fh : Nat → Option va_E} (x : Int) (many : Int) (places : Int) (q0 : zr x) (q1 : 1 ≤ many) (q2 : many ≤ 1260) (hk51 : fh 51 = some (.inr (0, [.ref 52, .ref 53, .int (zI many), .int (zI places)]))) : JM l G yX0_has MX0_has { frames := 0, cells := 0, slots := 0, locals := 0 } [.ref 51, .int (zI x)] (nh, fh) (fun rr h9 => (rr = some (.int (zI 1)) ∧ h9 = (nh, fh) ∧ (0 ≤ x) ∧ (x < many)) ∨ (rr = some (.int (zI 0)) ∧ h9 = (nh, fh) ∧ (x < 0)) ∨ (rr = some (.int (zI 0)) ∧ h9 = (nh, fh) ∧ (many ≤ x))) := by
  refine JM.of (by decide) rfl (fun h => by cases h) (Nat.le_of_ble_eq_true rfl) ⟨0, rfl⟩ ?_
  refine J_hc0 (J_ls (ls2 := [some (.ref 51), some (.int (zI x))]) rfl ?_)
  refine J_iload_n dX0_has_0 rfl rfl ?_
  refine Z_if_lt (tgt := 16) dX0_has_1 (by decide) (v_1 q0) (fun h1 => ?_) (fun h1 => ?_)
  · refine Z_iconst (n := 0) dX0_has_16 ?_
    exact J_iret dX0_has_17 rfl (jbn v_2 v_3) (Nat.le_of_ble_eq_true rfl) (Nat.le_of_ble_eq_true rfl) (Or.inr (Or.inl ⟨rfl, rfl, (v_4 h1)⟩))
  · refine J_iload_n dX0_has_4 rfl rfl ?_
    refine J_aload_n dX0_has_5 rfl rfl ?_
    refine J_get (v := .int (zI many)) dX0_has_6 fl_X0_18 hk51 rfl ?_
    refine Z_icmp_ge (tgt := 16) dX0_has_9 (by decide) (v_5 q0 h1) (v_6 q1 q2) (fun h2 => ?_) (fun h2 => ?_)
    · refine Z_iconst (n := 0) dX0_has_16 ?_
      exact J_iret dX0_has_17 rfl (jbn v_2 v_3) (Nat.le_of_ble_eq_true rfl) (Nat.le_of_ble_eq_true rfl) (Or.inr (Or.inr ⟨rfl, rfl, (v_7 h2)⟩))
    · refine Z_iconst (n := 1) dX0_has_12 ?_
      refine J_goto (tgt := 17) dX0_has_13 (by decide) ?_
      exact J_iret dX0_has_17 rfl (jbn v_3 v_8) (Nat.le_of_ble_eq_true rfl) (Nat.le_of_ble_eq_true rfl) (Or.inl ⟨rfl, rfl, (v_9 h1), (v_10 h2)⟩)
set_option maxHeartbeats 4000000 in
set_option maxRecDepth 100000 in
theorem g_rowOf {l : Launch} {G : jG} {nh : Nat} {fh : Nat → Option va_E} (x : Int) (many : Int) (places : Int) (rf : Int → Int) (q0 : 0 ≤ x) (q1 : x < many) (q2 : 1 ≤ many) (q3 : many ≤ 1260) (hk51 : fh 51 = some (.inr (0, [.ref 52, .ref 53, .int (zI many), .int (zI places)]))) (hk52 : fh 52 = some (.inl (0, 1260, .inl (zA rf)))) : JM l G yX0_rowOf MX0_rowOf { frames := 1, cells := 0, slots := 0, locals := 21 } [.ref 51, .int (zI x)] (nh, fh) (fun rr h9 => ∃ r : Int, rr = some (.int (zI r)) ∧ h9 = (nh, fh) ∧ (rf x = r)) := by
  refine JM.of (by decide) rfl (fun h => by cases h) (Nat.le_of_ble_eq_true rfl) ⟨0, rfl⟩ ?_
  refine J_hc0 (J_ls (ls2 := [some (.ref 51), some (.int (zI x))]) rfl ?_)
  refine J_aload_n dX0_rowOf_0 rfl rfl ?_
  refine J_iload_n dX0_rowOf_1 rfl rfl ?_
  refine J_callV (st := []) dX0_rowOf_2 cv_X0_41 (g_has x many places (v_11 q0 q1 q3) (v_12 q2) (v_13 q3) hk51) hk51 rfl rfl (Nat.le_of_ble_eq_true rfl) ⟨(Nat.le_of_ble_eq_true rfl), (Nat.le_of_ble_eq_true rfl)⟩ ⟨(Nat.le_of_ble_eq_true rfl), (Nat.le_of_ble_eq_true rfl)⟩ (fun r h9 hp => ?_)
  rcases hp with ⟨rfl, rfl, h1, h2⟩ | ⟨rfl, rfl, h3⟩ | ⟨rfl, rfl, h4⟩
  · refine J_nf (nh2 := nh) (ck2 := 0) (sk2 := 0) (st2 := [.int (zI 1)]) rfl rfl rfl rfl ?_
    refine Z_if_eq (tgt := 17) dX0_rowOf_5 (by decide) v_14 (fun h5 => absurd h5 v_15) (fun h5 => ?_)
    refine J_aload_n dX0_rowOf_8 rfl rfl ?_
    refine J_get (v := .ref 52) dX0_rowOf_9 fl_X0_9 hk51 rfl ?_
    refine J_iload_n dX0_rowOf_12 rfl rfl ?_
    obtain ⟨z6, ez6⟩ : ∃ z : Int, rf x = z := ⟨_, rfl⟩
    refine Y_iald (z := z6) 1260 dX0_rowOf_13 hk52 rfl (by decide) (v_16 q0) (v_17 q1 q3) ez6 ?_
    refine J_goto (tgt := 18) dX0_rowOf_14 (by decide) ?_
    exact J_iret dX0_rowOf_18 rfl rfl (Nat.le_of_ble_eq_true rfl) (Nat.le_of_ble_eq_true rfl) ⟨z6, rfl, rfl, (v_18 ez6)⟩
  · exact False.elim (v_19 q0 h3)
  · exact False.elim (v_20 q1 h4)
set_option maxHeartbeats 4000000 in
set_option maxRecDepth 100000 in
theorem g_shiftOf {l : Launch} {G : jG} {nh : Nat} {fh : Nat → Option va_E} (p : Int) (many : Int) (places : Int) (q0 : 0 ≤ p) (q1 : p ≤ 7) (q2 : 0 ≤ places) (q3 : places ≤ 7) (hk51 : fh 51 = some (.inr (0, [.ref 52, .ref 53, .int (zI many), .int (zI places)]))) : JM l G yX0_shiftOf MX0_shiftOf { frames := 0, cells := 0, slots := 0, locals := 0 } [.ref 51, .int (zI p)] (nh, fh) (fun rr h9 => rr = some (.int (zI (-3 * p + 3 * places - 3))) ∧ h9 = (nh, fh)) := by
  refine JM.of (by decide) rfl (fun h => by cases h) (Nat.le_of_ble_eq_true rfl) ⟨0, rfl⟩ ?_
  refine J_hc0 (J_ls (ls2 := [some (.ref 51), some (.int (zI p))]) rfl ?_)
  refine Z_iconst (n := 3) dX0_shiftOf_0 ?_
  refine J_aload_n dX0_shiftOf_1 rfl rfl ?_
  refine J_get (v := .int (zI places)) dX0_shiftOf_2 fl_X0_22 hk51 rfl ?_
  refine Z_iconst (n := 1) dX0_shiftOf_5 ?_
  refine Z_isub (c := places - 1) dX0_shiftOf_6 rfl ?_
  refine J_iload_n dX0_shiftOf_7 rfl rfl ?_
  refine Z_isub (c := -p + places - 1) dX0_shiftOf_8 v_21 ?_
  refine Z_imul (c := -3 * p + 3 * places - 3) dX0_shiftOf_9 v_22 ?_
  exact J_iret dX0_shiftOf_10 rfl rfl (Nat.le_of_ble_eq_true rfl) (Nat.le_of_ble_eq_true rfl) ⟨rfl, rfl⟩
set_option maxHeartbeats 4000000 in
set_option maxRecDepth 100000 in
theorem g_colourAt {l : Launch} {G : jG} {nh : Nat} {fh : Nat → Option va_E} (x : Int) (sh : Int) (q0 : zr x) (q1 : zr sh) : JM l G yX0_colourAt MX0_colourAt { frames := 0, cells := 0, slots := 0, locals := 0 } [.int (zI x), .int (zI sh)] (nh, fh) (fun rr h9 => ∃ r : Int, rr = some (.int (zI r)) ∧ h9 = (nh, fh) ∧ (0 ≤ r) ∧ (r ≤ 7) ∧ (zand (zshr x sh) 7 = r)) := by
  refine JM.of (by decide) rfl (fun h => by cases h) (Nat.le_of_ble_eq_true rfl) ⟨0, rfl⟩ ?_
  refine J_hc0 (J_ls (ls2 := [some (.int (zI x)), some (.int (zI sh))]) rfl ?_)
  refine J_iload_n dX0_colourAt_0 rfl rfl ?_
  refine J_iload_n dX0_colourAt_1 rfl rfl ?_
  obtain ⟨z1, ez1⟩ : ∃ z : Int, zshr x sh = z := ⟨_, rfl⟩
  refine Y_ishr (z := z1) dX0_colourAt_2 ez1 ?_
  have h2 : zr z1 := by rw [← ez1]; exact zr_toInt _
  refine Z_bipush (n := 7) dX0_colourAt_3 (by decide +kernel) ?_
  obtain ⟨z3, ez3⟩ : ∃ z : Int, zand z1 7 = z := ⟨_, rfl⟩
  refine Y_iand (z := z3) dX0_colourAt_5 ez3 ?_
  have h4 : zr z3 := by rw [← ez3]; exact zr_toInt _
  have h5 : 0 ≤ z3 ∧ z3 ≤ 7 := zand_mask 3 (by decide) (by decide +kernel) (by decide) ez3
  exact J_iret dX0_colourAt_6 rfl rfl (Nat.le_of_ble_eq_true rfl) (Nat.le_of_ble_eq_true rfl) ⟨z3, rfl, rfl, (v_16 h5.1), (v_23 h5.2), (by subst_vars; rfl)⟩
set_option maxHeartbeats 4000000 in
set_option maxRecDepth 100000 in
theorem g_behind {l : Launch} {G : jG} {nh : Nat} {fh : Nat → Option va_E} (x : Int) (y : Int) (q0 : zr x) (q1 : zr y) : JM l G yX0_behind MX0_behind { frames := 0, cells := 0, slots := 0, locals := 0 } [.int (zI x), .int (zI y)] (nh, fh) (fun rr h9 => ∃ r : Int, rr = some (.int (zI r)) ∧ h9 = (nh, fh) ∧ (zr r) ∧ (zor (zshl x 3) y = r)) := by
  refine JM.of (by decide) rfl (fun h => by cases h) (Nat.le_of_ble_eq_true rfl) ⟨0, rfl⟩ ?_
  refine J_hc0 (J_ls (ls2 := [some (.int (zI x)), some (.int (zI y))]) rfl ?_)
  refine J_iload_n dX0_behind_0 rfl rfl ?_
  refine Z_iconst (n := 3) dX0_behind_1 ?_
  obtain ⟨z1, ez1⟩ : ∃ z : Int, zshl x 3 = z := ⟨_, rfl⟩
  refine Y_ishl (z := z1) dX0_behind_2 ez1 ?_
  have h2 : zr z1 := by rw [← ez1]; exact zr_toInt _
  refine J_iload_n dX0_behind_3 rfl rfl ?_
  obtain ⟨z3, ez3⟩ : ∃ z : Int, zor z1 y = z := ⟨_, rfl⟩
  refine Y_ior (z := z3) dX0_behind_4 ez3 ?_
  have h4 : zr z3 := by rw [← ez3]; exact zr_toInt _
  exact J_iret dX0_behind_5 rfl rfl (Nat.le_of_ble_eq_true rfl) (Nat.le_of_ble_eq_true rfl) ⟨z3, rfl, rfl, (v_1 h4), (by subst_vars; rfl)⟩
set_option maxHeartbeats 4000000 in
set_option maxRecDepth 100000 in
theorem g_changeBeads {l : Launch} {G : jG} {nh : Nat} {fh : Nat → Option va_E} (a : Int) (b : Int) (bf : Int → Int) (many : Int) (places : Int) (q0 : 0 ≤ a) (q1 : a < 7) (q2 : 0 ≤ b) (q3 : b < 7) (hk51 : fh 51 = some (.inr (0, [.ref 52, .ref 53, .int (zI many), .int (zI places)]))) (hk53 : fh 53 = some (.inl (0, 7, .inl (zA bf)))) : JM l G yX0_changeBeads MX0_changeBeads { frames := 0, cells := 0, slots := 0, locals := 0 } [.ref 51, .int (zI a), .int (zI b)] (nh, fh) (fun rr h9 => ∃ bg : Int → Int, rr = none ∧ h9 = (nh, hc fh [(53, .inl (0, 7, .inl (zA bg)))]) ∧ (bg = swp bf a b)) := by
  refine JM.of (by decide) rfl (fun h => by cases h) (Nat.le_of_ble_eq_true rfl) ⟨1, rfl⟩ ?_
  refine J_hc0 (J_ls (ls2 := [some (.ref 51), some (.int (zI a)), some (.int (zI b)), none]) rfl ?_)
  refine J_aload_n dX0_changeBeads_0 rfl rfl ?_
  refine J_get (v := .ref 53) dX0_changeBeads_1 fl_X0_15 hk51 rfl ?_
  refine J_iload_n dX0_changeBeads_4 rfl rfl ?_
  obtain ⟨z1, ez1⟩ : ∃ z : Int, bf a = z := ⟨_, rfl⟩
  refine Y_iald (z := z1) 7 dX0_changeBeads_5 hk53 rfl (by decide) (v_16 q0) (v_24 q1) ez1 ?_
  refine J_istore_n dX0_changeBeads_6 rfl (Nat.le_of_ble_eq_true rfl) rfl ?_
  refine J_ls (ls2 := [some (.ref 51), some (.int (zI a)), some (.int (zI b)), some (.int (zI z1))]) rfl ?_
  refine J_aload_n dX0_changeBeads_7 rfl rfl ?_
  refine J_get (v := .ref 53) dX0_changeBeads_8 fl_X0_15 hk51 rfl ?_
  refine J_iload_n dX0_changeBeads_11 rfl rfl ?_
  refine J_aload_n dX0_changeBeads_12 rfl rfl ?_
  refine J_get (v := .ref 53) dX0_changeBeads_13 fl_X0_15 hk51 rfl ?_
  refine J_iload_n dX0_changeBeads_16 rfl rfl ?_
  obtain ⟨z2, ez2⟩ : ∃ z : Int, bf b = z := ⟨_, rfl⟩
  refine Y_iald (z := z2) 7 dX0_changeBeads_17 hk53 rfl (by decide) (v_16 q2) (v_24 q3) ez2 ?_
  refine Y_iast (v := z2) 7 dX0_changeBeads_18 hk53 rfl (by decide) (v_16 q0) (v_24 q1) (fun f3 ef3 => ?_)
  refine J_aload_n dX0_changeBeads_19 rfl rfl ?_
  refine J_get (v := .ref 53) dX0_changeBeads_20 fl_X0_15 hk51 rfl ?_
  refine J_iload_n dX0_changeBeads_23 rfl rfl ?_
  refine J_iload_n dX0_changeBeads_24 rfl rfl ?_
  refine Y_iast (v := z1) 7 dX0_changeBeads_25 rfl rfl (by decide) (v_16 q2) (v_24 q3) (fun f4 ef4 => ?_)
  refine J_mask (L2 := [(53, .inl (0, 7, .inl (zA f4)))]) (ks := [53, 53]) [true, false] rfl (by decide +kernel) rfl ?_
  exact J_vret dX0_changeBeads_26 rfl (Nat.le_of_ble_eq_true rfl) (Nat.le_of_ble_eq_true rfl) ⟨f4, rfl, rfl, (up_swp ef3 ef4 ez1 ez2)⟩
set_option maxHeartbeats 4000000 in
set_option maxRecDepth 100000 in
theorem g_find {l : Launch} {G : jG} {nh : Nat} {fh : Nat → Option va_E} (x : Int) (many : Int) (places : Int) (rf : Int → Int) (q0 : zr x) (q1 : 1 ≤ many) (q2 : many ≤ 1260) (q3 : Rg rf 1260 (-2147483648) 2147483647) (hk51 : fh 51 = some (.inr (0, [.ref 52, .ref 53, .int (zI many), .int (zI places)]))) (hk52 : fh 52 = some (.inl (0, 1260, .inl (zA rf)))) : JM l G yX0_find MX0_find { frames := 0, cells := 0, slots := 0, locals := 0 } [.ref 51, .int (zI x)] (nh, fh) (fun rr h9 => ∃ r : Int, rr = some (.int (zI r)) ∧ h9 = (nh, fh) ∧ (-1 ≤ r) ∧ (r < many)) := by
  refine JM.of (by decide) rfl (fun h => by cases h) (Nat.le_of_ble_eq_true rfl) ⟨3, rfl⟩ ?_
  refine J_hc0 (J_ls (ls2 := [some (.ref 51), some (.int (zI x)), none, none, none]) rfl ?_)
  refine Z_iconst (n := 0) dX0_find_0 ?_
  refine J_istore_n dX0_find_1 rfl (Nat.le_of_ble_eq_true rfl) rfl ?_
  refine J_ls (ls2 := [some (.ref 51), some (.int (zI x)), some (.int (zI 0)), none, none]) rfl ?_
  refine J_aload_n dX0_find_2 rfl rfl ?_
  refine J_get (v := .int (zI many)) dX0_find_3 fl_X0_18 hk51 rfl ?_
  refine Z_iconst (n := 1) dX0_find_6 ?_
  refine Z_isub (c := many - 1) dX0_find_7 rfl ?_
  refine J_istore_n dX0_find_8 rfl (Nat.le_of_ble_eq_true rfl) rfl ?_
  refine J_ls (ls2 := [some (.ref 51), some (.int (zI x)), some (.int (zI 0)), some (.int (zI (many - 1))), none]) rfl ?_
  have lp9 : ∀ (N9 : Nat) (low_9 : Int) (high_9 : Int), 0 ≤ low_9 → low_9 ≤ many → high_9 < many → -1 ≤ high_9 → (high_9 - low_9 + 1).toNat < N9 → J l G MX0_find { frames := 0, cells := 0, slots := 0, locals := 0 } jE (jMQ G { frames := 0, cells := 0, slots := 0, locals := 0 } (fun rr h9 => ∃ r : Int, rr = some (.int (zI r)) ∧ h9 = (nh, fh) ∧ (-1 ≤ r) ∧ (r < many))) (nh, hc fh []) 0 0 9 [some (.ref 51), some (.int (zI x)), some (.int (zI low_9)), some (.int (zI high_9)), none] [] := by
    intro N9
    induction N9 with
    | zero => intro low_9 high_9 i9_0 i9_1 i9_2 i9_3 hm; exact absurd hm (Nat.not_lt_zero _)
    | succ N9 ih9 =>
      intro low_9 high_9 i9_0 i9_1 i9_2 i9_3 hm9
      refine J_iload_n dX0_find_9 rfl rfl ?_
      refine J_iload_n dX0_find_10 rfl rfl ?_
      refine Z_icmp_gt (tgt := 62) dX0_find_11 (by decide) (v_28 q2 i9_0 i9_1) (v_29 q2 i9_2 i9_3) (fun h1 => ?_) (fun h1 => ?_)
      · refine Z_iconst (n := -1) dX0_find_62 ?_
        exact J_iret dX0_find_63 rfl rfl (Nat.le_of_ble_eq_true rfl) (Nat.le_of_ble_eq_true rfl) ⟨(-1), rfl, rfl, v_30, (v_31 q1)⟩
      · refine J_iload_n dX0_find_14 rfl rfl ?_
        refine J_iload_n dX0_find_15 rfl rfl ?_
        refine Z_iadd (c := high_9 + low_9) dX0_find_16 v_32 ?_
        refine Z_iconst (n := 1) dX0_find_17 ?_
        obtain ⟨z2, ez2⟩ : ∃ z : Int, zshr (high_9 + low_9) 1 = z := ⟨_, rfl⟩
        refine Y_ishr (z := z2) dX0_find_18 ez2 ?_
        have h3 : zr z2 := by rw [← ez2]; exact zr_toInt _
        have h4 : 2 * z2 ≤ high_9 + low_9 ∧ high_9 + low_9 ≤ 2 * z2 + 1 := dv_lem (zshr_pos (p := 2) 1 1 (v_33 q2 i9_0 i9_2 h1) (v_34 i9_0 h1) (by decide +kernel) (by decide) (by decide) ez2).symm (by decide)
        refine J_istore dX0_find_19 (Nat.le_of_ble_eq_true rfl) rfl ?_
        refine J_ls (ls2 := [some (.ref 51), some (.int (zI x)), some (.int (zI low_9)), some (.int (zI high_9)), some (.int (zI z2))]) rfl ?_
        refine J_aload_n dX0_find_21 rfl rfl ?_
        refine J_get (v := .ref 52) dX0_find_22 fl_X0_9 hk51 rfl ?_
        refine J_iload dX0_find_25 rfl ?_
        obtain ⟨z5, ez5⟩ : ∃ z : Int, rf z2 = z := ⟨_, rfl⟩
        have h6 := Rg.at q3 (v_35 i9_0 h1 h4.2) (v_36 q2 i9_2 h1 h4.1) ez5
        refine Y_iald (z := z5) 1260 dX0_find_27 hk52 rfl (by decide) (v_35 i9_0 h1 h4.2) (v_36 q2 i9_2 h1 h4.1) ez5 ?_
        refine J_iload_n dX0_find_28 rfl rfl ?_
        refine Z_icmp_ne (tgt := 35) dX0_find_29 (by decide) (v_37 h6.1 h6.2) (v_1 q0) (fun h7 => ?_) (fun h7 => ?_)
        · refine J_aload_n dX0_find_35 rfl rfl ?_
          refine J_get (v := .ref 52) dX0_find_36 fl_X0_9 hk51 rfl ?_
          refine J_iload dX0_find_39 rfl ?_
          refine Y_iald (z := z5) 1260 dX0_find_41 hk52 rfl (by decide) (v_35 i9_0 h1 h4.2) (v_36 q2 i9_2 h1 h4.1) ez5 ?_
          refine J_iload_n dX0_find_42 rfl rfl ?_
          refine Z_icmp_ge (tgt := 54) dX0_find_43 (by decide) (v_37 h6.1 h6.2) (v_1 q0) (fun h8 => ?_) (fun h8 => ?_)
          · refine J_iload dX0_find_54 rfl ?_
            refine Z_iconst (n := 1) dX0_find_56 ?_
            refine Z_isub (c := z2 - 1) dX0_find_57 rfl ?_
            refine J_istore_n dX0_find_58 rfl (Nat.le_of_ble_eq_true rfl) rfl ?_
            refine J_ls (ls2 := [some (.ref 51), some (.int (zI x)), some (.int (zI low_9)), some (.int (zI (z2 - 1))), some (.int (zI z2))]) rfl ?_
            refine J_goto (tgt := 9) dX0_find_59 (by decide) ?_
            refine J_drop (ls2 := [some (.ref 51), some (.int (zI x)), some (.int (zI low_9)), some (.int (zI (z2 - 1))), none]) [true, true, true, true, false] rfl ?_
            exact ih9 low_9 (z2 - 1) (v_16 i9_0) (v_38 i9_2 h1) (v_39 i9_1 i9_2 h4.1) (v_40 i9_0 h1 h4.2) (meas_lt (v_41 h1 h4.1) (v_42 h1) hm9)
          · refine J_iload dX0_find_46 rfl ?_
            refine Z_iconst (n := 1) dX0_find_48 ?_
            refine Z_iadd (c := z2 + 1) dX0_find_49 rfl ?_
            refine J_istore_n dX0_find_50 rfl (Nat.le_of_ble_eq_true rfl) rfl ?_
            refine J_ls (ls2 := [some (.ref 51), some (.int (zI x)), some (.int (zI (z2 + 1))), some (.int (zI high_9)), some (.int (zI z2))]) rfl ?_
            refine J_goto (tgt := 59) dX0_find_51 (by decide) ?_
            refine J_goto (tgt := 9) dX0_find_59 (by decide) ?_
            refine J_drop (ls2 := [some (.ref 51), some (.int (zI x)), some (.int (zI (z2 + 1))), some (.int (zI high_9)), none]) [true, true, true, true, false] rfl ?_
            exact ih9 (z2 + 1) high_9 (v_43 i9_0 i9_3 h4.2) (v_44 i9_1 i9_2 h4.1) (v_45 i9_2) (v_46 i9_3) (meas_lt (v_47 h1 h4.2) (v_42 h1) hm9)
        · refine J_iload dX0_find_32 rfl ?_
          exact J_iret dX0_find_34 rfl rfl (Nat.le_of_ble_eq_true rfl) (Nat.le_of_ble_eq_true rfl) ⟨z2, rfl, rfl, (v_48 i9_0 i9_3 h4.2), (v_49 i9_1 i9_2 h4.1)⟩
  exact lp9 _ 0 (many - 1) v_2 (v_25 q1) v_26 (v_27 q1) (Nat.lt_succ_self _)
set_option maxHeartbeats 4000000 in
set_option maxRecDepth 100000 in
theorem g_nextOrder {l : Launch} {G : jG} {nh : Nat} {fh : Nat → Option va_E} (bf : Int → Int) (many : Int) (places : Int) (q0 : 0 ≤ places) (q1 : places ≤ 7) (q2 : Rg bf 7 0 4) (hk51 : fh 51 = some (.inr (0, [.ref 52, .ref 53, .int (zI many), .int (zI places)]))) (hk53 : fh 53 = some (.inl (0, 7, .inl (zA bf)))) : JM l G yX0_nextOrder MX0_nextOrder { frames := 1, cells := 0, slots := 0, locals := 23 } [.ref 51] (nh, fh) (fun rr h9 => ∃ bg : Int → Int, ∃ r : Int, rr = some (.int (zI r)) ∧ h9 = (nh, hc fh [(53, .inl (0, 7, .inl (zA bg)))]) ∧ (bg = NOf places bf) ∧ (r = NOr places bf) ∧ (0 ≤ r) ∧ (r ≤ 1)) := by
  refine JM.of (by decide) rfl (fun h => by cases h) (Nat.le_of_ble_eq_true rfl) ⟨4, rfl⟩ ?_
  refine J_hc0 (J_ls (ls2 := [some (.ref 51), none, none, none, none]) rfl ?_)
  refine J_aload_n dX0_nextOrder_0 rfl rfl ?_
  refine J_get (v := .int (zI places)) dX0_nextOrder_1 fl_X0_22 hk51 rfl ?_
  refine Z_iconst (n := 2) dX0_nextOrder_4 ?_
  refine Z_isub (c := places - 2) dX0_nextOrder_5 rfl ?_
  refine J_istore_n dX0_nextOrder_6 rfl (Nat.le_of_ble_eq_true rfl) rfl ?_
  refine J_ls (ls2 := [some (.ref 51), some (.int (zI (places - 2))), none, none, none]) rfl ?_
  have lp7 : ∀ (N7 : Nat) (low_7 : Int), -2 ≤ low_7 → low_7 ≤ places - 2 → lowG bf (low_7 + 1).toNat = lowN places bf → (low_7 + 2).toNat < N7 → J l G MX0_nextOrder { frames := 1, cells := 0, slots := 0, locals := 23 } jE (jMQ G { frames := 1, cells := 0, slots := 0, locals := 23 } (fun rr h9 => ∃ bg : Int → Int, ∃ r : Int, rr = some (.int (zI r)) ∧ h9 = (nh, hc fh [(53, .inl (0, 7, .inl (zA bg)))]) ∧ (bg = NOf places bf) ∧ (r = NOr places bf) ∧ (0 ≤ r) ∧ (r ≤ 1))) (nh, hc fh []) 0 0 7 [some (.ref 51), some (.int (zI low_7)), none, none, none] [] := by
    intro N7
    induction N7 with
    | zero => intro low_7 i7_0 i7_1 i7_2 hm; exact absurd hm (Nat.not_lt_zero _)
    | succ N7 ih7 =>
      intro low_7 i7_0 i7_1 i7_2 hm7
      refine J_iload_n dX0_nextOrder_7 rfl rfl ?_
      refine Z_if_lt (tgt := 34) dX0_nextOrder_8 (by decide) (v_52 q1 i7_0 i7_1) (fun h1 => ?_) (fun h1 => ?_)
      · refine J_iload_n dX0_nextOrder_34 rfl rfl ?_
        refine Z_if_ge (tgt := 40) dX0_nextOrder_35 (by decide) (v_53 i7_0 h1) (fun h2 => absurd h2 (v_54 h1)) (fun h2 => ?_)
        refine Z_iconst (n := 0) dX0_nextOrder_38 ?_
        refine J_touch (k := 53) (e := .inl (0, 7, .inl (zA bf))) hk53 ?_
        exact J_iret dX0_nextOrder_39 rfl (jbn v_2 v_3) (Nat.le_of_ble_eq_true rfl) (Nat.le_of_ble_eq_true rfl) ⟨bf, 0, rfl, rfl, ((NO_none i7_2 (v_4 h1)).1), ((NO_none i7_2 (v_4 h1)).2), v_2, v_3⟩
      · refine J_aload_n dX0_nextOrder_11 rfl rfl ?_
        refine J_get (v := .ref 53) dX0_nextOrder_12 fl_X0_15 hk51 rfl ?_
        refine J_iload_n dX0_nextOrder_15 rfl rfl ?_
        obtain ⟨z3, ez3⟩ : ∃ z : Int, bf low_7 = z := ⟨_, rfl⟩
        have h4 := Rg.at q2 (v_9 h1) (v_55 q1 i7_1) ez3
        refine Y_iald (z := z3) 7 dX0_nextOrder_16 hk53 rfl (by decide) (v_9 h1) (v_55 q1 i7_1) ez3 ?_
        refine J_aload_n dX0_nextOrder_17 rfl rfl ?_
        refine J_get (v := .ref 53) dX0_nextOrder_18 fl_X0_15 hk51 rfl ?_
        refine J_iload_n dX0_nextOrder_21 rfl rfl ?_
        refine Z_iconst (n := 1) dX0_nextOrder_22 ?_
        refine Z_iadd (c := low_7 + 1) dX0_nextOrder_23 rfl ?_
        obtain ⟨z5, ez5⟩ : ∃ z : Int, bf (low_7 + 1) = z := ⟨_, rfl⟩
        have h6 := Rg.at q2 (v_56 h1) (v_57 q1 i7_1) ez5
        refine Y_iald (z := z5) 7 dX0_nextOrder_24 hk53 rfl (by decide) (v_56 h1) (v_57 q1 i7_1) ez5 ?_
        refine Z_icmp_lt (tgt := 34) dX0_nextOrder_25 (by decide) (v_58 h4.1 h4.2) (v_58 h6.1 h6.2) (fun h7 => ?_) (fun h7 => ?_)
        · refine J_iload_n dX0_nextOrder_34 rfl rfl ?_
          refine Z_if_ge (tgt := 40) dX0_nextOrder_35 (by decide) (v_59 q1 i7_1 h1) (fun h8 => ?_) (fun h8 => absurd h8 (fun q => q (v_9 h1)))
          refine J_aload_n dX0_nextOrder_40 rfl rfl ?_
          refine J_get (v := .int (zI places)) dX0_nextOrder_41 fl_X0_22 hk51 rfl ?_
          refine Z_iconst (n := 1) dX0_nextOrder_44 ?_
          refine Z_isub (c := places - 1) dX0_nextOrder_45 rfl ?_
          refine J_istore_n dX0_nextOrder_46 rfl (Nat.le_of_ble_eq_true rfl) rfl ?_
          refine J_ls (ls2 := [some (.ref 51), some (.int (zI low_7)), some (.int (zI (places - 1))), none, none]) rfl ?_
          have lp47 : ∀ (N47 : Nat) (high_47 : Int), low_7 + 1 ≤ high_47 → high_47 ≤ places - 1 → highG bf (bf low_7) (high_47 + 1).toNat = highN places bf → (high_47 + 1).toNat < N47 → J l G MX0_nextOrder { frames := 1, cells := 0, slots := 0, locals := 23 } jE (jMQ G { frames := 1, cells := 0, slots := 0, locals := 23 } (fun rr h9 => ∃ bg : Int → Int, ∃ r : Int, rr = some (.int (zI r)) ∧ h9 = (nh, hc fh [(53, .inl (0, 7, .inl (zA bg)))]) ∧ (bg = NOf places bf) ∧ (r = NOr places bf) ∧ (0 ≤ r) ∧ (r ≤ 1))) (nh, hc fh []) 0 0 47 [some (.ref 51), some (.int (zI low_7)), some (.int (zI high_47)), none, none] [] := by
            intro N47
            induction N47 with
            | zero => intro high_47 i47_0 i47_1 i47_2 hm; exact absurd hm (Nat.not_lt_zero _)
            | succ N47 ih47 =>
              intro high_47 i47_0 i47_1 i47_2 hm47
              refine J_iload_n dX0_nextOrder_47 rfl rfl ?_
              refine J_iload_n dX0_nextOrder_48 rfl rfl ?_
              refine Z_icmp_le (tgt := 73) dX0_nextOrder_49 (by decide) (v_62 q1 h1 i47_0 i47_1) (v_59 q1 i7_1 h1) (fun h9 => absurd h9 (v_63 i47_0)) (fun h9 => ?_)
              refine J_aload_n dX0_nextOrder_52 rfl rfl ?_
              refine J_get (v := .ref 53) dX0_nextOrder_53 fl_X0_15 hk51 rfl ?_
              refine J_iload_n dX0_nextOrder_56 rfl rfl ?_
              obtain ⟨z10, ez10⟩ : ∃ z : Int, bf high_47 = z := ⟨_, rfl⟩
              have h11 := Rg.at q2 (v_64 h1 i47_0) (v_65 q1 i47_1) ez10
              refine Y_iald (z := z10) 7 dX0_nextOrder_57 hk53 rfl (by decide) (v_64 h1 i47_0) (v_65 q1 i47_1) ez10 ?_
              refine J_aload_n dX0_nextOrder_58 rfl rfl ?_
              refine J_get (v := .ref 53) dX0_nextOrder_59 fl_X0_15 hk51 rfl ?_
              refine J_iload_n dX0_nextOrder_62 rfl rfl ?_
              refine Y_iald (z := z3) 7 dX0_nextOrder_63 hk53 rfl (by decide) (v_9 h1) (v_55 q1 i7_1) ez3 ?_
              refine Z_icmp_gt (tgt := 73) dX0_nextOrder_64 (by decide) (v_58 h11.1 h11.2) (v_58 h4.1 h4.2) (fun h12 => ?_) (fun h12 => ?_)
              · refine J_aload_n dX0_nextOrder_73 rfl rfl ?_
                refine J_iload_n dX0_nextOrder_74 rfl rfl ?_
                refine J_iload_n dX0_nextOrder_75 rfl rfl ?_
                refine J_callV (st := []) dX0_nextOrder_76 cv_X0_37 (g_changeBeads low_7 high_47 bf many places (v_9 h1) (v_55 q1 i7_1) (v_64 h1 i47_0) (v_65 q1 i47_1) hk51 hk53) hk51 rfl rfl (Nat.le_of_ble_eq_true rfl) ⟨(Nat.le_of_ble_eq_true rfl), (Nat.le_of_ble_eq_true rfl)⟩ ⟨(Nat.le_of_ble_eq_true rfl), (Nat.le_of_ble_eq_true rfl)⟩ (fun r h9 hp => ?_)
                obtain ⟨f13, rfl, rfl, h14⟩ := hp
                refine J_nf (nh2 := nh) (ck2 := 0) (sk2 := 0) (st2 := []) rfl rfl rfl rfl ?_
                refine J_app (L3 := [(53, .inl (0, 7, .inl (zA f13)))]) rfl ?_
                refine J_iload_n dX0_nextOrder_79 rfl rfl ?_
                refine Z_iconst (n := 1) dX0_nextOrder_80 ?_
                refine Z_iadd (c := low_7 + 1) dX0_nextOrder_81 rfl ?_
                refine J_istore_n dX0_nextOrder_82 rfl (Nat.le_of_ble_eq_true rfl) rfl ?_
                refine J_ls (ls2 := [some (.ref 51), some (.int (zI low_7)), some (.int (zI high_47)), some (.int (zI (low_7 + 1))), none]) rfl ?_
                refine J_aload_n dX0_nextOrder_83 rfl rfl ?_
                refine J_get (v := .int (zI places)) dX0_nextOrder_84 fl_X0_22 hk51 rfl ?_
                refine Z_iconst (n := 1) dX0_nextOrder_87 ?_
                refine Z_isub (c := places - 1) dX0_nextOrder_88 rfl ?_
                refine J_istore dX0_nextOrder_89 (Nat.le_of_ble_eq_true rfl) rfl ?_
                refine J_ls (ls2 := [some (.ref 51), some (.int (zI low_7)), some (.int (zI high_47)), some (.int (zI (low_7 + 1))), some (.int (zI (places - 1)))]) rfl ?_
                have lp91 : ∀ (N91 : Nat) (left_91 : Int) (right_91 : Int) (bh_91 : Int → Int), low_7 < left_91 → left_91 ≤ places → right_91 < places → -1 ≤ right_91 → left_91 + right_91 = low_7 + places → bh_91 = prv (swp bf low_7 high_47) (low_7 + 1) (places - 1) left_91 → (right_91 - left_91 + 8).toNat < N91 → J l G MX0_nextOrder { frames := 1, cells := 0, slots := 0, locals := 23 } jE (jMQ G { frames := 1, cells := 0, slots := 0, locals := 23 } (fun rr h9 => ∃ bg : Int → Int, ∃ r : Int, rr = some (.int (zI r)) ∧ h9 = (nh, hc fh [(53, .inl (0, 7, .inl (zA bg)))]) ∧ (bg = NOf places bf) ∧ (r = NOr places bf) ∧ (0 ≤ r) ∧ (r ≤ 1))) (nh, hc fh [(53, .inl (0, 7, .inl (zA bh_91)))]) 0 0 91 [some (.ref 51), some (.int (zI low_7)), some (.int (zI high_47)), some (.int (zI left_91)), some (.int (zI right_91))] [] := by
                  intro N91
                  induction N91 with
                  | zero => intro left_91 right_91 bh_91 i91_0 i91_1 i91_2 i91_3 i91_4 i91_5 hm; exact absurd hm (Nat.not_lt_zero _)
                  | succ N91 ih91 =>
                    intro left_91 right_91 bh_91 i91_0 i91_1 i91_2 i91_3 i91_4 i91_5 hm91
                    refine J_iload_n dX0_nextOrder_91 rfl rfl ?_
                    refine J_iload dX0_nextOrder_92 rfl ?_
                    refine Z_icmp_ge (tgt := 113) dX0_nextOrder_94 (by decide) (v_70 q1 h1 i91_0 i91_1) (v_71 q1 i91_2 i91_3) (fun h15 => ?_) (fun h15 => ?_)
                    · refine Z_iconst (n := 1) dX0_nextOrder_113 ?_
                      exact J_iret dX0_nextOrder_114 rfl (jbn v_3 v_8) (Nat.le_of_ble_eq_true rfl) (Nat.le_of_ble_eq_true rfl) ⟨bh_91, 1, rfl, rfl, ((NO_some (lowG_end i7_2 (v_9 h1) ez3 ez5 (v_45 h7)) (highG_end i47_2 (v_64 h1 i47_0) ez10 (by rw [ez3]; exact (v_45 h12))) (v_9 h1) rfl (prv_end i91_5 (v_72 i91_4) (v_73 h15) (v_74 i91_1) (v_75 i91_0))).1), ((NO_some (lowG_end i7_2 (v_9 h1) ez3 ez5 (v_45 h7)) (highG_end i47_2 (v_64 h1 i47_0) ez10 (by rw [ez3]; exact (v_45 h12))) (v_9 h1) rfl (prv_end i91_5 (v_72 i91_4) (v_73 h15) (v_74 i91_1) (v_75 i91_0))).2), v_3, v_8⟩
                    · refine J_aload_n dX0_nextOrder_97 rfl rfl ?_
                      refine J_iload_n dX0_nextOrder_98 rfl rfl ?_
                      refine J_iload dX0_nextOrder_99 rfl ?_
                      refine J_callV (st := []) dX0_nextOrder_101 cv_X0_37 (g_changeBeads left_91 right_91 bh_91 many places (v_76 h1 i91_0) (v_77 q1 i91_2 h15) (v_78 h1 i91_0 h15) (v_79 q1 i91_2) hk51 rfl) hk51 rfl rfl (Nat.le_of_ble_eq_true rfl) ⟨(Nat.le_of_ble_eq_true rfl), (Nat.le_of_ble_eq_true rfl)⟩ ⟨(Nat.le_of_ble_eq_true rfl), (Nat.le_of_ble_eq_true rfl)⟩ (fun r h9 hp => ?_)
                      obtain ⟨f16, rfl, rfl, h17⟩ := hp
                      refine J_nf (nh2 := nh) (ck2 := 0) (sk2 := 0) (st2 := []) rfl rfl rfl rfl ?_
                      refine J_app (L3 := [(53, .inl (0, 7, .inl (zA f16))), (53, .inl (0, 7, .inl (zA bh_91)))]) rfl ?_
                      refine J_mask (L2 := [(53, .inl (0, 7, .inl (zA f16)))]) (ks := [53, 53]) [true, false] rfl (by decide +kernel) rfl ?_
                      refine Z_iinc (c := left_91 + 1) (ls2 := [some (.ref 51), some (.int (zI low_7)), some (.int (zI high_47)), some (.int (zI (left_91 + 1))), some (.int (zI right_91))]) dX0_nextOrder_104 rfl (Nat.le_of_ble_eq_true rfl) rfl rfl rfl ?_
                      refine Z_iinc (c := right_91 - 1) (ls2 := [some (.ref 51), some (.int (zI low_7)), some (.int (zI high_47)), some (.int (zI (left_91 + 1))), some (.int (zI (right_91 - 1)))]) dX0_nextOrder_107 rfl (Nat.le_of_ble_eq_true rfl) rfl v_80 rfl ?_
                      refine J_goto (tgt := 91) dX0_nextOrder_110 (by decide) ?_
                      exact ih91 (left_91 + 1) (right_91 - 1) f16 (v_81 i91_0) (v_82 i7_1 i91_4 h15) (v_83 i91_2) (v_84 h1 i91_0 h15) (v_85 i91_4) (prv_step i91_5 h17 (v_72 i91_4) (v_10 h15) v_86 (v_75 i91_0)) (meas_lt v_87 (v_88 h15) hm91)
                exact lp91 _ (low_7 + 1) (places - 1) f13 v_66 (v_67 i7_1) v_26 (v_68 q0) v_69 (by rw [← h14]; exact prv_0) (Nat.lt_succ_self _)
              · refine Z_iinc (c := high_47 - 1) (ls2 := [some (.ref 51), some (.int (zI low_7)), some (.int (zI (high_47 - 1))), none, none]) dX0_nextOrder_67 rfl (Nat.le_of_ble_eq_true rfl) rfl v_80 rfl ?_
                refine J_goto (tgt := 47) dX0_nextOrder_70 (by decide) ?_
                exact ih47 (high_47 - 1) (hi_step i47_0 ez10 ez3 ez5 (v_45 h7) (v_89 h12)) (v_90 i47_1) (highG_step i47_2 (v_64 h1 i47_0) ez10 (by rw [ez3]; exact (v_89 h12))) (meas_lt v_91 (v_92 h1 i47_0) hm47)
          exact lp47 _ (places - 1) (v_60 i7_1) v_61 (by unfold highN; rw [lowG_end i7_2 (v_9 h1) ez3 ez5 (v_45 h7)]; congr 1; omega) (Nat.lt_succ_self _)
        · refine Z_iinc (c := low_7 - 1) (ls2 := [some (.ref 51), some (.int (zI (low_7 - 1))), none, none, none]) dX0_nextOrder_28 rfl (Nat.le_of_ble_eq_true rfl) rfl v_80 rfl ?_
          refine J_goto (tgt := 7) dX0_nextOrder_31 (by decide) ?_
          exact ih7 (low_7 - 1) (v_93 h1) (v_94 i7_1) (lowG_step i7_2 (v_9 h1) ez3 ez5 (v_89 h7)) (meas_lt v_95 (v_96 h1) hm7)
  exact lp7 _ (places - 2) (v_50 q0) v_51 (by unfold lowN; congr 1; omega) (Nat.lt_succ_self _)
