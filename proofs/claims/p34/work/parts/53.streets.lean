abbrev MJ7_fill_53178 : jM := (RJ7, cJ7_fill_53178, 4, none, false)
abbrev MJ7_rangeCheck_23922 : jM := (RJ7, cJ7_rangeCheck_23922, 3, none, false)
abbrev MJ7_fill_fda19 : jM := (RJ7, cJ7_fill_fda19, 5, none, false)
theorem cs_J7_13 : jCS RJ7 13 yJ7_rangeCheck_23922 MJ7_rangeCheck_23922 3 := ⟨(jt4 178 rfl rfl), (jt4 177 rfl rfl), (jt1 14 rfl rfl), ⟨by decide, by decide, by decide +kernel⟩, Or.inl (jt4 176 rfl rfl)⟩
abbrev MJ7_fill_bad5a : jM := (RJ7, cJ7_fill_bad5a, 6, none, false)
abbrev MX11_grown : jM := (RX11, cX11_grown, 2, some (.array .int), false)
abbrev MX9_changeWalls : jM := (RX9, cX9_changeWalls, 1, none, false)
set_option maxRecDepth 20000 in
theorem iX9_at : ∀ k : Nat, k < 10 → u_lay RX9 TX9 k ∈ jtb
  | 0, _ => jt1 205 rfl rfl
  | 1, _ => jt1 207 rfl rfl
  | 2, _ => jt1 209 rfl rfl
  | 3, _ => jt1 211 rfl rfl
  | 4, _ => jt1 213 rfl rfl
  | 5, _ => jt1 215 rfl rfl
  | 6, _ => jt1 217 rfl rfl
  | 7, _ => jt1 219 rfl rfl
  | 8, _ => jt1 221 rfl rfl
  | 9, _ => jt1 223 rfl rfl
  | (n + 10), h => absurd h (by omega)
theorem iX9 : ∀ w ∈ u_ws RX9 TX9 10, w ∈ jtb := fun w hw => by
  obtain ⟨k, hk, rfl⟩ := List.mem_map.mp hw
  exact iX9_at k (List.mem_range.mp hk)
theorem fl_X9_31 : jFL RX9 31 9 7 := ⟨_, _, _, rfl, iX9, by decide, Or.inl (jt1 202 rfl rfl)⟩
theorem fw_X9_31 : jFW RX9 31 9 7 (.int) false := ⟨_, _, _, tyX9, rfl, iX9, tyX9_ok, nmX9, by decide, rfl, rfl, (fun h => by cases h), Or.inl (jt1 202 rfl rfl)⟩
theorem fw_X9_35 : jFW RX9 35 9 8 (.boolean) false := ⟨_, _, _, tyX9, rfl, iX9, tyX9_ok, nmX9, by decide, rfl, rfl, (fun h => by cases h), Or.inl (jt1 203 rfl rfl)⟩
abbrev MX9_changeAll : jM := (RX9, cX9_changeAll, 1, none, false)
theorem cv_X9_50 : jCV RX9 50 9 yX9_changeWalls MX9_changeWalls 0 := ⟨_, _, rfl, (jt3 56 rfl rfl), (jt3 54 rfl rfl), (jt3 55 rfl rfl), (jt1 5 rfl rfl), ⟨by decide, by decide, by decide +kernel⟩, Or.inl (jt3 53 rfl rfl)⟩
theorem fw_X9_39 : jFW RX9 39 9 9 (.boolean) false := ⟨_, _, _, tyX9, rfl, iX9, tyX9_ok, nmX9, by decide, rfl, rfl, (fun h => by cases h), Or.inl (jt1 204 rfl rfl)⟩
abbrev MX9_version : jM := (RX9, cX9_version, 1, some .int, false)
abbrev MX9_verdictPlace : jM := (RX9, cX9_verdictPlace, 4, some .int, false)
abbrev MX9_judgePair : jM := (RX9, cX9_judgePair, 7, none, false)
theorem fl_X9_12 : jFL RX9 12 9 2 := ⟨_, _, _, rfl, iX9, by decide, Or.inl (jt1 197 rfl rfl)⟩
theorem cv_X9_109 : jCV RX9 109 1 yX1_setColours MX1_setColours 3 := ⟨_, _, rfl, (jt4 116 rfl rfl), (jt4 114 rfl rfl), (jt4 115 rfl rfl), (jt1 6 rfl rfl), ⟨by decide, by decide, by decide +kernel⟩, Or.inl (jt4 113 rfl rfl)⟩
theorem fl_X9_28 : jFL RX9 28 9 6 := ⟨_, _, _, rfl, iX9, by decide, Or.inl (jt1 201 rfl rfl)⟩
theorem cs_X9_113 : jCS RX9 113 yX9_verdictPlace MX9_verdictPlace 4 := ⟨(jt4 119 rfl rfl), (jt4 118 rfl rfl), (jt1 5 rfl rfl), ⟨by decide, by decide, by decide +kernel⟩, Or.inl (jt4 117 rfl rfl)⟩
theorem cv_X9_117 : jCV RX9 117 1 yX1_verdict MX1_verdict 1 := ⟨_, _, rfl, (jt4 123 rfl rfl), (jt4 121 rfl rfl), (jt4 122 rfl rfl), (jt1 6 rfl rfl), ⟨by decide, by decide, by decide +kernel⟩, Or.inl (jt4 120 rfl rfl)⟩
theorem fl_X9_42 : jFL RX9 42 9 0 := ⟨_, _, _, rfl, iX9, by decide, Or.inl (jt1 195 rfl rfl)⟩
theorem fl_X9_106 : jFL RX9 106 8 0 := ⟨_, _, _, rfl, iX8, by decide, Or.inr ⟨"BeanStreet", (jn1 39 rfl rfl)⟩⟩
abbrev MX9_judgeAll : jM := (RX9, cX9_judgeAll, 4, none, false)
theorem fl_X9_46 : jFL RX9 46 9 1 := ⟨_, _, _, rfl, iX9, by decide, Or.inl (jt1 196 rfl rfl)⟩
theorem cv_X9_76 : jCV RX9 76 0 yX0_places MX0_places 0 := ⟨_, _, rfl, (jt3 36 rfl rfl), (jt3 34 rfl rfl), (jt3 35 rfl rfl), (jt1 3 rfl rfl), ⟨by decide, by decide, by decide +kernel⟩, Or.inl (jt4 96 rfl rfl)⟩
theorem fl_X9_79 : jFL RX9 79 8 1 := ⟨_, _, _, rfl, iX8, by decide, Or.inr ⟨"BeanStreet", (jn1 42 rfl rfl)⟩⟩
theorem cv_X9_84 : jCV RX9 84 1 yX1_setTimes MX1_setTimes 2 := ⟨_, _, rfl, (jt4 100 rfl rfl), (jt4 98 rfl rfl), (jt4 99 rfl rfl), (jt1 6 rfl rfl), ⟨by decide, by decide, by decide +kernel⟩, Or.inl (jt4 97 rfl rfl)⟩
theorem cv_X9_88 : jCV RX9 88 1 yX1_setPlaces MX1_setPlaces 2 := ⟨_, _, rfl, (jt4 104 rfl rfl), (jt4 102 rfl rfl), (jt4 103 rfl rfl), (jt1 6 rfl rfl), ⟨by decide, by decide, by decide +kernel⟩, Or.inl (jt4 101 rfl rfl)⟩
theorem cv_X9_91 : jCV RX9 91 8 yX8_lawful MX8_lawful 0 := ⟨_, _, rfl, (jt4 108 rfl rfl), (jt4 106 rfl rfl), (jt4 107 rfl rfl), (jt1 2 rfl rfl), ⟨by decide, by decide, by decide +kernel⟩, Or.inl (jt4 105 rfl rfl)⟩
theorem fl_X9_95 : jFL RX9 95 8 2 := ⟨_, _, _, rfl, iX8, by decide, Or.inr ⟨"BeanStreet", (jn1 44 rfl rfl)⟩⟩
theorem fl_X9_99 : jFL RX9 99 8 4 := ⟨_, _, _, rfl, iX8, by decide, Or.inr ⟨"BeanStreet", (jn1 49 rfl rfl)⟩⟩
theorem cv_X9_102 : jCV RX9 102 9 yX9_judgePair MX9_judgePair 2 := ⟨_, _, rfl, (jt4 112 rfl rfl), (jt4 111 rfl rfl), (jtp (q := (⟨"BeanStreet$Streets", "judgePair", "(I[I)V"⟩, 10)) (List.mem_of_getElem? (i := 22) rfl)), (jt1 5 rfl rfl), ⟨by decide, by decide, by decide +kernel⟩, Or.inl (jt4 109 rfl rfl)⟩
theorem fl_X9_18 : jFL RX9 18 9 3 := ⟨_, _, _, rfl, iX9, by decide, Or.inl (jt1 198 rfl rfl)⟩
theorem dJ7_fill_53178_0 : decode cJ7_fill_53178 0 = .ok (.iconst 0, 1) := by decide +kernel
theorem dJ7_fill_53178_1 : decode cJ7_fill_53178 1 = .ok (.istore_n 2, 1) := by decide +kernel
theorem dJ7_fill_53178_2 : decode cJ7_fill_53178 2 = .ok (.aload_n 0, 1) := by decide +kernel
theorem dJ7_fill_53178_3 : decode cJ7_fill_53178 3 = .ok (.arraylength, 1) := by decide +kernel
theorem dJ7_fill_53178_4 : decode cJ7_fill_53178 4 = .ok (.istore_n 3, 1) := by decide +kernel
theorem dJ7_fill_53178_5 : decode cJ7_fill_53178 5 = .ok (.iload_n 2, 1) := by decide +kernel
theorem dJ7_fill_53178_6 : decode cJ7_fill_53178 6 = .ok (.iload_n 3, 1) := by decide +kernel
theorem dJ7_fill_53178_7 : decode cJ7_fill_53178 7 = .ok (.if_icmp .ge 13, 3) := by decide +kernel
theorem dJ7_fill_53178_20 : decode cJ7_fill_53178 20 = .ok (.return_, 1) := by decide +kernel
theorem dJ7_fill_53178_10 : decode cJ7_fill_53178 10 = .ok (.aload_n 0, 1) := by decide +kernel
theorem dJ7_fill_53178_11 : decode cJ7_fill_53178 11 = .ok (.iload_n 2, 1) := by decide +kernel
theorem dJ7_fill_53178_12 : decode cJ7_fill_53178 12 = .ok (.iload_n 1, 1) := by decide +kernel
theorem dJ7_fill_53178_13 : decode cJ7_fill_53178 13 = .ok (.iastore, 1) := by decide +kernel
theorem dJ7_fill_53178_14 : decode cJ7_fill_53178 14 = .ok (.iinc 2 1, 3) := by decide +kernel
theorem dJ7_fill_53178_17 : decode cJ7_fill_53178 17 = .ok (.goto (-12), 3) := by decide +kernel
theorem dJ7_rangeCheck_23922_0 : decode cJ7_rangeCheck_23922 0 = .ok (.iload_n 1, 1) := by decide +kernel
theorem dJ7_rangeCheck_23922_1 : decode cJ7_rangeCheck_23922 1 = .ok (.iload_n 2, 1) := by decide +kernel
theorem dJ7_rangeCheck_23922_2 : decode cJ7_rangeCheck_23922 2 = .ok (.if_icmp .le 44, 3) := by decide +kernel
theorem dJ7_rangeCheck_23922_46 : decode cJ7_rangeCheck_23922 46 = .ok (.iload_n 1, 1) := by decide +kernel
theorem dJ7_rangeCheck_23922_47 : decode cJ7_rangeCheck_23922 47 = .ok (.ifCond .ge 12, 3) := by decide +kernel
theorem dJ7_rangeCheck_23922_59 : decode cJ7_rangeCheck_23922 59 = .ok (.iload_n 2, 1) := by decide +kernel
theorem dJ7_rangeCheck_23922_60 : decode cJ7_rangeCheck_23922 60 = .ok (.iload_n 0, 1) := by decide +kernel
theorem dJ7_rangeCheck_23922_61 : decode cJ7_rangeCheck_23922 61 = .ok (.if_icmp .le 12, 3) := by decide +kernel
theorem dJ7_rangeCheck_23922_73 : decode cJ7_rangeCheck_23922 73 = .ok (.return_, 1) := by decide +kernel
theorem dJ7_fill_fda19_0 : decode cJ7_fill_fda19 0 = .ok (.aload_n 0, 1) := by decide +kernel
theorem dJ7_fill_fda19_1 : decode cJ7_fill_fda19 1 = .ok (.arraylength, 1) := by decide +kernel
theorem dJ7_fill_fda19_2 : decode cJ7_fill_fda19 2 = .ok (.iload_n 1, 1) := by decide +kernel
theorem dJ7_fill_fda19_3 : decode cJ7_fill_fda19 3 = .ok (.iload_n 2, 1) := by decide +kernel
theorem dJ7_fill_fda19_4 : decode cJ7_fill_fda19 4 = .ok (.invokestatic 13, 3) := by decide +kernel
theorem dJ7_fill_fda19_7 : decode cJ7_fill_fda19 7 = .ok (.iload_n 1, 1) := by decide +kernel
theorem dJ7_fill_fda19_8 : decode cJ7_fill_fda19 8 = .ok (.istore 4, 2) := by decide +kernel
theorem dJ7_fill_fda19_10 : decode cJ7_fill_fda19 10 = .ok (.iload 4, 2) := by decide +kernel
theorem dJ7_fill_fda19_12 : decode cJ7_fill_fda19 12 = .ok (.iload_n 2, 1) := by decide +kernel
theorem dJ7_fill_fda19_13 : decode cJ7_fill_fda19 13 = .ok (.if_icmp .ge 14, 3) := by decide +kernel
theorem dJ7_fill_fda19_27 : decode cJ7_fill_fda19 27 = .ok (.return_, 1) := by decide +kernel
theorem dJ7_fill_fda19_16 : decode cJ7_fill_fda19 16 = .ok (.aload_n 0, 1) := by decide +kernel
theorem dJ7_fill_fda19_17 : decode cJ7_fill_fda19 17 = .ok (.iload 4, 2) := by decide +kernel
theorem dJ7_fill_fda19_19 : decode cJ7_fill_fda19 19 = .ok (.iload_n 3, 1) := by decide +kernel
theorem dJ7_fill_fda19_20 : decode cJ7_fill_fda19 20 = .ok (.iastore, 1) := by decide +kernel
theorem dJ7_fill_fda19_21 : decode cJ7_fill_fda19 21 = .ok (.iinc 4 1, 3) := by decide +kernel
theorem dJ7_fill_fda19_24 : decode cJ7_fill_fda19 24 = .ok (.goto (-14), 3) := by decide +kernel
theorem dJ7_fill_bad5a_0 : decode cJ7_fill_bad5a 0 = .ok (.aload_n 0, 1) := by decide +kernel
theorem dJ7_fill_bad5a_1 : decode cJ7_fill_bad5a 1 = .ok (.arraylength, 1) := by decide +kernel
theorem dJ7_fill_bad5a_2 : decode cJ7_fill_bad5a 2 = .ok (.iload_n 1, 1) := by decide +kernel
theorem dJ7_fill_bad5a_3 : decode cJ7_fill_bad5a 3 = .ok (.iload_n 2, 1) := by decide +kernel
theorem dJ7_fill_bad5a_4 : decode cJ7_fill_bad5a 4 = .ok (.invokestatic 13, 3) := by decide +kernel
theorem dJ7_fill_bad5a_7 : decode cJ7_fill_bad5a 7 = .ok (.iload_n 1, 1) := by decide +kernel
theorem dJ7_fill_bad5a_8 : decode cJ7_fill_bad5a 8 = .ok (.istore 5, 2) := by decide +kernel
theorem dJ7_fill_bad5a_10 : decode cJ7_fill_bad5a 10 = .ok (.iload 5, 2) := by decide +kernel
theorem dJ7_fill_bad5a_12 : decode cJ7_fill_bad5a 12 = .ok (.iload_n 2, 1) := by decide +kernel
theorem dJ7_fill_bad5a_13 : decode cJ7_fill_bad5a 13 = .ok (.if_icmp .ge 14, 3) := by decide +kernel
theorem dJ7_fill_bad5a_27 : decode cJ7_fill_bad5a 27 = .ok (.return_, 1) := by decide +kernel
theorem dJ7_fill_bad5a_16 : decode cJ7_fill_bad5a 16 = .ok (.aload_n 0, 1) := by decide +kernel
theorem dJ7_fill_bad5a_17 : decode cJ7_fill_bad5a 17 = .ok (.iload 5, 2) := by decide +kernel
theorem dJ7_fill_bad5a_19 : decode cJ7_fill_bad5a 19 = .ok (.lload_n 3, 1) := by decide +kernel
theorem dJ7_fill_bad5a_20 : decode cJ7_fill_bad5a 20 = .ok (.lastore, 1) := by decide +kernel
theorem dJ7_fill_bad5a_21 : decode cJ7_fill_bad5a 21 = .ok (.iinc 5 1, 3) := by decide +kernel
theorem dJ7_fill_bad5a_24 : decode cJ7_fill_bad5a 24 = .ok (.goto (-14), 3) := by decide +kernel
theorem dX11_grown_0 : decode cX11_grown 0 = .ok (.aload_n 0, 1) := by decide +kernel
theorem dX11_grown_1 : decode cX11_grown 1 = .ok (.arraylength, 1) := by decide +kernel
theorem dX11_grown_2 : decode cX11_grown 2 = .ok (.iload_n 1, 1) := by decide +kernel
theorem dX11_grown_3 : decode cX11_grown 3 = .ok (.if_icmp .lt 7, 3) := by decide +kernel
theorem dX11_grown_10 : decode cX11_grown 10 = .ok (.iload_n 1, 1) := by decide +kernel
theorem dX11_grown_11 : decode cX11_grown 11 = .ok (.iconst 2, 1) := by decide +kernel
theorem dX11_grown_12 : decode cX11_grown 12 = .ok (.aload_n 0, 1) := by decide +kernel
theorem dX11_grown_13 : decode cX11_grown 13 = .ok (.arraylength, 1) := by decide +kernel
theorem dX11_grown_14 : decode cX11_grown 14 = .ok (.imul, 1) := by decide +kernel
theorem dX11_grown_15 : decode cX11_grown 15 = .ok (.invokestatic 324, 3) := by decide +kernel
theorem dX11_grown_18 : decode cX11_grown 18 = .ok (.newarray .int, 2) := by decide +kernel
theorem dX11_grown_20 : decode cX11_grown 20 = .ok (.areturn, 1) := by decide +kernel
theorem dX11_grown_6 : decode cX11_grown 6 = .ok (.aload_n 0, 1) := by decide +kernel
theorem dX11_grown_7 : decode cX11_grown 7 = .ok (.goto 13, 3) := by decide +kernel
theorem dX9_changeWalls_0 : decode cX9_changeWalls 0 = .ok (.aload_n 0, 1) := by decide +kernel
theorem dX9_changeWalls_1 : decode cX9_changeWalls 1 = .ok (.dup, 1) := by decide +kernel
theorem dX9_changeWalls_2 : decode cX9_changeWalls 2 = .ok (.getfield 31, 3) := by decide +kernel
theorem dX9_changeWalls_5 : decode cX9_changeWalls 5 = .ok (.iconst 1, 1) := by decide +kernel
theorem dX9_changeWalls_6 : decode cX9_changeWalls 6 = .ok (.iadd, 1) := by decide +kernel
theorem dX9_changeWalls_7 : decode cX9_changeWalls 7 = .ok (.putfield 31, 3) := by decide +kernel
theorem dX9_changeWalls_10 : decode cX9_changeWalls 10 = .ok (.aload_n 0, 1) := by decide +kernel
theorem dX9_changeWalls_11 : decode cX9_changeWalls 11 = .ok (.iconst 1, 1) := by decide +kernel
theorem dX9_changeWalls_12 : decode cX9_changeWalls 12 = .ok (.putfield 35, 3) := by decide +kernel
theorem dX9_changeWalls_15 : decode cX9_changeWalls 15 = .ok (.return_, 1) := by decide +kernel
theorem dX9_changeAll_0 : decode cX9_changeAll 0 = .ok (.aload_n 0, 1) := by decide +kernel
theorem dX9_changeAll_1 : decode cX9_changeAll 1 = .ok (.invokevirtual 50, 3) := by decide +kernel
theorem dX9_changeAll_4 : decode cX9_changeAll 4 = .ok (.aload_n 0, 1) := by decide +kernel
theorem dX9_changeAll_5 : decode cX9_changeAll 5 = .ok (.iconst 1, 1) := by decide +kernel
theorem dX9_changeAll_6 : decode cX9_changeAll 6 = .ok (.putfield 39, 3) := by decide +kernel
theorem dX9_changeAll_9 : decode cX9_changeAll 9 = .ok (.return_, 1) := by decide +kernel
theorem dX9_version_0 : decode cX9_version 0 = .ok (.aload_n 0, 1) := by decide +kernel
theorem dX9_version_1 : decode cX9_version 1 = .ok (.getfield 31, 3) := by decide +kernel
theorem dX9_version_4 : decode cX9_version 4 = .ok (.ireturn, 1) := by decide +kernel
theorem dX9_verdictPlace_0 : decode cX9_verdictPlace 0 = .ok (.iload_n 0, 1) := by decide +kernel
theorem dX9_verdictPlace_1 : decode cX9_verdictPlace 1 = .ok (.iconst 5, 1) := by decide +kernel
theorem dX9_verdictPlace_2 : decode cX9_verdictPlace 2 = .ok (.imul, 1) := by decide +kernel
theorem dX9_verdictPlace_3 : decode cX9_verdictPlace 3 = .ok (.iload_n 1, 1) := by decide +kernel
theorem dX9_verdictPlace_4 : decode cX9_verdictPlace 4 = .ok (.iadd, 1) := by decide +kernel
theorem dX9_verdictPlace_5 : decode cX9_verdictPlace 5 = .ok (.iconst 5, 1) := by decide +kernel
theorem dX9_verdictPlace_6 : decode cX9_verdictPlace 6 = .ok (.imul, 1) := by decide +kernel
theorem dX9_verdictPlace_7 : decode cX9_verdictPlace 7 = .ok (.iload_n 2, 1) := by decide +kernel
theorem dX9_verdictPlace_8 : decode cX9_verdictPlace 8 = .ok (.iadd, 1) := by decide +kernel
theorem dX9_verdictPlace_9 : decode cX9_verdictPlace 9 = .ok (.iconst 5, 1) := by decide +kernel
theorem dX9_verdictPlace_10 : decode cX9_verdictPlace 10 = .ok (.imul, 1) := by decide +kernel
theorem dX9_verdictPlace_11 : decode cX9_verdictPlace 11 = .ok (.iload_n 3, 1) := by decide +kernel
theorem dX9_verdictPlace_12 : decode cX9_verdictPlace 12 = .ok (.iadd, 1) := by decide +kernel
theorem dX9_verdictPlace_13 : decode cX9_verdictPlace 13 = .ok (.ireturn, 1) := by decide +kernel
theorem dX9_judgePair_0 : decode cX9_judgePair 0 = .ok (.iconst 0, 1) := by decide +kernel
theorem dX9_judgePair_1 : decode cX9_judgePair 1 = .ok (.istore_n 3, 1) := by decide +kernel
theorem dX9_judgePair_2 : decode cX9_judgePair 2 = .ok (.iload_n 3, 1) := by decide +kernel
theorem dX9_judgePair_3 : decode cX9_judgePair 3 = .ok (.iconst 5, 1) := by decide +kernel
theorem dX9_judgePair_4 : decode cX9_judgePair 4 = .ok (.if_icmp .ge 129, 3) := by decide +kernel
theorem dX9_judgePair_133 : decode cX9_judgePair 133 = .ok (.return_, 1) := by decide +kernel
theorem dX9_judgePair_7 : decode cX9_judgePair 7 = .ok (.iconst 0, 1) := by decide +kernel
theorem dX9_judgePair_8 : decode cX9_judgePair 8 = .ok (.istore 4, 2) := by decide +kernel
theorem dX9_judgePair_10 : decode cX9_judgePair 10 = .ok (.iload 4, 2) := by decide +kernel
theorem dX9_judgePair_12 : decode cX9_judgePair 12 = .ok (.iconst 5, 1) := by decide +kernel
theorem dX9_judgePair_13 : decode cX9_judgePair 13 = .ok (.if_icmp .ge 114, 3) := by decide +kernel
theorem dX9_judgePair_127 : decode cX9_judgePair 127 = .ok (.iinc 3 1, 3) := by decide +kernel
theorem dX9_judgePair_130 : decode cX9_judgePair 130 = .ok (.goto (-128), 3) := by decide +kernel
theorem dX9_judgePair_16 : decode cX9_judgePair 16 = .ok (.iconst 0, 1) := by decide +kernel
theorem dX9_judgePair_17 : decode cX9_judgePair 17 = .ok (.istore 5, 2) := by decide +kernel
theorem dX9_judgePair_19 : decode cX9_judgePair 19 = .ok (.iload 5, 2) := by decide +kernel
theorem dX9_judgePair_21 : decode cX9_judgePair 21 = .ok (.iconst 5, 1) := by decide +kernel
theorem dX9_judgePair_22 : decode cX9_judgePair 22 = .ok (.if_icmp .ge 99, 3) := by decide +kernel
theorem dX9_judgePair_121 : decode cX9_judgePair 121 = .ok (.iinc 4 1, 3) := by decide +kernel
theorem dX9_judgePair_124 : decode cX9_judgePair 124 = .ok (.goto (-114), 3) := by decide +kernel
theorem dX9_judgePair_68 : decode cX9_judgePair 68 = .ok (.istore 6, 2) := by decide +kernel
theorem dX9_judgePair_70 : decode cX9_judgePair 70 = .ok (.iload 6, 2) := by decide +kernel
theorem dX9_judgePair_72 : decode cX9_judgePair 72 = .ok (.ifCond .eq 43, 3) := by decide +kernel
theorem dX9_judgePair_115 : decode cX9_judgePair 115 = .ok (.iinc 5 1, 3) := by decide +kernel
theorem dX9_judgePair_118 : decode cX9_judgePair 118 = .ok (.goto (-99), 3) := by decide +kernel
theorem dX9_judgePair_75 : decode cX9_judgePair 75 = .ok (.iload_n 3, 1) := by decide +kernel
theorem dX9_judgePair_76 : decode cX9_judgePair 76 = .ok (.iload 4, 2) := by decide +kernel
theorem dX9_judgePair_78 : decode cX9_judgePair 78 = .ok (.if_icmp .eq 37, 3) := by decide +kernel
theorem dX9_judgePair_81 : decode cX9_judgePair 81 = .ok (.aload_n 0, 1) := by decide +kernel
theorem dX9_judgePair_82 : decode cX9_judgePair 82 = .ok (.getfield 12, 3) := by decide +kernel
theorem dX9_judgePair_85 : decode cX9_judgePair 85 = .ok (.iload_n 3, 1) := by decide +kernel
theorem dX9_judgePair_86 : decode cX9_judgePair 86 = .ok (.iload 4, 2) := by decide +kernel
theorem dX9_judgePair_88 : decode cX9_judgePair 88 = .ok (.iload 5, 2) := by decide +kernel
theorem dX9_judgePair_90 : decode cX9_judgePair 90 = .ok (.invokevirtual 109, 3) := by decide +kernel
theorem dX9_judgePair_93 : decode cX9_judgePair 93 = .ok (.aload_n 0, 1) := by decide +kernel
theorem dX9_judgePair_94 : decode cX9_judgePair 94 = .ok (.getfield 28, 3) := by decide +kernel
theorem dX9_judgePair_97 : decode cX9_judgePair 97 = .ok (.iload_n 1, 1) := by decide +kernel
theorem dX9_judgePair_98 : decode cX9_judgePair 98 = .ok (.iload_n 3, 1) := by decide +kernel
theorem dX9_judgePair_99 : decode cX9_judgePair 99 = .ok (.iload 4, 2) := by decide +kernel
theorem dX9_judgePair_101 : decode cX9_judgePair 101 = .ok (.iload 5, 2) := by decide +kernel
theorem dX9_judgePair_103 : decode cX9_judgePair 103 = .ok (.invokestatic 113, 3) := by decide +kernel
theorem dX9_judgePair_106 : decode cX9_judgePair 106 = .ok (.aload_n 0, 1) := by decide +kernel
theorem dX9_judgePair_107 : decode cX9_judgePair 107 = .ok (.getfield 12, 3) := by decide +kernel
theorem dX9_judgePair_110 : decode cX9_judgePair 110 = .ok (.aload_n 2, 1) := by decide +kernel
theorem dX9_judgePair_111 : decode cX9_judgePair 111 = .ok (.invokevirtual 117, 3) := by decide +kernel
theorem dX9_judgePair_114 : decode cX9_judgePair 114 = .ok (.iastore, 1) := by decide +kernel
theorem dX9_judgePair_25 : decode cX9_judgePair 25 = .ok (.aload_n 0, 1) := by decide +kernel
theorem dX9_judgePair_26 : decode cX9_judgePair 26 = .ok (.getfield 42, 3) := by decide +kernel
theorem dX9_judgePair_29 : decode cX9_judgePair 29 = .ok (.getfield 106, 3) := by decide +kernel
theorem dX9_judgePair_32 : decode cX9_judgePair 32 = .ok (.iload_n 3, 1) := by decide +kernel
theorem dX9_judgePair_33 : decode cX9_judgePair 33 = .ok (.iaload, 1) := by decide +kernel
theorem dX9_judgePair_34 : decode cX9_judgePair 34 = .ok (.ifCond .le 33, 3) := by decide +kernel
theorem dX9_judgePair_67 : decode cX9_judgePair 67 = .ok (.iconst 0, 1) := by decide +kernel
theorem dX9_judgePair_37 : decode cX9_judgePair 37 = .ok (.aload_n 0, 1) := by decide +kernel
theorem dX9_judgePair_38 : decode cX9_judgePair 38 = .ok (.getfield 42, 3) := by decide +kernel
theorem dX9_judgePair_41 : decode cX9_judgePair 41 = .ok (.getfield 106, 3) := by decide +kernel
theorem dX9_judgePair_44 : decode cX9_judgePair 44 = .ok (.iload 4, 2) := by decide +kernel
theorem dX9_judgePair_46 : decode cX9_judgePair 46 = .ok (.iaload, 1) := by decide +kernel
theorem dX9_judgePair_47 : decode cX9_judgePair 47 = .ok (.ifCond .le 20, 3) := by decide +kernel
theorem dX9_judgePair_50 : decode cX9_judgePair 50 = .ok (.aload_n 0, 1) := by decide +kernel
theorem dX9_judgePair_51 : decode cX9_judgePair 51 = .ok (.getfield 42, 3) := by decide +kernel
theorem dX9_judgePair_54 : decode cX9_judgePair 54 = .ok (.getfield 106, 3) := by decide +kernel
theorem dX9_judgePair_57 : decode cX9_judgePair 57 = .ok (.iload 5, 2) := by decide +kernel
theorem dX9_judgePair_59 : decode cX9_judgePair 59 = .ok (.iaload, 1) := by decide +kernel
theorem dX9_judgePair_60 : decode cX9_judgePair 60 = .ok (.ifCond .le 7, 3) := by decide +kernel
theorem dX9_judgePair_63 : decode cX9_judgePair 63 = .ok (.iconst 1, 1) := by decide +kernel
theorem dX9_judgePair_64 : decode cX9_judgePair 64 = .ok (.goto 4, 3) := by decide +kernel
theorem dX9_judgeAll_0 : decode cX9_judgeAll 0 = .ok (.aload_n 0, 1) := by decide +kernel
theorem dX9_judgeAll_1 : decode cX9_judgeAll 1 = .ok (.getfield 12, 3) := by decide +kernel
theorem dX9_judgeAll_4 : decode cX9_judgeAll 4 = .ok (.aload_n 0, 1) := by decide +kernel
theorem dX9_judgeAll_5 : decode cX9_judgeAll 5 = .ok (.getfield 46, 3) := by decide +kernel
theorem dX9_judgeAll_8 : decode cX9_judgeAll 8 = .ok (.invokevirtual 76, 3) := by decide +kernel
theorem dX9_judgeAll_11 : decode cX9_judgeAll 11 = .ok (.aload_n 0, 1) := by decide +kernel
theorem dX9_judgeAll_12 : decode cX9_judgeAll 12 = .ok (.getfield 42, 3) := by decide +kernel
theorem dX9_judgeAll_15 : decode cX9_judgeAll 15 = .ok (.getfield 79, 3) := by decide +kernel
theorem dX9_judgeAll_18 : decode cX9_judgeAll 18 = .ok (.iconst 1, 1) := by decide +kernel
theorem dX9_judgeAll_19 : decode cX9_judgeAll 19 = .ok (.iaload, 1) := by decide +kernel
theorem dX9_judgeAll_20 : decode cX9_judgeAll 20 = .ok (.invokevirtual 84, 3) := by decide +kernel
theorem dX9_judgeAll_23 : decode cX9_judgeAll 23 = .ok (.iconst 0, 1) := by decide +kernel
theorem dX9_judgeAll_24 : decode cX9_judgeAll 24 = .ok (.istore_n 1, 1) := by decide +kernel
theorem dX9_judgeAll_25 : decode cX9_judgeAll 25 = .ok (.iconst 0, 1) := by decide +kernel
theorem dX9_judgeAll_26 : decode cX9_judgeAll 26 = .ok (.istore_n 2, 1) := by decide +kernel
theorem dX9_judgeAll_27 : decode cX9_judgeAll 27 = .ok (.iload_n 2, 1) := by decide +kernel
theorem dX9_judgeAll_28 : decode cX9_judgeAll 28 = .ok (.aload_n 0, 1) := by decide +kernel
theorem dX9_judgeAll_29 : decode cX9_judgeAll 29 = .ok (.getfield 46, 3) := by decide +kernel
theorem dX9_judgeAll_32 : decode cX9_judgeAll 32 = .ok (.invokevirtual 76, 3) := by decide +kernel
theorem dX9_judgeAll_35 : decode cX9_judgeAll 35 = .ok (.if_icmp .ge 79, 3) := by decide +kernel
theorem dX9_judgeAll_114 : decode cX9_judgeAll 114 = .ok (.return_, 1) := by decide +kernel
theorem dX9_judgeAll_38 : decode cX9_judgeAll 38 = .ok (.iload_n 2, 1) := by decide +kernel
theorem dX9_judgeAll_39 : decode cX9_judgeAll 39 = .ok (.iconst 1, 1) := by decide +kernel
theorem dX9_judgeAll_40 : decode cX9_judgeAll 40 = .ok (.iadd, 1) := by decide +kernel
theorem dX9_judgeAll_41 : decode cX9_judgeAll 41 = .ok (.istore_n 3, 1) := by decide +kernel
theorem dX9_judgeAll_42 : decode cX9_judgeAll 42 = .ok (.iload_n 3, 1) := by decide +kernel
theorem dX9_judgeAll_43 : decode cX9_judgeAll 43 = .ok (.aload_n 0, 1) := by decide +kernel
theorem dX9_judgeAll_44 : decode cX9_judgeAll 44 = .ok (.getfield 46, 3) := by decide +kernel
theorem dX9_judgeAll_47 : decode cX9_judgeAll 47 = .ok (.invokevirtual 76, 3) := by decide +kernel
theorem dX9_judgeAll_50 : decode cX9_judgeAll 50 = .ok (.if_icmp .ge 58, 3) := by decide +kernel
theorem dX9_judgeAll_108 : decode cX9_judgeAll 108 = .ok (.iinc 2 1, 3) := by decide +kernel
theorem dX9_judgeAll_111 : decode cX9_judgeAll 111 = .ok (.goto (-84), 3) := by decide +kernel
theorem dX9_judgeAll_53 : decode cX9_judgeAll 53 = .ok (.aload_n 0, 1) := by decide +kernel
theorem dX9_judgeAll_54 : decode cX9_judgeAll 54 = .ok (.getfield 12, 3) := by decide +kernel
theorem dX9_judgeAll_57 : decode cX9_judgeAll 57 = .ok (.iload_n 2, 1) := by decide +kernel
theorem dX9_judgeAll_58 : decode cX9_judgeAll 58 = .ok (.iload_n 3, 1) := by decide +kernel
theorem dX9_judgeAll_59 : decode cX9_judgeAll 59 = .ok (.invokevirtual 88, 3) := by decide +kernel
theorem dX9_judgeAll_62 : decode cX9_judgeAll 62 = .ok (.aload_n 0, 1) := by decide +kernel
theorem dX9_judgeAll_63 : decode cX9_judgeAll 63 = .ok (.iload_n 1, 1) := by decide +kernel
theorem dX9_judgeAll_64 : decode cX9_judgeAll 64 = .ok (.aload_n 0, 1) := by decide +kernel
theorem dX9_judgeAll_65 : decode cX9_judgeAll 65 = .ok (.getfield 42, 3) := by decide +kernel
theorem dX9_judgeAll_68 : decode cX9_judgeAll 68 = .ok (.invokevirtual 91, 3) := by decide +kernel
theorem dX9_judgeAll_71 : decode cX9_judgeAll 71 = .ok (.ifCond .eq 21, 3) := by decide +kernel
theorem dX9_judgeAll_74 : decode cX9_judgeAll 74 = .ok (.aload_n 0, 1) := by decide +kernel
theorem dX9_judgeAll_75 : decode cX9_judgeAll 75 = .ok (.getfield 42, 3) := by decide +kernel
theorem dX9_judgeAll_78 : decode cX9_judgeAll 78 = .ok (.getfield 95, 3) := by decide +kernel
theorem dX9_judgeAll_81 : decode cX9_judgeAll 81 = .ok (.aload_n 0, 1) := by decide +kernel
theorem dX9_judgeAll_82 : decode cX9_judgeAll 82 = .ok (.getfield 42, 3) := by decide +kernel
theorem dX9_judgeAll_85 : decode cX9_judgeAll 85 = .ok (.getfield 99, 3) := by decide +kernel
theorem dX9_judgeAll_88 : decode cX9_judgeAll 88 = .ok (.aaload, 1) := by decide +kernel
theorem dX9_judgeAll_89 : decode cX9_judgeAll 89 = .ok (.goto 7, 3) := by decide +kernel
theorem dX9_judgeAll_96 : decode cX9_judgeAll 96 = .ok (.invokevirtual 102, 3) := by decide +kernel
theorem dX9_judgeAll_99 : decode cX9_judgeAll 99 = .ok (.iinc 1 1, 3) := by decide +kernel
theorem dX9_judgeAll_102 : decode cX9_judgeAll 102 = .ok (.iinc 3 1, 3) := by decide +kernel
theorem dX9_judgeAll_105 : decode cX9_judgeAll 105 = .ok (.goto (-63), 3) := by decide +kernel
theorem dX9_judgeAll_92 : decode cX9_judgeAll 92 = .ok (.aload_n 0, 1) := by decide +kernel
theorem dX9_judgeAll_93 : decode cX9_judgeAll 93 = .ok (.getfield 18, 3) := by decide +kernel
theorem v_c15c431a15 {a0 a1 : Int} (h0 : a0 ≤ 100000) (h1 : 0 ≤ a1) (h2 : a1 ≤ a0) : zr a1 := by omega
theorem v_8ef19707b5 {a0 a1 a2 : Int} (h0 : 0 ≤ a0) (h1 : a0 ≤ a1) (h2 : a1 ≤ a2) (h3 : a2 ≤ 100000) : zr a0 := by omega
theorem v_007288f3db {a0 a1 a2 : Int} (h0 : 0 ≤ a0) (h1 : a0 ≤ a1) (h2 : a1 ≤ a2) (h3 : a2 ≤ 100000) : zr a1 := by omega
theorem v_9b8ff1793f {a0 a1 a2 : Int} (h0 : 0 ≤ a0) (h1 : a0 ≤ a1) (h2 : a1 ≤ a2) (h3 : a2 ≤ 100000) : zr a2 := by omega
theorem v_b561a5de7f {a0 : Int} (h0 : a0 ≤ 100000) : a0 ≤ 100000 := by omega
theorem v_0065452639 {a0 : Int} : a0 ≤ a0 := by omega
theorem v_e3395a184e {a0 a1 a2 a3 : Int} (h0 : a0 ≤ 100000) (h1 : 0 ≤ a1) (h2 : a2 ≤ a0) (h3 : a1 ≤ a3) (h4 : a3 ≤ a2) : zr a3 := by omega
theorem v_07d8748eaa {a0 a1 a2 : Int} (h0 : a0 ≤ 100000) (h1 : 0 ≤ a1) (h2 : a1 ≤ a2) (h3 : a2 ≤ a0) : zr a2 := by omega
theorem v_21976c7318 {a0 a1 : Int} (h0 : 0 ≤ a0) (h1 : a0 ≤ a1) : 0 ≤ a1 := by omega
theorem v_661726468a {a0 a1 a2 : Int} (h0 : a0 ≤ a1) (h1 : ¬ a0 ≤ a2) : a2 < a1 := by omega
theorem v_d50281bace {a0 a1 : Int} (h0 : a0 ≤ a1) : a0 ≤ (a1 + 1) := by omega
theorem v_b82c54685a {a0 : Int} (h0 : 0 ≤ a0) (h1 : a0 ≤ 50000) : zr a0 := by omega
theorem v_27813f3658 {a0 : Int} (h0 : 0 ≤ a0) (h1 : a0 ≤ 100000) : zr ((2 * a0)) := by omega
theorem v_bc369d22cb {a0 a1 : Int} (h0 : a0 ≤ a1) (h1 : a1 ≤ 2 * a0) : 0 ≤ a1 := by omega
theorem v_b94c77388f {a0 : Int} (h0 : a0 ≤ 124740) : a0 ≤ 100000000 := by omega
theorem v_d9fe08462c {a0 a1 : Int} (h0 : 2 * a0 ≤ a1) : 2 * a0 ≤ a1 := by omega
theorem v_21d3a1062c {a0 a1 : Int} (h0 : a0 ≤ 2 * a1) : a0 ≤ 2 * a1 := by omega
theorem v_9110de408e {a0 : Int} (h0 : zr a0) (h1 : a0 ≤ 100000) : zr a0 := by omega
theorem v_d34386dce5 {a0 a1 : Int} (h0 : a0 = a1 + 1) : a0 = a1 + 1 := by omega
theorem v_de571b74bd {a0 a1 : Int} : 5 * a0 + a1 = a1 + 5 * a0 := by omega
theorem v_e924536c79 {a0 a1 : Int} : (a0 + 5 * a1) * 5 = 5 * a0 + 25 * a1 := by omega
theorem v_726298d070 {a0 a1 a2 : Int} : 5 * a0 + 25 * a1 + a2 = 5 * a0 + a2 + 25 * a1 := by omega
theorem v_97985195cc {a0 a1 a2 : Int} : (5 * a0 + a1 + 25 * a2) * 5 = 25 * a0 + 5 * a1 + 125 * a2 := by omega
theorem v_81576de442 {a0 a1 a2 a3 : Int} : 25 * a0 + 5 * a1 + 125 * a2 + a3 = 25 * a0 + 5 * a1 + a3 + 125 * a2 := by omega
theorem v_9b94a2f069 {a0 a1 a2 a3 : Int} : (25 * a0 + 5 * a1 + a2 + 125 * a3) = 125 * a3 + 25 * a0 + 5 * a1 + a2 := by omega
theorem v_2759b60d8a {a0 : Int} (h0 : 0 ≤ a0) (h1 : ¬ 5 ≤ a0) : zr a0 := by omega
theorem v_4a8c742220 {a0 : Int} (h0 : ¬ 5 ≤ a0) : a0 ≤ 7 := by omega
theorem v_0979ba7300 {a0 : Int} (h0 : a0 ≤ 1000) : a0 ≤ 100000 := by omega
theorem v_312164806e {a0 a1 a2 a3 a4 : Int} (h0 : 0 ≤ a0) (h1 : 0 ≤ a1) (h2 : 0 ≤ a2) (h3 : 0 ≤ a3) (h4 : a4 = 125 * a0 + 25 * a1 + 5 * a2 + a3) : 0 ≤ a4 := by omega
theorem v_4a65f02469 {a0 a1 a2 a3 a4 : Int} (h0 : a0 ≤ 20) (h1 : ¬ 5 ≤ a1) (h2 : ¬ 5 ≤ a2) (h3 : ¬ 5 ≤ a3) (h4 : a4 = 125 * a0 + 25 * a1 + 5 * a2 + a3) : a4 < 2625 := by omega
theorem v_c255c5148d : (1 : Int) < 2 := by omega
theorem v_fcab51fa92 {a0 a1 a2 : Int} (h0 : a0 = a1) : a0 = a1 + (a2 + 1) - a2 - 1 := by omega
theorem v_c22f222aa9 {a0 a1 a2 a3 a4 : Int} (h0 : a0 ≤ a1) (h1 : a2 = a3 + a0 - a4 - 1) (h2 : a1 ≤ a0) : a2 = a3 + (a1 - a4 - 1) := by omega
theorem v_f96728aa25 {a0 a1 a2 : Int} (h0 : a0 + 1 ≤ a1) (h1 : ¬ a2 ≤ a1) : a0 < a2 := by omega
theorem v_d3fc41f99a {a0 a1 a2 : Int} (h0 : a0 ≤ 7) (h1 : a1 + 1 ≤ a2) (h2 : ¬ a0 ≤ a2) : a1 ≤ 7 := by omega
theorem v_0e7a20f8bd {a0 a1 : Int} (h0 : a0 ≤ 6) (h1 : a1 < a0) : a1 < 6 := by omega
theorem v_33a97cc6cd {a0 a1 a2 a3 : Int} (h0 : a0 + 1 ≤ a1) (h1 : a2 = a3 + a1 - a0 - 1) (h2 : 0 ≤ a3) : 0 ≤ a2 := by omega
theorem v_004452eb75 {a0 a1 a2 a3 a4 : Int} (h0 : a0 = a1 + a2 - a3 - 1) (h1 : ¬ a4 ≤ a2) (h2 : a1 + (a4 - a3 - 1) ≤ 21) : a0 ≤ 20 := by omega
theorem v_5347da67b2 {a0 : Int} (h0 : a0 ≤ 1000) : a0 ≤ 1000 := by omega
theorem v_f1b0b32074 {a0 a1 a2 a3 : Int} (h0 : a0 = a1 + a2 - a3 - 1) : (a0 + 1) = a1 + (a2 + 1) - a3 - 1 := by omega
theorem v_53cebe670f : (0 : Int) ≤ 1000 := by omega
set_option maxHeartbeats 4000000 in
set_option maxRecDepth 100000 in
theorem a_fill {l : Launch} {G : jG} {nh : Nat} {fh : Nat → Option va_E} (r : Nat) (n : Int) (F : Int → Int) (v : Int) (q0 : 0 ≤ n) (q1 : n ≤ 100000) (q2 : zr v) (hkr : fh r = some (.inl (0, (n).toNat, .inl (zA F)))) : JM l G yJ7_fill_53178 MJ7_fill_53178 { frames := 0, cells := 0, slots := 0, locals := 0 } [.ref r, .int (zI v)] (nh, fh) (fun rr h9 => ∃ H : Int → Int, rr = none ∧ h9 = (nh, hc fh [(r, .inl (0, (n).toNat, .inl (zA H)))]) ∧ (H = fillf F 0 n v)) := by
  refine JM.of (by decide) rfl (fun h => by cases h) (Nat.le_of_ble_eq_true rfl) ⟨2, rfl⟩ ?_
  refine J_hc0 (J_ls (ls2 := [some (.ref r), some (.int (zI v)), none, none]) rfl ?_)
  refine Z_iconst (n := 0) dJ7_fill_53178_0 ?_
  refine J_istore_n dJ7_fill_53178_1 rfl (Nat.le_of_ble_eq_true rfl) rfl ?_
  refine J_ls (ls2 := [some (.ref r), some (.int (zI v)), some (.int (zI 0)), none]) rfl ?_
  refine J_aload_n dJ7_fill_53178_2 rfl rfl ?_
  refine Y_alen n dJ7_fill_53178_3 hkr rfl (Int.toNat_of_nonneg (v_2b02420001 q0)) ?_
  refine J_istore_n dJ7_fill_53178_4 rfl (Nat.le_of_ble_eq_true rfl) rfl ?_
  refine J_ls (ls2 := [some (.ref r), some (.int (zI v)), some (.int (zI 0)), some (.int (zI n))]) rfl ?_
  refine J_touch (k := r) (e := .inl (0, (n).toNat, .inl (zA F))) hkr ?_
  have lp5 : ∀ (N5 : Nat) (i_5 : Int) (c_5 : Int → Int), (0 ≤ i_5) → (i_5 ≤ n) → (c_5 = fillf F 0 i_5 v) → (n - i_5).toNat < N5 → J l G MJ7_fill_53178 { frames := 0, cells := 0, slots := 0, locals := 0 } jE (jMQ G { frames := 0, cells := 0, slots := 0, locals := 0 } (fun rr h9 => ∃ H : Int → Int, rr = none ∧ h9 = (nh, hc fh [(r, .inl (0, (n).toNat, .inl (zA H)))]) ∧ (H = fillf F 0 n v))) (nh, hc fh [(r, .inl (0, (n).toNat, .inl (zA c_5)))]) 0 0 5 [some (.ref r), some (.int (zI v)), some (.int (zI i_5)), some (.int (zI n))] [] := by
    intro N5
    induction N5 with
    | zero => intro i_5 c_5 i5_0 i5_1 i5_2 hm; exact absurd hm (Nat.not_lt_zero _)
    | succ N5 ih5 =>
      intro i_5 c_5 i5_0 i5_1 i5_2 hm5
      refine J_iload_n dJ7_fill_53178_5 rfl rfl ?_
      refine J_iload_n dJ7_fill_53178_6 rfl rfl ?_
      refine Z_icmp_ge (tgt := 20) dJ7_fill_53178_7 (by decide) (v_c15c431a15 q1 i5_0 i5_1) (v_df877c3443 q0 q1) (fun h1 => ?_) (fun h1 => ?_)
      · exact J_vret dJ7_fill_53178_20 rfl (Nat.le_of_ble_eq_true rfl) (Nat.le_of_ble_eq_true rfl) ⟨c_5, rfl, rfl, (by have e : n = i_5 := (v_5b9403af20 i5_1 h1); rw [e]; exact i5_2)⟩
      · refine J_aload_n dJ7_fill_53178_10 rfl rfl ?_
        refine J_iload_n dJ7_fill_53178_11 rfl rfl ?_
        refine J_iload_n dJ7_fill_53178_12 rfl rfl ?_
        refine Y_iast (v := v) n dJ7_fill_53178_13 hch (Int.toNat_of_nonneg (v_2b02420001 q0)) (v_49a98948d1 q1) (v_2b02420001 i5_0) (v_fe9ea41faa h1) (fun f2 ef2 => ?_)
        refine Z_iinc (c := i_5 + 1) (ls2 := [some (.ref r), some (.int (zI v)), some (.int (zI (i_5 + 1))), some (.int (zI n))]) dJ7_fill_53178_14 rfl (Nat.le_of_ble_eq_true rfl) rfl rfl rfl ?_
        refine J_goto (tgt := 5) dJ7_fill_53178_17 (by decide) ?_
        refine J_dupc (A := [(r, .inl (0, (n).toNat, .inl (zA f2)))]) (B := []) (L2 := [(r, .inl (0, (n).toNat, .inl (zA f2)))]) (k := r) (c := .inl (0, (n).toNat, .inl (zA c_5))) (e := .inl (0, (n).toNat, .inl (zA f2))) rfl rfl (List.mem_of_getElem? (i := 0) rfl) ?_
        exact ih5 (i_5 + 1) f2 (v_da458fa48a i5_0) (v_e390a36114 h1) (fill_step i5_2 ef2 i5_0 rfl) (meas_lt v_90eacd6fd4 (v_8b7dd7d486 h1) hm5)
  exact lp5 _ 0 F v_939070ca3f (v_2b02420001 q0) (fill_0) (Nat.lt_succ_self _)
set_option maxHeartbeats 4000000 in
set_option maxRecDepth 100000 in
theorem a_rangeCheck {l : Launch} {G : jG} {nh : Nat} {fh : Nat → Option va_E} (n : Int) (a : Int) (b : Int) (q0 : 0 ≤ a) (q1 : a ≤ b) (q2 : b ≤ n) (q3 : n ≤ 100000) : JM l G yJ7_rangeCheck_23922 MJ7_rangeCheck_23922 { frames := 0, cells := 0, slots := 0, locals := 0 } [.int (zI n), .int (zI a), .int (zI b)] (nh, fh) (fun rr h9 => rr = none ∧ h9 = (nh, fh)) := by
  refine JM.of (by decide) rfl (fun h => by cases h) (Nat.le_of_ble_eq_true rfl) ⟨0, rfl⟩ ?_
  refine J_hc0 (J_ls (ls2 := [some (.int (zI n)), some (.int (zI a)), some (.int (zI b))]) rfl ?_)
  refine J_iload_n dJ7_rangeCheck_23922_0 rfl rfl ?_
  refine J_iload_n dJ7_rangeCheck_23922_1 rfl rfl ?_
  refine Z_icmp_le (tgt := 46) dJ7_rangeCheck_23922_2 (by decide) (v_8ef19707b5 q0 q1 q2 q3) (v_007288f3db q0 q1 q2 q3) (fun h1 => ?_) (fun h1 => absurd h1 (fun q => q (v_d464d4c634 q1)))
  refine J_iload_n dJ7_rangeCheck_23922_46 rfl rfl ?_
  refine Z_if_ge (tgt := 59) dJ7_rangeCheck_23922_47 (by decide) (v_8ef19707b5 q0 q1 q2 q3) (fun h2 => ?_) (fun h2 => absurd h2 (fun q => q (v_2b02420001 q0)))
  refine J_iload_n dJ7_rangeCheck_23922_59 rfl rfl ?_
  refine J_iload_n dJ7_rangeCheck_23922_60 rfl rfl ?_
  refine Z_icmp_le (tgt := 73) dJ7_rangeCheck_23922_61 (by decide) (v_007288f3db q0 q1 q2 q3) (v_9b8ff1793f q0 q1 q2 q3) (fun h3 => ?_) (fun h3 => absurd h3 (fun q => q (v_d464d4c634 q2)))
  exact J_vret dJ7_rangeCheck_23922_73 rfl (Nat.le_of_ble_eq_true rfl) (Nat.le_of_ble_eq_true rfl) ⟨rfl, rfl⟩
set_option maxHeartbeats 4000000 in
set_option maxRecDepth 100000 in
theorem a_fillr {l : Launch} {G : jG} {nh : Nat} {fh : Nat → Option va_E} (r : Nat) (n : Int) (F : Int → Int) (a : Int) (b : Int) (v : Int) (q0 : 0 ≤ n) (q1 : n ≤ 100000) (q2 : zr v) (q3 : 0 ≤ a) (q4 : a ≤ b) (q5 : b ≤ n) (hkr : fh r = some (.inl (0, (n).toNat, .inl (zA F)))) : JM l G yJ7_fill_fda19 MJ7_fill_fda19 { frames := 1, cells := 0, slots := 0, locals := 22 } [.ref r, .int (zI a), .int (zI b), .int (zI v)] (nh, fh) (fun rr h9 => ∃ H : Int → Int, rr = none ∧ h9 = (nh, hc fh [(r, .inl (0, (n).toNat, .inl (zA H)))]) ∧ (H = fillf F a b v)) := by
  refine JM.of (by decide) rfl (fun h => by cases h) (Nat.le_of_ble_eq_true rfl) ⟨1, rfl⟩ ?_
  refine J_hc0 (J_ls (ls2 := [some (.ref r), some (.int (zI a)), some (.int (zI b)), some (.int (zI v)), none]) rfl ?_)
  refine J_aload_n dJ7_fill_fda19_0 rfl rfl ?_
  refine Y_alen n dJ7_fill_fda19_1 hkr rfl (Int.toNat_of_nonneg (v_2b02420001 q0)) ?_
  refine J_iload_n dJ7_fill_fda19_2 rfl rfl ?_
  refine J_iload_n dJ7_fill_fda19_3 rfl rfl ?_
  refine J_callS (st := []) dJ7_fill_fda19_4 cs_J7_13 (a_rangeCheck n a b (v_2b02420001 q3) (v_d464d4c634 q4) (v_d464d4c634 q5) (v_b561a5de7f q1)) rfl rfl (Nat.le_of_ble_eq_true rfl) ⟨(Nat.le_of_ble_eq_true rfl), (Nat.le_of_ble_eq_true rfl)⟩ ⟨(Nat.le_of_ble_eq_true rfl), (Nat.le_of_ble_eq_true rfl)⟩ (fun r h9 hp => ?_)
  obtain ⟨rfl, rfl⟩ := hp
  refine J_nf (nh2 := nh) (ck2 := 0) (sk2 := 0) (st2 := []) rfl rfl rfl rfl ?_
  refine J_iload_n dJ7_fill_fda19_7 rfl rfl ?_
  refine J_istore dJ7_fill_fda19_8 (Nat.le_of_ble_eq_true rfl) rfl ?_
  refine J_ls (ls2 := [some (.ref r), some (.int (zI a)), some (.int (zI b)), some (.int (zI v)), some (.int (zI a))]) rfl ?_
  refine J_touch (k := r) (e := .inl (0, (n).toNat, .inl (zA F))) hkr ?_
  have lp10 : ∀ (N10 : Nat) (i_10 : Int) (c_10 : Int → Int), (a ≤ i_10) → (i_10 ≤ b) → (c_10 = fillf F a i_10 v) → (b - i_10).toNat < N10 → J l G MJ7_fill_fda19 { frames := 1, cells := 0, slots := 0, locals := 22 } jE (jMQ G { frames := 1, cells := 0, slots := 0, locals := 22 } (fun rr h9 => ∃ H : Int → Int, rr = none ∧ h9 = (nh, hc fh [(r, .inl (0, (n).toNat, .inl (zA H)))]) ∧ (H = fillf F a b v))) (nh, hc fh [(r, .inl (0, (n).toNat, .inl (zA c_10)))]) 0 0 10 [some (.ref r), some (.int (zI a)), some (.int (zI b)), some (.int (zI v)), some (.int (zI i_10))] [] := by
    intro N10
    induction N10 with
    | zero => intro i_10 c_10 i10_0 i10_1 i10_2 hm; exact absurd hm (Nat.not_lt_zero _)
    | succ N10 ih10 =>
      intro i_10 c_10 i10_0 i10_1 i10_2 hm10
      refine J_iload dJ7_fill_fda19_10 rfl ?_
      refine J_iload_n dJ7_fill_fda19_12 rfl rfl ?_
      refine Z_icmp_ge (tgt := 27) dJ7_fill_fda19_13 (by decide) (v_e3395a184e q1 q3 q5 i10_0 i10_1) (v_07d8748eaa q1 q3 q4 q5) (fun h1 => ?_) (fun h1 => ?_)
      · exact J_vret dJ7_fill_fda19_27 rfl (Nat.le_of_ble_eq_true rfl) (Nat.le_of_ble_eq_true rfl) ⟨c_10, rfl, rfl, (by have e : b = i_10 := (v_5b9403af20 i10_1 h1); rw [e]; exact i10_2)⟩
      · refine J_aload_n dJ7_fill_fda19_16 rfl rfl ?_
        refine J_iload dJ7_fill_fda19_17 rfl ?_
        refine J_iload_n dJ7_fill_fda19_19 rfl rfl ?_
        refine Y_iast (v := v) n dJ7_fill_fda19_20 hch (Int.toNat_of_nonneg (v_2b02420001 q0)) (v_49a98948d1 q1) (v_21976c7318 q3 i10_0) (v_661726468a q5 h1) (fun f2 ef2 => ?_)
        refine Z_iinc (c := i_10 + 1) (ls2 := [some (.ref r), some (.int (zI a)), some (.int (zI b)), some (.int (zI v)), some (.int (zI (i_10 + 1)))]) dJ7_fill_fda19_21 rfl (Nat.le_of_ble_eq_true rfl) rfl rfl rfl ?_
        refine J_goto (tgt := 10) dJ7_fill_fda19_24 (by decide) ?_
        refine J_dupc (A := [(r, .inl (0, (n).toNat, .inl (zA f2)))]) (B := []) (L2 := [(r, .inl (0, (n).toNat, .inl (zA f2)))]) (k := r) (c := .inl (0, (n).toNat, .inl (zA c_10))) (e := .inl (0, (n).toNat, .inl (zA f2))) rfl rfl (List.mem_of_getElem? (i := 0) rfl) ?_
        exact ih10 (i_10 + 1) f2 (v_d50281bace i10_0) (v_e390a36114 h1) (fill_step i10_2 ef2 i10_0 rfl) (meas_lt v_90eacd6fd4 (v_8b7dd7d486 h1) hm10)
  exact lp10 _ a F v_0065452639 (v_d464d4c634 q4) (fill_0) (Nat.lt_succ_self _)
set_option maxHeartbeats 4000000 in
set_option maxRecDepth 100000 in
theorem a_filll {l : Launch} {G : jG} {nh : Nat} {fh : Nat → Option va_E} (r : Nat) (n : Int) (F : Int → Int) (a : Int) (b : Int) (v : Int) (q0 : 0 ≤ n) (q1 : n ≤ 100000) (q2 : zr64 v) (q3 : 0 ≤ a) (q4 : a ≤ b) (q5 : b ≤ n) (hkr : fh r = some (.inl (1, (n).toNat, .inr (.inl (zAL F))))) : JM l G yJ7_fill_bad5a MJ7_fill_bad5a { frames := 1, cells := 0, slots := 0, locals := 22 } [.ref r, .int (zI a), .int (zI b), .long (zL v)] (nh, fh) (fun rr h9 => ∃ H : Int → Int, rr = none ∧ h9 = (nh, hc fh [(r, .inl (1, (n).toNat, .inr (.inl (zAL H))))]) ∧ (H = fillf F a b v)) := by
  refine JM.of (by decide) rfl (fun h => by cases h) (Nat.le_of_ble_eq_true rfl) ⟨1, rfl⟩ ?_
  refine J_hc0 (J_ls (ls2 := [some (.ref r), some (.int (zI a)), some (.int (zI b)), some (.long (zL v)), none, none]) rfl ?_)
  refine J_aload_n dJ7_fill_bad5a_0 rfl rfl ?_
  refine Y_alen n dJ7_fill_bad5a_1 hkr rfl (Int.toNat_of_nonneg (v_2b02420001 q0)) ?_
  refine J_iload_n dJ7_fill_bad5a_2 rfl rfl ?_
  refine J_iload_n dJ7_fill_bad5a_3 rfl rfl ?_
  refine J_callS (st := []) dJ7_fill_bad5a_4 cs_J7_13 (a_rangeCheck n a b (v_2b02420001 q3) (v_d464d4c634 q4) (v_d464d4c634 q5) (v_b561a5de7f q1)) rfl rfl (Nat.le_of_ble_eq_true rfl) ⟨(Nat.le_of_ble_eq_true rfl), (Nat.le_of_ble_eq_true rfl)⟩ ⟨(Nat.le_of_ble_eq_true rfl), (Nat.le_of_ble_eq_true rfl)⟩ (fun r h9 hp => ?_)
  obtain ⟨rfl, rfl⟩ := hp
  refine J_nf (nh2 := nh) (ck2 := 0) (sk2 := 0) (st2 := []) rfl rfl rfl rfl ?_
  refine J_iload_n dJ7_fill_bad5a_7 rfl rfl ?_
  refine J_istore dJ7_fill_bad5a_8 (Nat.le_of_ble_eq_true rfl) rfl ?_
  refine J_ls (ls2 := [some (.ref r), some (.int (zI a)), some (.int (zI b)), some (.long (zL v)), none, some (.int (zI a))]) rfl ?_
  refine J_touch (k := r) (e := .inl (1, (n).toNat, .inr (.inl (zAL F)))) hkr ?_
  have lp10 : ∀ (N10 : Nat) (i_10 : Int) (c_10 : Int → Int), (a ≤ i_10) → (i_10 ≤ b) → (c_10 = fillf F a i_10 v) → (b - i_10).toNat < N10 → J l G MJ7_fill_bad5a { frames := 1, cells := 0, slots := 0, locals := 22 } jE (jMQ G { frames := 1, cells := 0, slots := 0, locals := 22 } (fun rr h9 => ∃ H : Int → Int, rr = none ∧ h9 = (nh, hc fh [(r, .inl (1, (n).toNat, .inr (.inl (zAL H))))]) ∧ (H = fillf F a b v))) (nh, hc fh [(r, .inl (1, (n).toNat, .inr (.inl (zAL c_10))))]) 0 0 10 [some (.ref r), some (.int (zI a)), some (.int (zI b)), some (.long (zL v)), none, some (.int (zI i_10))] [] := by
    intro N10
    induction N10 with
    | zero => intro i_10 c_10 i10_0 i10_1 i10_2 hm; exact absurd hm (Nat.not_lt_zero _)
    | succ N10 ih10 =>
      intro i_10 c_10 i10_0 i10_1 i10_2 hm10
      refine J_iload dJ7_fill_bad5a_10 rfl ?_
      refine J_iload_n dJ7_fill_bad5a_12 rfl rfl ?_
      refine Z_icmp_ge (tgt := 27) dJ7_fill_bad5a_13 (by decide) (v_e3395a184e q1 q3 q5 i10_0 i10_1) (v_07d8748eaa q1 q3 q4 q5) (fun h1 => ?_) (fun h1 => ?_)
      · exact J_vret dJ7_fill_bad5a_27 rfl (Nat.le_of_ble_eq_true rfl) (Nat.le_of_ble_eq_true rfl) ⟨c_10, rfl, rfl, (by have e : b = i_10 := (v_5b9403af20 i10_1 h1); rw [e]; exact i10_2)⟩
      · refine J_aload_n dJ7_fill_bad5a_16 rfl rfl ?_
        refine J_iload dJ7_fill_bad5a_17 rfl ?_
        refine J_lload_n dJ7_fill_bad5a_19 rfl rfl ?_
        refine Y_last (v := v) n dJ7_fill_bad5a_20 hch (Int.toNat_of_nonneg (v_2b02420001 q0)) (v_49a98948d1 q1) (v_21976c7318 q3 i10_0) (v_661726468a q5 h1) (fun f2 ef2 => ?_)
        refine Z_iinc (c := i_10 + 1) (ls2 := [some (.ref r), some (.int (zI a)), some (.int (zI b)), some (.long (zL v)), none, some (.int (zI (i_10 + 1)))]) dJ7_fill_bad5a_21 rfl (Nat.le_of_ble_eq_true rfl) rfl rfl rfl ?_
        refine J_goto (tgt := 10) dJ7_fill_bad5a_24 (by decide) ?_
        refine J_dupc (A := [(r, .inl (1, (n).toNat, .inr (.inl (zAL f2))))]) (B := []) (L2 := [(r, .inl (1, (n).toNat, .inr (.inl (zAL f2))))]) (k := r) (c := .inl (1, (n).toNat, .inr (.inl (zAL c_10)))) (e := .inl (1, (n).toNat, .inr (.inl (zAL f2)))) rfl rfl (List.mem_of_getElem? (i := 0) rfl) ?_
        exact ih10 (i_10 + 1) f2 (v_d50281bace i10_0) (v_e390a36114 h1) (fill_step i10_2 ef2 i10_0 rfl) (meas_lt v_90eacd6fd4 (v_8b7dd7d486 h1) hm10)
  exact lp10 _ a F v_0065452639 (v_d464d4c634 q4) (fill_0) (Nat.lt_succ_self _)
set_option maxHeartbeats 4000000 in
set_option maxRecDepth 100000 in
theorem b_grown {l : Launch} {G : jG} {nh : Nat} {fh : Nat → Option va_E} (r : Nat) (n : Int) (F : Int → Int) (x : Int) (S : Int) (q0 : 0 ≤ n) (q1 : n ≤ 100000) (q2 : 0 ≤ x) (q3 : x ≤ 50000) (q4 : 0 ≤ S) (q5 : n < x → x ≤ S ∧ 2 * n ≤ S) (hkr : fh r = some (.inl (0, (n).toNat, .inl (zA F)))) : JM l G yX11_grown MX11_grown { frames := 1, cells := 1, slots := (S).toNat, locals := 21 } [.ref r, .int (zI x)] (nh, fh) (fun rr h9 => (rr = some (.ref r) ∧ h9 = (nh, fh) ∧ (x ≤ n)) ∨ (∃ n2 : Int, rr = some (.ref nh) ∧ h9 = (nh + 1, hc fh [(nh, .inl (0, (n2).toNat, .inl (zA (fun _ => 0))))]) ∧ (n < x) ∧ (x ≤ n2) ∧ (2 * n ≤ n2) ∧ (n2 ≤ 2 * x) ∧ (n2 ≤ S))) := by
  refine JM.of (by decide) rfl (fun h => by cases h) (Nat.le_of_ble_eq_true rfl) ⟨0, rfl⟩ ?_
  refine J_hc0 (J_ls (ls2 := [some (.ref r), some (.int (zI x))]) rfl ?_)
  refine J_aload_n dX11_grown_0 rfl rfl ?_
  refine Y_alen n dX11_grown_1 hkr rfl (Int.toNat_of_nonneg (v_2b02420001 q0)) ?_
  refine J_iload_n dX11_grown_2 rfl rfl ?_
  refine Z_icmp_lt (tgt := 10) dX11_grown_3 (by decide) (v_df877c3443 q0 q1) (v_b82c54685a q2 q3) (fun h1 => ?_) (fun h1 => ?_)
  · have g2 := q5 h1
    refine J_iload_n dX11_grown_10 rfl rfl ?_
    refine Z_iconst (n := 2) dX11_grown_11 ?_
    refine J_aload_n dX11_grown_12 rfl rfl ?_
    refine Y_alen n dX11_grown_13 hkr rfl (Int.toNat_of_nonneg (v_2b02420001 q0)) ?_
    refine Z_imul (c := 2 * n) dX11_grown_14 rfl ?_
    obtain ⟨z3, ez3⟩ : ∃ z : Int, max x (2 * n) = z := ⟨_, rfl⟩
    refine J_mmax (z := zI z3) dX11_grown_15 (jt4 172 rfl rfl) (jt4 144 rfl rfl) (jt1 19 rfl rfl) (jt4 145 rfl rfl) (Nat.le_of_ble_eq_true rfl) (Nat.le_of_ble_eq_true rfl) (Nat.le_of_ble_eq_true rfl) (by show (0 : Nat) ≤ (S).toNat; omega) (by rw [zI_max (v_b82c54685a q2 q3) (v_27813f3658 q0 q1), ez3]) ?_
    have h4 : x ≤ z3 ∧ 2 * n ≤ z3 ∧ (z3 = x ∨ z3 = 2 * n) := by omega
    have h5 : z3 ≤ 124740 := by omega
    have g6 : z3 ≤ S := by omega
    have g7 : z3 ≤ 2 * x := by omega
    refine Y_newi (nh2 := nh + 1) (ck2 := 1) (sk2 := z3.toNat) dX11_grown_18 (jt1 98 rfl rfl) (v_bc369d22cb h4.1 g7) (v_b94c77388f h5) (Nat.le_of_ble_eq_true rfl) (by show (0 : Nat) + z3.toNat ≤ (S).toNat; omega) rfl rfl (by omega) ?_
    exact J_aret dX11_grown_20 rfl (Or.inr ⟨_, rfl⟩) (Nat.le_of_ble_eq_true rfl) (by show (z3.toNat : Nat) ≤ (S).toNat; omega) (Or.inr ⟨z3, rfl, rfl, (v_b9aca61388 h1), (v_d464d4c634 h4.1), (v_d9fe08462c h4.2.1), (v_21d3a1062c g7), (v_d464d4c634 g6)⟩)
  · refine J_aload_n dX11_grown_6 rfl rfl ?_
    refine J_goto (tgt := 20) dX11_grown_7 (by decide) ?_
    exact J_aret dX11_grown_20 rfl (Or.inr ⟨_, rfl⟩) (Nat.le_of_ble_eq_true rfl) (by show (0 : Nat) ≤ (S).toNat; omega) (Or.inl ⟨rfl, rfl, (v_a8d8b48da6 h1)⟩)
set_option maxHeartbeats 4000000 in
set_option maxRecDepth 100000 in
theorem t_changeWalls {l : Launch} {G : jG} {nh : Nat} {fh : Nat → Option va_E} (ks : Nat) (ve : Int) (ss : Int) (vs : Int) (q0 : zr ve) (q1 : ve ≤ 100000) (hk57 : fh 57 = some (.inr (9, [.ref 1, .ref 51, .ref 58, .ref 61, .ref 62, .ref ks, .ref 64, .int (zI ve), .int (zI ss), .int (zI vs)]))) : JM l G yX9_changeWalls MX9_changeWalls { frames := 0, cells := 0, slots := 0, locals := 0 } [.ref 57] (nh, fh) (fun rr h9 => ∃ ve2 : Int, rr = none ∧ h9 = (nh, hc fh [(57, .inr (9, [.ref 1, .ref 51, .ref 58, .ref 61, .ref 62, .ref ks, .ref 64, .int (zI ve2), .int (zI 1), .int (zI vs)]))]) ∧ (ve2 = ve + 1)) := by
  refine JM.of (by decide) rfl (fun h => by cases h) (Nat.le_of_ble_eq_true rfl) ⟨0, rfl⟩ ?_
  refine J_hc0 (J_ls (ls2 := [some (.ref 57)]) rfl ?_)
  refine J_aload_n dX9_changeWalls_0 rfl rfl ?_
  refine J_dup dX9_changeWalls_1 rfl ?_
  refine J_get (v := .int (zI ve)) dX9_changeWalls_2 fl_X9_31 hk57 rfl ?_
  refine Z_iconst (n := 1) dX9_changeWalls_5 ?_
  refine Z_iadd (c := ve + 1) dX9_changeWalls_6 rfl ?_
  refine K_put (fs2 := [.ref 1, .ref 51, .ref 58, .ref 61, .ref 62, .ref ks, .ref 64, .int (zI (ve + 1)), .int (zI ss), .int (zI vs)]) dX9_changeWalls_7 fw_X9_31 hk57 (Nat.le_of_ble_eq_true rfl) (fun _ => ⟨rfl, rfl⟩) rfl ?_
  refine J_aload_n dX9_changeWalls_10 rfl rfl ?_
  refine Z_iconst (n := 1) dX9_changeWalls_11 ?_
  refine K_put (fs2 := [.ref 1, .ref 51, .ref 58, .ref 61, .ref 62, .ref ks, .ref 64, .int (zI (ve + 1)), .int (zI 1), .int (zI vs)]) dX9_changeWalls_12 fw_X9_35 rfl (Nat.le_of_ble_eq_true rfl) (jbz v_316afd7d0b v_bbcfac9b7d) rfl ?_
  refine J_mask (L2 := [(57, .inr (9, [.ref 1, .ref 51, .ref 58, .ref 61, .ref 62, .ref ks, .ref 64, .int (zI (ve + 1)), .int (zI 1), .int (zI vs)]))]) (ks := [57, 57]) [true, false] rfl (by decide +kernel) rfl ?_
  exact J_vret dX9_changeWalls_15 rfl (Nat.le_of_ble_eq_true rfl) (Nat.le_of_ble_eq_true rfl) ⟨(ve + 1), rfl, rfl, v_e828b09c4d⟩
set_option maxHeartbeats 4000000 in
set_option maxRecDepth 100000 in
theorem t_changeAll {l : Launch} {G : jG} {nh : Nat} {fh : Nat → Option va_E} (ks : Nat) (ve : Int) (ss : Int) (vs : Int) (q0 : zr ve) (q1 : ve ≤ 100000) (hk57 : fh 57 = some (.inr (9, [.ref 1, .ref 51, .ref 58, .ref 61, .ref 62, .ref ks, .ref 64, .int (zI ve), .int (zI ss), .int (zI vs)]))) : JM l G yX9_changeAll MX9_changeAll { frames := 1, cells := 0, slots := 0, locals := 20 } [.ref 57] (nh, fh) (fun rr h9 => ∃ ve2 : Int, rr = none ∧ h9 = (nh, hc fh [(57, .inr (9, [.ref 1, .ref 51, .ref 58, .ref 61, .ref 62, .ref ks, .ref 64, .int (zI ve2), .int (zI 1), .int (zI 1)]))]) ∧ (ve2 = ve + 1)) := by
  refine JM.of (by decide) rfl (fun h => by cases h) (Nat.le_of_ble_eq_true rfl) ⟨0, rfl⟩ ?_
  refine J_hc0 (J_ls (ls2 := [some (.ref 57)]) rfl ?_)
  refine J_aload_n dX9_changeAll_0 rfl rfl ?_
  refine J_callV (st := []) dX9_changeAll_1 cv_X9_50 (t_changeWalls ks ve ss vs (v_9110de408e q0 q1) (v_b561a5de7f q1) hk57) hk57 rfl rfl (Nat.le_of_ble_eq_true rfl) ⟨(Nat.le_of_ble_eq_true rfl), (Nat.le_of_ble_eq_true rfl)⟩ ⟨(Nat.le_of_ble_eq_true rfl), (Nat.le_of_ble_eq_true rfl)⟩ (fun r h9 hp => ?_)
  obtain ⟨z1, rfl, rfl, h2⟩ := hp
  refine J_nf (nh2 := nh) (ck2 := 0) (sk2 := 0) (st2 := []) rfl rfl rfl rfl ?_
  refine J_app (L3 := [(57, .inr (9, [.ref 1, .ref 51, .ref 58, .ref 61, .ref 62, .ref ks, .ref 64, .int (zI z1), .int (zI 1), .int (zI vs)]))]) rfl ?_
  refine J_aload_n dX9_changeAll_4 rfl rfl ?_
  refine Z_iconst (n := 1) dX9_changeAll_5 ?_
  refine K_put (fs2 := [.ref 1, .ref 51, .ref 58, .ref 61, .ref 62, .ref ks, .ref 64, .int (zI z1), .int (zI 1), .int (zI 1)]) dX9_changeAll_6 fw_X9_39 rfl (Nat.le_of_ble_eq_true rfl) (jbz v_316afd7d0b v_bbcfac9b7d) rfl ?_
  refine J_mask (L2 := [(57, .inr (9, [.ref 1, .ref 51, .ref 58, .ref 61, .ref 62, .ref ks, .ref 64, .int (zI z1), .int (zI 1), .int (zI 1)]))]) (ks := [57, 57]) [true, false] rfl (by decide +kernel) rfl ?_
  exact J_vret dX9_changeAll_9 rfl (Nat.le_of_ble_eq_true rfl) (Nat.le_of_ble_eq_true rfl) ⟨z1, rfl, rfl, (v_d34386dce5 h2)⟩
set_option maxHeartbeats 4000000 in
set_option maxRecDepth 100000 in
theorem t_version {l : Launch} {G : jG} {nh : Nat} {fh : Nat → Option va_E} (ks : Nat) (ve : Int) (ss : Int) (vs : Int) (hk57 : fh 57 = some (.inr (9, [.ref 1, .ref 51, .ref 58, .ref 61, .ref 62, .ref ks, .ref 64, .int (zI ve), .int (zI ss), .int (zI vs)]))) : JM l G yX9_version MX9_version { frames := 0, cells := 0, slots := 0, locals := 0 } [.ref 57] (nh, fh) (fun rr h9 => rr = some (.int (zI ve)) ∧ h9 = (nh, fh)) := by
  refine JM.of (by decide) rfl (fun h => by cases h) (Nat.le_of_ble_eq_true rfl) ⟨0, rfl⟩ ?_
  refine J_hc0 (J_ls (ls2 := [some (.ref 57)]) rfl ?_)
  refine J_aload_n dX9_version_0 rfl rfl ?_
  refine J_get (v := .int (zI ve)) dX9_version_1 fl_X9_31 hk57 rfl ?_
  exact J_iret dX9_version_4 rfl rfl (Nat.le_of_ble_eq_true rfl) (Nat.le_of_ble_eq_true rfl) ⟨rfl, rfl⟩
set_option maxHeartbeats 4000000 in
set_option maxRecDepth 100000 in
theorem t_verdictPlace {l : Launch} {G : jG} {nh : Nat} {fh : Nat → Option va_E} (p : Int) (a : Int) (b : Int) (c : Int) : JM l G yX9_verdictPlace MX9_verdictPlace { frames := 0, cells := 0, slots := 0, locals := 0 } [.int (zI p), .int (zI a), .int (zI b), .int (zI c)] (nh, fh) (fun rr h9 => ∃ r : Int, rr = some (.int (zI r)) ∧ h9 = (nh, fh) ∧ (r = 125 * p + 25 * a + 5 * b + c)) := by
  refine JM.of (by decide) rfl (fun h => by cases h) (Nat.le_of_ble_eq_true rfl) ⟨0, rfl⟩ ?_
  refine J_hc0 (J_ls (ls2 := [some (.int (zI p)), some (.int (zI a)), some (.int (zI b)), some (.int (zI c))]) rfl ?_)
  refine J_iload_n dX9_verdictPlace_0 rfl rfl ?_
  refine Z_iconst (n := 5) dX9_verdictPlace_1 ?_
  refine Z_imul (c := 5 * p) dX9_verdictPlace_2 v_17a439e0e6 ?_
  refine J_iload_n dX9_verdictPlace_3 rfl rfl ?_
  refine Z_iadd (c := a + 5 * p) dX9_verdictPlace_4 v_de571b74bd ?_
  refine Z_iconst (n := 5) dX9_verdictPlace_5 ?_
  refine Z_imul (c := 5 * a + 25 * p) dX9_verdictPlace_6 v_e924536c79 ?_
  refine J_iload_n dX9_verdictPlace_7 rfl rfl ?_
  refine Z_iadd (c := 5 * a + b + 25 * p) dX9_verdictPlace_8 v_726298d070 ?_
  refine Z_iconst (n := 5) dX9_verdictPlace_9 ?_
  refine Z_imul (c := 25 * a + 5 * b + 125 * p) dX9_verdictPlace_10 v_97985195cc ?_
  refine J_iload_n dX9_verdictPlace_11 rfl rfl ?_
  refine Z_iadd (c := 25 * a + 5 * b + c + 125 * p) dX9_verdictPlace_12 v_81576de442 ?_
  exact J_iret dX9_verdictPlace_13 rfl rfl (Nat.le_of_ble_eq_true rfl) (Nat.le_of_ble_eq_true rfl) ⟨(25 * a + 5 * b + c + 125 * p), rfl, rfl, v_9b94a2f069⟩
set_option maxHeartbeats 4000000 in
set_option maxRecDepth 100000 in
theorem t_judgePair {l : Launch} {G : jG} {nh : Nat} {fh : Nat → Option va_E} (p : Int) (r : Nat) (n : Int) (cf : Int → Int) (ks : Nat) (ve : Int) (ss : Int) (vs : Int) (lc : Int) (fo : Int) (wc : Int) (cc : Int) (sc : Int) (ht : Int) (br : Int) (hl : Int) (le : Int) (ba : Int) (tk : Int) (wf : Int → Int) (kf : Int → Int) (ff : Int → Int) (vf : Int → Int) (q0 : 0 ≤ p) (q1 : p ≤ 20) (q2 : 0 ≤ n) (q3 : n ≤ 1000) (q4 : Fx r) (q5 : Rg cf n (-2147483648) 2147483647) (q6 : Rg vf 2625 0 99) (q7 : Rg wf 8 (-2147483648) 2147483647) (q8 : Rg ff 5 (-2147483648) 2147483647) (q9 : 0 ≤ ht) (q10 : ht ≤ 64) (q11 : 0 ≤ br) (q12 : br ≤ 1) (q13 : 0 ≤ hl) (q14 : hl ≤ 1) (q15 : 0 ≤ le) (q16 : le ≤ 1) (q17 : 0 ≤ ba) (q18 : ba ≤ 1) (q19 : 1 ≤ tk) (q20 : tk ≤ 99) (hk57 : fh 57 = some (.inr (9, [.ref 1, .ref 51, .ref 58, .ref 61, .ref 62, .ref ks, .ref 64, .int (zI ve), .int (zI ss), .int (zI vs)]))) (hk1 : fh 1 = some (.inr (8, [.ref 2, .ref 3, .ref 4, .int (zI lc), .int (zI fo), .ref 11, .ref 12, .int (zI wc), .ref 13, .ref 14, .int (zI cc), .ref 15, .ref 16, .int (zI sc)]))) (hk2 : fh 2 = some (.inl (0, 5, .inl (zA ff)))) (hk64 : fh 64 = some (.inl (0, 2625, .inl (zA vf)))) (hkr : fh r = some (.inl (0, (n).toNat, .inl (zA cf)))) (hk58 : fh 58 = some (.inr (1, [.ref 59, .ref 60, .int (zI ht), .int (zI br), .int (zI hl), .int (zI le), .int (zI ba), .int (zI tk)]))) (hk59 : fh 59 = some (.inl (0, 8, .inl (zA wf)))) (hk60 : fh 60 = some (.inl (1, 64, .inr (.inl (zAL kf))))) : JM l G yX9_judgePair MX9_judgePair { frames := 4, cells := 0, slots := 0, locals := 95 } [.ref 57, .int (zI p), .ref r] (nh, fh) (fun rr h9 => ∃ ht2 : Int, ∃ br2 : Int, ∃ hl2 : Int, ∃ le2 : Int, ∃ ba2 : Int, ∃ tk2 : Int, ∃ wg : Int → Int, ∃ kg : Int → Int, ∃ vg : Int → Int, rr = none ∧ h9 = (nh, hc fh [(58, .inr (1, [.ref 59, .ref 60, .int (zI ht2), .int (zI br2), .int (zI hl2), .int (zI le2), .int (zI ba2), .int (zI tk2)])), (59, .inl (0, 8, .inl (zA wg))), (60, .inl (1, 64, .inr (.inl (zAL kg)))), (64, .inl (0, 2625, .inl (zA vg)))]) ∧ (0 ≤ ht2) ∧ (ht2 ≤ 64) ∧ (0 ≤ br2) ∧ (br2 ≤ 1) ∧ (0 ≤ hl2) ∧ (hl2 ≤ 1) ∧ (0 ≤ le2) ∧ (le2 ≤ 1) ∧ (0 ≤ ba2) ∧ (ba2 ≤ 1) ∧ (1 ≤ tk2) ∧ (tk2 ≤ 99) ∧ (Rg wg 8 (-2147483648) 2147483647) ∧ (Rg vg 2625 0 99)) := by
  refine JM.of (by decide) rfl (fun h => by cases h) (Nat.le_of_ble_eq_true rfl) ⟨4, rfl⟩ ?_
  refine J_hc0 (J_ls (ls2 := [some (.ref 57), some (.int (zI p)), some (.ref r), none, none, none, none]) rfl ?_)
  refine Z_iconst (n := 0) dX9_judgePair_0 ?_
  refine J_istore_n dX9_judgePair_1 rfl (Nat.le_of_ble_eq_true rfl) rfl ?_
  refine J_ls (ls2 := [some (.ref 57), some (.int (zI p)), some (.ref r), some (.int (zI 0)), none, none, none]) rfl ?_
  refine J_touch (k := 58) (e := .inr (1, [.ref 59, .ref 60, .int (zI ht), .int (zI br), .int (zI hl), .int (zI le), .int (zI ba), .int (zI tk)])) hk58 ?_
  refine J_touch (k := 59) (e := .inl (0, 8, .inl (zA wf))) hk59 ?_
  refine J_touch (k := 60) (e := .inl (1, 64, .inr (.inl (zAL kf)))) hk60 ?_
  refine J_touch (k := 64) (e := .inl (0, 2625, .inl (zA vf))) hk64 ?_
  have lp2 : ∀ (N2 : Nat) (a_2 : Int) (ht_2 : Int) (br_2 : Int) (hl_2 : Int) (le_2 : Int) (ba_2 : Int) (tk_2 : Int) (wx_2 : Int → Int) (kx_2 : Int → Int) (vx_2 : Int → Int), (0 ≤ a_2) → (a_2 ≤ 5) → (0 ≤ ht_2) → (ht_2 ≤ 64) → (0 ≤ br_2) → (br_2 ≤ 1) → (0 ≤ hl_2) → (hl_2 ≤ 1) → (0 ≤ le_2) → (le_2 ≤ 1) → (0 ≤ ba_2) → (ba_2 ≤ 1) → (1 ≤ tk_2) → (tk_2 ≤ 99) → (Rg wx_2 8 (-2147483648) 2147483647) → (Rg vx_2 2625 0 99) → (5 - a_2).toNat < N2 → J l G MX9_judgePair { frames := 4, cells := 0, slots := 0, locals := 95 } jE (jMQ G { frames := 4, cells := 0, slots := 0, locals := 95 } (fun rr h9 => ∃ ht2 : Int, ∃ br2 : Int, ∃ hl2 : Int, ∃ le2 : Int, ∃ ba2 : Int, ∃ tk2 : Int, ∃ wg : Int → Int, ∃ kg : Int → Int, ∃ vg : Int → Int, rr = none ∧ h9 = (nh, hc fh [(58, .inr (1, [.ref 59, .ref 60, .int (zI ht2), .int (zI br2), .int (zI hl2), .int (zI le2), .int (zI ba2), .int (zI tk2)])), (59, .inl (0, 8, .inl (zA wg))), (60, .inl (1, 64, .inr (.inl (zAL kg)))), (64, .inl (0, 2625, .inl (zA vg)))]) ∧ (0 ≤ ht2) ∧ (ht2 ≤ 64) ∧ (0 ≤ br2) ∧ (br2 ≤ 1) ∧ (0 ≤ hl2) ∧ (hl2 ≤ 1) ∧ (0 ≤ le2) ∧ (le2 ≤ 1) ∧ (0 ≤ ba2) ∧ (ba2 ≤ 1) ∧ (1 ≤ tk2) ∧ (tk2 ≤ 99) ∧ (Rg wg 8 (-2147483648) 2147483647) ∧ (Rg vg 2625 0 99))) (nh, hc fh [(64, .inl (0, 2625, .inl (zA vx_2))), (60, .inl (1, 64, .inr (.inl (zAL kx_2)))), (59, .inl (0, 8, .inl (zA wx_2))), (58, .inr (1, [.ref 59, .ref 60, .int (zI ht_2), .int (zI br_2), .int (zI hl_2), .int (zI le_2), .int (zI ba_2), .int (zI tk_2)]))]) 0 0 2 [some (.ref 57), some (.int (zI p)), some (.ref r), some (.int (zI a_2)), none, none, none] [] := by
    intro N2
    induction N2 with
    | zero => intro a_2 ht_2 br_2 hl_2 le_2 ba_2 tk_2 wx_2 kx_2 vx_2 i2_0 i2_1 i2_2 i2_3 i2_4 i2_5 i2_6 i2_7 i2_8 i2_9 i2_10 i2_11 i2_12 i2_13 i2_14 i2_15 hm; exact absurd hm (Nat.not_lt_zero _)
    | succ N2 ih2 =>
      intro a_2 ht_2 br_2 hl_2 le_2 ba_2 tk_2 wx_2 kx_2 vx_2 i2_0 i2_1 i2_2 i2_3 i2_4 i2_5 i2_6 i2_7 i2_8 i2_9 i2_10 i2_11 i2_12 i2_13 i2_14 i2_15 hm2
      refine J_iload_n dX9_judgePair_2 rfl rfl ?_
      refine Z_iconst (n := 5) dX9_judgePair_3 ?_
      refine Z_icmp_ge (tgt := 133) dX9_judgePair_4 (by decide) (v_a6208d3904 i2_0 i2_1) v_3961fe0d0d (fun h1 => ?_) (fun h1 => ?_)
      · refine J_touch (k := 64) (e := .inl (0, 2625, .inl (zA vx_2))) rfl ?_
        refine J_touch (k := 60) (e := .inl (1, 64, .inr (.inl (zAL kx_2)))) rfl ?_
        refine J_touch (k := 59) (e := .inl (0, 8, .inl (zA wx_2))) rfl ?_
        refine J_touch (k := 58) (e := .inr (1, [.ref 59, .ref 60, .int (zI ht_2), .int (zI br_2), .int (zI hl_2), .int (zI le_2), .int (zI ba_2), .int (zI tk_2)])) rfl ?_
        refine J_mask (L2 := [(58, .inr (1, [.ref 59, .ref 60, .int (zI ht_2), .int (zI br_2), .int (zI hl_2), .int (zI le_2), .int (zI ba_2), .int (zI tk_2)])), (59, .inl (0, 8, .inl (zA wx_2))), (60, .inl (1, 64, .inr (.inl (zAL kx_2)))), (64, .inl (0, 2625, .inl (zA vx_2)))]) (ks := [58, 59, 60, 64, 64, 60, 59, 58]) [true, true, true, true, false, false, false, false] rfl (by decide +kernel) rfl ?_
        exact J_vret dX9_judgePair_133 rfl (Nat.le_of_ble_eq_true rfl) (Nat.le_of_ble_eq_true rfl) ⟨ht_2, br_2, hl_2, le_2, ba_2, tk_2, wx_2, kx_2, vx_2, rfl, rfl, (v_2b02420001 i2_2), (v_33669261f6 i2_3), (v_2b02420001 i2_4), (v_6b0b292328 i2_5), (v_2b02420001 i2_6), (v_6b0b292328 i2_7), (v_2b02420001 i2_8), (v_6b0b292328 i2_9), (v_2b02420001 i2_10), (v_6b0b292328 i2_11), (v_5dfb8272e3 i2_12), (v_ec44273dfa i2_13), i2_14, i2_15⟩
      · refine Z_iconst (n := 0) dX9_judgePair_7 ?_
        refine J_istore dX9_judgePair_8 (Nat.le_of_ble_eq_true rfl) rfl ?_
        refine J_ls (ls2 := [some (.ref 57), some (.int (zI p)), some (.ref r), some (.int (zI a_2)), some (.int (zI 0)), none, none]) rfl ?_
        have lp10 : ∀ (N10 : Nat) (b_10 : Int) (ht_10 : Int) (br_10 : Int) (hl_10 : Int) (le_10 : Int) (ba_10 : Int) (tk_10 : Int) (wx_10 : Int → Int) (kx_10 : Int → Int) (vx_10 : Int → Int), (0 ≤ b_10) → (b_10 ≤ 5) → (0 ≤ ht_10) → (ht_10 ≤ 64) → (0 ≤ br_10) → (br_10 ≤ 1) → (0 ≤ hl_10) → (hl_10 ≤ 1) → (0 ≤ le_10) → (le_10 ≤ 1) → (0 ≤ ba_10) → (ba_10 ≤ 1) → (1 ≤ tk_10) → (tk_10 ≤ 99) → (Rg wx_10 8 (-2147483648) 2147483647) → (Rg vx_10 2625 0 99) → (5 - b_10).toNat < N10 → J l G MX9_judgePair { frames := 4, cells := 0, slots := 0, locals := 95 } jE (jMQ G { frames := 4, cells := 0, slots := 0, locals := 95 } (fun rr h9 => ∃ ht2 : Int, ∃ br2 : Int, ∃ hl2 : Int, ∃ le2 : Int, ∃ ba2 : Int, ∃ tk2 : Int, ∃ wg : Int → Int, ∃ kg : Int → Int, ∃ vg : Int → Int, rr = none ∧ h9 = (nh, hc fh [(58, .inr (1, [.ref 59, .ref 60, .int (zI ht2), .int (zI br2), .int (zI hl2), .int (zI le2), .int (zI ba2), .int (zI tk2)])), (59, .inl (0, 8, .inl (zA wg))), (60, .inl (1, 64, .inr (.inl (zAL kg)))), (64, .inl (0, 2625, .inl (zA vg)))]) ∧ (0 ≤ ht2) ∧ (ht2 ≤ 64) ∧ (0 ≤ br2) ∧ (br2 ≤ 1) ∧ (0 ≤ hl2) ∧ (hl2 ≤ 1) ∧ (0 ≤ le2) ∧ (le2 ≤ 1) ∧ (0 ≤ ba2) ∧ (ba2 ≤ 1) ∧ (1 ≤ tk2) ∧ (tk2 ≤ 99) ∧ (Rg wg 8 (-2147483648) 2147483647) ∧ (Rg vg 2625 0 99))) (nh, hc fh [(64, .inl (0, 2625, .inl (zA vx_10))), (60, .inl (1, 64, .inr (.inl (zAL kx_10)))), (59, .inl (0, 8, .inl (zA wx_10))), (58, .inr (1, [.ref 59, .ref 60, .int (zI ht_10), .int (zI br_10), .int (zI hl_10), .int (zI le_10), .int (zI ba_10), .int (zI tk_10)]))]) 0 0 10 [some (.ref 57), some (.int (zI p)), some (.ref r), some (.int (zI a_2)), some (.int (zI b_10)), none, none] [] := by
          intro N10
          induction N10 with
          | zero => intro b_10 ht_10 br_10 hl_10 le_10 ba_10 tk_10 wx_10 kx_10 vx_10 i10_0 i10_1 i10_2 i10_3 i10_4 i10_5 i10_6 i10_7 i10_8 i10_9 i10_10 i10_11 i10_12 i10_13 i10_14 i10_15 hm; exact absurd hm (Nat.not_lt_zero _)
          | succ N10 ih10 =>
            intro b_10 ht_10 br_10 hl_10 le_10 ba_10 tk_10 wx_10 kx_10 vx_10 i10_0 i10_1 i10_2 i10_3 i10_4 i10_5 i10_6 i10_7 i10_8 i10_9 i10_10 i10_11 i10_12 i10_13 i10_14 i10_15 hm10
            refine J_iload dX9_judgePair_10 rfl ?_
            refine Z_iconst (n := 5) dX9_judgePair_12 ?_
            refine Z_icmp_ge (tgt := 127) dX9_judgePair_13 (by decide) (v_a6208d3904 i10_0 i10_1) v_3961fe0d0d (fun h2 => ?_) (fun h2 => ?_)
            · refine Z_iinc (c := a_2 + 1) (ls2 := [some (.ref 57), some (.int (zI p)), some (.ref r), some (.int (zI (a_2 + 1))), some (.int (zI b_10)), none, none]) dX9_judgePair_127 rfl (Nat.le_of_ble_eq_true rfl) rfl rfl rfl ?_
              refine J_goto (tgt := 2) dX9_judgePair_130 (by decide) ?_
              refine J_drop (ls2 := [some (.ref 57), some (.int (zI p)), some (.ref r), some (.int (zI (a_2 + 1))), none, none, none]) [true, true, true, true, false, false, false] rfl ?_
              exact ih2 (a_2 + 1) ht_10 br_10 hl_10 le_10 ba_10 tk_10 wx_10 kx_10 vx_10 (v_da458fa48a i2_0) (v_3868a63a10 h1) (v_2b02420001 i10_2) (v_33669261f6 i10_3) (v_2b02420001 i10_4) (v_6b0b292328 i10_5) (v_2b02420001 i10_6) (v_6b0b292328 i10_7) (v_2b02420001 i10_8) (v_6b0b292328 i10_9) (v_2b02420001 i10_10) (v_6b0b292328 i10_11) (v_5dfb8272e3 i10_12) (v_ec44273dfa i10_13) i10_14 i10_15 (meas_lt v_20f1226439 (v_b58bb7b78b h1) hm2)
            · refine Z_iconst (n := 0) dX9_judgePair_16 ?_
              refine J_istore dX9_judgePair_17 (Nat.le_of_ble_eq_true rfl) rfl ?_
              refine J_ls (ls2 := [some (.ref 57), some (.int (zI p)), some (.ref r), some (.int (zI a_2)), some (.int (zI b_10)), some (.int (zI 0)), none]) rfl ?_
              have lp19 : ∀ (N19 : Nat) (c_19 : Int) (ht_19 : Int) (br_19 : Int) (hl_19 : Int) (le_19 : Int) (ba_19 : Int) (tk_19 : Int) (wx_19 : Int → Int) (kx_19 : Int → Int) (vx_19 : Int → Int), (0 ≤ c_19) → (c_19 ≤ 5) → (0 ≤ ht_19) → (ht_19 ≤ 64) → (0 ≤ br_19) → (br_19 ≤ 1) → (0 ≤ hl_19) → (hl_19 ≤ 1) → (0 ≤ le_19) → (le_19 ≤ 1) → (0 ≤ ba_19) → (ba_19 ≤ 1) → (1 ≤ tk_19) → (tk_19 ≤ 99) → (Rg wx_19 8 (-2147483648) 2147483647) → (Rg vx_19 2625 0 99) → (5 - c_19).toNat < N19 → J l G MX9_judgePair { frames := 4, cells := 0, slots := 0, locals := 95 } jE (jMQ G { frames := 4, cells := 0, slots := 0, locals := 95 } (fun rr h9 => ∃ ht2 : Int, ∃ br2 : Int, ∃ hl2 : Int, ∃ le2 : Int, ∃ ba2 : Int, ∃ tk2 : Int, ∃ wg : Int → Int, ∃ kg : Int → Int, ∃ vg : Int → Int, rr = none ∧ h9 = (nh, hc fh [(58, .inr (1, [.ref 59, .ref 60, .int (zI ht2), .int (zI br2), .int (zI hl2), .int (zI le2), .int (zI ba2), .int (zI tk2)])), (59, .inl (0, 8, .inl (zA wg))), (60, .inl (1, 64, .inr (.inl (zAL kg)))), (64, .inl (0, 2625, .inl (zA vg)))]) ∧ (0 ≤ ht2) ∧ (ht2 ≤ 64) ∧ (0 ≤ br2) ∧ (br2 ≤ 1) ∧ (0 ≤ hl2) ∧ (hl2 ≤ 1) ∧ (0 ≤ le2) ∧ (le2 ≤ 1) ∧ (0 ≤ ba2) ∧ (ba2 ≤ 1) ∧ (1 ≤ tk2) ∧ (tk2 ≤ 99) ∧ (Rg wg 8 (-2147483648) 2147483647) ∧ (Rg vg 2625 0 99))) (nh, hc fh [(64, .inl (0, 2625, .inl (zA vx_19))), (60, .inl (1, 64, .inr (.inl (zAL kx_19)))), (59, .inl (0, 8, .inl (zA wx_19))), (58, .inr (1, [.ref 59, .ref 60, .int (zI ht_19), .int (zI br_19), .int (zI hl_19), .int (zI le_19), .int (zI ba_19), .int (zI tk_19)]))]) 0 0 19 [some (.ref 57), some (.int (zI p)), some (.ref r), some (.int (zI a_2)), some (.int (zI b_10)), some (.int (zI c_19)), none] [] := by
                intro N19
                induction N19 with
                | zero => intro c_19 ht_19 br_19 hl_19 le_19 ba_19 tk_19 wx_19 kx_19 vx_19 i19_0 i19_1 i19_2 i19_3 i19_4 i19_5 i19_6 i19_7 i19_8 i19_9 i19_10 i19_11 i19_12 i19_13 i19_14 i19_15 hm; exact absurd hm (Nat.not_lt_zero _)
                | succ N19 ih19 =>
                  intro c_19 ht_19 br_19 hl_19 le_19 ba_19 tk_19 wx_19 kx_19 vx_19 i19_0 i19_1 i19_2 i19_3 i19_4 i19_5 i19_6 i19_7 i19_8 i19_9 i19_10 i19_11 i19_12 i19_13 i19_14 i19_15 hm19
                  refine J_iload dX9_judgePair_19 rfl ?_
                  refine Z_iconst (n := 5) dX9_judgePair_21 ?_
                  refine Z_icmp_ge (tgt := 121) dX9_judgePair_22 (by decide) (v_a6208d3904 i19_0 i19_1) v_3961fe0d0d (fun h3 => ?_) (fun h3 => ?_)
                  · refine Z_iinc (c := b_10 + 1) (ls2 := [some (.ref 57), some (.int (zI p)), some (.ref r), some (.int (zI a_2)), some (.int (zI (b_10 + 1))), some (.int (zI c_19)), none]) dX9_judgePair_121 rfl (Nat.le_of_ble_eq_true rfl) rfl rfl rfl ?_
                    refine J_goto (tgt := 10) dX9_judgePair_124 (by decide) ?_
                    refine J_drop (ls2 := [some (.ref 57), some (.int (zI p)), some (.ref r), some (.int (zI a_2)), some (.int (zI (b_10 + 1))), none, none]) [true, true, true, true, true, false, false] rfl ?_
                    exact ih10 (b_10 + 1) ht_19 br_19 hl_19 le_19 ba_19 tk_19 wx_19 kx_19 vx_19 (v_da458fa48a i10_0) (v_3868a63a10 h2) (v_2b02420001 i19_2) (v_33669261f6 i19_3) (v_2b02420001 i19_4) (v_6b0b292328 i19_5) (v_2b02420001 i19_6) (v_6b0b292328 i19_7) (v_2b02420001 i19_8) (v_6b0b292328 i19_9) (v_2b02420001 i19_10) (v_6b0b292328 i19_11) (v_5dfb8272e3 i19_12) (v_ec44273dfa i19_13) i19_14 i19_15 (meas_lt v_20f1226439 (v_b58bb7b78b h2) hm10)
                  · have jn68 : ∀ (t0_68j : Int), (0 ≤ t0_68j) → (t0_68j ≤ 1) → J l G MX9_judgePair { frames := 4, cells := 0, slots := 0, locals := 95 } jE (jMQ G { frames := 4, cells := 0, slots := 0, locals := 95 } (fun rr h9 => ∃ ht2 : Int, ∃ br2 : Int, ∃ hl2 : Int, ∃ le2 : Int, ∃ ba2 : Int, ∃ tk2 : Int, ∃ wg : Int → Int, ∃ kg : Int → Int, ∃ vg : Int → Int, rr = none ∧ h9 = (nh, hc fh [(58, .inr (1, [.ref 59, .ref 60, .int (zI ht2), .int (zI br2), .int (zI hl2), .int (zI le2), .int (zI ba2), .int (zI tk2)])), (59, .inl (0, 8, .inl (zA wg))), (60, .inl (1, 64, .inr (.inl (zAL kg)))), (64, .inl (0, 2625, .inl (zA vg)))]) ∧ (0 ≤ ht2) ∧ (ht2 ≤ 64) ∧ (0 ≤ br2) ∧ (br2 ≤ 1) ∧ (0 ≤ hl2) ∧ (hl2 ≤ 1) ∧ (0 ≤ le2) ∧ (le2 ≤ 1) ∧ (0 ≤ ba2) ∧ (ba2 ≤ 1) ∧ (1 ≤ tk2) ∧ (tk2 ≤ 99) ∧ (Rg wg 8 (-2147483648) 2147483647) ∧ (Rg vg 2625 0 99))) (nh, hc fh [(64, .inl (0, 2625, .inl (zA vx_19))), (60, .inl (1, 64, .inr (.inl (zAL kx_19)))), (59, .inl (0, 8, .inl (zA wx_19))), (58, .inr (1, [.ref 59, .ref 60, .int (zI ht_19), .int (zI br_19), .int (zI hl_19), .int (zI le_19), .int (zI ba_19), .int (zI tk_19)]))]) 0 0 68 [some (.ref 57), some (.int (zI p)), some (.ref r), some (.int (zI a_2)), some (.int (zI b_10)), some (.int (zI c_19)), none] [.int (zI t0_68j)] := by
                      intro t0_68j j68_0 j68_1
                      refine J_istore dX9_judgePair_68 (Nat.le_of_ble_eq_true rfl) rfl ?_
                      refine J_ls (ls2 := [some (.ref 57), some (.int (zI p)), some (.ref r), some (.int (zI a_2)), some (.int (zI b_10)), some (.int (zI c_19)), some (.int (zI t0_68j))]) rfl ?_
                      refine J_iload dX9_judgePair_70 rfl ?_
                      refine Z_if_eq (tgt := 115) dX9_judgePair_72 (by decide) (v_5f10a759cd j68_0 j68_1) (fun h4 => ?_) (fun h4 => ?_)
                      · refine Z_iinc (c := c_19 + 1) (ls2 := [some (.ref 57), some (.int (zI p)), some (.ref r), some (.int (zI a_2)), some (.int (zI b_10)), some (.int (zI (c_19 + 1))), some (.int (zI t0_68j))]) dX9_judgePair_115 rfl (Nat.le_of_ble_eq_true rfl) rfl rfl rfl ?_
                        refine J_goto (tgt := 19) dX9_judgePair_118 (by decide) ?_
                        refine J_drop (ls2 := [some (.ref 57), some (.int (zI p)), some (.ref r), some (.int (zI a_2)), some (.int (zI b_10)), some (.int (zI (c_19 + 1))), none]) [true, true, true, true, true, true, false] rfl ?_
                        exact ih19 (c_19 + 1) ht_19 br_19 hl_19 le_19 ba_19 tk_19 wx_19 kx_19 vx_19 (v_da458fa48a i19_0) (v_3868a63a10 h3) (v_2b02420001 i19_2) (v_33669261f6 i19_3) (v_2b02420001 i19_4) (v_6b0b292328 i19_5) (v_2b02420001 i19_6) (v_6b0b292328 i19_7) (v_2b02420001 i19_8) (v_6b0b292328 i19_9) (v_2b02420001 i19_10) (v_6b0b292328 i19_11) (v_5dfb8272e3 i19_12) (v_ec44273dfa i19_13) i19_14 i19_15 (meas_lt v_20f1226439 (v_b58bb7b78b h3) hm19)
                      · refine J_iload_n dX9_judgePair_75 rfl rfl ?_
                        refine J_iload dX9_judgePair_76 rfl ?_
                        refine Z_icmp_eq (tgt := 115) dX9_judgePair_78 (by decide) (v_2759b60d8a i2_0 h1) (v_2759b60d8a i10_0 h2) (fun h5 => ?_) (fun h5 => ?_)
                        · refine Z_iinc (c := c_19 + 1) (ls2 := [some (.ref 57), some (.int (zI p)), some (.ref r), some (.int (zI a_2)), some (.int (zI b_10)), some (.int (zI (c_19 + 1))), some (.int (zI t0_68j))]) dX9_judgePair_115 rfl (Nat.le_of_ble_eq_true rfl) rfl rfl rfl ?_
                          refine J_goto (tgt := 19) dX9_judgePair_118 (by decide) ?_
                          refine J_drop (ls2 := [some (.ref 57), some (.int (zI p)), some (.ref r), some (.int (zI a_2)), some (.int (zI b_10)), some (.int (zI (c_19 + 1))), none]) [true, true, true, true, true, true, false] rfl ?_
                          exact ih19 (c_19 + 1) ht_19 br_19 hl_19 le_19 ba_19 tk_19 wx_19 kx_19 vx_19 (v_da458fa48a i19_0) (v_3868a63a10 h3) (v_2b02420001 i19_2) (v_33669261f6 i19_3) (v_2b02420001 i19_4) (v_6b0b292328 i19_5) (v_2b02420001 i19_6) (v_6b0b292328 i19_7) (v_2b02420001 i19_8) (v_6b0b292328 i19_9) (v_2b02420001 i19_10) (v_6b0b292328 i19_11) (v_5dfb8272e3 i19_12) (v_ec44273dfa i19_13) i19_14 i19_15 (meas_lt v_20f1226439 (v_b58bb7b78b h3) hm19)
                        · refine J_aload_n dX9_judgePair_81 rfl rfl ?_
                          refine J_get (v := .ref 58) dX9_judgePair_82 fl_X9_12 hk57 rfl ?_
                          refine J_iload_n dX9_judgePair_85 rfl rfl ?_
                          refine J_iload dX9_judgePair_86 rfl ?_
                          refine J_iload dX9_judgePair_88 rfl ?_
                          refine J_callV (st := []) dX9_judgePair_90 cv_X9_109 (j_setColours a_2 b_10 c_19 wx_19 ht_19 br_19 hl_19 le_19 ba_19 tk_19 (v_2b02420001 i2_0) (v_4a8c742220 h1) (v_2b02420001 i10_0) (v_4a8c742220 h2) (v_2b02420001 i19_0) (v_4a8c742220 h3) i19_14 rfl rfl) rfl rfl rfl (Nat.le_of_ble_eq_true rfl) ⟨(Nat.le_of_ble_eq_true rfl), (Nat.le_of_ble_eq_true rfl)⟩ ⟨(Nat.le_of_ble_eq_true rfl), (Nat.le_of_ble_eq_true rfl)⟩ (fun r h9 hp => ?_)
                          obtain ⟨f6, rfl, rfl, h7⟩ := hp
                          refine J_nf (nh2 := nh) (ck2 := 0) (sk2 := 0) (st2 := []) rfl rfl rfl rfl ?_
                          refine J_app (L3 := [(59, .inl (0, 8, .inl (zA f6))), (64, .inl (0, 2625, .inl (zA vx_19))), (60, .inl (1, 64, .inr (.inl (zAL kx_19)))), (59, .inl (0, 8, .inl (zA wx_19))), (58, .inr (1, [.ref 59, .ref 60, .int (zI ht_19), .int (zI br_19), .int (zI hl_19), .int (zI le_19), .int (zI ba_19), .int (zI tk_19)]))]) rfl ?_
                          refine J_mask (L2 := [(59, .inl (0, 8, .inl (zA f6))), (64, .inl (0, 2625, .inl (zA vx_19))), (60, .inl (1, 64, .inr (.inl (zAL kx_19)))), (58, .inr (1, [.ref 59, .ref 60, .int (zI ht_19), .int (zI br_19), .int (zI hl_19), .int (zI le_19), .int (zI ba_19), .int (zI tk_19)]))]) (ks := [59, 64, 60, 59, 58]) [true, true, true, false, true] rfl (by decide +kernel) rfl ?_
                          refine J_aload_n dX9_judgePair_93 rfl rfl ?_
                          refine J_get (v := .ref 64) dX9_judgePair_94 fl_X9_28 hk57 rfl ?_
                          refine J_iload_n dX9_judgePair_97 rfl rfl ?_
                          refine J_iload_n dX9_judgePair_98 rfl rfl ?_
                          refine J_iload dX9_judgePair_99 rfl ?_
                          refine J_iload dX9_judgePair_101 rfl ?_
                          refine J_callS (st := [.ref 64]) dX9_judgePair_103 cs_X9_113 (t_verdictPlace p a_2 b_10 c_19) rfl rfl (Nat.le_of_ble_eq_true rfl) ⟨(Nat.le_of_ble_eq_true rfl), (Nat.le_of_ble_eq_true rfl)⟩ ⟨(Nat.le_of_ble_eq_true rfl), (Nat.le_of_ble_eq_true rfl)⟩ (fun r h9 hp => ?_)
                          obtain ⟨z8, rfl, rfl, h9⟩ := hp
                          refine J_nf (nh2 := nh) (ck2 := 0) (sk2 := 0) (st2 := [.int (zI z8), .ref 64]) rfl rfl rfl rfl ?_
                          refine J_aload_n dX9_judgePair_106 rfl rfl ?_
                          refine J_get (v := .ref 58) dX9_judgePair_107 fl_X9_12 hk57 rfl ?_
                          refine J_aload_n dX9_judgePair_110 rfl rfl ?_
                          refine J_callV (st := [.int (zI z8), .ref 64]) dX9_judgePair_111 cv_X9_117 (j_verdict r n cf ht_19 br_19 hl_19 le_19 ba_19 tk_19 kx_19 f6 (v_2b02420001 q2) (v_0979ba7300 q3) q5 h7 (v_2b02420001 i19_2) (v_33669261f6 i19_3) (v_2b02420001 i19_4) (v_6b0b292328 i19_5) (v_2b02420001 i19_6) (v_6b0b292328 i19_7) (v_2b02420001 i19_8) (v_6b0b292328 i19_9) (v_2b02420001 i19_10) (v_6b0b292328 i19_11) (v_5dfb8272e3 i19_12) (v_ec44273dfa i19_13) rfl rfl rfl (hcn (q4 59 (by decide)) (hcn (q4 64 (by decide)) (hcn (q4 60 (by decide)) (hcn (q4 58 (by decide)) hkr)))) q4) rfl rfl rfl (Nat.le_of_ble_eq_true rfl) ⟨(Nat.le_of_ble_eq_true rfl), (Nat.le_of_ble_eq_true rfl)⟩ ⟨(Nat.le_of_ble_eq_true rfl), (Nat.le_of_ble_eq_true rfl)⟩ (fun r h9 hp => ?_)
                          obtain ⟨z10, f11, z12, z13, z14, z15, z16, z17, rfl, rfl, h18, h19, h20, h21, h22, h23, h24, h25, h26, h27, h28, h29, h30, h31⟩ := hp
                          refine J_nf (nh2 := nh) (ck2 := 0) (sk2 := 0) (st2 := [.int (zI z10), .int (zI z8), .ref 64]) rfl rfl rfl rfl ?_
                          refine J_app (L3 := [(58, .inr (1, [.ref 59, .ref 60, .int (zI z12), .int (zI z13), .int (zI z14), .int (zI z15), .int (zI z16), .int (zI z17)])), (60, .inl (1, 64, .inr (.inl (zAL f11)))), (59, .inl (0, 8, .inl (zA f6))), (64, .inl (0, 2625, .inl (zA vx_19))), (60, .inl (1, 64, .inr (.inl (zAL kx_19)))), (58, .inr (1, [.ref 59, .ref 60, .int (zI ht_19), .int (zI br_19), .int (zI hl_19), .int (zI le_19), .int (zI ba_19), .int (zI tk_19)]))]) rfl ?_
                          refine J_mask (L2 := [(58, .inr (1, [.ref 59, .ref 60, .int (zI z12), .int (zI z13), .int (zI z14), .int (zI z15), .int (zI z16), .int (zI z17)])), (60, .inl (1, 64, .inr (.inl (zAL f11)))), (59, .inl (0, 8, .inl (zA f6))), (64, .inl (0, 2625, .inl (zA vx_19)))]) (ks := [58, 60, 59, 64, 60, 58]) [true, true, true, true, false, false] rfl (by decide +kernel) rfl ?_
                          refine Y_iast (v := z10) 2625 dX9_judgePair_114 rfl rfl (by decide) (v_312164806e q0 i2_0 i10_0 i19_0 h9) (v_4a65f02469 q1 h1 h2 h3 h9) (fun f32 ef32 => ?_)
                          have h33 : Rg f32 2625 0 99 := Rg.ups i19_15 ef32 (v_2b02420001 h18) (v_ec44273dfa h19)
                          refine Z_iinc (c := c_19 + 1) (ls2 := [some (.ref 57), some (.int (zI p)), some (.ref r), some (.int (zI a_2)), some (.int (zI b_10)), some (.int (zI (c_19 + 1))), some (.int (zI t0_68j))]) dX9_judgePair_115 rfl (Nat.le_of_ble_eq_true rfl) rfl rfl rfl ?_
                          refine J_goto (tgt := 19) dX9_judgePair_118 (by decide) ?_
                          refine J_mask (L2 := [(64, .inl (0, 2625, .inl (zA f32))), (58, .inr (1, [.ref 59, .ref 60, .int (zI z12), .int (zI z13), .int (zI z14), .int (zI z15), .int (zI z16), .int (zI z17)])), (60, .inl (1, 64, .inr (.inl (zAL f11)))), (59, .inl (0, 8, .inl (zA f6)))]) (ks := [64, 58, 60, 59, 64]) [true, true, true, true, false] rfl (by decide +kernel) rfl ?_
                          refine J_touch (k := 58) (e := .inr (1, [.ref 59, .ref 60, .int (zI z12), .int (zI z13), .int (zI z14), .int (zI z15), .int (zI z16), .int (zI z17)])) rfl ?_
                          refine J_touch (k := 59) (e := .inl (0, 8, .inl (zA f6))) rfl ?_
                          refine J_touch (k := 60) (e := .inl (1, 64, .inr (.inl (zAL f11)))) rfl ?_
                          refine J_touch (k := 64) (e := .inl (0, 2625, .inl (zA f32))) rfl ?_
                          refine J_mask (L2 := [(64, .inl (0, 2625, .inl (zA f32))), (60, .inl (1, 64, .inr (.inl (zAL f11)))), (59, .inl (0, 8, .inl (zA f6))), (58, .inr (1, [.ref 59, .ref 60, .int (zI z12), .int (zI z13), .int (zI z14), .int (zI z15), .int (zI z16), .int (zI z17)]))]) (ks := [64, 60, 59, 58, 64, 58, 60, 59]) [true, true, true, true, false, false, false, false] rfl (by decide +kernel) rfl ?_
                          refine J_drop (ls2 := [some (.ref 57), some (.int (zI p)), some (.ref r), some (.int (zI a_2)), some (.int (zI b_10)), some (.int (zI (c_19 + 1))), none]) [true, true, true, true, true, true, false] rfl ?_
                          exact ih19 (c_19 + 1) z12 z13 z14 z15 z16 z17 f6 f11 f32 (v_da458fa48a i19_0) (v_3868a63a10 h3) (v_2b02420001 h20) (v_33669261f6 h21) (v_2b02420001 h22) (v_6b0b292328 h23) (v_2b02420001 h24) (v_6b0b292328 h25) (v_2b02420001 h26) (v_6b0b292328 h27) (v_2b02420001 h28) (v_6b0b292328 h29) (v_5dfb8272e3 h30) (v_ec44273dfa h31) h7 h33 (meas_lt v_20f1226439 (v_b58bb7b78b h3) hm19)
                    refine J_aload_n dX9_judgePair_25 rfl rfl ?_
                    refine J_get (v := .ref 1) dX9_judgePair_26 fl_X9_42 hk57 rfl ?_
                    refine J_get (v := .ref 2) dX9_judgePair_29 fl_X9_106 hk1 rfl ?_
                    refine J_iload_n dX9_judgePair_32 rfl rfl ?_
                    obtain ⟨z34, ez34⟩ : ∃ z : Int, ff a_2 = z := ⟨_, rfl⟩
                    have h35 := Rg.at q8 (v_2b02420001 i2_0) (v_a9de8d4631 h1) ez34
                    refine Y_iald (z := z34) 5 dX9_judgePair_33 hk2 rfl (by decide) (v_2b02420001 i2_0) (v_a9de8d4631 h1) ez34 ?_
                    refine Z_if_le (tgt := 67) dX9_judgePair_34 (by decide) (v_f306e1cdb8 h35.1 h35.2) (fun h36 => ?_) (fun h36 => ?_)
                    · refine Z_iconst (n := 0) dX9_judgePair_67 ?_
                      exact jn68 0 v_939070ca3f v_316afd7d0b
                    · refine J_aload_n dX9_judgePair_37 rfl rfl ?_
                      refine J_get (v := .ref 1) dX9_judgePair_38 fl_X9_42 hk57 rfl ?_
                      refine J_get (v := .ref 2) dX9_judgePair_41 fl_X9_106 hk1 rfl ?_
                      refine J_iload dX9_judgePair_44 rfl ?_
                      obtain ⟨z37, ez37⟩ : ∃ z : Int, ff b_10 = z := ⟨_, rfl⟩
                      have h38 := Rg.at q8 (v_2b02420001 i10_0) (v_a9de8d4631 h2) ez37
                      refine Y_iald (z := z37) 5 dX9_judgePair_46 hk2 rfl (by decide) (v_2b02420001 i10_0) (v_a9de8d4631 h2) ez37 ?_
                      refine Z_if_le (tgt := 67) dX9_judgePair_47 (by decide) (v_f306e1cdb8 h38.1 h38.2) (fun h39 => ?_) (fun h39 => ?_)
                      · refine Z_iconst (n := 0) dX9_judgePair_67 ?_
                        exact jn68 0 v_939070ca3f v_316afd7d0b
                      · refine J_aload_n dX9_judgePair_50 rfl rfl ?_
                        refine J_get (v := .ref 1) dX9_judgePair_51 fl_X9_42 hk57 rfl ?_
                        refine J_get (v := .ref 2) dX9_judgePair_54 fl_X9_106 hk1 rfl ?_
                        refine J_iload dX9_judgePair_57 rfl ?_
                        obtain ⟨z40, ez40⟩ : ∃ z : Int, ff c_19 = z := ⟨_, rfl⟩
                        have h41 := Rg.at q8 (v_2b02420001 i19_0) (v_a9de8d4631 h3) ez40
                        refine Y_iald (z := z40) 5 dX9_judgePair_59 hk2 rfl (by decide) (v_2b02420001 i19_0) (v_a9de8d4631 h3) ez40 ?_
                        refine Z_if_le (tgt := 67) dX9_judgePair_60 (by decide) (v_f306e1cdb8 h41.1 h41.2) (fun h42 => ?_) (fun h42 => ?_)
                        · refine Z_iconst (n := 0) dX9_judgePair_67 ?_
                          exact jn68 0 v_939070ca3f v_316afd7d0b
                        · refine Z_iconst (n := 1) dX9_judgePair_63 ?_
                          refine J_goto (tgt := 68) dX9_judgePair_64 (by decide) ?_
                          exact jn68 1 v_316afd7d0b v_bbcfac9b7d
              exact lp19 _ 0 ht_10 br_10 hl_10 le_10 ba_10 tk_10 wx_10 kx_10 vx_10 v_939070ca3f v_17fcbbe8da (v_2b02420001 i10_2) (v_33669261f6 i10_3) (v_2b02420001 i10_4) (v_6b0b292328 i10_5) (v_2b02420001 i10_6) (v_6b0b292328 i10_7) (v_2b02420001 i10_8) (v_6b0b292328 i10_9) (v_2b02420001 i10_10) (v_6b0b292328 i10_11) (v_5dfb8272e3 i10_12) (v_ec44273dfa i10_13) i10_14 i10_15 (Nat.lt_succ_self _)
        exact lp10 _ 0 ht_2 br_2 hl_2 le_2 ba_2 tk_2 wx_2 kx_2 vx_2 v_939070ca3f v_17fcbbe8da (v_2b02420001 i2_2) (v_33669261f6 i2_3) (v_2b02420001 i2_4) (v_6b0b292328 i2_5) (v_2b02420001 i2_6) (v_6b0b292328 i2_7) (v_2b02420001 i2_8) (v_6b0b292328 i2_9) (v_2b02420001 i2_10) (v_6b0b292328 i2_11) (v_5dfb8272e3 i2_12) (v_ec44273dfa i2_13) i2_14 i2_15 (Nat.lt_succ_self _)
  exact lp2 _ 0 ht br hl le ba tk wf kf vf v_939070ca3f v_17fcbbe8da (v_2b02420001 q9) (v_33669261f6 q10) (v_2b02420001 q11) (v_6b0b292328 q12) (v_2b02420001 q13) (v_6b0b292328 q14) (v_2b02420001 q15) (v_6b0b292328 q16) (v_2b02420001 q17) (v_6b0b292328 q18) (v_5dfb8272e3 q19) (v_ec44273dfa q20) q7 q6 (Nat.lt_succ_self _)
set_option maxHeartbeats 4000000 in
set_option maxRecDepth 100000 in
theorem t_judgeAll {l : Launch} {G : jG} {nh : Nat} {fh : Nat → Option va_E} (ks : Nat) (ve : Int) (ss : Int) (vs : Int) (many : Int) (places : Int) (lc : Int) (fo : Int) (wc : Int) (cc : Int) (sc : Int) (ht : Int) (br : Int) (hl : Int) (le : Int) (ba : Int) (tk : Int) (wf : Int → Int) (kf : Int → Int) (ff : Int → Int) (tf : Int → Int) (vf : Int → Int) (lf : Nat → Option Nat) (nf : Int → Int) (q0 : 1 ≤ many) (q1 : many ≤ 1260) (q2 : 0 ≤ places) (q3 : places ≤ 7) (q4 : 0 ≤ lc) (q5 : lc ≤ 6) (q6 : -1 ≤ fo) (q7 : fo < lc) (q8 : 0 ≤ wc) (q9 : wc ≤ 8) (q10 : 0 ≤ cc) (q11 : cc ≤ 6) (q12 : 0 ≤ sc) (q13 : sc ≤ 12) (q14 : Rg vf 2625 0 99) (q15 : Rg wf 8 (-2147483648) 2147483647) (q16 : Rg ff 5 (-2147483648) 2147483647) (q17 : Rg tf 2 (-2147483648) 2147483647) (q18 : LawsIn fh lf) (q19 : 0 ≤ ht) (q20 : ht ≤ 64) (q21 : 0 ≤ br) (q22 : br ≤ 1) (q23 : 0 ≤ hl) (q24 : hl ≤ 1) (q25 : 0 ≤ le) (q26 : le ≤ 1) (q27 : 0 ≤ ba) (q28 : ba ≤ 1) (q29 : 1 ≤ tk) (q30 : tk ≤ 99) (hk57 : fh 57 = some (.inr (9, [.ref 1, .ref 51, .ref 58, .ref 61, .ref 62, .ref ks, .ref 64, .int (zI ve), .int (zI ss), .int (zI vs)]))) (hk51 : fh 51 = some (.inr (0, [.ref 52, .ref 53, .int (zI many), .int (zI places)]))) (hk1 : fh 1 = some (.inr (8, [.ref 2, .ref 3, .ref 4, .int (zI lc), .int (zI fo), .ref 11, .ref 12, .int (zI wc), .ref 13, .ref 14, .int (zI cc), .ref 15, .ref 16, .int (zI sc)]))) (hk2 : fh 2 = some (.inl (0, 5, .inl (zA ff)))) (hk3 : fh 3 = some (.inl (0, 2, .inl (zA tf)))) (hk4 : fh 4 = some (.inl (5, 6, .inr (.inr (.inr (.inr lf)))))) (hk61 : fh 61 = some (.inl (0, 0, .inl (zA nf)))) (hk64 : fh 64 = some (.inl (0, 2625, .inl (zA vf)))) (hk58 : fh 58 = some (.inr (1, [.ref 59, .ref 60, .int (zI ht), .int (zI br), .int (zI hl), .int (zI le), .int (zI ba), .int (zI tk)]))) (hk59 : fh 59 = some (.inl (0, 8, .inl (zA wf)))) (hk60 : fh 60 = some (.inl (1, 64, .inr (.inl (zAL kf))))) : JM l G yX9_judgeAll MX9_judgeAll { frames := 5, cells := 0, slots := 0, locals := 121 } [.ref 57] (nh, fh) (fun rr h9 => ∃ ht2 : Int, ∃ br2 : Int, ∃ hl2 : Int, ∃ le2 : Int, ∃ ba2 : Int, ∃ tk2 : Int, ∃ wg : Int → Int, ∃ kg : Int → Int, ∃ vg : Int → Int, rr = none ∧ h9 = (nh, hc fh [(58, .inr (1, [.ref 59, .ref 60, .int (zI ht2), .int (zI br2), .int (zI hl2), .int (zI le2), .int (zI ba2), .int (zI tk2)])), (59, .inl (0, 8, .inl (zA wg))), (60, .inl (1, 64, .inr (.inl (zAL kg)))), (64, .inl (0, 2625, .inl (zA vg)))]) ∧ (0 ≤ ht2) ∧ (ht2 ≤ 64) ∧ (0 ≤ br2) ∧ (br2 ≤ 1) ∧ (0 ≤ hl2) ∧ (hl2 ≤ 1) ∧ (0 ≤ le2) ∧ (le2 ≤ 1) ∧ (0 ≤ ba2) ∧ (ba2 ≤ 1) ∧ (1 ≤ tk2) ∧ (tk2 ≤ 99) ∧ (Rg wg 8 (-2147483648) 2147483647) ∧ (Rg vg 2625 0 99)) := by
  refine JM.of (by decide) rfl (fun h => by cases h) (Nat.le_of_ble_eq_true rfl) ⟨3, rfl⟩ ?_
  refine J_hc0 (J_ls (ls2 := [some (.ref 57), none, none, none]) rfl ?_)
  refine J_aload_n dX9_judgeAll_0 rfl rfl ?_
  refine J_get (v := .ref 58) dX9_judgeAll_1 fl_X9_12 hk57 rfl ?_
  refine J_aload_n dX9_judgeAll_4 rfl rfl ?_
  refine J_get (v := .ref 51) dX9_judgeAll_5 fl_X9_46 hk57 rfl ?_
  refine J_callV (st := [.ref 58]) dX9_judgeAll_8 cv_X9_76 (g_places many places hk51) hk51 rfl rfl (Nat.le_of_ble_eq_true rfl) ⟨(Nat.le_of_ble_eq_true rfl), (Nat.le_of_ble_eq_true rfl)⟩ ⟨(Nat.le_of_ble_eq_true rfl), (Nat.le_of_ble_eq_true rfl)⟩ (fun r h9 hp => ?_)
  obtain ⟨rfl, rfl⟩ := hp
  refine J_nf (nh2 := nh) (ck2 := 0) (sk2 := 0) (st2 := [.int (zI places), .ref 58]) rfl rfl rfl rfl ?_
  refine J_aload_n dX9_judgeAll_11 rfl rfl ?_
  refine J_get (v := .ref 1) dX9_judgeAll_12 fl_X9_42 hk57 rfl ?_
  refine J_get (v := .ref 3) dX9_judgeAll_15 fl_X9_79 hk1 rfl ?_
  refine Z_iconst (n := 1) dX9_judgeAll_18 ?_
  obtain ⟨z1, ez1⟩ : ∃ z : Int, tf 1 = z := ⟨_, rfl⟩
  have h2 := Rg.at q17 v_316afd7d0b v_c255c5148d ez1
  refine Y_iald (z := z1) 2 dX9_judgeAll_19 hk3 rfl (by decide) v_316afd7d0b v_c255c5148d ez1 ?_
  refine J_callV (st := []) dX9_judgeAll_20 cv_X9_84 (j_setTimes places z1 wf ht br hl le ba tk (v_2ee1de483d q2 q3) (v_f306e1cdb8 h2.1 h2.2) q15 hk58 hk59) hk58 rfl rfl (Nat.le_of_ble_eq_true rfl) ⟨(Nat.le_of_ble_eq_true rfl), (Nat.le_of_ble_eq_true rfl)⟩ ⟨(Nat.le_of_ble_eq_true rfl), (Nat.le_of_ble_eq_true rfl)⟩ (fun r h9 hp => ?_)
  obtain ⟨f3, rfl, rfl, h4⟩ := hp
  refine J_nf (nh2 := nh) (ck2 := 0) (sk2 := 0) (st2 := []) rfl rfl rfl rfl ?_
  refine J_app (L3 := [(59, .inl (0, 8, .inl (zA f3)))]) rfl ?_
  refine Z_iconst (n := 0) dX9_judgeAll_23 ?_
  refine J_istore_n dX9_judgeAll_24 rfl (Nat.le_of_ble_eq_true rfl) rfl ?_
  refine J_ls (ls2 := [some (.ref 57), some (.int (zI 0)), none, none]) rfl ?_
  refine Z_iconst (n := 0) dX9_judgeAll_25 ?_
  refine J_istore_n dX9_judgeAll_26 rfl (Nat.le_of_ble_eq_true rfl) rfl ?_
  refine J_ls (ls2 := [some (.ref 57), some (.int (zI 0)), some (.int (zI 0)), none]) rfl ?_
  refine J_touch (k := 58) (e := .inr (1, [.ref 59, .ref 60, .int (zI ht), .int (zI br), .int (zI hl), .int (zI le), .int (zI ba), .int (zI tk)])) hk58 ?_
  refine J_touch (k := 60) (e := .inl (1, 64, .inr (.inl (zAL kf)))) hk60 ?_
  refine J_touch (k := 64) (e := .inl (0, 2625, .inl (zA vf))) hk64 ?_
  have lp27 : ∀ (N27 : Nat) (pair_27 : Int) (left_27 : Int) (ht_27 : Int) (br_27 : Int) (hl_27 : Int) (le_27 : Int) (ba_27 : Int) (tk_27 : Int) (wx_27 : Int → Int) (kx_27 : Int → Int) (vx_27 : Int → Int), (0 ≤ left_27) → (left_27 ≤ places) → (pair_27 = prs places left_27) → (0 ≤ ht_27) → (ht_27 ≤ 64) → (0 ≤ br_27) → (br_27 ≤ 1) → (0 ≤ hl_27) → (hl_27 ≤ 1) → (0 ≤ le_27) → (le_27 ≤ 1) → (0 ≤ ba_27) → (ba_27 ≤ 1) → (1 ≤ tk_27) → (tk_27 ≤ 99) → (Rg wx_27 8 (-2147483648) 2147483647) → (Rg vx_27 2625 0 99) → (places - left_27).toNat < N27 → J l G MX9_judgeAll { frames := 5, cells := 0, slots := 0, locals := 121 } jE (jMQ G { frames := 5, cells := 0, slots := 0, locals := 121 } (fun rr h9 => ∃ ht2 : Int, ∃ br2 : Int, ∃ hl2 : Int, ∃ le2 : Int, ∃ ba2 : Int, ∃ tk2 : Int, ∃ wg : Int → Int, ∃ kg : Int → Int, ∃ vg : Int → Int, rr = none ∧ h9 = (nh, hc fh [(58, .inr (1, [.ref 59, .ref 60, .int (zI ht2), .int (zI br2), .int (zI hl2), .int (zI le2), .int (zI ba2), .int (zI tk2)])), (59, .inl (0, 8, .inl (zA wg))), (60, .inl (1, 64, .inr (.inl (zAL kg)))), (64, .inl (0, 2625, .inl (zA vg)))]) ∧ (0 ≤ ht2) ∧ (ht2 ≤ 64) ∧ (0 ≤ br2) ∧ (br2 ≤ 1) ∧ (0 ≤ hl2) ∧ (hl2 ≤ 1) ∧ (0 ≤ le2) ∧ (le2 ≤ 1) ∧ (0 ≤ ba2) ∧ (ba2 ≤ 1) ∧ (1 ≤ tk2) ∧ (tk2 ≤ 99) ∧ (Rg wg 8 (-2147483648) 2147483647) ∧ (Rg vg 2625 0 99))) (nh, hc fh [(64, .inl (0, 2625, .inl (zA vx_27))), (60, .inl (1, 64, .inr (.inl (zAL kx_27)))), (58, .inr (1, [.ref 59, .ref 60, .int (zI ht_27), .int (zI br_27), .int (zI hl_27), .int (zI le_27), .int (zI ba_27), .int (zI tk_27)])), (59, .inl (0, 8, .inl (zA wx_27)))]) 0 0 27 [some (.ref 57), some (.int (zI pair_27)), some (.int (zI left_27)), none] [] := by
    intro N27
    induction N27 with
    | zero => intro pair_27 left_27 ht_27 br_27 hl_27 le_27 ba_27 tk_27 wx_27 kx_27 vx_27 i27_0 i27_1 i27_2 i27_3 i27_4 i27_5 i27_6 i27_7 i27_8 i27_9 i27_10 i27_11 i27_12 i27_13 i27_14 i27_15 i27_16 hm; exact absurd hm (Nat.not_lt_zero _)
    | succ N27 ih27 =>
      intro pair_27 left_27 ht_27 br_27 hl_27 le_27 ba_27 tk_27 wx_27 kx_27 vx_27 i27_0 i27_1 i27_2 i27_3 i27_4 i27_5 i27_6 i27_7 i27_8 i27_9 i27_10 i27_11 i27_12 i27_13 i27_14 i27_15 i27_16 hm27
      refine J_iload_n dX9_judgeAll_27 rfl rfl ?_
      refine J_aload_n dX9_judgeAll_28 rfl rfl ?_
      refine J_get (v := .ref 51) dX9_judgeAll_29 fl_X9_46 hk57 rfl ?_
      refine J_callV (st := [.int (zI left_27)]) dX9_judgeAll_32 cv_X9_76 (g_places many places hk51) hk51 rfl rfl (Nat.le_of_ble_eq_true rfl) ⟨(Nat.le_of_ble_eq_true rfl), (Nat.le_of_ble_eq_true rfl)⟩ ⟨(Nat.le_of_ble_eq_true rfl), (Nat.le_of_ble_eq_true rfl)⟩ (fun r h9 hp => ?_)
      obtain ⟨rfl, rfl⟩ := hp
      refine J_nf (nh2 := nh) (ck2 := 0) (sk2 := 0) (st2 := [.int (zI places), .int (zI left_27)]) rfl rfl rfl rfl ?_
      refine Z_icmp_ge (tgt := 114) dX9_judgeAll_35 (by decide) (v_ee3170dbf0 q3 i27_0 i27_1) (v_2ee1de483d q2 q3) (fun h5 => ?_) (fun h5 => ?_)
      · refine J_touch (k := 64) (e := .inl (0, 2625, .inl (zA vx_27))) rfl ?_
        refine J_touch (k := 60) (e := .inl (1, 64, .inr (.inl (zAL kx_27)))) rfl ?_
        refine J_touch (k := 59) (e := .inl (0, 8, .inl (zA wx_27))) rfl ?_
        refine J_touch (k := 58) (e := .inr (1, [.ref 59, .ref 60, .int (zI ht_27), .int (zI br_27), .int (zI hl_27), .int (zI le_27), .int (zI ba_27), .int (zI tk_27)])) rfl ?_
        refine J_mask (L2 := [(58, .inr (1, [.ref 59, .ref 60, .int (zI ht_27), .int (zI br_27), .int (zI hl_27), .int (zI le_27), .int (zI ba_27), .int (zI tk_27)])), (59, .inl (0, 8, .inl (zA wx_27))), (60, .inl (1, 64, .inr (.inl (zAL kx_27)))), (64, .inl (0, 2625, .inl (zA vx_27)))]) (ks := [58, 59, 60, 64, 64, 60, 58, 59]) [true, true, true, true, false, false, false, false] rfl (by decide +kernel) rfl ?_
        exact J_vret dX9_judgeAll_114 rfl (Nat.le_of_ble_eq_true rfl) (Nat.le_of_ble_eq_true rfl) ⟨ht_27, br_27, hl_27, le_27, ba_27, tk_27, wx_27, kx_27, vx_27, rfl, rfl, (v_2b02420001 i27_3), (v_33669261f6 i27_4), (v_2b02420001 i27_5), (v_6b0b292328 i27_6), (v_2b02420001 i27_7), (v_6b0b292328 i27_8), (v_2b02420001 i27_9), (v_6b0b292328 i27_10), (v_2b02420001 i27_11), (v_6b0b292328 i27_12), (v_5dfb8272e3 i27_13), (v_ec44273dfa i27_14), i27_15, i27_16⟩
      · refine J_iload_n dX9_judgeAll_38 rfl rfl ?_
        refine Z_iconst (n := 1) dX9_judgeAll_39 ?_
        refine Z_iadd (c := left_27 + 1) dX9_judgeAll_40 rfl ?_
        refine J_istore_n dX9_judgeAll_41 rfl (Nat.le_of_ble_eq_true rfl) rfl ?_
        refine J_ls (ls2 := [some (.ref 57), some (.int (zI pair_27)), some (.int (zI left_27)), some (.int (zI (left_27 + 1)))]) rfl ?_
        have lp42 : ∀ (N42 : Nat) (pair_42 : Int) (right_42 : Int) (ht_42 : Int) (br_42 : Int) (hl_42 : Int) (le_42 : Int) (ba_42 : Int) (tk_42 : Int) (wx_42 : Int → Int) (kx_42 : Int → Int) (vx_42 : Int → Int), (left_27 + 1 ≤ right_42) → (right_42 ≤ places) → (pair_42 = prs places left_27 + right_42 - left_27 - 1) → (0 ≤ ht_42) → (ht_42 ≤ 64) → (0 ≤ br_42) → (br_42 ≤ 1) → (0 ≤ hl_42) → (hl_42 ≤ 1) → (0 ≤ le_42) → (le_42 ≤ 1) → (0 ≤ ba_42) → (ba_42 ≤ 1) → (1 ≤ tk_42) → (tk_42 ≤ 99) → (Rg wx_42 8 (-2147483648) 2147483647) → (Rg vx_42 2625 0 99) → (places - right_42).toNat < N42 → J l G MX9_judgeAll { frames := 5, cells := 0, slots := 0, locals := 121 } jE (jMQ G { frames := 5, cells := 0, slots := 0, locals := 121 } (fun rr h9 => ∃ ht2 : Int, ∃ br2 : Int, ∃ hl2 : Int, ∃ le2 : Int, ∃ ba2 : Int, ∃ tk2 : Int, ∃ wg : Int → Int, ∃ kg : Int → Int, ∃ vg : Int → Int, rr = none ∧ h9 = (nh, hc fh [(58, .inr (1, [.ref 59, .ref 60, .int (zI ht2), .int (zI br2), .int (zI hl2), .int (zI le2), .int (zI ba2), .int (zI tk2)])), (59, .inl (0, 8, .inl (zA wg))), (60, .inl (1, 64, .inr (.inl (zAL kg)))), (64, .inl (0, 2625, .inl (zA vg)))]) ∧ (0 ≤ ht2) ∧ (ht2 ≤ 64) ∧ (0 ≤ br2) ∧ (br2 ≤ 1) ∧ (0 ≤ hl2) ∧ (hl2 ≤ 1) ∧ (0 ≤ le2) ∧ (le2 ≤ 1) ∧ (0 ≤ ba2) ∧ (ba2 ≤ 1) ∧ (1 ≤ tk2) ∧ (tk2 ≤ 99) ∧ (Rg wg 8 (-2147483648) 2147483647) ∧ (Rg vg 2625 0 99))) (nh, hc fh [(64, .inl (0, 2625, .inl (zA vx_42))), (60, .inl (1, 64, .inr (.inl (zAL kx_42)))), (58, .inr (1, [.ref 59, .ref 60, .int (zI ht_42), .int (zI br_42), .int (zI hl_42), .int (zI le_42), .int (zI ba_42), .int (zI tk_42)])), (59, .inl (0, 8, .inl (zA wx_42)))]) 0 0 42 [some (.ref 57), some (.int (zI pair_42)), some (.int (zI left_27)), some (.int (zI right_42))] [] := by
          intro N42
          induction N42 with
          | zero => intro pair_42 right_42 ht_42 br_42 hl_42 le_42 ba_42 tk_42 wx_42 kx_42 vx_42 i42_0 i42_1 i42_2 i42_3 i42_4 i42_5 i42_6 i42_7 i42_8 i42_9 i42_10 i42_11 i42_12 i42_13 i42_14 i42_15 i42_16 hm; exact absurd hm (Nat.not_lt_zero _)
          | succ N42 ih42 =>
            intro pair_42 right_42 ht_42 br_42 hl_42 le_42 ba_42 tk_42 wx_42 kx_42 vx_42 i42_0 i42_1 i42_2 i42_3 i42_4 i42_5 i42_6 i42_7 i42_8 i42_9 i42_10 i42_11 i42_12 i42_13 i42_14 i42_15 i42_16 hm42
            refine J_iload_n dX9_judgeAll_42 rfl rfl ?_
            refine J_aload_n dX9_judgeAll_43 rfl rfl ?_
            refine J_get (v := .ref 51) dX9_judgeAll_44 fl_X9_46 hk57 rfl ?_
            refine J_callV (st := [.int (zI right_42)]) dX9_judgeAll_47 cv_X9_76 (g_places many places hk51) hk51 rfl rfl (Nat.le_of_ble_eq_true rfl) ⟨(Nat.le_of_ble_eq_true rfl), (Nat.le_of_ble_eq_true rfl)⟩ ⟨(Nat.le_of_ble_eq_true rfl), (Nat.le_of_ble_eq_true rfl)⟩ (fun r h9 hp => ?_)
            obtain ⟨rfl, rfl⟩ := hp
            refine J_nf (nh2 := nh) (ck2 := 0) (sk2 := 0) (st2 := [.int (zI places), .int (zI right_42)]) rfl rfl rfl rfl ?_
            refine Z_icmp_ge (tgt := 108) dX9_judgeAll_50 (by decide) (v_a1d89844be q3 i27_0 i42_0 i42_1) (v_2ee1de483d q2 q3) (fun h6 => ?_) (fun h6 => ?_)
            · refine Z_iinc (c := left_27 + 1) (ls2 := [some (.ref 57), some (.int (zI pair_42)), some (.int (zI (left_27 + 1))), some (.int (zI right_42))]) dX9_judgeAll_108 rfl (Nat.le_of_ble_eq_true rfl) rfl rfl rfl ?_
              refine J_goto (tgt := 27) dX9_judgeAll_111 (by decide) ?_
              refine J_drop (ls2 := [some (.ref 57), some (.int (zI pair_42)), some (.int (zI (left_27 + 1))), none]) [true, true, true, false] rfl ?_
              exact ih27 pair_42 (left_27 + 1) ht_42 br_42 hl_42 le_42 ba_42 tk_42 wx_42 kx_42 vx_42 (v_da458fa48a i27_0) (v_e390a36114 h5) (by rw [prs_step (v_2b02420001 i27_0) (v_fe9ea41faa h5) (v_dc59a041dc q3)]; exact (v_c22f222aa9 i42_1 i42_2 h6)) (v_2b02420001 i42_3) (v_33669261f6 i42_4) (v_2b02420001 i42_5) (v_6b0b292328 i42_6) (v_2b02420001 i42_7) (v_6b0b292328 i42_8) (v_2b02420001 i42_9) (v_6b0b292328 i42_10) (v_2b02420001 i42_11) (v_6b0b292328 i42_12) (v_5dfb8272e3 i42_13) (v_ec44273dfa i42_14) i42_15 i42_16 (meas_lt v_90eacd6fd4 (v_8b7dd7d486 h5) hm27)
            · have g7 := prs_le (p := places) (l := left_27) (v_2b02420001 i27_0) (v_f96728aa25 i42_0 h6) (v_dc59a041dc q3)
              refine J_aload_n dX9_judgeAll_53 rfl rfl ?_
              refine J_get (v := .ref 58) dX9_judgeAll_54 fl_X9_12 hk57 rfl ?_
              refine J_iload_n dX9_judgeAll_57 rfl rfl ?_
              refine J_iload_n dX9_judgeAll_58 rfl rfl ?_
              refine J_callV (st := []) dX9_judgeAll_59 cv_X9_88 (j_setPlaces left_27 right_42 wx_42 ht_42 br_42 hl_42 le_42 ba_42 tk_42 (v_2b02420001 i27_0) (v_d3fc41f99a q3 i42_0 h6) (v_d253cb2c59 i27_0 i42_0) (v_4e1fda5c2f q3 h6) i42_15 rfl rfl) rfl rfl rfl (Nat.le_of_ble_eq_true rfl) ⟨(Nat.le_of_ble_eq_true rfl), (Nat.le_of_ble_eq_true rfl)⟩ ⟨(Nat.le_of_ble_eq_true rfl), (Nat.le_of_ble_eq_true rfl)⟩ (fun r h9 hp => ?_)
              obtain ⟨f8, rfl, rfl, h9⟩ := hp
              refine J_nf (nh2 := nh) (ck2 := 0) (sk2 := 0) (st2 := []) rfl rfl rfl rfl ?_
              refine J_app (L3 := [(59, .inl (0, 8, .inl (zA f8))), (64, .inl (0, 2625, .inl (zA vx_42))), (60, .inl (1, 64, .inr (.inl (zAL kx_42)))), (58, .inr (1, [.ref 59, .ref 60, .int (zI ht_42), .int (zI br_42), .int (zI hl_42), .int (zI le_42), .int (zI ba_42), .int (zI tk_42)])), (59, .inl (0, 8, .inl (zA wx_42)))]) rfl ?_
              refine J_mask (L2 := [(59, .inl (0, 8, .inl (zA f8))), (64, .inl (0, 2625, .inl (zA vx_42))), (60, .inl (1, 64, .inr (.inl (zAL kx_42)))), (58, .inr (1, [.ref 59, .ref 60, .int (zI ht_42), .int (zI br_42), .int (zI hl_42), .int (zI le_42), .int (zI ba_42), .int (zI tk_42)]))]) (ks := [59, 64, 60, 58, 59]) [true, true, true, true, false] rfl (by decide +kernel) rfl ?_
              refine J_aload_n dX9_judgeAll_62 rfl rfl ?_
              refine J_iload_n dX9_judgeAll_63 rfl rfl ?_
              refine J_aload_n dX9_judgeAll_64 rfl rfl ?_
              refine J_get (v := .ref 1) dX9_judgeAll_65 fl_X9_42 hk57 rfl ?_
              refine J_callV (st := [.int (zI pair_42), .ref 57]) dX9_judgeAll_68 cv_X9_91 (s_lawful lc fo wc cc sc (v_2b02420001 q4) (v_61f36a8678 q5) (v_4f729da59d q6) (v_b9aca61388 q7) hk1) hk1 rfl rfl (Nat.le_of_ble_eq_true rfl) ⟨(Nat.le_of_ble_eq_true rfl), (Nat.le_of_ble_eq_true rfl)⟩ ⟨(Nat.le_of_ble_eq_true rfl), (Nat.le_of_ble_eq_true rfl)⟩ (fun r h9 hp => ?_)
              rcases hp with ⟨rfl, rfl, h10⟩ | ⟨rfl, rfl, h11⟩
              · refine J_nf (nh2 := nh) (ck2 := 0) (sk2 := 0) (st2 := [.int (zI 1), .int (zI pair_42), .ref 57]) rfl rfl rfl rfl ?_
                refine Z_if_eq (tgt := 92) dX9_judgeAll_71 (by decide) v_4dcc24baa7 (fun h12 => absurd h12 v_3a47bfd896) (fun h12 => ?_)
                refine J_aload_n dX9_judgeAll_74 rfl rfl ?_
                refine J_get (v := .ref 1) dX9_judgeAll_75 fl_X9_42 hk57 rfl ?_
                refine J_get (v := .ref 4) dX9_judgeAll_78 fl_X9_95 hk1 rfl ?_
                refine J_aload_n dX9_judgeAll_81 rfl rfl ?_
                refine J_get (v := .ref 1) dX9_judgeAll_82 fl_X9_42 hk57 rfl ?_
                refine J_get (v := .int (zI fo)) dX9_judgeAll_85 fl_X9_99 hk1 rfl ?_
                obtain ⟨k13, k13a, k13b, k13n, k13f, k13c, k13d, k13e, k13g⟩ := q18 fo.toNat (by omega)
                refine Y_aald 6 dX9_judgeAll_88 hk4 rfl (by decide) (v_2b02420001 h10) (v_0e7a20f8bd q5 q7) k13a ?_
                refine J_goto (tgt := 96) dX9_judgeAll_89 (by decide) ?_
                refine J_callV (st := []) dX9_judgeAll_96 cv_X9_102 (t_judgePair pair_42 k13 k13n k13f ks ve ss vs lc fo wc cc sc ht_42 br_42 hl_42 le_42 ba_42 tk_42 f8 kx_42 ff vx_42 (v_33a97cc6cd i42_0 i42_2 g7.1) (v_004452eb75 i42_2 h6 g7.2) (v_2b02420001 k13d) (v_5347da67b2 k13e) k13b k13g i42_16 h9 q16 (v_2b02420001 i42_3) (v_33669261f6 i42_4) (v_2b02420001 i42_5) (v_6b0b292328 i42_6) (v_2b02420001 i42_7) (v_6b0b292328 i42_8) (v_2b02420001 i42_9) (v_6b0b292328 i42_10) (v_2b02420001 i42_11) (v_6b0b292328 i42_12) (v_5dfb8272e3 i42_13) (v_ec44273dfa i42_14) hk57 hk1 hk2 rfl (hcn (k13b 59 (by decide)) (hcn (k13b 64 (by decide)) (hcn (k13b 60 (by decide)) (hcn (k13b 58 (by decide)) k13c)))) rfl rfl rfl) hk57 rfl rfl (Nat.le_of_ble_eq_true rfl) ⟨(Nat.le_of_ble_eq_true rfl), (Nat.le_of_ble_eq_true rfl)⟩ ⟨(Nat.le_of_ble_eq_true rfl), (Nat.le_of_ble_eq_true rfl)⟩ (fun r h9 hp => ?_)
                obtain ⟨z15, z16, z17, z18, z19, z20, f21, f22, f23, rfl, rfl, h24, h25, h26, h27, h28, h29, h30, h31, h32, h33, h34, h35, h36, h37⟩ := hp
                refine J_nf (nh2 := nh) (ck2 := 0) (sk2 := 0) (st2 := []) rfl rfl rfl rfl ?_
                refine J_app (L3 := [(58, .inr (1, [.ref 59, .ref 60, .int (zI z15), .int (zI z16), .int (zI z17), .int (zI z18), .int (zI z19), .int (zI z20)])), (59, .inl (0, 8, .inl (zA f21))), (60, .inl (1, 64, .inr (.inl (zAL f22)))), (64, .inl (0, 2625, .inl (zA f23))), (59, .inl (0, 8, .inl (zA f8))), (64, .inl (0, 2625, .inl (zA vx_42))), (60, .inl (1, 64, .inr (.inl (zAL kx_42)))), (58, .inr (1, [.ref 59, .ref 60, .int (zI ht_42), .int (zI br_42), .int (zI hl_42), .int (zI le_42), .int (zI ba_42), .int (zI tk_42)]))]) rfl ?_
                refine J_mask (L2 := [(58, .inr (1, [.ref 59, .ref 60, .int (zI z15), .int (zI z16), .int (zI z17), .int (zI z18), .int (zI z19), .int (zI z20)])), (59, .inl (0, 8, .inl (zA f21))), (60, .inl (1, 64, .inr (.inl (zAL f22)))), (64, .inl (0, 2625, .inl (zA f23)))]) (ks := [58, 59, 60, 64, 59, 64, 60, 58]) [true, true, true, true, false, false, false, false] rfl (by decide +kernel) rfl ?_
                refine Z_iinc (c := pair_42 + 1) (ls2 := [some (.ref 57), some (.int (zI (pair_42 + 1))), some (.int (zI left_27)), some (.int (zI right_42))]) dX9_judgeAll_99 rfl (Nat.le_of_ble_eq_true rfl) rfl rfl rfl ?_
                refine Z_iinc (c := right_42 + 1) (ls2 := [some (.ref 57), some (.int (zI (pair_42 + 1))), some (.int (zI left_27)), some (.int (zI (right_42 + 1)))]) dX9_judgeAll_102 rfl (Nat.le_of_ble_eq_true rfl) rfl rfl rfl ?_
                refine J_goto (tgt := 42) dX9_judgeAll_105 (by decide) ?_
                refine J_touch (k := 59) (e := .inl (0, 8, .inl (zA f21))) rfl ?_
                refine J_touch (k := 58) (e := .inr (1, [.ref 59, .ref 60, .int (zI z15), .int (zI z16), .int (zI z17), .int (zI z18), .int (zI z19), .int (zI z20)])) rfl ?_
                refine J_touch (k := 60) (e := .inl (1, 64, .inr (.inl (zAL f22)))) rfl ?_
                refine J_touch (k := 64) (e := .inl (0, 2625, .inl (zA f23))) rfl ?_
                refine J_mask (L2 := [(64, .inl (0, 2625, .inl (zA f23))), (60, .inl (1, 64, .inr (.inl (zAL f22)))), (58, .inr (1, [.ref 59, .ref 60, .int (zI z15), .int (zI z16), .int (zI z17), .int (zI z18), .int (zI z19), .int (zI z20)])), (59, .inl (0, 8, .inl (zA f21)))]) (ks := [64, 60, 58, 59, 58, 59, 60, 64]) [true, true, true, true, false, false, false, false] rfl (by decide +kernel) rfl ?_
                exact ih42 (pair_42 + 1) (right_42 + 1) z15 z16 z17 z18 z19 z20 f21 f22 f23 (v_b108d4967d i42_0) (v_e390a36114 h6) (v_f1b0b32074 i42_2) (v_2b02420001 h24) (v_33669261f6 h25) (v_2b02420001 h26) (v_6b0b292328 h27) (v_2b02420001 h28) (v_6b0b292328 h29) (v_2b02420001 h30) (v_6b0b292328 h31) (v_2b02420001 h32) (v_6b0b292328 h33) (v_5dfb8272e3 h34) (v_ec44273dfa h35) h36 h37 (meas_lt v_90eacd6fd4 (v_8b7dd7d486 h6) hm42)
              · refine J_nf (nh2 := nh) (ck2 := 0) (sk2 := 0) (st2 := [.int (zI 0), .int (zI pair_42), .ref 57]) rfl rfl rfl rfl ?_
                refine Z_if_eq (tgt := 92) dX9_judgeAll_71 (by decide) v_b17331891f (fun h38 => ?_) (fun h38 => absurd h38 (fun q => q v_2ca2bbca1f))
                refine J_aload_n dX9_judgeAll_92 rfl rfl ?_
                refine J_get (v := .ref 61) dX9_judgeAll_93 fl_X9_18 hk57 rfl ?_
                refine J_callV (st := []) dX9_judgeAll_96 cv_X9_102 (t_judgePair pair_42 61 0 nf ks ve ss vs lc fo wc cc sc ht_42 br_42 hl_42 le_42 ba_42 tk_42 f8 kx_42 ff vx_42 (v_33a97cc6cd i42_0 i42_2 g7.1) (v_004452eb75 i42_2 h6 g7.2) v_939070ca3f v_53cebe670f (by unfold Fx; decide) (Rg.nil v_939070ca3f) i42_16 h9 q16 (v_2b02420001 i42_3) (v_33669261f6 i42_4) (v_2b02420001 i42_5) (v_6b0b292328 i42_6) (v_2b02420001 i42_7) (v_6b0b292328 i42_8) (v_2b02420001 i42_9) (v_6b0b292328 i42_10) (v_2b02420001 i42_11) (v_6b0b292328 i42_12) (v_5dfb8272e3 i42_13) (v_ec44273dfa i42_14) hk57 hk1 hk2 rfl hk61 rfl rfl rfl) hk57 rfl rfl (Nat.le_of_ble_eq_true rfl) ⟨(Nat.le_of_ble_eq_true rfl), (Nat.le_of_ble_eq_true rfl)⟩ ⟨(Nat.le_of_ble_eq_true rfl), (Nat.le_of_ble_eq_true rfl)⟩ (fun r h9 hp => ?_)
                obtain ⟨z39, z40, z41, z42, z43, z44, f45, f46, f47, rfl, rfl, h48, h49, h50, h51, h52, h53, h54, h55, h56, h57, h58, h59, h60, h61⟩ := hp
                refine J_nf (nh2 := nh) (ck2 := 0) (sk2 := 0) (st2 := []) rfl rfl rfl rfl ?_
                refine J_app (L3 := [(58, .inr (1, [.ref 59, .ref 60, .int (zI z39), .int (zI z40), .int (zI z41), .int (zI z42), .int (zI z43), .int (zI z44)])), (59, .inl (0, 8, .inl (zA f45))), (60, .inl (1, 64, .inr (.inl (zAL f46)))), (64, .inl (0, 2625, .inl (zA f47))), (59, .inl (0, 8, .inl (zA f8))), (64, .inl (0, 2625, .inl (zA vx_42))), (60, .inl (1, 64, .inr (.inl (zAL kx_42)))), (58, .inr (1, [.ref 59, .ref 60, .int (zI ht_42), .int (zI br_42), .int (zI hl_42), .int (zI le_42), .int (zI ba_42), .int (zI tk_42)]))]) rfl ?_
                refine J_mask (L2 := [(58, .inr (1, [.ref 59, .ref 60, .int (zI z39), .int (zI z40), .int (zI z41), .int (zI z42), .int (zI z43), .int (zI z44)])), (59, .inl (0, 8, .inl (zA f45))), (60, .inl (1, 64, .inr (.inl (zAL f46)))), (64, .inl (0, 2625, .inl (zA f47)))]) (ks := [58, 59, 60, 64, 59, 64, 60, 58]) [true, true, true, true, false, false, false, false] rfl (by decide +kernel) rfl ?_
                refine Z_iinc (c := pair_42 + 1) (ls2 := [some (.ref 57), some (.int (zI (pair_42 + 1))), some (.int (zI left_27)), some (.int (zI right_42))]) dX9_judgeAll_99 rfl (Nat.le_of_ble_eq_true rfl) rfl rfl rfl ?_
                refine Z_iinc (c := right_42 + 1) (ls2 := [some (.ref 57), some (.int (zI (pair_42 + 1))), some (.int (zI left_27)), some (.int (zI (right_42 + 1)))]) dX9_judgeAll_102 rfl (Nat.le_of_ble_eq_true rfl) rfl rfl rfl ?_
                refine J_goto (tgt := 42) dX9_judgeAll_105 (by decide) ?_
                refine J_touch (k := 59) (e := .inl (0, 8, .inl (zA f45))) rfl ?_
                refine J_touch (k := 58) (e := .inr (1, [.ref 59, .ref 60, .int (zI z39), .int (zI z40), .int (zI z41), .int (zI z42), .int (zI z43), .int (zI z44)])) rfl ?_
                refine J_touch (k := 60) (e := .inl (1, 64, .inr (.inl (zAL f46)))) rfl ?_
                refine J_touch (k := 64) (e := .inl (0, 2625, .inl (zA f47))) rfl ?_
                refine J_mask (L2 := [(64, .inl (0, 2625, .inl (zA f47))), (60, .inl (1, 64, .inr (.inl (zAL f46)))), (58, .inr (1, [.ref 59, .ref 60, .int (zI z39), .int (zI z40), .int (zI z41), .int (zI z42), .int (zI z43), .int (zI z44)])), (59, .inl (0, 8, .inl (zA f45)))]) (ks := [64, 60, 58, 59, 58, 59, 60, 64]) [true, true, true, true, false, false, false, false] rfl (by decide +kernel) rfl ?_
                exact ih42 (pair_42 + 1) (right_42 + 1) z39 z40 z41 z42 z43 z44 f45 f46 f47 (v_b108d4967d i42_0) (v_e390a36114 h6) (v_f1b0b32074 i42_2) (v_2b02420001 h48) (v_33669261f6 h49) (v_2b02420001 h50) (v_6b0b292328 h51) (v_2b02420001 h52) (v_6b0b292328 h53) (v_2b02420001 h54) (v_6b0b292328 h55) (v_2b02420001 h56) (v_6b0b292328 h57) (v_5dfb8272e3 h58) (v_ec44273dfa h59) h60 h61 (meas_lt v_90eacd6fd4 (v_8b7dd7d486 h6) hm42)
        exact lp42 _ pair_27 (left_27 + 1) ht_27 br_27 hl_27 le_27 ba_27 tk_27 wx_27 kx_27 vx_27 v_3bdb46b03b (v_e390a36114 h5) (v_fcab51fa92 i27_2) (v_2b02420001 i27_3) (v_33669261f6 i27_4) (v_2b02420001 i27_5) (v_6b0b292328 i27_6) (v_2b02420001 i27_7) (v_6b0b292328 i27_8) (v_2b02420001 i27_9) (v_6b0b292328 i27_10) (v_2b02420001 i27_11) (v_6b0b292328 i27_12) (v_5dfb8272e3 i27_13) (v_ec44273dfa i27_14) i27_15 i27_16 (Nat.lt_succ_self _)
  exact lp27 _ 0 0 ht br hl le ba tk f3 kf vf v_939070ca3f (v_2b02420001 q2) ((prs_0 places).symm) (v_2b02420001 q19) (v_33669261f6 q20) (v_2b02420001 q21) (v_6b0b292328 q22) (v_2b02420001 q23) (v_6b0b292328 q24) (v_2b02420001 q25) (v_6b0b292328 q26) (v_2b02420001 q27) (v_6b0b292328 q28) (v_5dfb8272e3 q29) (v_ec44273dfa q30) h4 q14 (Nat.lt_succ_self _)
