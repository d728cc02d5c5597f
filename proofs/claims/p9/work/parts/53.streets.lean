abbrev MJ7_fill_53178 : jM := (RJ7, cJ7_fill_53178, 4, none, false)
abbrev MJ7_rangeCheck_23922 : jM := (RJ7, cJ7_rangeCheck_23922, 3, none, false)
abbrev MJ7_fill_fda19 : jM := (RJ7, cJ7_fill_fda19, 5, none, false)
theorem cs_J7_13 : jCS RJ7 13 yJ7_rangeCheck_23922 MJ7_rangeCheck_23922 3 := ⟨(jt4 178 rfl rfl), (jt4 177 rfl rfl), (jt1 14 rfl rfl), ⟨by decide, by decide, by decide +kernel⟩, Or.inl (jt4 176 rfl rfl)⟩
abbrev MJ7_fill_bad5a : jM := (RJ7, cJ7_fill_bad5a, 6, none, false)
abbrev MX11_grown : jM := (RX11, cX11_grown, 2, some (.array .int), false)
abbrev MX9_changeWalls : jM := (RX9, cX9_changeWalls, 1, none, false)
set_option maxRecDepth 20000 in
theorem iX9_at : ∀ k : Nat, k < 10 → u_lay RX9 TX9 k ∈ jtb
  | 0, _ => jt1 205 rfl rfl
  | 1, _ => jt1 207 rfl rfl
  | 2, _ => jt1 209 rfl rfl
  | 3, _ => jt1 211 rfl rfl
  | 4, _ => jt1 213 rfl rfl
  | 5, _ => jt1 215 rfl rfl
  | 6, _ => jt1 217 rfl rfl
  | 7, _ => jt1 219 rfl rfl
  | 8, _ => jt1 221 rfl rfl
  | 9, _ => jt1 223 rfl rfl
  | (n + 10), h => absurd h (by omega)
theorem iX9 : ∀ w ∈ u_ws RX9 TX9 10, w ∈ jtb := fun w hw => by
  obtain ⟨k, hk, rfl⟩ := List.mem_map.mp hw
  exact iX9_at k (List.mem_range.mp hk)
theorem fl_X9_31 : jFL RX9 31 9 7 := ⟨_, _, _, rfl, iX9, by decide, Or.inl (jt1 202 rfl rfl)⟩
theorem fw_X9_31 : jFW RX9 31 9 7 (.int) false := ⟨_, _, _, tyX9, rfl, iX9, tyX9_ok, nmX9, by decide, rfl, rfl, (fun h => by cases h), Or.inl (jt1 202 rfl rfl)⟩
theorem fw_X9_35 : jFW RX9 35 9 8 (.boolean) false := ⟨_, _, _, tyX9, rfl, iX9, tyX9_ok, nmX9, by decide, rfl, rfl, (fun h => by cases h), Or.inl (jt1 203 rfl rfl)⟩
abbrev MX9_changeAll : jM := (RX9, cX9_changeAll, 1, none, false)
theorem cv_X9_50 : jCV RX9 50 9 yX9_changeWalls MX9_changeWalls 0 := ⟨_, _, rfl, (jt3 56 rfl rfl), (jt3 54 rfl rfl), (jt3 55 rfl rfl), (jt1 5 rfl rfl), ⟨by decide, by decide, by decide +kernel⟩, Or.inl (jt3 53 rfl rfl)⟩
theorem fw_X9_39 : jFW RX9 39 9 9 (.boolean) false := ⟨_, _, _, tyX9, rfl, iX9, tyX9_ok, nmX9, by decide, rfl, rfl, (fun h => by cases h), Or.inl (jt1 204 rfl rfl)⟩
abbrev MX9_version : jM := (RX9, cX9_version, 1, some .int, false)
abbrev MX9_verdictPlace : jM := (RX9, cX9_verdictPlace, 4, some .int, false)
abbrev MX9_judgePair : jM := (RX9, cX9_judgePair, 7, none, false)
theorem fl_X9_12 : jFL RX9 12 9 2 := ⟨_, _, _, rfl, iX9, by decide, Or.inl (jt1 197 rfl rfl)⟩
theorem cv_X9_109 : jCV RX9 109 1 yX1_setColours MX1_setColours 3 := ⟨_, _, rfl, (jt4 116 rfl rfl), (jt4 114 rfl rfl), (jt4 115 rfl rfl), (jt1 6 rfl rfl), ⟨by decide, by decide, by decide +kernel⟩, Or.inl (jt4 113 rfl rfl)⟩
theorem fl_X9_28 : jFL RX9 28 9 6 := ⟨_, _, _, rfl, iX9, by decide, Or.inl (jt1 201 rfl rfl)⟩
theorem cs_X9_113 : jCS RX9 113 yX9_verdictPlace MX9_verdictPlace 4 := ⟨(jt4 119 rfl rfl), (jt4 118 rfl rfl), (jt1 5 rfl rfl), ⟨by decide, by decide, by decide +kernel⟩, Or.inl (jt4 117 rfl rfl)⟩
theorem cv_X9_117 : jCV RX9 117 1 yX1_verdict MX1_verdict 1 := ⟨_, _, rfl, (jt4 123 rfl rfl), (jt4 121 rfl rfl), (jt4 122 rfl rfl), (jt1 6 rfl rfl), ⟨by decide, by decide, by decide +kernel⟩, Or.inl (jt4 120 rfl rfl)⟩
theorem fl_X9_42 : jFL RX9 42 9 0 := ⟨_, _, _, rfl, iX9, by decide, Or.inl (jt1 195 rfl rfl)⟩
theorem fl_X9_106 : jFL RX9 106 8 0 := ⟨_, _, _, rfl, iX8, by decide, Or.inr ⟨"BeanStreet", (jn1 39 rfl rfl)⟩⟩
abbrev MX9_judgeAll : jM := (RX9, cX9_judgeAll, 4, none, false)
theorem fl_X9_46 : jFL RX9 46 9 1 := ⟨_, _, _, rfl, iX9, by decide, Or.inl (jt1 196 rfl rfl)⟩
theorem cv_X9_76 : jCV RX9 76 0 yX0_places MX0_places 0 := ⟨_, _, rfl, (jt3 36 rfl rfl), (jt3 34 rfl rfl), (jt3 35 rfl rfl), (jt1 3 rfl rfl), ⟨by decide, by decide, by decide +kernel⟩, Or.inl (jt4 96 rfl rfl)⟩
theorem fl_X9_79 : jFL RX9 79 8 1 := ⟨_, _, _, rfl, iX8, by decide, Or.inr ⟨"BeanStreet", (jn1 42 rfl rfl)⟩⟩
theorem cv_X9_84 : jCV RX9 84 1 yX1_setTimes MX1_setTimes 2 := ⟨_, _, rfl, (jt4 100 rfl rfl), (jt4 98 rfl rfl), (jt4 99 rfl rfl), (jt1 6 rfl rfl), ⟨by decide, by decide, by decide +kernel⟩, Or.inl (jt4 97 rfl rfl)⟩
theorem cv_X9_88 : jCV RX9 88 1 yX1_setPlaces MX1_setPlaces 2 := ⟨_, _, rfl, (jt4 104 rfl rfl), (jt4 102 rfl rfl), (jt4 103 rfl rfl), (jt1 6 rfl rfl), ⟨by decide, by decide, by decide +kernel⟩, Or.inl (jt4 101 rfl rfl)⟩
theorem cv_X9_91 : jCV RX9 91 8 yX8_lawful MX8_lawful 0 := ⟨_, _, rfl, (jt4 108 rfl rfl), (jt4 106 rfl rfl), (jt4 107 rfl rfl), (jt1 2 rfl rfl), ⟨by decide, by decide, by decide +kernel⟩, Or.inl (jt4 105 rfl rfl)⟩
theorem fl_X9_95 : jFL RX9 95 8 2 := ⟨_, _, _, rfl, iX8, by decide, Or.inr ⟨"BeanStreet", (jn1 44 rfl rfl)⟩⟩
theorem fl_X9_99 : jFL RX9 99 8 4 := ⟨_, _, _, rfl, iX8, by decide, Or.inr ⟨"BeanStreet", (jn1 49 rfl rfl)⟩⟩
theorem cv_X9_102 : jCV RX9 102 9 yX9_judgePair MX9_judgePair 2 := ⟨_, _, rfl, (jt4 112 rfl rfl), (jt4 111 rfl rfl), (jtp (q := (⟨"BeanStreet$Streets", "judgePair", "(I[I)V"⟩, 10)) (List.mem_of_getElem? (i := 22) rfl)), (jt1 5 rfl rfl), ⟨by decide, by decide, by decide +kernel⟩, Or.inl (jt4 109 rfl rfl)⟩
theorem fl_X9_18 : jFL RX9 18 9 3 := ⟨_, _, _, rfl, iX9, by decide, Or.inl (jt1 198 rfl rfl)⟩
abbrev MX9_prepare : jM := (RX9, cX9_prepare, 2, none, false)
theorem fl_X9_39 : jFL RX9 39 9 9 := ⟨_, _, _, rfl, iX9, by decide, Or.inl (jt1 204 rfl rfl)⟩
theorem fl_X9_35 : jFL RX9 35 9 8 := ⟨_, _, _, rfl, iX9, by decide, Or.inl (jt1 203 rfl rfl)⟩
theorem cv_X9_56 : jCV RX9 56 0 yX0_many MX0_many 0 := ⟨_, _, rfl, (jt3 68 rfl rfl), (jt3 66 rfl rfl), (jt3 67 rfl rfl), (jt1 3 rfl rfl), ⟨by decide, by decide, by decide +kernel⟩, Or.inl (jt4 168 rfl rfl)⟩
theorem fl_X9_25 : jFL RX9 25 9 5 := ⟨_, _, _, rfl, iX9, by decide, Or.inl (jt1 200 rfl rfl)⟩
theorem cs_X9_62 : jCS RX9 62 yX11_grown MX11_grown 2 := ⟨(jt4 171 rfl rfl), (jt4 170 rfl rfl), (jt1 1 rfl rfl), ⟨by decide, by decide, by decide +kernel⟩, Or.inr ⟨"BeanStreet", (jn4 169 rfl rfl)⟩⟩
theorem fw_X9_25 : jFW RX9 25 9 5 (.array .int) false := ⟨_, _, _, tyX9, rfl, iX9, tyX9_ok, nmX9, by decide, rfl, rfl, (fun h => by cases h), Or.inl (jt1 200 rfl rfl)⟩
theorem fl_X9_22 : jFL RX9 22 9 4 := ⟨_, _, _, rfl, iX9, by decide, Or.inl (jt1 199 rfl rfl)⟩
theorem cs_X9_66 : jCS RX9 66 yJ7_fill_fda19 MJ7_fill_fda19 4 := ⟨(jt4 175 rfl rfl), (jt4 174 rfl rfl), (jt1 14 rfl rfl), ⟨by decide, by decide, by decide +kernel⟩, Or.inl (jt4 173 rfl rfl)⟩
theorem cv_X9_53 : jCV RX9 53 9 yX9_judgeAll MX9_judgeAll 0 := ⟨_, _, rfl, (jt4 95 rfl rfl), (jt4 94 rfl rfl), (jtp (q := (⟨"BeanStreet$Streets", "judgeAll", "()V"⟩, 10)) (List.mem_of_getElem? (i := 21) rfl)), (jt1 5 rfl rfl), ⟨by decide, by decide, by decide +kernel⟩, Or.inl (jt4 92 rfl rfl)⟩
abbrev MX9_to : jM := (RX9, cX9_to, 3, some .int, false)
abbrev MX9_takes : jM := (RX9, cX9_takes, 3, some .int, false)
abbrev MX9_add : jM := (RX9, cX9_add, 4, none, false)
theorem cv_X9_145 : jCV RX9 145 8 yX8_wallBetween MX8_wallBetween 2 := ⟨_, _, rfl, (jt4 70 rfl rfl), (jt4 68 rfl rfl), (jt4 69 rfl rfl), (jt1 2 rfl rfl), ⟨by decide, by decide, by decide +kernel⟩, Or.inl (jt4 198 rfl rfl)⟩
abbrev MX9_findSteps : jM := (RX9, cX9_findSteps, 13, none, false)
theorem cv_X9_121 : jCV RX9 121 0 yX0_rowOf MX0_rowOf 1 := ⟨_, _, rfl, (jt3 84 rfl rfl), (jt3 82 rfl rfl), (jt3 83 rfl rfl), (jt1 3 rfl rfl), ⟨by decide, by decide, by decide +kernel⟩, Or.inl (jt4 187 rfl rfl)⟩
theorem cv_X9_125 : jCV RX9 125 0 yX0_shiftOf MX0_shiftOf 1 := ⟨_, _, rfl, (jt3 89 rfl rfl), (jt3 87 rfl rfl), (jt3 88 rfl rfl), (jt1 3 rfl rfl), ⟨by decide, by decide, by decide +kernel⟩, Or.inl (jt4 188 rfl rfl)⟩
theorem cs_X9_128 : jCS RX9 128 yX0_colourAt MX0_colourAt 2 := ⟨(jt3 92 rfl rfl), (jt3 91 rfl rfl), (jt1 3 rfl rfl), ⟨by decide, by decide, by decide +kernel⟩, Or.inl (jt4 189 rfl rfl)⟩
theorem cv_X9_142 : jCV RX9 142 0 yX0_turned MX0_turned 1 := ⟨_, _, rfl, (jt4 202 rfl rfl), (jt4 200 rfl rfl), (jt4 201 rfl rfl), (jt1 3 rfl rfl), ⟨by decide, by decide, by decide +kernel⟩, Or.inl (jt4 199 rfl rfl)⟩
theorem cv_X9_136 : jCV RX9 136 0 yX0_find MX0_find 1 := ⟨_, _, rfl, (jt3 104 rfl rfl), (jt3 102 rfl rfl), (jt3 103 rfl rfl), (jt1 3 rfl rfl), ⟨by decide, by decide, by decide +kernel⟩, Or.inl (jt4 193 rfl rfl)⟩
theorem cv_X9_139 : jCV RX9 139 9 yX9_add MX9_add 3 := ⟨_, _, rfl, (jt4 197 rfl rfl), (jt4 196 rfl rfl), (jtp (q := (⟨"BeanStreet$Streets", "add", "(III)V"⟩, 10)) (List.mem_of_getElem? (i := 32) rfl)), (jt1 5 rfl rfl), ⟨by decide, by decide, by decide +kernel⟩, Or.inl (jt4 194 rfl rfl)⟩
theorem cs_X9_132 : jCS RX9 132 yX0_exchanged MX0_exchanged 3 := ⟨(jt4 192 rfl rfl), (jt4 191 rfl rfl), (jt1 3 rfl rfl), ⟨by decide, by decide, by decide +kernel⟩, Or.inl (jt4 190 rfl rfl)⟩
abbrev MX9_degree : jM := (RX9, cX9_degree, 2, some .int, false)
theorem cv_X9_72 : jCV RX9 72 9 yX9_findSteps MX9_findSteps 1 := ⟨_, _, rfl, (jt4 186 rfl rfl), (jt4 185 rfl rfl), (jtp (q := (⟨"BeanStreet$Streets", "findSteps", "(I)V"⟩, 10)) (List.mem_of_getElem? (i := 31) rfl)), (jt1 5 rfl rfl), ⟨by decide, by decide, by decide +kernel⟩, Or.inl (jt4 183 rfl rfl)⟩
theorem dJ7_fill_53178_0 : decode cJ7_fill_53178 0 = .ok (.iconst 0, 1) := by decide +kernel
theorem dJ7_fill_53178_1 : decode cJ7_fill_53178 1 = .ok (.istore_n 2, 1) := by decide +kernel
theorem dJ7_fill_53178_2 : decode cJ7_fill_53178 2 = .ok (.aload_n 0, 1) := by decide +kernel
theorem dJ7_fill_53178_3 : decode cJ7_fill_53178 3 = .ok (.arraylength, 1) := by decide +kernel
theorem dJ7_fill_53178_4 : decode cJ7_fill_53178 4 = .ok (.istore_n 3, 1) := by decide +kernel
theorem dJ7_fill_53178_5 : decode cJ7_fill_53178 5 = .ok (.iload_n 2, 1) := by decide +kernel
theorem dJ7_fill_53178_6 : decode cJ7_fill_53178 6 = .ok (.iload_n 3, 1) := by decide +kernel
theorem dJ7_fill_53178_7 : decode cJ7_fill_53178 7 = .ok (.if_icmp .ge 13, 3) := by decide +kernel
theorem dJ7_fill_53178_20 : decode cJ7_fill_53178 20 = .ok (.return_, 1) := by decide +kernel
theorem dJ7_fill_53178_10 : decode cJ7_fill_53178 10 = .ok (.aload_n 0, 1) := by decide +kernel
theorem dJ7_fill_53178_11 : decode cJ7_fill_53178 11 = .ok (.iload_n 2, 1) := by decide +kernel
theorem dJ7_fill_53178_12 : decode cJ7_fill_53178 12 = .ok (.iload_n 1, 1) := by decide +kernel
theorem dJ7_fill_53178_13 : decode cJ7_fill_53178 13 = .ok (.iastore, 1) := by decide +kernel
theorem dJ7_fill_53178_14 : decode cJ7_fill_53178 14 = .ok (.iinc 2 1, 3) := by decide +kernel
theorem dJ7_fill_53178_17 : decode cJ7_fill_53178 17 = .ok (.goto (-12), 3) := by decide +kernel
theorem dJ7_rangeCheck_23922_0 : decode cJ7_rangeCheck_23922 0 = .ok (.iload_n 1, 1) := by decide +kernel
theorem dJ7_rangeCheck_23922_1 : decode cJ7_rangeCheck_23922 1 = .ok (.iload_n 2, 1) := by decide +kernel
theorem dJ7_rangeCheck_23922_2 : decode cJ7_rangeCheck_23922 2 = .ok (.if_icmp .le 44, 3) := by decide +kernel
theorem dJ7_rangeCheck_23922_46 : decode cJ7_rangeCheck_23922 46 = .ok (.iload_n 1, 1) := by decide +kernel
theorem dJ7_rangeCheck_23922_47 : decode cJ7_rangeCheck_23922 47 = .ok (.ifCond .ge 12, 3) := by decide +kernel
theorem dJ7_rangeCheck_23922_59 : decode cJ7_rangeCheck_23922 59 = .ok (.iload_n 2, 1) := by decide +kernel
theorem dJ7_rangeCheck_23922_60 : decode cJ7_rangeCheck_23922 60 = .ok (.iload_n 0, 1) := by decide +kernel
theorem dJ7_rangeCheck_23922_61 : decode cJ7_rangeCheck_23922 61 = .ok (.if_icmp .le 12, 3) := by decide +kernel
theorem dJ7_rangeCheck_23922_73 : decode cJ7_rangeCheck_23922 73 = .ok (.return_, 1) := by decide +kernel
theorem dJ7_fill_fda19_0 : decode cJ7_fill_fda19 0 = .ok (.aload_n 0, 1) := by decide +kernel
theorem dJ7_fill_fda19_1 : decode cJ7_fill_fda19 1 = .ok (.arraylength, 1) := by decide +kernel
theorem dJ7_fill_fda19_2 : decode cJ7_fill_fda19 2 = .ok (.iload_n 1, 1) := by decide +kernel
theorem dJ7_fill_fda19_3 : decode cJ7_fill_fda19 3 = .ok (.iload_n 2, 1) := by decide +kernel
theorem dJ7_fill_fda19_4 : decode cJ7_fill_fda19 4 = .ok (.invokestatic 13, 3) := by decide +kernel
theorem dJ7_fill_fda19_7 : decode cJ7_fill_fda19 7 = .ok (.iload_n 1, 1) := by decide +kernel
theorem dJ7_fill_fda19_8 : decode cJ7_fill_fda19 8 = .ok (.istore 4, 2) := by decide +kernel
theorem dJ7_fill_fda19_10 : decode cJ7_fill_fda19 10 = .ok (.iload 4, 2) := by decide +kernel
theorem dJ7_fill_fda19_12 : decode cJ7_fill_fda19 12 = .ok (.iload_n 2, 1) := by decide +kernel
theorem dJ7_fill_fda19_13 : decode cJ7_fill_fda19 13 = .ok (.if_icmp .ge 14, 3) := by decide +kernel
theorem dJ7_fill_fda19_27 : decode cJ7_fill_fda19 27 = .ok (.return_, 1) := by decide +kernel
theorem dJ7_fill_fda19_16 : decode cJ7_fill_fda19 16 = .ok (.aload_n 0, 1) := by decide +kernel
theorem dJ7_fill_fda19_17 : decode cJ7_fill_fda19 17 = .ok (.iload 4, 2) := by decide +kernel
theorem dJ7_fill_fda19_19 : decode cJ7_fill_fda19 19 = .ok (.iload_n 3, 1) := by decide +kernel
theorem dJ7_fill_fda19_20 : decode cJ7_fill_fda19 20 = .ok (.iastore, 1) := by decide +kernel
theorem dJ7_fill_fda19_21 : decode cJ7_fill_fda19 21 = .ok (.iinc 4 1, 3) := by decide +kernel
theorem dJ7_fill_fda19_24 : decode cJ7_fill_fda19 24 = .ok (.goto (-14), 3) := by decide +kernel
theorem dJ7_fill_bad5a_0 : decode cJ7_fill_bad5a 0 = .ok (.aload_n 0, 1) := by decide +kernel
theorem dJ7_fill_bad5a_1 : decode cJ7_fill_bad5a 1 = .ok (.arraylength, 1) := by decide +kernel
theorem dJ7_fill_bad5a_2 : decode cJ7_fill_bad5a 2 = .ok (.iload_n 1, 1) := by decide +kernel
theorem dJ7_fill_bad5a_3 : decode cJ7_fill_bad5a 3 = .ok (.iload_n 2, 1) := by decide +kernel
theorem dJ7_fill_bad5a_4 : decode cJ7_fill_bad5a 4 = .ok (.invokestatic 13, 3) := by decide +kernel
theorem dJ7_fill_bad5a_7 : decode cJ7_fill_bad5a 7 = .ok (.iload_n 1, 1) := by decide +kernel
theorem dJ7_fill_bad5a_8 : decode cJ7_fill_bad5a 8 = .ok (.istore 5, 2) := by decide +kernel
theorem dJ7_fill_bad5a_10 : decode cJ7_fill_bad5a 10 = .ok (.iload 5, 2) := by decide +kernel
theorem dJ7_fill_bad5a_12 : decode cJ7_fill_bad5a 12 = .ok (.iload_n 2, 1) := by decide +kernel
theorem dJ7_fill_bad5a_13 : decode cJ7_fill_bad5a 13 = .ok (.if_icmp .ge 14, 3) := by decide +kernel
theorem dJ7_fill_bad5a_27 : decode cJ7_fill_bad5a 27 = .ok (.return_, 1) := by decide +kernel
theorem dJ7_fill_bad5a_16 : decode cJ7_fill_bad5a 16 = .ok (.aload_n 0, 1) := by decide +kernel
theorem dJ7_fill_bad5a_17 : decode cJ7_fill_bad5a 17 = .ok (.iload 5, 2) := by decide +kernel
theorem dJ7_fill_bad5a_19 : decode cJ7_fill_bad5a 19 = .ok (.lload_n 3, 1) := by decide +kernel
theorem dJ7_fill_bad5a_20 : decode cJ7_fill_bad5a 20 = .ok (.lastore, 1) := by decide +kernel
theorem dJ7_fill_bad5a_21 : decode cJ7_fill_bad5a 21 = .ok (.iinc 5 1, 3) := by decide +kernel
theorem dJ7_fill_bad5a_24 : decode cJ7_fill_bad5a 24 = .ok (.goto (-14), 3) := by decide +kernel
theorem dX11_grown_0 : decode cX11_grown 0 = .ok (.aload_n 0, 1) := by decide +kernel
theorem dX11_grown_1 : decode cX11_grown 1 = .ok (.arraylength, 1) := by decide +kernel
theorem dX11_grown_2 : decode cX11_grown 2 = .ok (.iload_n 1, 1) := by decide +kernel
theorem dX11_grown_3 : decode cX11_grown 3 = .ok (.if_icmp .lt 7, 3) := by decide +kernel
theorem dX11_grown_10 : decode cX11_grown 10 = .ok (.iload_n 1, 1) := by decide +kernel
theorem dX11_grown_11 : decode cX11_grown 11 = .ok (.iconst 2, 1) := by decide +kernel
theorem dX11_grown_12 : decode cX11_grown 12 = .ok (.aload_n 0, 1) := by decide +kernel
theorem dX11_grown_13 : decode cX11_grown 13 = .ok (.arraylength, 1) := by decide +kernel
theorem dX11_grown_14 : decode cX11_grown 14 = .ok (.imul, 1) := by decide +kernel
theorem dX11_grown_15 : decode cX11_grown 15 = .ok (.invokestatic 324, 3) := by decide +kernel
theorem dX11_grown_18 : decode cX11_grown 18 = .ok (.newarray .int, 2) := by decide +kernel
theorem dX11_grown_20 : decode cX11_grown 20 = .ok (.areturn, 1) := by decide +kernel
theorem dX11_grown_6 : decode cX11_grown 6 = .ok (.aload_n 0, 1) := by decide +kernel
theorem dX11_grown_7 : decode cX11_grown 7 = .ok (.goto 13, 3) := by decide +kernel
theorem dX9_changeWalls_0 : decode cX9_changeWalls 0 = .ok (.aload_n 0, 1) := by decide +kernel
theorem dX9_changeWalls_1 : decode cX9_changeWalls 1 = .ok (.dup, 1) := by decide +kernel
theorem dX9_changeWalls_2 : decode cX9_changeWalls 2 = .ok (.getfield 31, 3) := by decide +kernel
theorem dX9_changeWalls_5 : decode cX9_changeWalls 5 = .ok (.iconst 1, 1) := by decide +kernel
theorem dX9_changeWalls_6 : decode cX9_changeWalls 6 = .ok (.iadd, 1) := by decide +kernel
theorem dX9_changeWalls_7 : decode cX9_changeWalls 7 = .ok (.putfield 31, 3) := by decide +kernel
theorem dX9_changeWalls_10 : decode cX9_changeWalls 10 = .ok (.aload_n 0, 1) := by decide +kernel
theorem dX9_changeWalls_11 : decode cX9_changeWalls 11 = .ok (.iconst 1, 1) := by decide +kernel
theorem dX9_changeWalls_12 : decode cX9_changeWalls 12 = .ok (.putfield 35, 3) := by decide +kernel
theorem dX9_changeWalls_15 : decode cX9_changeWalls 15 = .ok (.return_, 1) := by decide +kernel
theorem dX9_changeAll_0 : decode cX9_changeAll 0 = .ok (.aload_n 0, 1) := by decide +kernel
theorem dX9_changeAll_1 : decode cX9_changeAll 1 = .ok (.invokevirtual 50, 3) := by decide +kernel
theorem dX9_changeAll_4 : decode cX9_changeAll 4 = .ok (.aload_n 0, 1) := by decide +kernel
theorem dX9_changeAll_5 : decode cX9_changeAll 5 = .ok (.iconst 1, 1) := by decide +kernel
theorem dX9_changeAll_6 : decode cX9_changeAll 6 = .ok (.putfield 39, 3) := by decide +kernel
theorem dX9_changeAll_9 : decode cX9_changeAll 9 = .ok (.return_, 1) := by decide +kernel
theorem dX9_version_0 : decode cX9_version 0 = .ok (.aload_n 0, 1) := by decide +kernel
theorem dX9_version_1 : decode cX9_version 1 = .ok (.getfield 31, 3) := by decide +kernel
theorem dX9_version_4 : decode cX9_version 4 = .ok (.ireturn, 1) := by decide +kernel
theorem dX9_verdictPlace_0 : decode cX9_verdictPlace 0 = .ok (.iload_n 0, 1) := by decide +kernel
theorem dX9_verdictPlace_1 : decode cX9_verdictPlace 1 = .ok (.iconst 5, 1) := by decide +kernel
theorem dX9_verdictPlace_2 : decode cX9_verdictPlace 2 = .ok (.imul, 1) := by decide +kernel
theorem dX9_verdictPlace_3 : decode cX9_verdictPlace 3 = .ok (.iload_n 1, 1) := by decide +kernel
theorem dX9_verdictPlace_4 : decode cX9_verdictPlace 4 = .ok (.iadd, 1) := by decide +kernel
theorem dX9_verdictPlace_5 : decode cX9_verdictPlace 5 = .ok (.iconst 5, 1) := by decide +kernel
theorem dX9_verdictPlace_6 : decode cX9_verdictPlace 6 = .ok (.imul, 1) := by decide +kernel
theorem dX9_verdictPlace_7 : decode cX9_verdictPlace 7 = .ok (.iload_n 2, 1) := by decide +kernel
theorem dX9_verdictPlace_8 : decode cX9_verdictPlace 8 = .ok (.iadd, 1) := by decide +kernel
theorem dX9_verdictPlace_9 : decode cX9_verdictPlace 9 = .ok (.iconst 5, 1) := by decide +kernel
theorem dX9_verdictPlace_10 : decode cX9_verdictPlace 10 = .ok (.imul, 1) := by decide +kernel
theorem dX9_verdictPlace_11 : decode cX9_verdictPlace 11 = .ok (.iload_n 3, 1) := by decide +kernel
theorem dX9_verdictPlace_12 : decode cX9_verdictPlace 12 = .ok (.iadd, 1) := by decide +kernel
theorem dX9_verdictPlace_13 : decode cX9_verdictPlace 13 = .ok (.ireturn, 1) := by decide +kernel
theorem dX9_judgePair_0 : decode cX9_judgePair 0 = .ok (.iconst 0, 1) := by decide +kernel
theorem dX9_judgePair_1 : decode cX9_judgePair 1 = .ok (.istore_n 3, 1) := by decide +kernel
theorem dX9_judgePair_2 : decode cX9_judgePair 2 = .ok (.iload_n 3, 1) := by decide +kernel
theorem dX9_judgePair_3 : decode cX9_judgePair 3 = .ok (.iconst 5, 1) := by decide +kernel
theorem dX9_judgePair_4 : decode cX9_judgePair 4 = .ok (.if_icmp .ge 129, 3) := by decide +kernel
theorem dX9_judgePair_133 : decode cX9_judgePair 133 = .ok (.return_, 1) := by decide +kernel
theorem dX9_judgePair_7 : decode cX9_judgePair 7 = .ok (.iconst 0, 1) := by decide +kernel
theorem dX9_judgePair_8 : decode cX9_judgePair 8 = .ok (.istore 4, 2) := by decide +kernel
theorem dX9_judgePair_10 : decode cX9_judgePair 10 = .ok (.iload 4, 2) := by decide +kernel
theorem dX9_judgePair_12 : decode cX9_judgePair 12 = .ok (.iconst 5, 1) := by decide +kernel
theorem dX9_judgePair_13 : decode cX9_judgePair 13 = .ok (.if_icmp .ge 114, 3) := by decide +kernel
theorem dX9_judgePair_127 : decode cX9_judgePair 127 = .ok (.iinc 3 1, 3) := by decide +kernel
theorem dX9_judgePair_130 : decode cX9_judgePair 130 = .ok (.goto (-128), 3) := by decide +kernel
theorem dX9_judgePair_16 : decode cX9_judgePair 16 = .ok (.iconst 0, 1) := by decide +kernel
theorem dX9_judgePair_17 : decode cX9_judgePair 17 = .ok (.istore 5, 2) := by decide +kernel
theorem dX9_judgePair_19 : decode cX9_judgePair 19 = .ok (.iload 5, 2) := by decide +kernel
theorem dX9_judgePair_21 : decode cX9_judgePair 21 = .ok (.iconst 5, 1) := by decide +kernel
theorem dX9_judgePair_22 : decode cX9_judgePair 22 = .ok (.if_icmp .ge 99, 3) := by decide +kernel
theorem dX9_judgePair_121 : decode cX9_judgePair 121 = .ok (.iinc 4 1, 3) := by decide +kernel
theorem dX9_judgePair_124 : decode cX9_judgePair 124 = .ok (.goto (-114), 3) := by decide +kernel
theorem dX9_judgePair_68 : decode cX9_judgePair 68 = .ok (.istore 6, 2) := by decide +kernel
theorem dX9_judgePair_70 : decode cX9_judgePair 70 = .ok (.iload 6, 2) := by decide +kernel
theorem dX9_judgePair_72 : decode cX9_judgePair 72 = .ok (.ifCond .eq 43, 3) := by decide +kernel
theorem dX9_judgePair_115 : decode cX9_judgePair 115 = .ok (.iinc 5 1, 3) := by decide +kernel
theorem dX9_judgePair_118 : decode cX9_judgePair 118 = .ok (.goto (-99), 3) := by decide +kernel
theorem dX9_judgePair_75 : decode cX9_judgePair 75 = .ok (.iload_n 3, 1) := by decide +kernel
theorem dX9_judgePair_76 : decode cX9_judgePair 76 = .ok (.iload 4, 2) := by decide +kernel
theorem dX9_judgePair_78 : decode cX9_judgePair 78 = .ok (.if_icmp .eq 37, 3) := by decide +kernel
theorem dX9_judgePair_81 : decode cX9_judgePair 81 = .ok (.aload_n 0, 1) := by decide +kernel
theorem dX9_judgePair_82 : decode cX9_judgePair 82 = .ok (.getfield 12, 3) := by decide +kernel
theorem dX9_judgePair_85 : decode cX9_judgePair 85 = .ok (.iload_n 3, 1) := by decide +kernel
theorem dX9_judgePair_86 : decode cX9_judgePair 86 = .ok (.iload 4, 2) := by decide +kernel
theorem dX9_judgePair_88 : decode cX9_judgePair 88 = .ok (.iload 5, 2) := by decide +kernel
theorem dX9_judgePair_90 : decode cX9_judgePair 90 = .ok (.invokevirtual 109, 3) := by decide +kernel
theorem dX9_judgePair_93 : decode cX9_judgePair 93 = .ok (.aload_n 0, 1) := by decide +kernel
theorem dX9_judgePair_94 : decode cX9_judgePair 94 = .ok (.getfield 28, 3) := by decide +kernel
theorem dX9_judgePair_97 : decode cX9_judgePair 97 = .ok (.iload_n 1, 1) := by decide +kernel
theorem dX9_judgePair_98 : decode cX9_judgePair 98 = .ok (.iload_n 3, 1) := by decide +kernel
theorem dX9_judgePair_99 : decode cX9_judgePair 99 = .ok (.iload 4, 2) := by decide +kernel
theorem dX9_judgePair_101 : decode cX9_judgePair 101 = .ok (.iload 5, 2) := by decide +kernel
theorem dX9_judgePair_103 : decode cX9_judgePair 103 = .ok (.invokestatic 113, 3) := by decide +kernel
theorem dX9_judgePair_106 : decode cX9_judgePair 106 = .ok (.aload_n 0, 1) := by decide +kernel
theorem dX9_judgePair_107 : decode cX9_judgePair 107 = .ok (.getfield 12, 3) := by decide +kernel
theorem dX9_judgePair_110 : decode cX9_judgePair 110 = .ok (.aload_n 2, 1) := by decide +kernel
theorem dX9_judgePair_111 : decode cX9_judgePair 111 = .ok (.invokevirtual 117, 3) := by decide +kernel
theorem dX9_judgePair_114 : decode cX9_judgePair 114 = .ok (.iastore, 1) := by decide +kernel
theorem dX9_judgePair_25 : decode cX9_judgePair 25 = .ok (.aload_n 0, 1) := by decide +kernel
theorem dX9_judgePair_26 : decode cX9_judgePair 26 = .ok (.getfield 42, 3) := by decide +kernel
theorem dX9_judgePair_29 : decode cX9_judgePair 29 = .ok (.getfield 106, 3) := by decide +kernel
theorem dX9_judgePair_32 : decode cX9_judgePair 32 = .ok (.iload_n 3, 1) := by decide +kernel
theorem dX9_judgePair_33 : decode cX9_judgePair 33 = .ok (.iaload, 1) := by decide +kernel
theorem dX9_judgePair_34 : decode cX9_judgePair 34 = .ok (.ifCond .le 33, 3) := by decide +kernel
theorem dX9_judgePair_67 : decode cX9_judgePair 67 = .ok (.iconst 0, 1) := by decide +kernel
theorem dX9_judgePair_37 : decode cX9_judgePair 37 = .ok (.aload_n 0, 1) := by decide +kernel
theorem dX9_judgePair_38 : decode cX9_judgePair 38 = .ok (.getfield 42, 3) := by decide +kernel
theorem dX9_judgePair_41 : decode cX9_judgePair 41 = .ok (.getfield 106, 3) := by decide +kernel
theorem dX9_judgePair_44 : decode cX9_judgePair 44 = .ok (.iload 4, 2) := by decide +kernel
theorem dX9_judgePair_46 : decode cX9_judgePair 46 = .ok (.iaload, 1) := by decide +kernel
theorem dX9_judgePair_47 : decode cX9_judgePair 47 = .ok (.ifCond .le 20, 3) := by decide +kernel
theorem dX9_judgePair_50 : decode cX9_judgePair 50 = .ok (.aload_n 0, 1) := by decide +kernel
theorem dX9_judgePair_51 : decode cX9_judgePair 51 = .ok (.getfield 42, 3) := by decide +kernel
theorem dX9_judgePair_54 : decode cX9_judgePair 54 = .ok (.getfield 106, 3) := by decide +kernel
theorem dX9_judgePair_57 : decode cX9_judgePair 57 = .ok (.iload 5, 2) := by decide +kernel
theorem dX9_judgePair_59 : decode cX9_judgePair 59 = .ok (.iaload, 1) := by decide +kernel
theorem dX9_judgePair_60 : decode cX9_judgePair 60 = .ok (.ifCond .le 7, 3) := by decide +kernel
theorem dX9_judgePair_63 : decode cX9_judgePair 63 = .ok (.iconst 1, 1) := by decide +kernel
theorem dX9_judgePair_64 : decode cX9_judgePair 64 = .ok (.goto 4, 3) := by decide +kernel
theorem dX9_judgeAll_0 : decode cX9_judgeAll 0 = .ok (.aload_n 0, 1) := by decide +kernel
theorem dX9_judgeAll_1 : decode cX9_judgeAll 1 = .ok (.getfield 12, 3) := by decide +kernel
theorem dX9_judgeAll_4 : decode cX9_judgeAll 4 = .ok (.aload_n 0, 1) := by decide +kernel
theorem dX9_judgeAll_5 : decode cX9_judgeAll 5 = .ok (.getfield 46, 3) := by decide +kernel
theorem dX9_judgeAll_8 : decode cX9_judgeAll 8 = .ok (.invokevirtual 76, 3) := by decide +kernel
theorem dX9_judgeAll_11 : decode cX9_judgeAll 11 = .ok (.aload_n 0, 1) := by decide +kernel
theorem dX9_judgeAll_12 : decode cX9_judgeAll 12 = .ok (.getfield 42, 3) := by decide +kernel
theorem dX9_judgeAll_15 : decode cX9_judgeAll 15 = .ok (.getfield 79, 3) := by decide +kernel
theorem dX9_judgeAll_18 : decode cX9_judgeAll 18 = .ok (.iconst 1, 1) := by decide +kernel
theorem dX9_judgeAll_19 : decode cX9_judgeAll 19 = .ok (.iaload, 1) := by decide +kernel
theorem dX9_judgeAll_20 : decode cX9_judgeAll 20 = .ok (.invokevirtual 84, 3) := by decide +kernel
theorem dX9_judgeAll_23 : decode cX9_judgeAll 23 = .ok (.iconst 0, 1) := by decide +kernel
theorem dX9_judgeAll_24 : decode cX9_judgeAll 24 = .ok (.istore_n 1, 1) := by decide +kernel
theorem dX9_judgeAll_25 : decode cX9_judgeAll 25 = .ok (.iconst 0, 1) := by decide +kernel
theorem dX9_judgeAll_26 : decode cX9_judgeAll 26 = .ok (.istore_n 2, 1) := by decide +kernel
theorem dX9_judgeAll_27 : decode cX9_judgeAll 27 = .ok (.iload_n 2, 1) := by decide +kernel
theorem dX9_judgeAll_28 : decode cX9_judgeAll 28 = .ok (.aload_n 0, 1) := by decide +kernel
theorem dX9_judgeAll_29 : decode cX9_judgeAll 29 = .ok (.getfield 46, 3) := by decide +kernel
theorem dX9_judgeAll_32 : decode cX9_judgeAll 32 = .ok (.invokevirtual 76, 3) := by decide +kernel
theorem dX9_judgeAll_35 : decode cX9_judgeAll 35 = .ok (.if_icmp .ge 79, 3) := by decide +kernel
theorem dX9_judgeAll_114 : decode cX9_judgeAll 114 = .ok (.return_, 1) := by decide +kernel
theorem dX9_judgeAll_38 : decode cX9_judgeAll 38 = .ok (.iload_n 2, 1) := by decide +kernel
theorem dX9_judgeAll_39 : decode cX9_judgeAll 39 = .ok (.iconst 1, 1) := by decide +kernel
theorem dX9_judgeAll_40 : decode cX9_judgeAll 40 = .ok (.iadd, 1) := by decide +kernel
theorem dX9_judgeAll_41 : decode cX9_judgeAll 41 = .ok (.istore_n 3, 1) := by decide +kernel
theorem dX9_judgeAll_42 : decode cX9_judgeAll 42 = .ok (.iload_n 3, 1) := by decide +kernel
theorem dX9_judgeAll_43 : decode cX9_judgeAll 43 = .ok (.aload_n 0, 1) := by decide +kernel
theorem dX9_judgeAll_44 : decode cX9_judgeAll 44 = .ok (.getfield 46, 3) := by decide +kernel
theorem dX9_judgeAll_47 : decode cX9_judgeAll 47 = .ok (.invokevirtual 76, 3) := by decide +kernel
theorem dX9_judgeAll_50 : decode cX9_judgeAll 50 = .ok (.if_icmp .ge 58, 3) := by decide +kernel
theorem dX9_judgeAll_108 : decode cX9_judgeAll 108 = .ok (.iinc 2 1, 3) := by decide +kernel
theorem dX9_judgeAll_111 : decode cX9_judgeAll 111 = .ok (.goto (-84), 3) := by decide +kernel
theorem dX9_judgeAll_53 : decode cX9_judgeAll 53 = .ok (.aload_n 0, 1) := by decide +kernel
theorem dX9_judgeAll_54 : decode cX9_judgeAll 54 = .ok (.getfield 12, 3) := by decide +kernel
theorem dX9_judgeAll_57 : decode cX9_judgeAll 57 = .ok (.iload_n 2, 1) := by decide +kernel
theorem dX9_judgeAll_58 : decode cX9_judgeAll 58 = .ok (.iload_n 3, 1) := by decide +kernel
theorem dX9_judgeAll_59 : decode cX9_judgeAll 59 = .ok (.invokevirtual 88, 3) := by decide +kernel
theorem dX9_judgeAll_62 : decode cX9_judgeAll 62 = .ok (.aload_n 0, 1) := by decide +kernel
theorem dX9_judgeAll_63 : decode cX9_judgeAll 63 = .ok (.iload_n 1, 1) := by decide +kernel
theorem dX9_judgeAll_64 : decode cX9_judgeAll 64 = .ok (.aload_n 0, 1) := by decide +kernel
theorem dX9_judgeAll_65 : decode cX9_judgeAll 65 = .ok (.getfield 42, 3) := by decide +kernel
theorem dX9_judgeAll_68 : decode cX9_judgeAll 68 = .ok (.invokevirtual 91, 3) := by decide +kernel
theorem dX9_judgeAll_71 : decode cX9_judgeAll 71 = .ok (.ifCond .eq 21, 3) := by decide +kernel
theorem dX9_judgeAll_74 : decode cX9_judgeAll 74 = .ok (.aload_n 0, 1) := by decide +kernel
theorem dX9_judgeAll_75 : decode cX9_judgeAll 75 = .ok (.getfield 42, 3) := by decide +kernel
theorem dX9_judgeAll_78 : decode cX9_judgeAll 78 = .ok (.getfield 95, 3) := by decide +kernel
theorem dX9_judgeAll_81 : decode cX9_judgeAll 81 = .ok (.aload_n 0, 1) := by decide +kernel
theorem dX9_judgeAll_82 : decode cX9_judgeAll 82 = .ok (.getfield 42, 3) := by decide +kernel
theorem dX9_judgeAll_85 : decode cX9_judgeAll 85 = .ok (.getfield 99, 3) := by decide +kernel
theorem dX9_judgeAll_88 : decode cX9_judgeAll 88 = .ok (.aaload, 1) := by decide +kernel
theorem dX9_judgeAll_89 : decode cX9_judgeAll 89 = .ok (.goto 7, 3) := by decide +kernel
theorem dX9_judgeAll_96 : decode cX9_judgeAll 96 = .ok (.invokevirtual 102, 3) := by decide +kernel
theorem dX9_judgeAll_99 : decode cX9_judgeAll 99 = .ok (.iinc 1 1, 3) := by decide +kernel
theorem dX9_judgeAll_102 : decode cX9_judgeAll 102 = .ok (.iinc 3 1, 3) := by decide +kernel
theorem dX9_judgeAll_105 : decode cX9_judgeAll 105 = .ok (.goto (-63), 3) := by decide +kernel
theorem dX9_judgeAll_92 : decode cX9_judgeAll 92 = .ok (.aload_n 0, 1) := by decide +kernel
theorem dX9_judgeAll_93 : decode cX9_judgeAll 93 = .ok (.getfield 18, 3) := by decide +kernel
theorem dX9_prepare_0 : decode cX9_prepare 0 = .ok (.aload_n 0, 1) := by decide +kernel
theorem dX9_prepare_1 : decode cX9_prepare 1 = .ok (.getfield 39, 3) := by decide +kernel
theorem dX9_prepare_4 : decode cX9_prepare 4 = .ok (.ifCond .eq 12, 3) := by decide +kernel
theorem dX9_prepare_16 : decode cX9_prepare 16 = .ok (.aload_n 0, 1) := by decide +kernel
theorem dX9_prepare_17 : decode cX9_prepare 17 = .ok (.getfield 35, 3) := by decide +kernel
theorem dX9_prepare_20 : decode cX9_prepare 20 = .ok (.ifCond .eq 41, 3) := by decide +kernel
theorem dX9_prepare_61 : decode cX9_prepare 61 = .ok (.return_, 1) := by decide +kernel
theorem dX9_prepare_23 : decode cX9_prepare 23 = .ok (.aload_n 0, 1) := by decide +kernel
theorem dX9_prepare_24 : decode cX9_prepare 24 = .ok (.getfield 46, 3) := by decide +kernel
theorem dX9_prepare_27 : decode cX9_prepare 27 = .ok (.invokevirtual 56, 3) := by decide +kernel
theorem dX9_prepare_30 : decode cX9_prepare 30 = .ok (.istore_n 1, 1) := by decide +kernel
theorem dX9_prepare_31 : decode cX9_prepare 31 = .ok (.aload_n 0, 1) := by decide +kernel
theorem dX9_prepare_32 : decode cX9_prepare 32 = .ok (.aload_n 0, 1) := by decide +kernel
theorem dX9_prepare_33 : decode cX9_prepare 33 = .ok (.getfield 25, 3) := by decide +kernel
theorem dX9_prepare_36 : decode cX9_prepare 36 = .ok (.iload_n 1, 1) := by decide +kernel
theorem dX9_prepare_37 : decode cX9_prepare 37 = .ok (.bipush 22, 2) := by decide +kernel
theorem dX9_prepare_39 : decode cX9_prepare 39 = .ok (.imul, 1) := by decide +kernel
theorem dX9_prepare_40 : decode cX9_prepare 40 = .ok (.invokestatic 62, 3) := by decide +kernel
theorem dX9_prepare_43 : decode cX9_prepare 43 = .ok (.putfield 25, 3) := by decide +kernel
theorem dX9_prepare_46 : decode cX9_prepare 46 = .ok (.aload_n 0, 1) := by decide +kernel
theorem dX9_prepare_47 : decode cX9_prepare 47 = .ok (.getfield 22, 3) := by decide +kernel
theorem dX9_prepare_50 : decode cX9_prepare 50 = .ok (.iconst 0, 1) := by decide +kernel
theorem dX9_prepare_51 : decode cX9_prepare 51 = .ok (.iload_n 1, 1) := by decide +kernel
theorem dX9_prepare_52 : decode cX9_prepare 52 = .ok (.iconst (-1), 1) := by decide +kernel
theorem dX9_prepare_53 : decode cX9_prepare 53 = .ok (.invokestatic 66, 3) := by decide +kernel
theorem dX9_prepare_56 : decode cX9_prepare 56 = .ok (.aload_n 0, 1) := by decide +kernel
theorem dX9_prepare_57 : decode cX9_prepare 57 = .ok (.iconst 0, 1) := by decide +kernel
theorem dX9_prepare_58 : decode cX9_prepare 58 = .ok (.putfield 35, 3) := by decide +kernel
theorem dX9_prepare_7 : decode cX9_prepare 7 = .ok (.aload_n 0, 1) := by decide +kernel
theorem dX9_prepare_8 : decode cX9_prepare 8 = .ok (.invokevirtual 53, 3) := by decide +kernel
theorem dX9_prepare_11 : decode cX9_prepare 11 = .ok (.aload_n 0, 1) := by decide +kernel
theorem dX9_prepare_12 : decode cX9_prepare 12 = .ok (.iconst 0, 1) := by decide +kernel
theorem dX9_prepare_13 : decode cX9_prepare 13 = .ok (.putfield 39, 3) := by decide +kernel
theorem dX9_to_0 : decode cX9_to 0 = .ok (.aload_n 0, 1) := by decide +kernel
theorem dX9_to_1 : decode cX9_to 1 = .ok (.getfield 25, 3) := by decide +kernel
theorem dX9_to_4 : decode cX9_to 4 = .ok (.iload_n 1, 1) := by decide +kernel
theorem dX9_to_5 : decode cX9_to 5 = .ok (.bipush 22, 2) := by decide +kernel
theorem dX9_to_7 : decode cX9_to 7 = .ok (.imul, 1) := by decide +kernel
theorem dX9_to_8 : decode cX9_to 8 = .ok (.iload_n 2, 1) := by decide +kernel
theorem dX9_to_9 : decode cX9_to 9 = .ok (.iadd, 1) := by decide +kernel
theorem dX9_to_10 : decode cX9_to 10 = .ok (.iaload, 1) := by decide +kernel
theorem dX9_to_11 : decode cX9_to 11 = .ok (.sipush 2047, 3) := by decide +kernel
theorem dX9_to_14 : decode cX9_to 14 = .ok (.iand, 1) := by decide +kernel
theorem dX9_to_15 : decode cX9_to 15 = .ok (.ireturn, 1) := by decide +kernel
theorem dX9_takes_0 : decode cX9_takes 0 = .ok (.aload_n 0, 1) := by decide +kernel
theorem dX9_takes_1 : decode cX9_takes 1 = .ok (.getfield 25, 3) := by decide +kernel
theorem dX9_takes_4 : decode cX9_takes 4 = .ok (.iload_n 1, 1) := by decide +kernel
theorem dX9_takes_5 : decode cX9_takes 5 = .ok (.bipush 22, 2) := by decide +kernel
theorem dX9_takes_7 : decode cX9_takes 7 = .ok (.imul, 1) := by decide +kernel
theorem dX9_takes_8 : decode cX9_takes 8 = .ok (.iload_n 2, 1) := by decide +kernel
theorem dX9_takes_9 : decode cX9_takes 9 = .ok (.iadd, 1) := by decide +kernel
theorem dX9_takes_10 : decode cX9_takes 10 = .ok (.iaload, 1) := by decide +kernel
theorem dX9_takes_11 : decode cX9_takes 11 = .ok (.bipush 11, 2) := by decide +kernel
theorem dX9_takes_13 : decode cX9_takes 13 = .ok (.ishr, 1) := by decide +kernel
theorem dX9_takes_14 : decode cX9_takes 14 = .ok (.ireturn, 1) := by decide +kernel
theorem dX9_add_0 : decode cX9_add 0 = .ok (.iload_n 2, 1) := by decide +kernel
theorem dX9_add_1 : decode cX9_add 1 = .ok (.iconst (-1), 1) := by decide +kernel
theorem dX9_add_2 : decode cX9_add 2 = .ok (.if_icmp .eq 59, 3) := by decide +kernel
theorem dX9_add_61 : decode cX9_add 61 = .ok (.return_, 1) := by decide +kernel
theorem dX9_add_5 : decode cX9_add 5 = .ok (.aload_n 0, 1) := by decide +kernel
theorem dX9_add_6 : decode cX9_add 6 = .ok (.getfield 42, 3) := by decide +kernel
theorem dX9_add_9 : decode cX9_add 9 = .ok (.iload_n 1, 1) := by decide +kernel
theorem dX9_add_10 : decode cX9_add 10 = .ok (.iload_n 2, 1) := by decide +kernel
theorem dX9_add_11 : decode cX9_add 11 = .ok (.invokevirtual 145, 3) := by decide +kernel
theorem dX9_add_14 : decode cX9_add 14 = .ok (.iconst (-1), 1) := by decide +kernel
theorem dX9_add_15 : decode cX9_add 15 = .ok (.if_icmp .ne 46, 3) := by decide +kernel
theorem dX9_add_18 : decode cX9_add 18 = .ok (.aload_n 0, 1) := by decide +kernel
theorem dX9_add_19 : decode cX9_add 19 = .ok (.getfield 22, 3) := by decide +kernel
theorem dX9_add_22 : decode cX9_add 22 = .ok (.iload_n 1, 1) := by decide +kernel
theorem dX9_add_23 : decode cX9_add 23 = .ok (.iaload, 1) := by decide +kernel
theorem dX9_add_24 : decode cX9_add 24 = .ok (.bipush 22, 2) := by decide +kernel
theorem dX9_add_26 : decode cX9_add 26 = .ok (.if_icmp .ge 35, 3) := by decide +kernel
theorem dX9_add_29 : decode cX9_add 29 = .ok (.aload_n 0, 1) := by decide +kernel
theorem dX9_add_30 : decode cX9_add 30 = .ok (.getfield 25, 3) := by decide +kernel
theorem dX9_add_33 : decode cX9_add 33 = .ok (.iload_n 1, 1) := by decide +kernel
theorem dX9_add_34 : decode cX9_add 34 = .ok (.bipush 22, 2) := by decide +kernel
theorem dX9_add_36 : decode cX9_add 36 = .ok (.imul, 1) := by decide +kernel
theorem dX9_add_37 : decode cX9_add 37 = .ok (.aload_n 0, 1) := by decide +kernel
theorem dX9_add_38 : decode cX9_add 38 = .ok (.getfield 22, 3) := by decide +kernel
theorem dX9_add_41 : decode cX9_add 41 = .ok (.iload_n 1, 1) := by decide +kernel
theorem dX9_add_42 : decode cX9_add 42 = .ok (.iaload, 1) := by decide +kernel
theorem dX9_add_43 : decode cX9_add 43 = .ok (.iadd, 1) := by decide +kernel
theorem dX9_add_44 : decode cX9_add 44 = .ok (.iload_n 2, 1) := by decide +kernel
theorem dX9_add_45 : decode cX9_add 45 = .ok (.iload_n 3, 1) := by decide +kernel
theorem dX9_add_46 : decode cX9_add 46 = .ok (.bipush 11, 2) := by decide +kernel
theorem dX9_add_48 : decode cX9_add 48 = .ok (.ishl, 1) := by decide +kernel
theorem dX9_add_49 : decode cX9_add 49 = .ok (.ior, 1) := by decide +kernel
theorem dX9_add_50 : decode cX9_add 50 = .ok (.iastore, 1) := by decide +kernel
theorem dX9_add_51 : decode cX9_add 51 = .ok (.aload_n 0, 1) := by decide +kernel
theorem dX9_add_52 : decode cX9_add 52 = .ok (.getfield 22, 3) := by decide +kernel
theorem dX9_add_55 : decode cX9_add 55 = .ok (.iload_n 1, 1) := by decide +kernel
theorem dX9_add_56 : decode cX9_add 56 = .ok (.dup2, 1) := by decide +kernel
theorem dX9_add_57 : decode cX9_add 57 = .ok (.iaload, 1) := by decide +kernel
theorem dX9_add_58 : decode cX9_add 58 = .ok (.iconst 1, 1) := by decide +kernel
theorem dX9_add_59 : decode cX9_add 59 = .ok (.iadd, 1) := by decide +kernel
theorem dX9_add_60 : decode cX9_add 60 = .ok (.iastore, 1) := by decide +kernel
theorem dX9_findSteps_0 : decode cX9_findSteps 0 = .ok (.aload_n 0, 1) := by decide +kernel
theorem dX9_findSteps_1 : decode cX9_findSteps 1 = .ok (.getfield 22, 3) := by decide +kernel
theorem dX9_findSteps_4 : decode cX9_findSteps 4 = .ok (.iload_n 1, 1) := by decide +kernel
theorem dX9_findSteps_5 : decode cX9_findSteps 5 = .ok (.iconst 0, 1) := by decide +kernel
theorem dX9_findSteps_6 : decode cX9_findSteps 6 = .ok (.iastore, 1) := by decide +kernel
theorem dX9_findSteps_7 : decode cX9_findSteps 7 = .ok (.aload_n 0, 1) := by decide +kernel
theorem dX9_findSteps_8 : decode cX9_findSteps 8 = .ok (.getfield 46, 3) := by decide +kernel
theorem dX9_findSteps_11 : decode cX9_findSteps 11 = .ok (.invokevirtual 76, 3) := by decide +kernel
theorem dX9_findSteps_14 : decode cX9_findSteps 14 = .ok (.istore_n 2, 1) := by decide +kernel
theorem dX9_findSteps_15 : decode cX9_findSteps 15 = .ok (.aload_n 0, 1) := by decide +kernel
theorem dX9_findSteps_16 : decode cX9_findSteps 16 = .ok (.getfield 46, 3) := by decide +kernel
theorem dX9_findSteps_19 : decode cX9_findSteps 19 = .ok (.iload_n 1, 1) := by decide +kernel
theorem dX9_findSteps_20 : decode cX9_findSteps 20 = .ok (.invokevirtual 121, 3) := by decide +kernel
theorem dX9_findSteps_23 : decode cX9_findSteps 23 = .ok (.istore_n 3, 1) := by decide +kernel
theorem dX9_findSteps_24 : decode cX9_findSteps 24 = .ok (.iload_n 3, 1) := by decide +kernel
theorem dX9_findSteps_25 : decode cX9_findSteps 25 = .ok (.aload_n 0, 1) := by decide +kernel
theorem dX9_findSteps_26 : decode cX9_findSteps 26 = .ok (.getfield 46, 3) := by decide +kernel
theorem dX9_findSteps_29 : decode cX9_findSteps 29 = .ok (.iconst 0, 1) := by decide +kernel
theorem dX9_findSteps_30 : decode cX9_findSteps 30 = .ok (.invokevirtual 125, 3) := by decide +kernel
theorem dX9_findSteps_33 : decode cX9_findSteps 33 = .ok (.invokestatic 128, 3) := by decide +kernel
theorem dX9_findSteps_36 : decode cX9_findSteps 36 = .ok (.istore 4, 2) := by decide +kernel
theorem dX9_findSteps_38 : decode cX9_findSteps 38 = .ok (.iconst 0, 1) := by decide +kernel
theorem dX9_findSteps_39 : decode cX9_findSteps 39 = .ok (.istore 5, 2) := by decide +kernel
theorem dX9_findSteps_41 : decode cX9_findSteps 41 = .ok (.iconst 0, 1) := by decide +kernel
theorem dX9_findSteps_42 : decode cX9_findSteps 42 = .ok (.istore 6, 2) := by decide +kernel
theorem dX9_findSteps_44 : decode cX9_findSteps 44 = .ok (.iload 6, 2) := by decide +kernel
theorem dX9_findSteps_46 : decode cX9_findSteps 46 = .ok (.iload_n 2, 1) := by decide +kernel
theorem dX9_findSteps_47 : decode cX9_findSteps 47 = .ok (.if_icmp .ge 124, 3) := by decide +kernel
theorem dX9_findSteps_171 : decode cX9_findSteps 171 = .ok (.aload_n 0, 1) := by decide +kernel
theorem dX9_findSteps_172 : decode cX9_findSteps 172 = .ok (.getfield 46, 3) := by decide +kernel
theorem dX9_findSteps_175 : decode cX9_findSteps 175 = .ok (.iload_n 3, 1) := by decide +kernel
theorem dX9_findSteps_176 : decode cX9_findSteps 176 = .ok (.invokevirtual 142, 3) := by decide +kernel
theorem dX9_findSteps_179 : decode cX9_findSteps 179 = .ok (.istore 6, 2) := by decide +kernel
theorem dX9_findSteps_181 : decode cX9_findSteps 181 = .ok (.aload_n 0, 1) := by decide +kernel
theorem dX9_findSteps_182 : decode cX9_findSteps 182 = .ok (.getfield 42, 3) := by decide +kernel
theorem dX9_findSteps_185 : decode cX9_findSteps 185 = .ok (.getfield 79, 3) := by decide +kernel
theorem dX9_findSteps_188 : decode cX9_findSteps 188 = .ok (.iconst 0, 1) := by decide +kernel
theorem dX9_findSteps_189 : decode cX9_findSteps 189 = .ok (.iaload, 1) := by decide +kernel
theorem dX9_findSteps_190 : decode cX9_findSteps 190 = .ok (.iconst 1, 1) := by decide +kernel
theorem dX9_findSteps_191 : decode cX9_findSteps 191 = .ok (.if_icmp .ne 24, 3) := by decide +kernel
theorem dX9_findSteps_215 : decode cX9_findSteps 215 = .ok (.return_, 1) := by decide +kernel
theorem dX9_findSteps_194 : decode cX9_findSteps 194 = .ok (.iload 6, 2) := by decide +kernel
theorem dX9_findSteps_196 : decode cX9_findSteps 196 = .ok (.iload_n 3, 1) := by decide +kernel
theorem dX9_findSteps_197 : decode cX9_findSteps 197 = .ok (.if_icmp .eq 18, 3) := by decide +kernel
theorem dX9_findSteps_200 : decode cX9_findSteps 200 = .ok (.aload_n 0, 1) := by decide +kernel
theorem dX9_findSteps_201 : decode cX9_findSteps 201 = .ok (.iload_n 1, 1) := by decide +kernel
theorem dX9_findSteps_202 : decode cX9_findSteps 202 = .ok (.aload_n 0, 1) := by decide +kernel
theorem dX9_findSteps_203 : decode cX9_findSteps 203 = .ok (.getfield 46, 3) := by decide +kernel
theorem dX9_findSteps_206 : decode cX9_findSteps 206 = .ok (.iload 6, 2) := by decide +kernel
theorem dX9_findSteps_208 : decode cX9_findSteps 208 = .ok (.invokevirtual 136, 3) := by decide +kernel
theorem dX9_findSteps_211 : decode cX9_findSteps 211 = .ok (.iconst 1, 1) := by decide +kernel
theorem dX9_findSteps_212 : decode cX9_findSteps 212 = .ok (.invokevirtual 139, 3) := by decide +kernel
theorem dX9_findSteps_50 : decode cX9_findSteps 50 = .ok (.aload_n 0, 1) := by decide +kernel
theorem dX9_findSteps_51 : decode cX9_findSteps 51 = .ok (.getfield 46, 3) := by decide +kernel
theorem dX9_findSteps_54 : decode cX9_findSteps 54 = .ok (.iload 6, 2) := by decide +kernel
theorem dX9_findSteps_56 : decode cX9_findSteps 56 = .ok (.invokevirtual 125, 3) := by decide +kernel
theorem dX9_findSteps_59 : decode cX9_findSteps 59 = .ok (.istore 7, 2) := by decide +kernel
theorem dX9_findSteps_61 : decode cX9_findSteps 61 = .ok (.iload_n 3, 1) := by decide +kernel
theorem dX9_findSteps_62 : decode cX9_findSteps 62 = .ok (.iload 7, 2) := by decide +kernel
theorem dX9_findSteps_64 : decode cX9_findSteps 64 = .ok (.invokestatic 128, 3) := by decide +kernel
theorem dX9_findSteps_67 : decode cX9_findSteps 67 = .ok (.istore 8, 2) := by decide +kernel
theorem dX9_findSteps_69 : decode cX9_findSteps 69 = .ok (.iload 6, 2) := by decide +kernel
theorem dX9_findSteps_71 : decode cX9_findSteps 71 = .ok (.iconst 1, 1) := by decide +kernel
theorem dX9_findSteps_72 : decode cX9_findSteps 72 = .ok (.iadd, 1) := by decide +kernel
theorem dX9_findSteps_73 : decode cX9_findSteps 73 = .ok (.istore 9, 2) := by decide +kernel
theorem dX9_findSteps_75 : decode cX9_findSteps 75 = .ok (.iload 9, 2) := by decide +kernel
theorem dX9_findSteps_77 : decode cX9_findSteps 77 = .ok (.iload_n 2, 1) := by decide +kernel
theorem dX9_findSteps_78 : decode cX9_findSteps 78 = .ok (.if_icmp .ge 87, 3) := by decide +kernel
theorem dX9_findSteps_165 : decode cX9_findSteps 165 = .ok (.iinc 6 1, 3) := by decide +kernel
theorem dX9_findSteps_168 : decode cX9_findSteps 168 = .ok (.goto (-124), 3) := by decide +kernel
theorem dX9_findSteps_81 : decode cX9_findSteps 81 = .ok (.aload_n 0, 1) := by decide +kernel
theorem dX9_findSteps_82 : decode cX9_findSteps 82 = .ok (.getfield 46, 3) := by decide +kernel
theorem dX9_findSteps_85 : decode cX9_findSteps 85 = .ok (.iload 9, 2) := by decide +kernel
theorem dX9_findSteps_87 : decode cX9_findSteps 87 = .ok (.invokevirtual 125, 3) := by decide +kernel
theorem dX9_findSteps_90 : decode cX9_findSteps 90 = .ok (.istore 10, 2) := by decide +kernel
theorem dX9_findSteps_92 : decode cX9_findSteps 92 = .ok (.iload_n 3, 1) := by decide +kernel
theorem dX9_findSteps_93 : decode cX9_findSteps 93 = .ok (.iload 10, 2) := by decide +kernel
theorem dX9_findSteps_95 : decode cX9_findSteps 95 = .ok (.invokestatic 128, 3) := by decide +kernel
theorem dX9_findSteps_98 : decode cX9_findSteps 98 = .ok (.istore 11, 2) := by decide +kernel
theorem dX9_findSteps_127 : decode cX9_findSteps 127 = .ok (.istore 12, 2) := by decide +kernel
theorem dX9_findSteps_156 : decode cX9_findSteps 156 = .ok (.iinc 5 1, 3) := by decide +kernel
theorem dX9_findSteps_159 : decode cX9_findSteps 159 = .ok (.iinc 9 1, 3) := by decide +kernel
theorem dX9_findSteps_162 : decode cX9_findSteps 162 = .ok (.goto (-87), 3) := by decide +kernel
theorem dX9_findSteps_129 : decode cX9_findSteps 129 = .ok (.iload 12, 2) := by decide +kernel
theorem dX9_findSteps_131 : decode cX9_findSteps 131 = .ok (.ifCond .le 25, 3) := by decide +kernel
theorem dX9_findSteps_134 : decode cX9_findSteps 134 = .ok (.aload_n 0, 1) := by decide +kernel
theorem dX9_findSteps_135 : decode cX9_findSteps 135 = .ok (.iload_n 1, 1) := by decide +kernel
theorem dX9_findSteps_136 : decode cX9_findSteps 136 = .ok (.aload_n 0, 1) := by decide +kernel
theorem dX9_findSteps_137 : decode cX9_findSteps 137 = .ok (.getfield 46, 3) := by decide +kernel
theorem dX9_findSteps_140 : decode cX9_findSteps 140 = .ok (.iload_n 3, 1) := by decide +kernel
theorem dX9_findSteps_141 : decode cX9_findSteps 141 = .ok (.iload 7, 2) := by decide +kernel
theorem dX9_findSteps_143 : decode cX9_findSteps 143 = .ok (.iload 10, 2) := by decide +kernel
theorem dX9_findSteps_145 : decode cX9_findSteps 145 = .ok (.invokestatic 132, 3) := by decide +kernel
theorem dX9_findSteps_148 : decode cX9_findSteps 148 = .ok (.invokevirtual 136, 3) := by decide +kernel
theorem dX9_findSteps_151 : decode cX9_findSteps 151 = .ok (.iload 12, 2) := by decide +kernel
theorem dX9_findSteps_153 : decode cX9_findSteps 153 = .ok (.invokevirtual 139, 3) := by decide +kernel
theorem dX9_findSteps_100 : decode cX9_findSteps 100 = .ok (.iload 8, 2) := by decide +kernel
theorem dX9_findSteps_102 : decode cX9_findSteps 102 = .ok (.iload 11, 2) := by decide +kernel
theorem dX9_findSteps_104 : decode cX9_findSteps 104 = .ok (.if_icmp .ne 7, 3) := by decide +kernel
theorem dX9_findSteps_111 : decode cX9_findSteps 111 = .ok (.aload_n 0, 1) := by decide +kernel
theorem dX9_findSteps_112 : decode cX9_findSteps 112 = .ok (.getfield 28, 3) := by decide +kernel
theorem dX9_findSteps_115 : decode cX9_findSteps 115 = .ok (.iload 5, 2) := by decide +kernel
theorem dX9_findSteps_117 : decode cX9_findSteps 117 = .ok (.iload 8, 2) := by decide +kernel
theorem dX9_findSteps_119 : decode cX9_findSteps 119 = .ok (.iload 11, 2) := by decide +kernel
theorem dX9_findSteps_121 : decode cX9_findSteps 121 = .ok (.iload 4, 2) := by decide +kernel
theorem dX9_findSteps_123 : decode cX9_findSteps 123 = .ok (.invokestatic 113, 3) := by decide +kernel
theorem dX9_findSteps_126 : decode cX9_findSteps 126 = .ok (.iaload, 1) := by decide +kernel
theorem dX9_findSteps_107 : decode cX9_findSteps 107 = .ok (.iconst 0, 1) := by decide +kernel
theorem dX9_findSteps_108 : decode cX9_findSteps 108 = .ok (.goto 19, 3) := by decide +kernel
theorem dX9_degree_0 : decode cX9_degree 0 = .ok (.aload_n 0, 1) := by decide +kernel
theorem dX9_degree_1 : decode cX9_degree 1 = .ok (.getfield 22, 3) := by decide +kernel
theorem dX9_degree_4 : decode cX9_degree 4 = .ok (.iload_n 1, 1) := by decide +kernel
theorem dX9_degree_5 : decode cX9_degree 5 = .ok (.iaload, 1) := by decide +kernel
theorem dX9_degree_6 : decode cX9_degree 6 = .ok (.iconst (-1), 1) := by decide +kernel
theorem dX9_degree_7 : decode cX9_degree 7 = .ok (.if_icmp .ne 8, 3) := by decide +kernel
theorem dX9_degree_15 : decode cX9_degree 15 = .ok (.aload_n 0, 1) := by decide +kernel
theorem dX9_degree_16 : decode cX9_degree 16 = .ok (.getfield 22, 3) := by decide +kernel
theorem dX9_degree_19 : decode cX9_degree 19 = .ok (.iload_n 1, 1) := by decide +kernel
theorem dX9_degree_20 : decode cX9_degree 20 = .ok (.iaload, 1) := by decide +kernel
theorem dX9_degree_21 : decode cX9_degree 21 = .ok (.ireturn, 1) := by decide +kernel
theorem dX9_degree_10 : decode cX9_degree 10 = .ok (.aload_n 0, 1) := by decide +kernel
theorem dX9_degree_11 : decode cX9_degree 11 = .ok (.iload_n 1, 1) := by decide +kernel
theorem dX9_degree_12 : decode cX9_degree 12 = .ok (.invokevirtual 72, 3) := by decide +kernel
theorem v_c15c431a15 {a0 a1 : Int} (h0 : a0 ≤ 100000) (h1 : 0 ≤ a1) (h2 : a1 ≤ a0) : zr a1 := by omega
theorem v_8ef19707b5 {a0 a1 a2 : Int} (h0 : 0 ≤ a0) (h1 : a0 ≤ a1) (h2 : a1 ≤ a2) (h3 : a2 ≤ 100000) : zr a0 := by omega
theorem v_007288f3db {a0 a1 a2 : Int} (h0 : 0 ≤ a0) (h1 : a0 ≤ a1) (h2 : a1 ≤ a2) (h3 : a2 ≤ 100000) : zr a1 := by omega
theorem v_9b8ff1793f {a0 a1 a2 : Int} (h0 : 0 ≤ a0) (h1 : a0 ≤ a1) (h2 : a1 ≤ a2) (h3 : a2 ≤ 100000) : zr a2 := by omega
theorem v_0065452639 {a0 : Int} : a0 ≤ a0 := by omega
theorem v_e3395a184e {a0 a1 a2 a3 : Int} (h0 : a0 ≤ 100000) (h1 : 0 ≤ a1) (h2 : a2 ≤ a0) (h3 : a1 ≤ a3) (h4 : a3 ≤ a2) : zr a3 := by omega
theorem v_07d8748eaa {a0 a1 a2 : Int} (h0 : a0 ≤ 100000) (h1 : 0 ≤ a1) (h2 : a1 ≤ a2) (h3 : a2 ≤ a0) : zr a2 := by omega
theorem v_21976c7318 {a0 a1 : Int} (h0 : 0 ≤ a0) (h1 : a0 ≤ a1) : 0 ≤ a1 := by omega
theorem v_661726468a {a0 a1 a2 : Int} (h0 : a0 ≤ a1) (h1 : ¬ a0 ≤ a2) : a2 < a1 := by omega
theorem v_b82c54685a {a0 : Int} (h0 : 0 ≤ a0) (h1 : a0 ≤ 50000) : zr a0 := by omega
theorem v_27813f3658 {a0 : Int} (h0 : 0 ≤ a0) (h1 : a0 ≤ 100000) : zr ((2 * a0)) := by omega
theorem v_bc369d22cb {a0 a1 : Int} (h0 : a0 ≤ a1) (h1 : a1 ≤ 2 * a0) : 0 ≤ a1 := by omega
theorem v_b94c77388f {a0 : Int} (h0 : a0 ≤ 124740) : a0 ≤ 100000000 := by omega
theorem v_de571b74bd {a0 a1 : Int} : 5 * a0 + a1 = a1 + 5 * a0 := by omega
theorem v_e924536c79 {a0 a1 : Int} : (a0 + 5 * a1) * 5 = 5 * a0 + 25 * a1 := by omega
theorem v_726298d070 {a0 a1 a2 : Int} : 5 * a0 + 25 * a1 + a2 = 5 * a0 + a2 + 25 * a1 := by omega
theorem v_97985195cc {a0 a1 a2 : Int} : (5 * a0 + a1 + 25 * a2) * 5 = 25 * a0 + 5 * a1 + 125 * a2 := by omega
theorem v_81576de442 {a0 a1 a2 a3 : Int} : 25 * a0 + 5 * a1 + 125 * a2 + a3 = 25 * a0 + 5 * a1 + a3 + 125 * a2 := by omega
theorem v_9b94a2f069 {a0 a1 a2 a3 : Int} : (25 * a0 + 5 * a1 + a2 + 125 * a3) = 125 * a3 + 25 * a0 + 5 * a1 + a2 := by omega
theorem v_2759b60d8a {a0 : Int} (h0 : 0 ≤ a0) (h1 : ¬ 5 ≤ a0) : zr a0 := by omega
theorem v_4a8c742220 {a0 : Int} (h0 : ¬ 5 ≤ a0) : a0 ≤ 7 := by omega
theorem v_0979ba7300 {a0 : Int} (h0 : a0 ≤ 1000) : a0 ≤ 100000 := by omega
theorem v_312164806e {a0 a1 a2 a3 a4 : Int} (h0 : 0 ≤ a0) (h1 : 0 ≤ a1) (h2 : 0 ≤ a2) (h3 : 0 ≤ a3) (h4 : a4 = 125 * a0 + 25 * a1 + 5 * a2 + a3) : 0 ≤ a4 := by omega
theorem v_4a65f02469 {a0 a1 a2 a3 a4 : Int} (h0 : a0 ≤ 20) (h1 : ¬ 5 ≤ a1) (h2 : ¬ 5 ≤ a2) (h3 : ¬ 5 ≤ a3) (h4 : a4 = 125 * a0 + 25 * a1 + 5 * a2 + a3) : a4 < 2625 := by omega
theorem v_ec44273dfa {a0 : Int} (h0 : a0 ≤ 99) : a0 ≤ 99 := by omega
theorem v_c255c5148d : (1 : Int) < 2 := by omega
theorem v_fcab51fa92 {a0 a1 a2 : Int} (h0 : a0 = a1) : a0 = a1 + (a2 + 1) - a2 - 1 := by omega
theorem v_c22f222aa9 {a0 a1 a2 a3 a4 : Int} (h0 : a0 ≤ a1) (h1 : a2 = a3 + a0 - a4 - 1) (h2 : a1 ≤ a0) : a2 = a3 + (a1 - a4 - 1) := by omega
theorem v_f96728aa25 {a0 a1 a2 : Int} (h0 : a0 + 1 ≤ a1) (h1 : ¬ a2 ≤ a1) : a0 < a2 := by omega
theorem v_d3fc41f99a {a0 a1 a2 : Int} (h0 : a0 ≤ 7) (h1 : a1 + 1 ≤ a2) (h2 : ¬ a0 ≤ a2) : a1 ≤ 7 := by omega
theorem v_0e7a20f8bd {a0 a1 : Int} (h0 : a0 ≤ 6) (h1 : a1 < a0) : a1 < 6 := by omega
theorem v_33a97cc6cd {a0 a1 a2 a3 : Int} (h0 : a0 + 1 ≤ a1) (h1 : a2 = a3 + a1 - a0 - 1) (h2 : 0 ≤ a3) : 0 ≤ a2 := by omega
theorem v_004452eb75 {a0 a1 a2 a3 a4 : Int} (h0 : a0 = a1 + a2 - a3 - 1) (h1 : ¬ a4 ≤ a2) (h2 : a1 + (a4 - a3 - 1) ≤ 21) : a0 ≤ 20 := by omega
theorem v_f1b0b32074 {a0 a1 a2 a3 : Int} (h0 : a0 = a1 + a2 - a3 - 1) : (a0 + 1) = a1 + (a2 + 1) - a3 - 1 := by omega
theorem v_53cebe670f : (0 : Int) ≤ 1000 := by omega
theorem v_40f5fee78f {a0 : Int} : a0 * 22 = 22 * a0 := by omega
theorem v_68ff3cbdd5 {a0 : Int} (h0 : a0 ≤ 60000) : a0 ≤ 100000 := by omega
theorem v_6c834f4ebb {a0 : Int} (h0 : 1 ≤ a0) : 0 ≤ (22 * a0) := by omega
theorem v_7bca4b0b3e {a0 : Int} (h0 : a0 ≤ 1260) : (22 * a0) ≤ 50000 := by omega
theorem v_b13e5cccd9 : (0 : Int) ≤ 1260 := by omega
theorem v_67f32b312e : (1260 : Int) ≤ 100000 := by omega
theorem v_d64efa60f9 : zr ((-1)) := by omega
theorem v_fe405a789f {a0 a1 : Int} (h0 : a0 ≤ 1260) (h1 : a1 ≤ 2 * (22 * a0)) : a1 ≤ 60000 := by omega
theorem v_3ae73fe288 {a0 a1 a2 : Int} (h0 : a0 < (22 * a1)) (h1 : (22 * a1) ≤ a2) : a0 ≤ a2 := by omega
theorem v_0b660d5a9b {a0 a1 : Int} (h0 : a0 < (22 * a1)) : a0 < 22 * a1 := by omega
theorem v_d9fe08462c {a0 a1 : Int} (h0 : 2 * a0 ≤ a1) : 2 * a0 ≤ a1 := by omega
theorem v_9c5011c36f : -(2147483648 : Int) ≤ 0 := by omega
theorem v_cd342b47c7 : (0 : Int) ≤ 2147483647 := by omega
theorem v_ad6305c414 {a0 a1 : Int} : 22 * a0 + a1 = a1 + 22 * a0 := by omega
theorem v_4e827dc1f5 {a0 a1 a2 : Int} (h0 : 0 ≤ a0) (h1 : a0 < a1) (h2 : 22 * a1 ≤ a2) : 0 ≤ a2 := by omega
theorem v_20ea8ee269 {a0 a1 : Int} (h0 : 0 ≤ a0) (h1 : 0 ≤ a1) : 0 ≤ a1 + 22 * a0 := by omega
theorem v_b360e62d4f {a0 a1 a2 a3 a4 a5 : Int} (h0 : a0 < a1) (h1 : a2 < a3) (h2 : 22 * a1 ≤ a4) (h3 : a3 = a5) (h4 : a5 ≤ 22) : a2 + 22 * a0 < a4 := by omega
theorem v_e305852bbd {a0 a1 : Int} (h0 : a0 ≤ 1260) (h1 : -1 ≤ a1) (h2 : a1 < a0) : zr a1 := by omega
theorem v_5282293a48 {a0 a1 : Int} (h0 : a0 ≤ 8) (h1 : 0 ≤ a1) (h2 : a1 < a0) : zr a1 := by omega
theorem v_ec89eb1211 {a0 : Int} (h0 : 0 ≤ a0) : ¬ a0 = -1 := by omega
theorem v_6d2ae2573e : -(1 : Int) = -1 := by omega
theorem v_2e7a4574f6 {a0 : Int} (h0 : -1 ≤ a0) (h1 : a0 ≤ 22) : zr a0 := by omega
theorem v_47b1fdf360 : zr 22 := by omega
theorem v_5f949a6f78 {a0 a1 : Int} (h0 : 1 ≤ a0) (h1 : 22 * a0 ≤ a1) : 0 ≤ a1 := by omega
theorem v_46488443b2 {a0 a1 a2 : Int} (h0 : 0 ≤ a0) (h1 : 0 ≤ a1) (h2 : a1 = a2) : 0 ≤ 22 * a0 + a2 := by omega
theorem v_5a3ad24ac8 {a0 a1 a2 a3 : Int} (h0 : a0 < a1) (h1 : 22 * a1 ≤ a2) (h2 : ¬ 22 ≤ a3) : 22 * a0 + a3 < a2 := by omega
theorem v_76edbadb48 {a0 : Int} (h0 : a0 ≤ 1260) : a0 ≤ 1260 := by omega
theorem v_9af1543160 {a0 a1 : Int} (h0 : 0 ≤ a0) (h1 : a0 = a1) : 0 ≤ a1 := by omega
theorem v_a44dd954a1 {a0 : Int} (h0 : ¬ 22 ≤ a0) : a0 < 22 := by omega
theorem v_a708073960 {a0 : Int} (h0 : -1 ≤ a0) (h1 : ¬ a0 = -1) : 0 ≤ a0 := by omega
theorem v_5dfb8272e3 {a0 : Int} (h0 : 1 ≤ a0) : 1 ≤ a0 := by omega
theorem v_ae13ccaf7a {a0 : Int} (h0 : -1 ≤ a0) : 0 ≤ a0 + 1 := by omega
theorem v_f0b83b3866 {a0 : Int} (h0 : ¬ 22 ≤ a0) : a0 + 1 ≤ 22 := by omega
theorem v_85c429e5bb {a0 a1 : Int} (h0 : 0 ≤ a0) (h1 : a0 ≤ 7) (h2 : a1 = 3 * a0 - 3 * 0 - 3) : zr a1 := by omega
theorem v_72afd49884 : (0 : Int) < 2 := by omega
theorem v_d9590fd053 {a0 : Int} (h0 : 0 ≤ a0) (h1 : a0 ≤ 99) : zr a0 := by omega
theorem v_a6d1a4f0fa {a0 a1 a2 a3 : Int} (h0 : a0 ≤ 7) (h1 : 0 ≤ a1) (h2 : a2 = 3 * a0 - 3 * a1 - 3) (h3 : a1 + 1 ≤ a3) (h4 : ¬ a0 ≤ a3) : zr a2 := by omega
theorem v_9bf59c6767 {a0 : Int} (h0 : ¬ a0 ≤ 0) : 1 ≤ a0 := by omega
theorem v_25b8885118 {a0 a1 : Int} (h0 : 0 ≤ a0) (h1 : ¬ a1 ≤ a0) : 0 < a1 := by omega
theorem v_dac867e7fa {a0 a1 a2 a3 a4 a5 a6 a7 : Int} (h0 : 0 ≤ a0) (h1 : 0 ≤ a1) (h2 : a2 + 1 ≤ a3) (h3 : a4 = a5 + a3 - a2 - 1) (h4 : 0 ≤ a6) (h5 : 0 ≤ a5) (h6 : a7 = 125 * a4 + 25 * a1 + 5 * a6 + a0) : 0 ≤ a7 := by omega
theorem v_6928ad3832 {a0 a1 a2 a3 a4 a5 a6 a7 a8 : Int} (h0 : a0 ≤ 4) (h1 : a1 = a2 + a3 - a4 - 1) (h2 : ¬ a5 ≤ a3) (h3 : a6 ≤ 4) (h4 : a7 ≤ 4) (h5 : a2 + (a5 - a4 - 1) ≤ 21) (h6 : a8 = 125 * a1 + 25 * a0 + 5 * a6 + a7) : a8 < 2625 := by omega
theorem v_1022695464 {a0 : Int} (h0 : -1 ≤ a0) (h1 : a0 = -1) : a0 = -1 := by omega
theorem v_77fe426a3a {a0 a1 : Int} (h0 : 0 ≤ a0) (h1 : a0 = a1) : ¬ a1 = -1 := by omega
set_option maxHeartbeats 4000000 in
set_option maxRecDepth 100000 in
theorem a_fill {l : Launch} {G : jG} {nh : Nat} {fh : Nat → Option va_E} (r : Nat) (n : Int) (F : Int → Int) (v : Int) (q0 : 0 ≤ n) (q1 : n ≤ 100000) (q2 : zr v) (hkr : fh r = some (.inl (0, (n).toNat, .inl (zA F)))) : JM l G yJ7_fill_53178 MJ7_fill_53178 { frames := 0, cells := 0, slots := 0, locals := 0 } [.ref r, .int (zI v)] (nh, fh) (fun rr h9 => ∃ H : Int → Int, rr = none ∧ h9 = (nh, hc fh [(r, .inl (0, (n).toNat, .inl (zA H)))]) ∧ (H = fillf F 0 n v)) := by
  refine JM.of (by decide) rfl (fun h => by cases h) (Nat.le_of_ble_eq_true rfl) ⟨2, rfl⟩ ?_
  refine J_hc0 (J_ls (ls2 := [some (.ref r), some (.int (zI v)), none, none]) rfl ?_)
  refine Z_iconst (n := 0) dJ7_fill_53178_0 ?_
  refine J_istore_n dJ7_fill_53178_1 rfl (Nat.le_of_ble_eq_true rfl) rfl ?_
  refine J_ls (ls2 := [some (.ref r), some (.int (zI v)), some (.int (zI 0)), none]) rfl ?_
  refine J_aload_n dJ7_fill_53178_2 rfl rfl ?_
  refine Y_alen n dJ7_fill_53178_3 hkr rfl (Int.toNat_of_nonneg (v_2b02420001 q0)) ?_
  refine J_istore_n dJ7_fill_53178_4 rfl (Nat.le_of_ble_eq_true rfl) rfl ?_
  refine J_ls (ls2 := [some (.ref r), some (.int (zI v)), some (.int (zI 0)), some (.int (zI n))]) rfl ?_
  refine J_touch (k := r) (e := .inl (0, (n).toNat, .inl (zA F))) hkr ?_
  have lp5 : ∀ (N5 : Nat) (i_5 : Int) (c_5 : Int → Int), (0 ≤ i_5) → (i_5 ≤ n) → (c_5 = fillf F 0 i_5 v) → (n - i_5).toNat < N5 → J l G MJ7_fill_53178 { frames := 0, cells := 0, slots := 0, locals := 0 } jE (jMQ G { frames := 0, cells := 0, slots := 0, locals := 0 } (fun rr h9 => ∃ H : Int → Int, rr = none ∧ h9 = (nh, hc fh [(r, .inl (0, (n).toNat, .inl (zA H)))]) ∧ (H = fillf F 0 n v))) (nh, hc fh [(r, .inl (0, (n).toNat, .inl (zA c_5)))]) 0 0 5 [some (.ref r), some (.int (zI v)), some (.int (zI i_5)), some (.int (zI n))] [] := by
    intro N5
    induction N5 with
    | zero => intro i_5 c_5 i5_0 i5_1 i5_2 hm; exact absurd hm (Nat.not_lt_zero _)
    | succ N5 ih5 =>
      intro i_5 c_5 i5_0 i5_1 i5_2 hm5
      refine J_iload_n dJ7_fill_53178_5 rfl rfl ?_
      refine J_iload_n dJ7_fill_53178_6 rfl rfl ?_
      refine Z_icmp_ge (tgt := 20) dJ7_fill_53178_7 (by decide) (v_c15c431a15 q1 i5_0 i5_1) (v_df877c3443 q0 q1) (fun h1 => ?_) (fun h1 => ?_)
      · exact J_vret dJ7_fill_53178_20 rfl (Nat.le_of_ble_eq_true rfl) (Nat.le_of_ble_eq_true rfl) ⟨c_5, rfl, rfl, (by have e : n = i_5 := (v_5b9403af20 i5_1 h1); rw [e]; exact i5_2)⟩
      · refine J_aload_n dJ7_fill_53178_10 rfl rfl ?_
        refine J_iload_n dJ7_fill_53178_11 rfl rfl ?_
        refine J_iload_n dJ7_fill_53178_12 rfl rfl ?_
        refine Y_iast (v := v) n dJ7_fill_53178_13 hch (Int.toNat_of_nonneg (v_2b02420001 q0)) (v_49a98948d1 q1) (v_2b02420001 i5_0) (v_fe9ea41faa h1) (fun f2 ef2 => ?_)
        refine Z_iinc (c := i_5 + 1) (ls2 := [some (.ref r), some (.int (zI v)), some (.int (zI (i_5 + 1))), some (.int (zI n))]) dJ7_fill_53178_14 rfl (Nat.le_of_ble_eq_true rfl) rfl rfl rfl ?_
        refine J_goto (tgt := 5) dJ7_fill_53178_17 (by decide) ?_
        refine J_dupc (A := [(r, .inl (0, (n).toNat, .inl (zA f2)))]) (B := []) (L2 := [(r, .inl (0, (n).toNat, .inl (zA f2)))]) (k := r) (c := .inl (0, (n).toNat, .inl (zA c_5))) (e := .inl (0, (n).toNat, .inl (zA f2))) rfl rfl (List.mem_of_getElem? (i := 0) rfl) ?_
        exact ih5 (i_5 + 1) f2 (v_da458fa48a i5_0) (v_e390a36114 h1) (fill_step i5_2 ef2 i5_0 rfl) (meas_lt v_90eacd6fd4 (v_8b7dd7d486 h1) hm5)
  exact lp5 _ 0 F v_939070ca3f q0 (fill_0) (Nat.lt_succ_self _)
set_option maxHeartbeats 4000000 in
set_option maxRecDepth 100000 in
theorem a_rangeCheck {l : Launch} {G : jG} {nh : Nat} {fh : Nat → Option va_E} (n : Int) (a : Int) (b : Int) (q0 : 0 ≤ a) (q1 : a ≤ b) (q2 : b ≤ n) (q3 : n ≤ 100000) : JM l G yJ7_rangeCheck_23922 MJ7_rangeCheck_23922 { frames := 0, cells := 0, slots := 0, locals := 0 } [.int (zI n), .int (zI a), .int (zI b)] (nh, fh) (fun rr h9 => rr = none ∧ h9 = (nh, fh)) := by
  refine JM.of (by decide) rfl (fun h => by cases h) (Nat.le_of_ble_eq_true rfl) ⟨0, rfl⟩ ?_
  refine J_hc0 (J_ls (ls2 := [some (.int (zI n)), some (.int (zI a)), some (.int (zI b))]) rfl ?_)
  refine J_iload_n dJ7_rangeCheck_23922_0 rfl rfl ?_
  refine J_iload_n dJ7_rangeCheck_23922_1 rfl rfl ?_
  refine Z_icmp_le (tgt := 46) dJ7_rangeCheck_23922_2 (by decide) (v_8ef19707b5 q0 q1 q2 q3) (v_007288f3db q0 q1 q2 q3) (fun h1 => ?_) (fun h1 => absurd h1 (fun q => q (v_d464d4c634 q1)))
  refine J_iload_n dJ7_rangeCheck_23922_46 rfl rfl ?_
  refine Z_if_ge (tgt := 59) dJ7_rangeCheck_23922_47 (by decide) (v_8ef19707b5 q0 q1 q2 q3) (fun h2 => ?_) (fun h2 => absurd h2 (fun q => q (v_2b02420001 q0)))
  refine J_iload_n dJ7_rangeCheck_23922_59 rfl rfl ?_
  refine J_iload_n dJ7_rangeCheck_23922_60 rfl rfl ?_
  refine Z_icmp_le (tgt := 73) dJ7_rangeCheck_23922_61 (by decide) (v_007288f3db q0 q1 q2 q3) (v_9b8ff1793f q0 q1 q2 q3) (fun h3 => ?_) (fun h3 => absurd h3 (fun q => q (v_d464d4c634 q2)))
  exact J_vret dJ7_rangeCheck_23922_73 rfl (Nat.le_of_ble_eq_true rfl) (Nat.le_of_ble_eq_true rfl) ⟨rfl, rfl⟩
set_option maxHeartbeats 4000000 in
set_option maxRecDepth 100000 in
theorem a_fillr {l : Launch} {G : jG} {nh : Nat} {fh : Nat → Option va_E} (r : Nat) (n : Int) (F : Int → Int) (a : Int) (b : Int) (v : Int) (q0 : 0 ≤ n) (q1 : n ≤ 100000) (q2 : zr v) (q3 : 0 ≤ a) (q4 : a ≤ b) (q5 : b ≤ n) (hkr : fh r = some (.inl (0, (n).toNat, .inl (zA F)))) : JM l G yJ7_fill_fda19 MJ7_fill_fda19 { frames := 1, cells := 0, slots := 0, locals := 22 } [.ref r, .int (zI a), .int (zI b), .int (zI v)] (nh, fh) (fun rr h9 => ∃ H : Int → Int, rr = none ∧ h9 = (nh, hc fh [(r, .inl (0, (n).toNat, .inl (zA H)))]) ∧ (H = fillf F a b v)) := by
  refine JM.of (by decide) rfl (fun h => by cases h) (Nat.le_of_ble_eq_true rfl) ⟨1, rfl⟩ ?_
  refine J_hc0 (J_ls (ls2 := [some (.ref r), some (.int (zI a)), some (.int (zI b)), some (.int (zI v)), none]) rfl ?_)
  refine J_aload_n dJ7_fill_fda19_0 rfl rfl ?_
  refine Y_alen n dJ7_fill_fda19_1 hkr rfl (Int.toNat_of_nonneg (v_2b02420001 q0)) ?_
  refine J_iload_n dJ7_fill_fda19_2 rfl rfl ?_
  refine J_iload_n dJ7_fill_fda19_3 rfl rfl ?_
  refine J_callS (st := []) dJ7_fill_fda19_4 cs_J7_13 (a_rangeCheck n a b q3 q4 q5 q1) rfl rfl (Nat.le_of_ble_eq_true rfl) ⟨(Nat.le_of_ble_eq_true rfl), (Nat.le_of_ble_eq_true rfl)⟩ ⟨(Nat.le_of_ble_eq_true rfl), (Nat.le_of_ble_eq_true rfl)⟩ (fun r h9 hp => ?_)
  obtain ⟨rfl, rfl⟩ := hp
  refine J_nf (nh2 := nh) (ck2 := 0) (sk2 := 0) (st2 := []) rfl rfl rfl rfl ?_
  refine J_iload_n dJ7_fill_fda19_7 rfl rfl ?_
  refine J_istore dJ7_fill_fda19_8 (Nat.le_of_ble_eq_true rfl) rfl ?_
  refine J_ls (ls2 := [some (.ref r), some (.int (zI a)), some (.int (zI b)), some (.int (zI v)), some (.int (zI a))]) rfl ?_
  refine J_touch (k := r) (e := .inl (0, (n).toNat, .inl (zA F))) hkr ?_
  have lp10 : ∀ (N10 : Nat) (i_10 : Int) (c_10 : Int → Int), (a ≤ i_10) → (i_10 ≤ b) → (c_10 = fillf F a i_10 v) → (b - i_10).toNat < N10 → J l G MJ7_fill_fda19 { frames := 1, cells := 0, slots := 0, locals := 22 } jE (jMQ G { frames := 1, cells := 0, slots := 0, locals := 22 } (fun rr h9 => ∃ H : Int → Int, rr = none ∧ h9 = (nh, hc fh [(r, .inl (0, (n).toNat, .inl (zA H)))]) ∧ (H = fillf F a b v))) (nh, hc fh [(r, .inl (0, (n).toNat, .inl (zA c_10)))]) 0 0 10 [some (.ref r), some (.int (zI a)), some (.int (zI b)), some (.int (zI v)), some (.int (zI i_10))] [] := by
    intro N10
    induction N10 with
    | zero => intro i_10 c_10 i10_0 i10_1 i10_2 hm; exact absurd hm (Nat.not_lt_zero _)
    | succ N10 ih10 =>
      intro i_10 c_10 i10_0 i10_1 i10_2 hm10
      refine J_iload dJ7_fill_fda19_10 rfl ?_
      refine J_iload_n dJ7_fill_fda19_12 rfl rfl ?_
      refine Z_icmp_ge (tgt := 27) dJ7_fill_fda19_13 (by decide) (v_e3395a184e q1 q3 q5 i10_0 i10_1) (v_07d8748eaa q1 q3 q4 q5) (fun h1 => ?_) (fun h1 => ?_)
      · exact J_vret dJ7_fill_fda19_27 rfl (Nat.le_of_ble_eq_true rfl) (Nat.le_of_ble_eq_true rfl) ⟨c_10, rfl, rfl, (by have e : b = i_10 := (v_5b9403af20 i10_1 h1); rw [e]; exact i10_2)⟩
      · refine J_aload_n dJ7_fill_fda19_16 rfl rfl ?_
        refine J_iload dJ7_fill_fda19_17 rfl ?_
        refine J_iload_n dJ7_fill_fda19_19 rfl rfl ?_
        refine Y_iast (v := v) n dJ7_fill_fda19_20 hch (Int.toNat_of_nonneg (v_2b02420001 q0)) (v_49a98948d1 q1) (v_21976c7318 q3 i10_0) (v_661726468a q5 h1) (fun f2 ef2 => ?_)
        refine Z_iinc (c := i_10 + 1) (ls2 := [some (.ref r), some (.int (zI a)), some (.int (zI b)), some (.int (zI v)), some (.int (zI (i_10 + 1)))]) dJ7_fill_fda19_21 rfl (Nat.le_of_ble_eq_true rfl) rfl rfl rfl ?_
        refine J_goto (tgt := 10) dJ7_fill_fda19_24 (by decide) ?_
        refine J_dupc (A := [(r, .inl (0, (n).toNat, .inl (zA f2)))]) (B := []) (L2 := [(r, .inl (0, (n).toNat, .inl (zA f2)))]) (k := r) (c := .inl (0, (n).toNat, .inl (zA c_10))) (e := .inl (0, (n).toNat, .inl (zA f2))) rfl rfl (List.mem_of_getElem? (i := 0) rfl) ?_
        exact ih10 (i_10 + 1) f2 (v_d50281bace i10_0) (v_e390a36114 h1) (fill_step i10_2 ef2 i10_0 rfl) (meas_lt v_90eacd6fd4 (v_8b7dd7d486 h1) hm10)
  exact lp10 _ a F v_0065452639 q4 (fill_0) (Nat.lt_succ_self _)
set_option maxHeartbeats 4000000 in
set_option maxRecDepth 100000 in
theorem a_filll {l : Launch} {G : jG} {nh : Nat} {fh : Nat → Option va_E} (r : Nat) (n : Int) (F : Int → Int) (a : Int) (b : Int) (v : Int) (q0 : 0 ≤ n) (q1 : n ≤ 100000) (q2 : zr64 v) (q3 : 0 ≤ a) (q4 : a ≤ b) (q5 : b ≤ n) (hkr : fh r = some (.inl (1, (n).toNat, .inr (.inl (zAL F))))) : JM l G yJ7_fill_bad5a MJ7_fill_bad5a { frames := 1, cells := 0, slots := 0, locals := 22 } [.ref r, .int (zI a), .int (zI b), .long (zL v)] (nh, fh) (fun rr h9 => ∃ H : Int → Int, rr = none ∧ h9 = (nh, hc fh [(r, .inl (1, (n).toNat, .inr (.inl (zAL H))))]) ∧ (H = fillf F a b v)) := by
  refine JM.of (by decide) rfl (fun h => by cases h) (Nat.le_of_ble_eq_true rfl) ⟨1, rfl⟩ ?_
  refine J_hc0 (J_ls (ls2 := [some (.ref r), some (.int (zI a)), some (.int (zI b)), some (.long (zL v)), none, none]) rfl ?_)
  refine J_aload_n dJ7_fill_bad5a_0 rfl rfl ?_
  refine Y_alen n dJ7_fill_bad5a_1 hkr rfl (Int.toNat_of_nonneg (v_2b02420001 q0)) ?_
  refine J_iload_n dJ7_fill_bad5a_2 rfl rfl ?_
  refine J_iload_n dJ7_fill_bad5a_3 rfl rfl ?_
  refine J_callS (st := []) dJ7_fill_bad5a_4 cs_J7_13 (a_rangeCheck n a b q3 q4 q5 q1) rfl rfl (Nat.le_of_ble_eq_true rfl) ⟨(Nat.le_of_ble_eq_true rfl), (Nat.le_of_ble_eq_true rfl)⟩ ⟨(Nat.le_of_ble_eq_true rfl), (Nat.le_of_ble_eq_true rfl)⟩ (fun r h9 hp => ?_)
  obtain ⟨rfl, rfl⟩ := hp
  refine J_nf (nh2 := nh) (ck2 := 0) (sk2 := 0) (st2 := []) rfl rfl rfl rfl ?_
  refine J_iload_n dJ7_fill_bad5a_7 rfl rfl ?_
  refine J_istore dJ7_fill_bad5a_8 (Nat.le_of_ble_eq_true rfl) rfl ?_
  refine J_ls (ls2 := [some (.ref r), some (.int (zI a)), some (.int (zI b)), some (.long (zL v)), none, some (.int (zI a))]) rfl ?_
  refine J_touch (k := r) (e := .inl (1, (n).toNat, .inr (.inl (zAL F)))) hkr ?_
  have lp10 : ∀ (N10 : Nat) (i_10 : Int) (c_10 : Int → Int), (a ≤ i_10) → (i_10 ≤ b) → (c_10 = fillf F a i_10 v) → (b - i_10).toNat < N10 → J l G MJ7_fill_bad5a { frames := 1, cells := 0, slots := 0, locals := 22 } jE (jMQ G { frames := 1, cells := 0, slots := 0, locals := 22 } (fun rr h9 => ∃ H : Int → Int, rr = none ∧ h9 = (nh, hc fh [(r, .inl (1, (n).toNat, .inr (.inl (zAL H))))]) ∧ (H = fillf F a b v))) (nh, hc fh [(r, .inl (1, (n).toNat, .inr (.inl (zAL c_10))))]) 0 0 10 [some (.ref r), some (.int (zI a)), some (.int (zI b)), some (.long (zL v)), none, some (.int (zI i_10))] [] := by
    intro N10
    induction N10 with
    | zero => intro i_10 c_10 i10_0 i10_1 i10_2 hm; exact absurd hm (Nat.not_lt_zero _)
    | succ N10 ih10 =>
      intro i_10 c_10 i10_0 i10_1 i10_2 hm10
      refine J_iload dJ7_fill_bad5a_10 rfl ?_
      refine J_iload_n dJ7_fill_bad5a_12 rfl rfl ?_
      refine Z_icmp_ge (tgt := 27) dJ7_fill_bad5a_13 (by decide) (v_e3395a184e q1 q3 q5 i10_0 i10_1) (v_07d8748eaa q1 q3 q4 q5) (fun h1 => ?_) (fun h1 => ?_)
      · exact J_vret dJ7_fill_bad5a_27 rfl (Nat.le_of_ble_eq_true rfl) (Nat.le_of_ble_eq_true rfl) ⟨c_10, rfl, rfl, (by have e : b = i_10 := (v_5b9403af20 i10_1 h1); rw [e]; exact i10_2)⟩
      · refine J_aload_n dJ7_fill_bad5a_16 rfl rfl ?_
        refine J_iload dJ7_fill_bad5a_17 rfl ?_
        refine J_lload_n dJ7_fill_bad5a_19 rfl rfl ?_
        refine Y_last (v := v) n dJ7_fill_bad5a_20 hch (Int.toNat_of_nonneg (v_2b02420001 q0)) (v_49a98948d1 q1) (v_21976c7318 q3 i10_0) (v_661726468a q5 h1) (fun f2 ef2 => ?_)
        refine Z_iinc (c := i_10 + 1) (ls2 := [some (.ref r), some (.int (zI a)), some (.int (zI b)), some (.long (zL v)), none, some (.int (zI (i_10 + 1)))]) dJ7_fill_bad5a_21 rfl (Nat.le_of_ble_eq_true rfl) rfl rfl rfl ?_
        refine J_goto (tgt := 10) dJ7_fill_bad5a_24 (by decide) ?_
        refine J_dupc (A := [(r, .inl (1, (n).toNat, .inr (.inl (zAL f2))))]) (B := []) (L2 := [(r, .inl (1, (n).toNat, .inr (.inl (zAL f2))))]) (k := r) (c := .inl (1, (n).toNat, .inr (.inl (zAL c_10)))) (e := .inl (1, (n).toNat, .inr (.inl (zAL f2)))) rfl rfl (List.mem_of_getElem? (i := 0) rfl) ?_
        exact ih10 (i_10 + 1) f2 (v_d50281bace i10_0) (v_e390a36114 h1) (fill_step i10_2 ef2 i10_0 rfl) (meas_lt v_90eacd6fd4 (v_8b7dd7d486 h1) hm10)
  exact lp10 _ a F v_0065452639 q4 (fill_0) (Nat.lt_succ_self _)
set_option maxHeartbeats 4000000 in
set_option maxRecDepth 100000 in
theorem b_grown {l : Launch} {G : jG} {nh : Nat} {fh : Nat → Option va_E} (r : Nat) (n : Int) (F : Int → Int) (x : Int) (S : Int) (q0 : 0 ≤ n) (q1 : n ≤ 100000) (q2 : 0 ≤ x) (q3 : x ≤ 50000) (q4 : 0 ≤ S) (q5 : n < x → x ≤ S ∧ 2 * n ≤ S) (hkr : fh r = some (.inl (0, (n).toNat, .inl (zA F)))) : JM l G yX11_grown MX11_grown { frames := 1, cells := 1, slots := (S).toNat, locals := 21 } [.ref r, .int (zI x)] (nh, fh) (fun rr h9 => (rr = some (.ref r) ∧ h9 = (nh, fh) ∧ (x ≤ n)) ∨ (∃ n2 : Int, rr = some (.ref nh) ∧ h9 = (nh + 1, hc fh [(nh, .inl (0, (n2).toNat, .inl (zA (fun _ => 0))))]) ∧ (n < x) ∧ (x ≤ n2) ∧ (2 * n ≤ n2) ∧ (n2 ≤ 2 * x) ∧ (n2 ≤ S))) := by
  refine JM.of (by decide) rfl (fun h => by cases h) (Nat.le_of_ble_eq_true rfl) ⟨0, rfl⟩ ?_
  refine J_hc0 (J_ls (ls2 := [some (.ref r), some (.int (zI x))]) rfl ?_)
  refine J_aload_n dX11_grown_0 rfl rfl ?_
  refine Y_alen n dX11_grown_1 hkr rfl (Int.toNat_of_nonneg (v_2b02420001 q0)) ?_
  refine J_iload_n dX11_grown_2 rfl rfl ?_
  refine Z_icmp_lt (tgt := 10) dX11_grown_3 (by decide) (v_df877c3443 q0 q1) (v_b82c54685a q2 q3) (fun h1 => ?_) (fun h1 => ?_)
  · have g2 := q5 h1
    refine J_iload_n dX11_grown_10 rfl rfl ?_
    refine Z_iconst (n := 2) dX11_grown_11 ?_
    refine J_aload_n dX11_grown_12 rfl rfl ?_
    refine Y_alen n dX11_grown_13 hkr rfl (Int.toNat_of_nonneg (v_2b02420001 q0)) ?_
    refine Z_imul (c := 2 * n) dX11_grown_14 rfl ?_
    obtain ⟨z3, ez3⟩ : ∃ z : Int, max x (2 * n) = z := ⟨_, rfl⟩
    refine J_mmax (z := zI z3) dX11_grown_15 (jt4 172 rfl rfl) (jt4 144 rfl rfl) (jt1 19 rfl rfl) (jt4 145 rfl rfl) (Nat.le_of_ble_eq_true rfl) (Nat.le_of_ble_eq_true rfl) (Nat.le_of_ble_eq_true rfl) (by show (0 : Nat) ≤ (S).toNat; omega) (by rw [zI_max (v_b82c54685a q2 q3) (v_27813f3658 q0 q1), ez3]) ?_
    have h4 : x ≤ z3 ∧ 2 * n ≤ z3 ∧ (z3 = x ∨ z3 = 2 * n) := by omega
    have h5 : z3 ≤ 124740 := by omega
    have g6 : z3 ≤ S := by omega
    have g7 : z3 ≤ 2 * x := by omega
    refine Y_newi (nh2 := nh + 1) (ck2 := 1) (sk2 := z3.toNat) dX11_grown_18 (jt1 98 rfl rfl) (v_bc369d22cb h4.1 g7) (v_b94c77388f h5) (Nat.le_of_ble_eq_true rfl) (by show (0 : Nat) + z3.toNat ≤ (S).toNat; omega) rfl rfl (by omega) ?_
    exact J_aret dX11_grown_20 rfl (Or.inr ⟨_, rfl⟩) (Nat.le_of_ble_eq_true rfl) (by show (z3.toNat : Nat) ≤ (S).toNat; omega) (Or.inr ⟨z3, rfl, rfl, h1, h4.1, h4.2.1, g7, g6⟩)
  · refine J_aload_n dX11_grown_6 rfl rfl ?_
    refine J_goto (tgt := 20) dX11_grown_7 (by decide) ?_
    exact J_aret dX11_grown_20 rfl (Or.inr ⟨_, rfl⟩) (Nat.le_of_ble_eq_true rfl) (by show (0 : Nat) ≤ (S).toNat; omega) (Or.inl ⟨rfl, rfl, (v_a8d8b48da6 h1)⟩)
set_option maxHeartbeats 4000000 in
set_option maxRecDepth 100000 in
theorem t_changeWalls {l : Launch} {G : jG} {nh : Nat} {fh : Nat → Option va_E} (ks : Nat) (ve : Int) (ss : Int) (vs : Int) (q0 : zr ve) (q1 : ve ≤ 100000) (hk57 : fh 57 = some (.inr (9, [.ref 1, .ref 51, .ref 58, .ref 61, .ref 62, .ref ks, .ref 64, .int (zI ve), .int (zI ss), .int (zI vs)]))) : JM l G yX9_changeWalls MX9_changeWalls { frames := 0, cells := 0, slots := 0, locals := 0 } [.ref 57] (nh, fh) (fun rr h9 => rr = none ∧ h9 = (nh, hc fh [(57, .inr (9, [.ref 1, .ref 51, .ref 58, .ref 61, .ref 62, .ref ks, .ref 64, .int (zI (ve + 1)), .int (zI 1), .int (zI vs)]))])) := by
  refine JM.of (by decide) rfl (fun h => by cases h) (Nat.le_of_ble_eq_true rfl) ⟨0, rfl⟩ ?_
  refine J_hc0 (J_ls (ls2 := [some (.ref 57)]) rfl ?_)
  refine J_aload_n dX9_changeWalls_0 rfl rfl ?_
  refine J_dup dX9_changeWalls_1 rfl ?_
  refine J_get (v := .int (zI ve)) dX9_changeWalls_2 fl_X9_31 hk57 rfl ?_
  refine Z_iconst (n := 1) dX9_changeWalls_5 ?_
  refine Z_iadd (c := ve + 1) dX9_changeWalls_6 rfl ?_
  refine K_put (fs2 := [.ref 1, .ref 51, .ref 58, .ref 61, .ref 62, .ref ks, .ref 64, .int (zI (ve + 1)), .int (zI ss), .int (zI vs)]) dX9_changeWalls_7 fw_X9_31 hk57 (Nat.le_of_ble_eq_true rfl) (fun _ => ⟨rfl, rfl⟩) rfl ?_
  refine J_aload_n dX9_changeWalls_10 rfl rfl ?_
  refine Z_iconst (n := 1) dX9_changeWalls_11 ?_
  refine K_put (fs2 := [.ref 1, .ref 51, .ref 58, .ref 61, .ref 62, .ref ks, .ref 64, .int (zI (ve + 1)), .int (zI 1), .int (zI vs)]) dX9_changeWalls_12 fw_X9_35 rfl (Nat.le_of_ble_eq_true rfl) (jbz v_316afd7d0b v_bbcfac9b7d) rfl ?_
  refine J_mask (L2 := [(57, .inr (9, [.ref 1, .ref 51, .ref 58, .ref 61, .ref 62, .ref ks, .ref 64, .int (zI (ve + 1)), .int (zI 1), .int (zI vs)]))]) (ks := [57, 57]) [true, false] rfl (by decide +kernel) rfl ?_
  exact J_vret dX9_changeWalls_15 rfl (Nat.le_of_ble_eq_true rfl) (Nat.le_of_ble_eq_true rfl) ⟨rfl, rfl⟩
set_option maxHeartbeats 4000000 in
set_option maxRecDepth 100000 in
theorem t_changeAll {l : Launch} {G : jG} {nh : Nat} {fh : Nat → Option va_E} (ks : Nat) (ve : Int) (ss : Int) (vs : Int) (q0 : zr ve) (q1 : ve ≤ 100000) (hk57 : fh 57 = some (.inr (9, [.ref 1, .ref 51, .ref 58, .ref 61, .ref 62, .ref ks, .ref 64, .int (zI ve), .int (zI ss), .int (zI vs)]))) : JM l G yX9_changeAll MX9_changeAll { frames := 1, cells := 0, slots := 0, locals := 20 } [.ref 57] (nh, fh) (fun rr h9 => rr = none ∧ h9 = (nh, hc fh [(57, .inr (9, [.ref 1, .ref 51, .ref 58, .ref 61, .ref 62, .ref ks, .ref 64, .int (zI (ve + 1)), .int (zI 1), .int (zI 1)]))])) := by
  refine JM.of (by decide) rfl (fun h => by cases h) (Nat.le_of_ble_eq_true rfl) ⟨0, rfl⟩ ?_
  refine J_hc0 (J_ls (ls2 := [some (.ref 57)]) rfl ?_)
  refine J_aload_n dX9_changeAll_0 rfl rfl ?_
  refine J_callV (st := []) dX9_changeAll_1 cv_X9_50 (t_changeWalls ks ve ss vs q0 q1 hk57) hk57 rfl rfl (Nat.le_of_ble_eq_true rfl) ⟨(Nat.le_of_ble_eq_true rfl), (Nat.le_of_ble_eq_true rfl)⟩ ⟨(Nat.le_of_ble_eq_true rfl), (Nat.le_of_ble_eq_true rfl)⟩ (fun r h9 hp => ?_)
  obtain ⟨rfl, rfl⟩ := hp
  refine J_nf (nh2 := nh) (ck2 := 0) (sk2 := 0) (st2 := []) rfl rfl rfl rfl ?_
  refine J_app (L3 := [(57, .inr (9, [.ref 1, .ref 51, .ref 58, .ref 61, .ref 62, .ref ks, .ref 64, .int (zI (ve + 1)), .int (zI 1), .int (zI vs)]))]) rfl ?_
  refine J_aload_n dX9_changeAll_4 rfl rfl ?_
  refine Z_iconst (n := 1) dX9_changeAll_5 ?_
  refine K_put (fs2 := [.ref 1, .ref 51, .ref 58, .ref 61, .ref 62, .ref ks, .ref 64, .int (zI (ve + 1)), .int (zI 1), .int (zI 1)]) dX9_changeAll_6 fw_X9_39 rfl (Nat.le_of_ble_eq_true rfl) (jbz v_316afd7d0b v_bbcfac9b7d) rfl ?_
  refine J_mask (L2 := [(57, .inr (9, [.ref 1, .ref 51, .ref 58, .ref 61, .ref 62, .ref ks, .ref 64, .int (zI (ve + 1)), .int (zI 1), .int (zI 1)]))]) (ks := [57, 57]) [true, false] rfl (by decide +kernel) rfl ?_
  exact J_vret dX9_changeAll_9 rfl (Nat.le_of_ble_eq_true rfl) (Nat.le_of_ble_eq_true rfl) ⟨rfl, rfl⟩
set_option maxHeartbeats 4000000 in
set_option maxRecDepth 100000 in
theorem t_version {l : Launch} {G : jG} {nh : Nat} {fh : Nat → Option va_E} (ks : Nat) (ve : Int) (ss : Int) (vs : Int) (hk57 : fh 57 = some (.inr (9, [.ref 1, .ref 51, .ref 58, .ref 61, .ref 62, .ref ks, .ref 64, .int (zI ve), .int (zI ss), .int (zI vs)]))) : JM l G yX9_version MX9_version { frames := 0, cells := 0, slots := 0, locals := 0 } [.ref 57] (nh, fh) (fun rr h9 => rr = some (.int (zI ve)) ∧ h9 = (nh, fh)) := by
  refine JM.of (by decide) rfl (fun h => by cases h) (Nat.le_of_ble_eq_true rfl) ⟨0, rfl⟩ ?_
  refine J_hc0 (J_ls (ls2 := [some (.ref 57)]) rfl ?_)
  refine J_aload_n dX9_version_0 rfl rfl ?_
  refine J_get (v := .int (zI ve)) dX9_version_1 fl_X9_31 hk57 rfl ?_
  exact J_iret dX9_version_4 rfl rfl (Nat.le_of_ble_eq_true rfl) (Nat.le_of_ble_eq_true rfl) ⟨rfl, rfl⟩
set_option maxHeartbeats 4000000 in
set_option maxRecDepth 100000 in
theorem t_verdictPlace {l : Launch} {G : jG} {nh : Nat} {fh : Nat → Option va_E} (p : Int) (a : Int) (b : Int) (c : Int) : JM l G yX9_verdictPlace MX9_verdictPlace { frames := 0, cells := 0, slots := 0, locals := 0 } [.int (zI p), .int (zI a), .int (zI b), .int (zI c)] (nh, fh) (fun rr h9 => ∃ r : Int, rr = some (.int (zI r)) ∧ h9 = (nh, fh) ∧ (r = 125 * p + 25 * a + 5 * b + c)) := by
  refine JM.of (by decide) rfl (fun h => by cases h) (Nat.le_of_ble_eq_true rfl) ⟨0, rfl⟩ ?_
  refine J_hc0 (J_ls (ls2 := [some (.int (zI p)), some (.int (zI a)), some (.int (zI b)), some (.int (zI c))]) rfl ?_)
  refine J_iload_n dX9_verdictPlace_0 rfl rfl ?_
  refine Z_iconst (n := 5) dX9_verdictPlace_1 ?_
  refine Z_imul (c := 5 * p) dX9_verdictPlace_2 v_17a439e0e6 ?_
  refine J_iload_n dX9_verdictPlace_3 rfl rfl ?_
  refine Z_iadd (c := a + 5 * p) dX9_verdictPlace_4 v_de571b74bd ?_
  refine Z_iconst (n := 5) dX9_verdictPlace_5 ?_
  refine Z_imul (c := 5 * a + 25 * p) dX9_verdictPlace_6 v_e924536c79 ?_
  refine J_iload_n dX9_verdictPlace_7 rfl rfl ?_
  refine Z_iadd (c := 5 * a + b + 25 * p) dX9_verdictPlace_8 v_726298d070 ?_
  refine Z_iconst (n := 5) dX9_verdictPlace_9 ?_
  refine Z_imul (c := 25 * a + 5 * b + 125 * p) dX9_verdictPlace_10 v_97985195cc ?_
  refine J_iload_n dX9_verdictPlace_11 rfl rfl ?_
  refine Z_iadd (c := 25 * a + 5 * b + c + 125 * p) dX9_verdictPlace_12 v_81576de442 ?_
  exact J_iret dX9_verdictPlace_13 rfl rfl (Nat.le_of_ble_eq_true rfl) (Nat.le_of_ble_eq_true rfl) ⟨(25 * a + 5 * b + c + 125 * p), rfl, rfl, v_9b94a2f069⟩
set_option maxHeartbeats 4000000 in
set_option maxRecDepth 100000 in
theorem t_judgePair {l : Launch} {G : jG} {nh : Nat} {fh : Nat → Option va_E} (p : Int) (r : Nat) (n : Int) (cf : Int → Int) (ks : Nat) (ve : Int) (ss : Int) (vs : Int) (lc : Int) (fo : Int) (wc : Int) (cc : Int) (sc : Int) (ht : Int) (br : Int) (hl : Int) (le : Int) (ba : Int) (tk : Int) (wf : Int → Int) (kf : Int → Int) (ff : Int → Int) (vf : Int → Int) (q0 : 0 ≤ p) (q1 : p ≤ 20) (q2 : 0 ≤ n) (q3 : n ≤ 1000) (q4 : Fx r) (q5 : Rg cf n (-2147483648) 2147483647) (q6 : Rg vf 2625 0 99) (q7 : Rg wf 8 (-2147483648) 2147483647) (q8 : Rg ff 5 (-2147483648) 2147483647) (q9 : 0 ≤ ht) (q10 : ht ≤ 64) (q11 : 0 ≤ br) (q12 : br ≤ 1) (q13 : 0 ≤ hl) (q14 : hl ≤ 1) (q15 : 0 ≤ le) (q16 : le ≤ 1) (q17 : 0 ≤ ba) (q18 : ba ≤ 1) (q19 : 1 ≤ tk) (q20 : tk ≤ 99) (hk57 : fh 57 = some (.inr (9, [.ref 1, .ref 51, .ref 58, .ref 61, .ref 62, .ref ks, .ref 64, .int (zI ve), .int (zI ss), .int (zI vs)]))) (hk1 : fh 1 = some (.inr (8, [.ref 2, .ref 3, .ref 4, .int (zI lc), .int (zI fo), .ref 11, .ref 12, .int (zI wc), .ref 13, .ref 14, .int (zI cc), .ref 15, .ref 16, .int (zI sc)]))) (hk2 : fh 2 = some (.inl (0, 5, .inl (zA ff)))) (hk64 : fh 64 = some (.inl (0, 2625, .inl (zA vf)))) (hkr : fh r = some (.inl (0, (n).toNat, .inl (zA cf)))) (hk58 : fh 58 = some (.inr (1, [.ref 59, .ref 60, .int (zI ht), .int (zI br), .int (zI hl), .int (zI le), .int (zI ba), .int (zI tk)]))) (hk59 : fh 59 = some (.inl (0, 8, .inl (zA wf)))) (hk60 : fh 60 = some (.inl (1, 64, .inr (.inl (zAL kf))))) : JM l G yX9_judgePair MX9_judgePair { frames := 4, cells := 0, slots := 0, locals := 95 } [.ref 57, .int (zI p), .ref r] (nh, fh) (fun rr h9 => ∃ ht2 : Int, ∃ br2 : Int, ∃ hl2 : Int, ∃ le2 : Int, ∃ ba2 : Int, ∃ tk2 : Int, ∃ wg : Int → Int, ∃ kg : Int → Int, ∃ vg : Int → Int, rr = none ∧ h9 = (nh, hc fh [(58, .inr (1, [.ref 59, .ref 60, .int (zI ht2), .int (zI br2), .int (zI hl2), .int (zI le2), .int (zI ba2), .int (zI tk2)])), (59, .inl (0, 8, .inl (zA wg))), (60, .inl (1, 64, .inr (.inl (zAL kg)))), (64, .inl (0, 2625, .inl (zA vg)))]) ∧ (0 ≤ ht2) ∧ (ht2 ≤ 64) ∧ (0 ≤ br2) ∧ (br2 ≤ 1) ∧ (0 ≤ hl2) ∧ (hl2 ≤ 1) ∧ (0 ≤ le2) ∧ (le2 ≤ 1) ∧ (0 ≤ ba2) ∧ (ba2 ≤ 1) ∧ (1 ≤ tk2) ∧ (tk2 ≤ 99) ∧ (Rg wg 8 (-2147483648) 2147483647) ∧ (Rg vg 2625 0 99)) := by
  refine JM.of (by decide) rfl (fun h => by cases h) (Nat.le_of_ble_eq_true rfl) ⟨4, rfl⟩ ?_
  refine J_hc0 (J_ls (ls2 := [some (.ref 57), some (.int (zI p)), some (.ref r), none, none, none, none]) rfl ?_)
  refine Z_iconst (n := 0) dX9_judgePair_0 ?_
  refine J_istore_n dX9_judgePair_1 rfl (Nat.le_of_ble_eq_true rfl) rfl ?_
  refine J_ls (ls2 := [some (.ref 57), some (.int (zI p)), some (.ref r), some (.int (zI 0)), none, none, none]) rfl ?_
  refine J_touch (k := 58) (e := .inr (1, [.ref 59, .ref 60, .int (zI ht), .int (zI br), .int (zI hl), .int (zI le), .int (zI ba), .int (zI tk)])) hk58 ?_
  refine J_touch (k := 59) (e := .inl (0, 8, .inl (zA wf))) hk59 ?_
  refine J_touch (k := 60) (e := .inl (1, 64, .inr (.inl (zAL kf)))) hk60 ?_
  refine J_touch (k := 64) (e := .inl (0, 2625, .inl (zA vf))) hk64 ?_
  have lp2 : ∀ (N2 : Nat) (a_2 : Int) (ht_2 : Int) (br_2 : Int) (hl_2 : Int) (le_2 : Int) (ba_2 : Int) (tk_2 : Int) (wx_2 : Int → Int) (kx_2 : Int → Int) (vx_2 : Int → Int), (0 ≤ a_2) → (a_2 ≤ 5) → (0 ≤ ht_2) → (ht_2 ≤ 64) → (0 ≤ br_2) → (br_2 ≤ 1) → (0 ≤ hl_2) → (hl_2 ≤ 1) → (0 ≤ le_2) → (le_2 ≤ 1) → (0 ≤ ba_2) → (ba_2 ≤ 1) → (1 ≤ tk_2) → (tk_2 ≤ 99) → (Rg wx_2 8 (-2147483648) 2147483647) → (Rg vx_2 2625 0 99) → (5 - a_2).toNat < N2 → J l G MX9_judgePair { frames := 4, cells := 0, slots := 0, locals := 95 } jE (jMQ G { frames := 4, cells := 0, slots := 0, locals := 95 } (fun rr h9 => ∃ ht2 : Int, ∃ br2 : Int, ∃ hl2 : Int, ∃ le2 : Int, ∃ ba2 : Int, ∃ tk2 : Int, ∃ wg : Int → Int, ∃ kg : Int → Int, ∃ vg : Int → Int, rr = none ∧ h9 = (nh, hc fh [(58, .inr (1, [.ref 59, .ref 60, .int (zI ht2), .int (zI br2), .int (zI hl2), .int (zI le2), .int (zI ba2), .int (zI tk2)])), (59, .inl (0, 8, .inl (zA wg))), (60, .inl (1, 64, .inr (.inl (zAL kg)))), (64, .inl (0, 2625, .inl (zA vg)))]) ∧ (0 ≤ ht2) ∧ (ht2 ≤ 64) ∧ (0 ≤ br2) ∧ (br2 ≤ 1) ∧ (0 ≤ hl2) ∧ (hl2 ≤ 1) ∧ (0 ≤ le2) ∧ (le2 ≤ 1) ∧ (0 ≤ ba2) ∧ (ba2 ≤ 1) ∧ (1 ≤ tk2) ∧ (tk2 ≤ 99) ∧ (Rg wg 8 (-2147483648) 2147483647) ∧ (Rg vg 2625 0 99))) (nh, hc fh [(64, .inl (0, 2625, .inl (zA vx_2))), (60, .inl (1, 64, .inr (.inl (zAL kx_2)))), (59, .inl (0, 8, .inl (zA wx_2))), (58, .inr (1, [.ref 59, .ref 60, .int (zI ht_2), .int (zI br_2), .int (zI hl_2), .int (zI le_2), .int (zI ba_2), .int (zI tk_2)]))]) 0 0 2 [some (.ref 57), some (.int (zI p)), some (.ref r), some (.int (zI a_2)), none, none, none] [] := by
    intro N2
    induction N2 with
    | zero => intro a_2 ht_2 br_2 hl_2 le_2 ba_2 tk_2 wx_2 kx_2 vx_2 i2_0 i2_1 i2_2 i2_3 i2_4 i2_5 i2_6 i2_7 i2_8 i2_9 i2_10 i2_11 i2_12 i2_13 i2_14 i2_15 hm; exact absurd hm (Nat.not_lt_zero _)
    | succ N2 ih2 =>
      intro a_2 ht_2 br_2 hl_2 le_2 ba_2 tk_2 wx_2 kx_2 vx_2 i2_0 i2_1 i2_2 i2_3 i2_4 i2_5 i2_6 i2_7 i2_8 i2_9 i2_10 i2_11 i2_12 i2_13 i2_14 i2_15 hm2
      refine J_iload_n dX9_judgePair_2 rfl rfl ?_
      refine Z_iconst (n := 5) dX9_judgePair_3 ?_
      refine Z_icmp_ge (tgt := 133) dX9_judgePair_4 (by decide) (v_a6208d3904 i2_0 i2_1) v_3961fe0d0d (fun h1 => ?_) (fun h1 => ?_)
      · refine J_touch (k := 64) (e := .inl (0, 2625, .inl (zA vx_2))) rfl ?_
        refine J_touch (k := 60) (e := .inl (1, 64, .inr (.inl (zAL kx_2)))) rfl ?_
        refine J_touch (k := 59) (e := .inl (0, 8, .inl (zA wx_2))) rfl ?_
        refine J_touch (k := 58) (e := .inr (1, [.ref 59, .ref 60, .int (zI ht_2), .int (zI br_2), .int (zI hl_2), .int (zI le_2), .int (zI ba_2), .int (zI tk_2)])) rfl ?_
        refine J_mask (L2 := [(58, .inr (1, [.ref 59, .ref 60, .int (zI ht_2), .int (zI br_2), .int (zI hl_2), .int (zI le_2), .int (zI ba_2), .int (zI tk_2)])), (59, .inl (0, 8, .inl (zA wx_2))), (60, .inl (1, 64, .inr (.inl (zAL kx_2)))), (64, .inl (0, 2625, .inl (zA vx_2)))]) (ks := [58, 59, 60, 64, 64, 60, 59, 58]) [true, true, true, true, false, false, false, false] rfl (by decide +kernel) rfl ?_
        exact J_vret dX9_judgePair_133 rfl (Nat.le_of_ble_eq_true rfl) (Nat.le_of_ble_eq_true rfl) ⟨ht_2, br_2, hl_2, le_2, ba_2, tk_2, wx_2, kx_2, vx_2, rfl, rfl, i2_2, i2_3, i2_4, i2_5, i2_6, i2_7, i2_8, i2_9, i2_10, i2_11, i2_12, i2_13, i2_14, i2_15⟩
      · refine Z_iconst (n := 0) dX9_judgePair_7 ?_
        refine J_istore dX9_judgePair_8 (Nat.le_of_ble_eq_true rfl) rfl ?_
        refine J_ls (ls2 := [some (.ref 57), some (.int (zI p)), some (.ref r), some (.int (zI a_2)), some (.int (zI 0)), none, none]) rfl ?_
        have lp10 : ∀ (N10 : Nat) (b_10 : Int) (ht_10 : Int) (br_10 : Int) (hl_10 : Int) (le_10 : Int) (ba_10 : Int) (tk_10 : Int) (wx_10 : Int → Int) (kx_10 : Int → Int) (vx_10 : Int → Int), (0 ≤ b_10) → (b_10 ≤ 5) → (0 ≤ ht_10) → (ht_10 ≤ 64) → (0 ≤ br_10) → (br_10 ≤ 1) → (0 ≤ hl_10) → (hl_10 ≤ 1) → (0 ≤ le_10) → (le_10 ≤ 1) → (0 ≤ ba_10) → (ba_10 ≤ 1) → (1 ≤ tk_10) → (tk_10 ≤ 99) → (Rg wx_10 8 (-2147483648) 2147483647) → (Rg vx_10 2625 0 99) → (5 - b_10).toNat < N10 → J l G MX9_judgePair { frames := 4, cells := 0, slots := 0, locals := 95 } jE (jMQ G { frames := 4, cells := 0, slots := 0, locals := 95 } (fun rr h9 => ∃ ht2 : Int, ∃ br2 : Int, ∃ hl2 : Int, ∃ le2 : Int, ∃ ba2 : Int, ∃ tk2 : Int, ∃ wg : Int → Int, ∃ kg : Int → Int, ∃ vg : Int → Int, rr = none ∧ h9 = (nh, hc fh [(58, .inr (1, [.ref 59, .ref 60, .int (zI ht2), .int (zI br2), .int (zI hl2), .int (zI le2), .int (zI ba2), .int (zI tk2)])), (59, .inl (0, 8, .inl (zA wg))), (60, .inl (1, 64, .inr (.inl (zAL kg)))), (64, .inl (0, 2625, .inl (zA vg)))]) ∧ (0 ≤ ht2) ∧ (ht2 ≤ 64) ∧ (0 ≤ br2) ∧ (br2 ≤ 1) ∧ (0 ≤ hl2) ∧ (hl2 ≤ 1) ∧ (0 ≤ le2) ∧ (le2 ≤ 1) ∧ (0 ≤ ba2) ∧ (ba2 ≤ 1) ∧ (1 ≤ tk2) ∧ (tk2 ≤ 99) ∧ (Rg wg 8 (-2147483648) 2147483647) ∧ (Rg vg 2625 0 99))) (nh, hc fh [(64, .inl (0, 2625, .inl (zA vx_10))), (60, .inl (1, 64, .inr (.inl (zAL kx_10)))), (59, .inl (0, 8, .inl (zA wx_10))), (58, .inr (1, [.ref 59, .ref 60, .int (zI ht_10), .int (zI br_10), .int (zI hl_10), .int (zI le_10), .int (zI ba_10), .int (zI tk_10)]))]) 0 0 10 [some (.ref 57), some (.int (zI p)), some (.ref r), some (.int (zI a_2)), some (.int (zI b_10)), none, none] [] := by
          intro N10
          induction N10 with
          | zero => intro b_10 ht_10 br_10 hl_10 le_10 ba_10 tk_10 wx_10 kx_10 vx_10 i10_0 i10_1 i10_2 i10_3 i10_4 i10_5 i10_6 i10_7 i10_8 i10_9 i10_10 i10_11 i10_12 i10_13 i10_14 i10_15 hm; exact absurd hm (Nat.not_lt_zero _)
          | succ N10 ih10 =>
            intro b_10 ht_10 br_10 hl_10 le_10 ba_10 tk_10 wx_10 kx_10 vx_10 i10_0 i10_1 i10_2 i10_3 i10_4 i10_5 i10_6 i10_7 i10_8 i10_9 i10_10 i10_11 i10_12 i10_13 i10_14 i10_15 hm10
            refine J_iload dX9_judgePair_10 rfl ?_
            refine Z_iconst (n := 5) dX9_judgePair_12 ?_
            refine Z_icmp_ge (tgt := 127) dX9_judgePair_13 (by decide) (v_a6208d3904 i10_0 i10_1) v_3961fe0d0d (fun h2 => ?_) (fun h2 => ?_)
            · refine Z_iinc (c := a_2 + 1) (ls2 := [some (.ref 57), some (.int (zI p)), some (.ref r), some (.int (zI (a_2 + 1))), some (.int (zI b_10)), none, none]) dX9_judgePair_127 rfl (Nat.le_of_ble_eq_true rfl) rfl rfl rfl ?_
              refine J_goto (tgt := 2) dX9_judgePair_130 (by decide) ?_
              refine J_drop (ls2 := [some (.ref 57), some (.int (zI p)), some (.ref r), some (.int (zI (a_2 + 1))), none, none, none]) [true, true, true, true, false, false, false] rfl ?_
              exact ih2 (a_2 + 1) ht_10 br_10 hl_10 le_10 ba_10 tk_10 wx_10 kx_10 vx_10 (v_da458fa48a i2_0) (v_3868a63a10 h1) i10_2 i10_3 i10_4 i10_5 i10_6 i10_7 i10_8 i10_9 i10_10 i10_11 i10_12 i10_13 i10_14 i10_15 (meas_lt v_20f1226439 (v_b58bb7b78b h1) hm2)
            · refine Z_iconst (n := 0) dX9_judgePair_16 ?_
              refine J_istore dX9_judgePair_17 (Nat.le_of_ble_eq_true rfl) rfl ?_
              refine J_ls (ls2 := [some (.ref 57), some (.int (zI p)), some (.ref r), some (.int (zI a_2)), some (.int (zI b_10)), some (.int (zI 0)), none]) rfl ?_
              have lp19 : ∀ (N19 : Nat) (c_19 : Int) (ht_19 : Int) (br_19 : Int) (hl_19 : Int) (le_19 : Int) (ba_19 : Int) (tk_19 : Int) (wx_19 : Int → Int) (kx_19 : Int → Int) (vx_19 : Int → Int), (0 ≤ c_19) → (c_19 ≤ 5) → (0 ≤ ht_19) → (ht_19 ≤ 64) → (0 ≤ br_19) → (br_19 ≤ 1) → (0 ≤ hl_19) → (hl_19 ≤ 1) → (0 ≤ le_19) → (le_19 ≤ 1) → (0 ≤ ba_19) → (ba_19 ≤ 1) → (1 ≤ tk_19) → (tk_19 ≤ 99) → (Rg wx_19 8 (-2147483648) 2147483647) → (Rg vx_19 2625 0 99) → (5 - c_19).toNat < N19 → J l G MX9_judgePair { frames := 4, cells := 0, slots := 0, locals := 95 } jE (jMQ G { frames := 4, cells := 0, slots := 0, locals := 95 } (fun rr h9 => ∃ ht2 : Int, ∃ br2 : Int, ∃ hl2 : Int, ∃ le2 : Int, ∃ ba2 : Int, ∃ tk2 : Int, ∃ wg : Int → Int, ∃ kg : Int → Int, ∃ vg : Int → Int, rr = none ∧ h9 = (nh, hc fh [(58, .inr (1, [.ref 59, .ref 60, .int (zI ht2), .int (zI br2), .int (zI hl2), .int (zI le2), .int (zI ba2), .int (zI tk2)])), (59, .inl (0, 8, .inl (zA wg))), (60, .inl (1, 64, .inr (.inl (zAL kg)))), (64, .inl (0, 2625, .inl (zA vg)))]) ∧ (0 ≤ ht2) ∧ (ht2 ≤ 64) ∧ (0 ≤ br2) ∧ (br2 ≤ 1) ∧ (0 ≤ hl2) ∧ (hl2 ≤ 1) ∧ (0 ≤ le2) ∧ (le2 ≤ 1) ∧ (0 ≤ ba2) ∧ (ba2 ≤ 1) ∧ (1 ≤ tk2) ∧ (tk2 ≤ 99) ∧ (Rg wg 8 (-2147483648) 2147483647) ∧ (Rg vg 2625 0 99))) (nh, hc fh [(64, .inl (0, 2625, .inl (zA vx_19))), (60, .inl (1, 64, .inr (.inl (zAL kx_19)))), (59, .inl (0, 8, .inl (zA wx_19))), (58, .inr (1, [.ref 59, .ref 60, .int (zI ht_19), .int (zI br_19), .int (zI hl_19), .int (zI le_19), .int (zI ba_19), .int (zI tk_19)]))]) 0 0 19 [some (.ref 57), some (.int (zI p)), some (.ref r), some (.int (zI a_2)), some (.int (zI b_10)), some (.int (zI c_19)), none] [] := by
                intro N19
                induction N19 with
                | zero => intro c_19 ht_19 br_19 hl_19 le_19 ba_19 tk_19 wx_19 kx_19 vx_19 i19_0 i19_1 i19_2 i19_3 i19_4 i19_5 i19_6 i19_7 i19_8 i19_9 i19_10 i19_11 i19_12 i19_13 i19_14 i19_15 hm; exact absurd hm (Nat.not_lt_zero _)
                | succ N19 ih19 =>
                  intro c_19 ht_19 br_19 hl_19 le_19 ba_19 tk_19 wx_19 kx_19 vx_19 i19_0 i19_1 i19_2 i19_3 i19_4 i19_5 i19_6 i19_7 i19_8 i19_9 i19_10 i19_11 i19_12 i19_13 i19_14 i19_15 hm19
                  refine J_iload dX9_judgePair_19 rfl ?_
                  refine Z_iconst (n := 5) dX9_judgePair_21 ?_
                  refine Z_icmp_ge (tgt := 121) dX9_judgePair_22 (by decide) (v_a6208d3904 i19_0 i19_1) v_3961fe0d0d (fun h3 => ?_) (fun h3 => ?_)
                  · refine Z_iinc (c := b_10 + 1) (ls2 := [some (.ref 57), some (.int (zI p)), some (.ref r), some (.int (zI a_2)), some (.int (zI (b_10 + 1))), some (.int (zI c_19)), none]) dX9_judgePair_121 rfl (Nat.le_of_ble_eq_true rfl) rfl rfl rfl ?_
                    refine J_goto (tgt := 10) dX9_judgePair_124 (by decide) ?_
                    refine J_drop (ls2 := [some (.ref 57), some (.int (zI p)), some (.ref r), some (.int (zI a_2)), some (.int (zI (b_10 + 1))), none, none]) [true, true, true, true, true, false, false] rfl ?_
                    exact ih10 (b_10 + 1) ht_19 br_19 hl_19 le_19 ba_19 tk_19 wx_19 kx_19 vx_19 (v_da458fa48a i10_0) (v_3868a63a10 h2) i19_2 i19_3 i19_4 i19_5 i19_6 i19_7 i19_8 i19_9 i19_10 i19_11 i19_12 i19_13 i19_14 i19_15 (meas_lt v_20f1226439 (v_b58bb7b78b h2) hm10)
                  · have jn68 : ∀ (t0_68j : Int), (0 ≤ t0_68j) → (t0_68j ≤ 1) → J l G MX9_judgePair { frames := 4, cells := 0, slots := 0, locals := 95 } jE (jMQ G { frames := 4, cells := 0, slots := 0, locals := 95 } (fun rr h9 => ∃ ht2 : Int, ∃ br2 : Int, ∃ hl2 : Int, ∃ le2 : Int, ∃ ba2 : Int, ∃ tk2 : Int, ∃ wg : Int → Int, ∃ kg : Int → Int, ∃ vg : Int → Int, rr = none ∧ h9 = (nh, hc fh [(58, .inr (1, [.ref 59, .ref 60, .int (zI ht2), .int (zI br2), .int (zI hl2), .int (zI le2), .int (zI ba2), .int (zI tk2)])), (59, .inl (0, 8, .inl (zA wg))), (60, .inl (1, 64, .inr (.inl (zAL kg)))), (64, .inl (0, 2625, .inl (zA vg)))]) ∧ (0 ≤ ht2) ∧ (ht2 ≤ 64) ∧ (0 ≤ br2) ∧ (br2 ≤ 1) ∧ (0 ≤ hl2) ∧ (hl2 ≤ 1) ∧ (0 ≤ le2) ∧ (le2 ≤ 1) ∧ (0 ≤ ba2) ∧ (ba2 ≤ 1) ∧ (1 ≤ tk2) ∧ (tk2 ≤ 99) ∧ (Rg wg 8 (-2147483648) 2147483647) ∧ (Rg vg 2625 0 99))) (nh, hc fh [(64, .inl (0, 2625, .inl (zA vx_19))), (60, .inl (1, 64, .inr (.inl (zAL kx_19)))), (59, .inl (0, 8, .inl (zA wx_19))), (58, .inr (1, [.ref 59, .ref 60, .int (zI ht_19), .int (zI br_19), .int (zI hl_19), .int (zI le_19), .int (zI ba_19), .int (zI tk_19)]))]) 0 0 68 [some (.ref 57), some (.int (zI p)), some (.ref r), some (.int (zI a_2)), some (.int (zI b_10)), some (.int (zI c_19)), none] [.int (zI t0_68j)] := by
                      intro t0_68j j68_0 j68_1
                      refine J_istore dX9_judgePair_68 (Nat.le_of_ble_eq_true rfl) rfl ?_
                      refine J_ls (ls2 := [some (.ref 57), some (.int (zI p)), some (.ref r), some (.int (zI a_2)), some (.int (zI b_10)), some (.int (zI c_19)), some (.int (zI t0_68j))]) rfl ?_
                      refine J_iload dX9_judgePair_70 rfl ?_
                      refine Z_if_eq (tgt := 115) dX9_judgePair_72 (by decide) (v_5f10a759cd j68_0 j68_1) (fun h4 => ?_) (fun h4 => ?_)
                      · refine Z_iinc (c := c_19 + 1) (ls2 := [some (.ref 57), some (.int (zI p)), some (.ref r), some (.int (zI a_2)), some (.int (zI b_10)), some (.int (zI (c_19 + 1))), some (.int (zI t0_68j))]) dX9_judgePair_115 rfl (Nat.le_of_ble_eq_true rfl) rfl rfl rfl ?_
                        refine J_goto (tgt := 19) dX9_judgePair_118 (by decide) ?_
                        refine J_drop (ls2 := [some (.ref 57), some (.int (zI p)), some (.ref r), some (.int (zI a_2)), some (.int (zI b_10)), some (.int (zI (c_19 + 1))), none]) [true, true, true, true, true, true, false] rfl ?_
                        exact ih19 (c_19 + 1) ht_19 br_19 hl_19 le_19 ba_19 tk_19 wx_19 kx_19 vx_19 (v_da458fa48a i19_0) (v_3868a63a10 h3) i19_2 i19_3 i19_4 i19_5 i19_6 i19_7 i19_8 i19_9 i19_10 i19_11 i19_12 i19_13 i19_14 i19_15 (meas_lt v_20f1226439 (v_b58bb7b78b h3) hm19)
                      · refine J_iload_n dX9_judgePair_75 rfl rfl ?_
                        refine J_iload dX9_judgePair_76 rfl ?_
                        refine Z_icmp_eq (tgt := 115) dX9_judgePair_78 (by decide) (v_2759b60d8a i2_0 h1) (v_2759b60d8a i10_0 h2) (fun h5 => ?_) (fun h5 => ?_)
                        · refine Z_iinc (c := c_19 + 1) (ls2 := [some (.ref 57), some (.int (zI p)), some (.ref r), some (.int (zI a_2)), some (.int (zI b_10)), some (.int (zI (c_19 + 1))), some (.int (zI t0_68j))]) dX9_judgePair_115 rfl (Nat.le_of_ble_eq_true rfl) rfl rfl rfl ?_
                          refine J_goto (tgt := 19) dX9_judgePair_118 (by decide) ?_
                          refine J_drop (ls2 := [some (.ref 57), some (.int (zI p)), some (.ref r), some (.int (zI a_2)), some (.int (zI b_10)), some (.int (zI (c_19 + 1))), none]) [true, true, true, true, true, true, false] rfl ?_
                          exact ih19 (c_19 + 1) ht_19 br_19 hl_19 le_19 ba_19 tk_19 wx_19 kx_19 vx_19 (v_da458fa48a i19_0) (v_3868a63a10 h3) i19_2 i19_3 i19_4 i19_5 i19_6 i19_7 i19_8 i19_9 i19_10 i19_11 i19_12 i19_13 i19_14 i19_15 (meas_lt v_20f1226439 (v_b58bb7b78b h3) hm19)
                        · refine J_aload_n dX9_judgePair_81 rfl rfl ?_
                          refine J_get (v := .ref 58) dX9_judgePair_82 fl_X9_12 hk57 rfl ?_
                          refine J_iload_n dX9_judgePair_85 rfl rfl ?_
                          refine J_iload dX9_judgePair_86 rfl ?_
                          refine J_iload dX9_judgePair_88 rfl ?_
                          refine J_callV (st := []) dX9_judgePair_90 cv_X9_109 (j_setColours a_2 b_10 c_19 wx_19 ht_19 br_19 hl_19 le_19 ba_19 tk_19 i2_0 (v_4a8c742220 h1) i10_0 (v_4a8c742220 h2) i19_0 (v_4a8c742220 h3) i19_14 rfl rfl) rfl rfl rfl (Nat.le_of_ble_eq_true rfl) ⟨(Nat.le_of_ble_eq_true rfl), (Nat.le_of_ble_eq_true rfl)⟩ ⟨(Nat.le_of_ble_eq_true rfl), (Nat.le_of_ble_eq_true rfl)⟩ (fun r h9 hp => ?_)
                          obtain ⟨f6, rfl, rfl, h7⟩ := hp
                          refine J_nf (nh2 := nh) (ck2 := 0) (sk2 := 0) (st2 := []) rfl rfl rfl rfl ?_
                          refine J_app (L3 := [(59, .inl (0, 8, .inl (zA f6))), (64, .inl (0, 2625, .inl (zA vx_19))), (60, .inl (1, 64, .inr (.inl (zAL kx_19)))), (59, .inl (0, 8, .inl (zA wx_19))), (58, .inr (1, [.ref 59, .ref 60, .int (zI ht_19), .int (zI br_19), .int (zI hl_19), .int (zI le_19), .int (zI ba_19), .int (zI tk_19)]))]) rfl ?_
                          refine J_mask (L2 := [(59, .inl (0, 8, .inl (zA f6))), (64, .inl (0, 2625, .inl (zA vx_19))), (60, .inl (1, 64, .inr (.inl (zAL kx_19)))), (58, .inr (1, [.ref 59, .ref 60, .int (zI ht_19), .int (zI br_19), .int (zI hl_19), .int (zI le_19), .int (zI ba_19), .int (zI tk_19)]))]) (ks := [59, 64, 60, 59, 58]) [true, true, true, false, true] rfl (by decide +kernel) rfl ?_
                          refine J_aload_n dX9_judgePair_93 rfl rfl ?_
                          refine J_get (v := .ref 64) dX9_judgePair_94 fl_X9_28 hk57 rfl ?_
                          refine J_iload_n dX9_judgePair_97 rfl rfl ?_
                          refine J_iload_n dX9_judgePair_98 rfl rfl ?_
                          refine J_iload dX9_judgePair_99 rfl ?_
                          refine J_iload dX9_judgePair_101 rfl ?_
                          refine J_callS (st := [.ref 64]) dX9_judgePair_103 cs_X9_113 (t_verdictPlace p a_2 b_10 c_19) rfl rfl (Nat.le_of_ble_eq_true rfl) ⟨(Nat.le_of_ble_eq_true rfl), (Nat.le_of_ble_eq_true rfl)⟩ ⟨(Nat.le_of_ble_eq_true rfl), (Nat.le_of_ble_eq_true rfl)⟩ (fun r h9 hp => ?_)
                          obtain ⟨z8, rfl, rfl, h9⟩ := hp
                          refine J_nf (nh2 := nh) (ck2 := 0) (sk2 := 0) (st2 := [.int (zI z8), .ref 64]) rfl rfl rfl rfl ?_
                          refine J_aload_n dX9_judgePair_106 rfl rfl ?_
                          refine J_get (v := .ref 58) dX9_judgePair_107 fl_X9_12 hk57 rfl ?_
                          refine J_aload_n dX9_judgePair_110 rfl rfl ?_
                          refine J_callV (st := [.int (zI z8), .ref 64]) dX9_judgePair_111 cv_X9_117 (j_verdict r n cf ht_19 br_19 hl_19 le_19 ba_19 tk_19 kx_19 f6 q2 (v_0979ba7300 q3) q5 h7 i19_2 i19_3 i19_4 i19_5 i19_6 i19_7 i19_8 i19_9 i19_10 i19_11 i19_12 i19_13 rfl rfl rfl (hcn (q4 59 (by decide)) (hcn (q4 64 (by decide)) (hcn (q4 60 (by decide)) (hcn (q4 58 (by decide)) hkr)))) q4) rfl rfl rfl (Nat.le_of_ble_eq_true rfl) ⟨(Nat.le_of_ble_eq_true rfl), (Nat.le_of_ble_eq_true rfl)⟩ ⟨(Nat.le_of_ble_eq_true rfl), (Nat.le_of_ble_eq_true rfl)⟩ (fun r h9 hp => ?_)
                          obtain ⟨z10, f11, z12, z13, z14, z15, z16, z17, rfl, rfl, h18, h19, h20, h21, h22, h23, h24, h25, h26, h27, h28, h29, h30, h31⟩ := hp
                          refine J_nf (nh2 := nh) (ck2 := 0) (sk2 := 0) (st2 := [.int (zI z10), .int (zI z8), .ref 64]) rfl rfl rfl rfl ?_
                          refine J_app (L3 := [(58, .inr (1, [.ref 59, .ref 60, .int (zI z12), .int (zI z13), .int (zI z14), .int (zI z15), .int (zI z16), .int (zI z17)])), (60, .inl (1, 64, .inr (.inl (zAL f11)))), (59, .inl (0, 8, .inl (zA f6))), (64, .inl (0, 2625, .inl (zA vx_19))), (60, .inl (1, 64, .inr (.inl (zAL kx_19)))), (58, .inr (1, [.ref 59, .ref 60, .int (zI ht_19), .int (zI br_19), .int (zI hl_19), .int (zI le_19), .int (zI ba_19), .int (zI tk_19)]))]) rfl ?_
                          refine J_mask (L2 := [(58, .inr (1, [.ref 59, .ref 60, .int (zI z12), .int (zI z13), .int (zI z14), .int (zI z15), .int (zI z16), .int (zI z17)])), (60, .inl (1, 64, .inr (.inl (zAL f11)))), (59, .inl (0, 8, .inl (zA f6))), (64, .inl (0, 2625, .inl (zA vx_19)))]) (ks := [58, 60, 59, 64, 60, 58]) [true, true, true, true, false, false] rfl (by decide +kernel) rfl ?_
                          refine Y_iast (v := z10) 2625 dX9_judgePair_114 rfl rfl (by decide) (v_312164806e q0 i2_0 i10_0 i19_0 h9) (v_4a65f02469 q1 h1 h2 h3 h9) (fun f32 ef32 => ?_)
                          have h33 : Rg f32 2625 0 99 := Rg.ups i19_15 ef32 (v_2b02420001 h18) (v_ec44273dfa h19)
                          refine Z_iinc (c := c_19 + 1) (ls2 := [some (.ref 57), some (.int (zI p)), some (.ref r), some (.int (zI a_2)), some (.int (zI b_10)), some (.int (zI (c_19 + 1))), some (.int (zI t0_68j))]) dX9_judgePair_115 rfl (Nat.le_of_ble_eq_true rfl) rfl rfl rfl ?_
                          refine J_goto (tgt := 19) dX9_judgePair_118 (by decide) ?_
                          refine J_mask (L2 := [(64, .inl (0, 2625, .inl (zA f32))), (58, .inr (1, [.ref 59, .ref 60, .int (zI z12), .int (zI z13), .int (zI z14), .int (zI z15), .int (zI z16), .int (zI z17)])), (60, .inl (1, 64, .inr (.inl (zAL f11)))), (59, .inl (0, 8, .inl (zA f6)))]) (ks := [64, 58, 60, 59, 64]) [true, true, true, true, false] rfl (by decide +kernel) rfl ?_
                          refine J_touch (k := 58) (e := .inr (1, [.ref 59, .ref 60, .int (zI z12), .int (zI z13), .int (zI z14), .int (zI z15), .int (zI z16), .int (zI z17)])) rfl ?_
                          refine J_touch (k := 59) (e := .inl (0, 8, .inl (zA f6))) rfl ?_
                          refine J_touch (k := 60) (e := .inl (1, 64, .inr (.inl (zAL f11)))) rfl ?_
                          refine J_touch (k := 64) (e := .inl (0, 2625, .inl (zA f32))) rfl ?_
                          refine J_mask (L2 := [(64, .inl (0, 2625, .inl (zA f32))), (60, .inl (1, 64, .inr (.inl (zAL f11)))), (59, .inl (0, 8, .inl (zA f6))), (58, .inr (1, [.ref 59, .ref 60, .int (zI z12), .int (zI z13), .int (zI z14), .int (zI z15), .int (zI z16), .int (zI z17)]))]) (ks := [64, 60, 59, 58, 64, 58, 60, 59]) [true, true, true, true, false, false, false, false] rfl (by decide +kernel) rfl ?_
                          refine J_drop (ls2 := [some (.ref 57), some (.int (zI p)), some (.ref r), some (.int (zI a_2)), some (.int (zI b_10)), some (.int (zI (c_19 + 1))), none]) [true, true, true, true, true, true, false] rfl ?_
                          exact ih19 (c_19 + 1) z12 z13 z14 z15 z16 z17 f6 f11 f32 (v_da458fa48a i19_0) (v_3868a63a10 h3) h20 h21 h22 h23 h24 h25 h26 h27 h28 h29 h30 h31 h7 h33 (meas_lt v_20f1226439 (v_b58bb7b78b h3) hm19)
                    refine J_aload_n dX9_judgePair_25 rfl rfl ?_
                    refine J_get (v := .ref 1) dX9_judgePair_26 fl_X9_42 hk57 rfl ?_
                    refine J_get (v := .ref 2) dX9_judgePair_29 fl_X9_106 hk1 rfl ?_
                    refine J_iload_n dX9_judgePair_32 rfl rfl ?_
                    obtain ⟨z34, ez34⟩ : ∃ z : Int, ff a_2 = z := ⟨_, rfl⟩
                    have h35 := Rg.at q8 (v_2b02420001 i2_0) (v_a9de8d4631 h1) ez34
                    refine Y_iald (z := z34) 5 dX9_judgePair_33 hk2 rfl (by decide) (v_2b02420001 i2_0) (v_a9de8d4631 h1) ez34 ?_
                    refine Z_if_le (tgt := 67) dX9_judgePair_34 (by decide) (v_f306e1cdb8 h35.1 h35.2) (fun h36 => ?_) (fun h36 => ?_)
                    · refine Z_iconst (n := 0) dX9_judgePair_67 ?_
                      exact jn68 0 v_939070ca3f v_316afd7d0b
                    · refine J_aload_n dX9_judgePair_37 rfl rfl ?_
                      refine J_get (v := .ref 1) dX9_judgePair_38 fl_X9_42 hk57 rfl ?_
                      refine J_get (v := .ref 2) dX9_judgePair_41 fl_X9_106 hk1 rfl ?_
                      refine J_iload dX9_judgePair_44 rfl ?_
                      obtain ⟨z37, ez37⟩ : ∃ z : Int, ff b_10 = z := ⟨_, rfl⟩
                      have h38 := Rg.at q8 (v_2b02420001 i10_0) (v_a9de8d4631 h2) ez37
                      refine Y_iald (z := z37) 5 dX9_judgePair_46 hk2 rfl (by decide) (v_2b02420001 i10_0) (v_a9de8d4631 h2) ez37 ?_
                      refine Z_if_le (tgt := 67) dX9_judgePair_47 (by decide) (v_f306e1cdb8 h38.1 h38.2) (fun h39 => ?_) (fun h39 => ?_)
                      · refine Z_iconst (n := 0) dX9_judgePair_67 ?_
                        exact jn68 0 v_939070ca3f v_316afd7d0b
                      · refine J_aload_n dX9_judgePair_50 rfl rfl ?_
                        refine J_get (v := .ref 1) dX9_judgePair_51 fl_X9_42 hk57 rfl ?_
                        refine J_get (v := .ref 2) dX9_judgePair_54 fl_X9_106 hk1 rfl ?_
                        refine J_iload dX9_judgePair_57 rfl ?_
                        obtain ⟨z40, ez40⟩ : ∃ z : Int, ff c_19 = z := ⟨_, rfl⟩
                        have h41 := Rg.at q8 (v_2b02420001 i19_0) (v_a9de8d4631 h3) ez40
                        refine Y_iald (z := z40) 5 dX9_judgePair_59 hk2 rfl (by decide) (v_2b02420001 i19_0) (v_a9de8d4631 h3) ez40 ?_
                        refine Z_if_le (tgt := 67) dX9_judgePair_60 (by decide) (v_f306e1cdb8 h41.1 h41.2) (fun h42 => ?_) (fun h42 => ?_)
                        · refine Z_iconst (n := 0) dX9_judgePair_67 ?_
                          exact jn68 0 v_939070ca3f v_316afd7d0b
                        · refine Z_iconst (n := 1) dX9_judgePair_63 ?_
                          refine J_goto (tgt := 68) dX9_judgePair_64 (by decide) ?_
                          exact jn68 1 v_316afd7d0b v_bbcfac9b7d
              exact lp19 _ 0 ht_10 br_10 hl_10 le_10 ba_10 tk_10 wx_10 kx_10 vx_10 v_939070ca3f v_17fcbbe8da i10_2 i10_3 i10_4 i10_5 i10_6 i10_7 i10_8 i10_9 i10_10 i10_11 i10_12 i10_13 i10_14 i10_15 (Nat.lt_succ_self _)
        exact lp10 _ 0 ht_2 br_2 hl_2 le_2 ba_2 tk_2 wx_2 kx_2 vx_2 v_939070ca3f v_17fcbbe8da i2_2 i2_3 i2_4 i2_5 i2_6 i2_7 i2_8 i2_9 i2_10 i2_11 i2_12 i2_13 i2_14 i2_15 (Nat.lt_succ_self _)
  exact lp2 _ 0 ht br hl le ba tk wf kf vf v_939070ca3f v_17fcbbe8da q9 q10 q11 q12 q13 q14 q15 q16 q17 q18 q19 q20 q7 q6 (Nat.lt_succ_self _)
set_option maxHeartbeats 4000000 in
set_option maxRecDepth 100000 in
theorem t_judgeAll {l : Launch} {G : jG} {nh : Nat} {fh : Nat → Option va_E} (ks : Nat) (ve : Int) (ss : Int) (vs : Int) (many : Int) (places : Int) (lc : Int) (fo : Int) (wc : Int) (cc : Int) (sc : Int) (ht : Int) (br : Int) (hl : Int) (le : Int) (ba : Int) (tk : Int) (wf : Int → Int) (kf : Int → Int) (ff : Int → Int) (tf : Int → Int) (vf : Int → Int) (lf : Nat → Option Nat) (nf : Int → Int) (q0 : 1 ≤ many) (q1 : many ≤ 1260) (q2 : 0 ≤ places) (q3 : places ≤ 7) (q4 : 0 ≤ lc) (q5 : lc ≤ 6) (q6 : -1 ≤ fo) (q7 : fo < lc) (q8 : 0 ≤ wc) (q9 : wc ≤ 8) (q10 : 0 ≤ cc) (q11 : cc ≤ 6) (q12 : 0 ≤ sc) (q13 : sc ≤ 12) (q14 : Rg vf 2625 0 99) (q15 : Rg wf 8 (-2147483648) 2147483647) (q16 : Rg ff 5 (-2147483648) 2147483647) (q17 : Rg tf 2 (-2147483648) 2147483647) (q18 : LawsIn fh lf) (q19 : 0 ≤ ht) (q20 : ht ≤ 64) (q21 : 0 ≤ br) (q22 : br ≤ 1) (q23 : 0 ≤ hl) (q24 : hl ≤ 1) (q25 : 0 ≤ le) (q26 : le ≤ 1) (q27 : 0 ≤ ba) (q28 : ba ≤ 1) (q29 : 1 ≤ tk) (q30 : tk ≤ 99) (hk57 : fh 57 = some (.inr (9, [.ref 1, .ref 51, .ref 58, .ref 61, .ref 62, .ref ks, .ref 64, .int (zI ve), .int (zI ss), .int (zI vs)]))) (hk51 : fh 51 = some (.inr (0, [.ref 52, .ref 53, .int (zI many), .int (zI places)]))) (hk1 : fh 1 = some (.inr (8, [.ref 2, .ref 3, .ref 4, .int (zI lc), .int (zI fo), .ref 11, .ref 12, .int (zI wc), .ref 13, .ref 14, .int (zI cc), .ref 15, .ref 16, .int (zI sc)]))) (hk2 : fh 2 = some (.inl (0, 5, .inl (zA ff)))) (hk3 : fh 3 = some (.inl (0, 2, .inl (zA tf)))) (hk4 : fh 4 = some (.inl (5, 6, .inr (.inr (.inr (.inr lf)))))) (hk61 : fh 61 = some (.inl (0, 0, .inl (zA nf)))) (hk64 : fh 64 = some (.inl (0, 2625, .inl (zA vf)))) (hk58 : fh 58 = some (.inr (1, [.ref 59, .ref 60, .int (zI ht), .int (zI br), .int (zI hl), .int (zI le), .int (zI ba), .int (zI tk)]))) (hk59 : fh 59 = some (.inl (0, 8, .inl (zA wf)))) (hk60 : fh 60 = some (.inl (1, 64, .inr (.inl (zAL kf))))) : JM l G yX9_judgeAll MX9_judgeAll { frames := 5, cells := 0, slots := 0, locals := 121 } [.ref 57] (nh, fh) (fun rr h9 => ∃ ht2 : Int, ∃ br2 : Int, ∃ hl2 : Int, ∃ le2 : Int, ∃ ba2 : Int, ∃ tk2 : Int, ∃ wg : Int → Int, ∃ kg : Int → Int, ∃ vg : Int → Int, rr = none ∧ h9 = (nh, hc fh [(58, .inr (1, [.ref 59, .ref 60, .int (zI ht2), .int (zI br2), .int (zI hl2), .int (zI le2), .int (zI ba2), .int (zI tk2)])), (59, .inl (0, 8, .inl (zA wg))), (60, .inl (1, 64, .inr (.inl (zAL kg)))), (64, .inl (0, 2625, .inl (zA vg)))]) ∧ (0 ≤ ht2) ∧ (ht2 ≤ 64) ∧ (0 ≤ br2) ∧ (br2 ≤ 1) ∧ (0 ≤ hl2) ∧ (hl2 ≤ 1) ∧ (0 ≤ le2) ∧ (le2 ≤ 1) ∧ (0 ≤ ba2) ∧ (ba2 ≤ 1) ∧ (1 ≤ tk2) ∧ (tk2 ≤ 99) ∧ (Rg wg 8 (-2147483648) 2147483647) ∧ (Rg vg 2625 0 99)) := by
  refine JM.of (by decide) rfl (fun h => by cases h) (Nat.le_of_ble_eq_true rfl) ⟨3, rfl⟩ ?_
  refine J_hc0 (J_ls (ls2 := [some (.ref 57), none, none, none]) rfl ?_)
  refine J_aload_n dX9_judgeAll_0 rfl rfl ?_
  refine J_get (v := .ref 58) dX9_judgeAll_1 fl_X9_12 hk57 rfl ?_
  refine J_aload_n dX9_judgeAll_4 rfl rfl ?_
  refine J_get (v := .ref 51) dX9_judgeAll_5 fl_X9_46 hk57 rfl ?_
  refine J_callV (st := [.ref 58]) dX9_judgeAll_8 cv_X9_76 (g_places many places hk51) hk51 rfl rfl (Nat.le_of_ble_eq_true rfl) ⟨(Nat.le_of_ble_eq_true rfl), (Nat.le_of_ble_eq_true rfl)⟩ ⟨(Nat.le_of_ble_eq_true rfl), (Nat.le_of_ble_eq_true rfl)⟩ (fun r h9 hp => ?_)
  obtain ⟨rfl, rfl⟩ := hp
  refine J_nf (nh2 := nh) (ck2 := 0) (sk2 := 0) (st2 := [.int (zI places), .ref 58]) rfl rfl rfl rfl ?_
  refine J_aload_n dX9_judgeAll_11 rfl rfl ?_
  refine J_get (v := .ref 1) dX9_judgeAll_12 fl_X9_42 hk57 rfl ?_
  refine J_get (v := .ref 3) dX9_judgeAll_15 fl_X9_79 hk1 rfl ?_
  refine Z_iconst (n := 1) dX9_judgeAll_18 ?_
  obtain ⟨z1, ez1⟩ : ∃ z : Int, tf 1 = z := ⟨_, rfl⟩
  have h2 := Rg.at q17 v_316afd7d0b v_c255c5148d ez1
  refine Y_iald (z := z1) 2 dX9_judgeAll_19 hk3 rfl (by decide) v_316afd7d0b v_c255c5148d ez1 ?_
  refine J_callV (st := []) dX9_judgeAll_20 cv_X9_84 (j_setTimes places z1 wf ht br hl le ba tk (v_2ee1de483d q2 q3) (v_f306e1cdb8 h2.1 h2.2) q15 hk58 hk59) hk58 rfl rfl (Nat.le_of_ble_eq_true rfl) ⟨(Nat.le_of_ble_eq_true rfl), (Nat.le_of_ble_eq_true rfl)⟩ ⟨(Nat.le_of_ble_eq_true rfl), (Nat.le_of_ble_eq_true rfl)⟩ (fun r h9 hp => ?_)
  obtain ⟨f3, rfl, rfl, h4⟩ := hp
  refine J_nf (nh2 := nh) (ck2 := 0) (sk2 := 0) (st2 := []) rfl rfl rfl rfl ?_
  refine J_app (L3 := [(59, .inl (0, 8, .inl (zA f3)))]) rfl ?_
  refine Z_iconst (n := 0) dX9_judgeAll_23 ?_
  refine J_istore_n dX9_judgeAll_24 rfl (Nat.le_of_ble_eq_true rfl) rfl ?_
  refine J_ls (ls2 := [some (.ref 57), some (.int (zI 0)), none, none]) rfl ?_
  refine Z_iconst (n := 0) dX9_judgeAll_25 ?_
  refine J_istore_n dX9_judgeAll_26 rfl (Nat.le_of_ble_eq_true rfl) rfl ?_
  refine J_ls (ls2 := [some (.ref 57), some (.int (zI 0)), some (.int (zI 0)), none]) rfl ?_
  refine J_touch (k := 58) (e := .inr (1, [.ref 59, .ref 60, .int (zI ht), .int (zI br), .int (zI hl), .int (zI le), .int (zI ba), .int (zI tk)])) hk58 ?_
  refine J_touch (k := 60) (e := .inl (1, 64, .inr (.inl (zAL kf)))) hk60 ?_
  refine J_touch (k := 64) (e := .inl (0, 2625, .inl (zA vf))) hk64 ?_
  have lp27 : ∀ (N27 : Nat) (pair_27 : Int) (left_27 : Int) (ht_27 : Int) (br_27 : Int) (hl_27 : Int) (le_27 : Int) (ba_27 : Int) (tk_27 : Int) (wx_27 : Int → Int) (kx_27 : Int → Int) (vx_27 : Int → Int), (0 ≤ left_27) → (left_27 ≤ places) → (pair_27 = prs places left_27) → (0 ≤ ht_27) → (ht_27 ≤ 64) → (0 ≤ br_27) → (br_27 ≤ 1) → (0 ≤ hl_27) → (hl_27 ≤ 1) → (0 ≤ le_27) → (le_27 ≤ 1) → (0 ≤ ba_27) → (ba_27 ≤ 1) → (1 ≤ tk_27) → (tk_27 ≤ 99) → (Rg wx_27 8 (-2147483648) 2147483647) → (Rg vx_27 2625 0 99) → (places - left_27).toNat < N27 → J l G MX9_judgeAll { frames := 5, cells := 0, slots := 0, locals := 121 } jE (jMQ G { frames := 5, cells := 0, slots := 0, locals := 121 } (fun rr h9 => ∃ ht2 : Int, ∃ br2 : Int, ∃ hl2 : Int, ∃ le2 : Int, ∃ ba2 : Int, ∃ tk2 : Int, ∃ wg : Int → Int, ∃ kg : Int → Int, ∃ vg : Int → Int, rr = none ∧ h9 = (nh, hc fh [(58, .inr (1, [.ref 59, .ref 60, .int (zI ht2), .int (zI br2), .int (zI hl2), .int (zI le2), .int (zI ba2), .int (zI tk2)])), (59, .inl (0, 8, .inl (zA wg))), (60, .inl (1, 64, .inr (.inl (zAL kg)))), (64, .inl (0, 2625, .inl (zA vg)))]) ∧ (0 ≤ ht2) ∧ (ht2 ≤ 64) ∧ (0 ≤ br2) ∧ (br2 ≤ 1) ∧ (0 ≤ hl2) ∧ (hl2 ≤ 1) ∧ (0 ≤ le2) ∧ (le2 ≤ 1) ∧ (0 ≤ ba2) ∧ (ba2 ≤ 1) ∧ (1 ≤ tk2) ∧ (tk2 ≤ 99) ∧ (Rg wg 8 (-2147483648) 2147483647) ∧ (Rg vg 2625 0 99))) (nh, hc fh [(64, .inl (0, 2625, .inl (zA vx_27))), (60, .inl (1, 64, .inr (.inl (zAL kx_27)))), (58, .inr (1, [.ref 59, .ref 60, .int (zI ht_27), .int (zI br_27), .int (zI hl_27), .int (zI le_27), .int (zI ba_27), .int (zI tk_27)])), (59, .inl (0, 8, .inl (zA wx_27)))]) 0 0 27 [some (.ref 57), some (.int (zI pair_27)), some (.int (zI left_27)), none] [] := by
    intro N27
    induction N27 with
    | zero => intro pair_27 left_27 ht_27 br_27 hl_27 le_27 ba_27 tk_27 wx_27 kx_27 vx_27 i27_0 i27_1 i27_2 i27_3 i27_4 i27_5 i27_6 i27_7 i27_8 i27_9 i27_10 i27_11 i27_12 i27_13 i27_14 i27_15 i27_16 hm; exact absurd hm (Nat.not_lt_zero _)
    | succ N27 ih27 =>
      intro pair_27 left_27 ht_27 br_27 hl_27 le_27 ba_27 tk_27 wx_27 kx_27 vx_27 i27_0 i27_1 i27_2 i27_3 i27_4 i27_5 i27_6 i27_7 i27_8 i27_9 i27_10 i27_11 i27_12 i27_13 i27_14 i27_15 i27_16 hm27
      refine J_iload_n dX9_judgeAll_27 rfl rfl ?_
      refine J_aload_n dX9_judgeAll_28 rfl rfl ?_
      refine J_get (v := .ref 51) dX9_judgeAll_29 fl_X9_46 hk57 rfl ?_
      refine J_callV (st := [.int (zI left_27)]) dX9_judgeAll_32 cv_X9_76 (g_places many places hk51) hk51 rfl rfl (Nat.le_of_ble_eq_true rfl) ⟨(Nat.le_of_ble_eq_true rfl), (Nat.le_of_ble_eq_true rfl)⟩ ⟨(Nat.le_of_ble_eq_true rfl), (Nat.le_of_ble_eq_true rfl)⟩ (fun r h9 hp => ?_)
      obtain ⟨rfl, rfl⟩ := hp
      refine J_nf (nh2 := nh) (ck2 := 0) (sk2 := 0) (st2 := [.int (zI places), .int (zI left_27)]) rfl rfl rfl rfl ?_
      refine Z_icmp_ge (tgt := 114) dX9_judgeAll_35 (by decide) (v_ee3170dbf0 q3 i27_0 i27_1) (v_2ee1de483d q2 q3) (fun h5 => ?_) (fun h5 => ?_)
      · refine J_touch (k := 64) (e := .inl (0, 2625, .inl (zA vx_27))) rfl ?_
        refine J_touch (k := 60) (e := .inl (1, 64, .inr (.inl (zAL kx_27)))) rfl ?_
        refine J_touch (k := 59) (e := .inl (0, 8, .inl (zA wx_27))) rfl ?_
        refine J_touch (k := 58) (e := .inr (1, [.ref 59, .ref 60, .int (zI ht_27), .int (zI br_27), .int (zI hl_27), .int (zI le_27), .int (zI ba_27), .int (zI tk_27)])) rfl ?_
        refine J_mask (L2 := [(58, .inr (1, [.ref 59, .ref 60, .int (zI ht_27), .int (zI br_27), .int (zI hl_27), .int (zI le_27), .int (zI ba_27), .int (zI tk_27)])), (59, .inl (0, 8, .inl (zA wx_27))), (60, .inl (1, 64, .inr (.inl (zAL kx_27)))), (64, .inl (0, 2625, .inl (zA vx_27)))]) (ks := [58, 59, 60, 64, 64, 60, 58, 59]) [true, true, true, true, false, false, false, false] rfl (by decide +kernel) rfl ?_
        exact J_vret dX9_judgeAll_114 rfl (Nat.le_of_ble_eq_true rfl) (Nat.le_of_ble_eq_true rfl) ⟨ht_27, br_27, hl_27, le_27, ba_27, tk_27, wx_27, kx_27, vx_27, rfl, rfl, i27_3, i27_4, i27_5, i27_6, i27_7, i27_8, i27_9, i27_10, i27_11, i27_12, i27_13, i27_14, i27_15, i27_16⟩
      · refine J_iload_n dX9_judgeAll_38 rfl rfl ?_
        refine Z_iconst (n := 1) dX9_judgeAll_39 ?_
        refine Z_iadd (c := left_27 + 1) dX9_judgeAll_40 rfl ?_
        refine J_istore_n dX9_judgeAll_41 rfl (Nat.le_of_ble_eq_true rfl) rfl ?_
        refine J_ls (ls2 := [some (.ref 57), some (.int (zI pair_27)), some (.int (zI left_27)), some (.int (zI (left_27 + 1)))]) rfl ?_
        have lp42 : ∀ (N42 : Nat) (pair_42 : Int) (right_42 : Int) (ht_42 : Int) (br_42 : Int) (hl_42 : Int) (le_42 : Int) (ba_42 : Int) (tk_42 : Int) (wx_42 : Int → Int) (kx_42 : Int → Int) (vx_42 : Int → Int), (left_27 + 1 ≤ right_42) → (right_42 ≤ places) → (pair_42 = prs places left_27 + right_42 - left_27 - 1) → (0 ≤ ht_42) → (ht_42 ≤ 64) → (0 ≤ br_42) → (br_42 ≤ 1) → (0 ≤ hl_42) → (hl_42 ≤ 1) → (0 ≤ le_42) → (le_42 ≤ 1) → (0 ≤ ba_42) → (ba_42 ≤ 1) → (1 ≤ tk_42) → (tk_42 ≤ 99) → (Rg wx_42 8 (-2147483648) 2147483647) → (Rg vx_42 2625 0 99) → (places - right_42).toNat < N42 → J l G MX9_judgeAll { frames := 5, cells := 0, slots := 0, locals := 121 } jE (jMQ G { frames := 5, cells := 0, slots := 0, locals := 121 } (fun rr h9 => ∃ ht2 : Int, ∃ br2 : Int, ∃ hl2 : Int, ∃ le2 : Int, ∃ ba2 : Int, ∃ tk2 : Int, ∃ wg : Int → Int, ∃ kg : Int → Int, ∃ vg : Int → Int, rr = none ∧ h9 = (nh, hc fh [(58, .inr (1, [.ref 59, .ref 60, .int (zI ht2), .int (zI br2), .int (zI hl2), .int (zI le2), .int (zI ba2), .int (zI tk2)])), (59, .inl (0, 8, .inl (zA wg))), (60, .inl (1, 64, .inr (.inl (zAL kg)))), (64, .inl (0, 2625, .inl (zA vg)))]) ∧ (0 ≤ ht2) ∧ (ht2 ≤ 64) ∧ (0 ≤ br2) ∧ (br2 ≤ 1) ∧ (0 ≤ hl2) ∧ (hl2 ≤ 1) ∧ (0 ≤ le2) ∧ (le2 ≤ 1) ∧ (0 ≤ ba2) ∧ (ba2 ≤ 1) ∧ (1 ≤ tk2) ∧ (tk2 ≤ 99) ∧ (Rg wg 8 (-2147483648) 2147483647) ∧ (Rg vg 2625 0 99))) (nh, hc fh [(64, .inl (0, 2625, .inl (zA vx_42))), (60, .inl (1, 64, .inr (.inl (zAL kx_42)))), (58, .inr (1, [.ref 59, .ref 60, .int (zI ht_42), .int (zI br_42), .int (zI hl_42), .int (zI le_42), .int (zI ba_42), .int (zI tk_42)])), (59, .inl (0, 8, .inl (zA wx_42)))]) 0 0 42 [some (.ref 57), some (.int (zI pair_42)), some (.int (zI left_27)), some (.int (zI right_42))] [] := by
          intro N42
          induction N42 with
          | zero => intro pair_42 right_42 ht_42 br_42 hl_42 le_42 ba_42 tk_42 wx_42 kx_42 vx_42 i42_0 i42_1 i42_2 i42_3 i42_4 i42_5 i42_6 i42_7 i42_8 i42_9 i42_10 i42_11 i42_12 i42_13 i42_14 i42_15 i42_16 hm; exact absurd hm (Nat.not_lt_zero _)
          | succ N42 ih42 =>
            intro pair_42 right_42 ht_42 br_42 hl_42 le_42 ba_42 tk_42 wx_42 kx_42 vx_42 i42_0 i42_1 i42_2 i42_3 i42_4 i42_5 i42_6 i42_7 i42_8 i42_9 i42_10 i42_11 i42_12 i42_13 i42_14 i42_15 i42_16 hm42
            refine J_iload_n dX9_judgeAll_42 rfl rfl ?_
            refine J_aload_n dX9_judgeAll_43 rfl rfl ?_
            refine J_get (v := .ref 51) dX9_judgeAll_44 fl_X9_46 hk57 rfl ?_
            refine J_callV (st := [.int (zI right_42)]) dX9_judgeAll_47 cv_X9_76 (g_places many places hk51) hk51 rfl rfl (Nat.le_of_ble_eq_true rfl) ⟨(Nat.le_of_ble_eq_true rfl), (Nat.le_of_ble_eq_true rfl)⟩ ⟨(Nat.le_of_ble_eq_true rfl), (Nat.le_of_ble_eq_true rfl)⟩ (fun r h9 hp => ?_)
            obtain ⟨rfl, rfl⟩ := hp
            refine J_nf (nh2 := nh) (ck2 := 0) (sk2 := 0) (st2 := [.int (zI places), .int (zI right_42)]) rfl rfl rfl rfl ?_
            refine Z_icmp_ge (tgt := 108) dX9_judgeAll_50 (by decide) (v_a1d89844be q3 i27_0 i42_0 i42_1) (v_2ee1de483d q2 q3) (fun h6 => ?_) (fun h6 => ?_)
            · refine Z_iinc (c := left_27 + 1) (ls2 := [some (.ref 57), some (.int (zI pair_42)), some (.int (zI (left_27 + 1))), some (.int (zI right_42))]) dX9_judgeAll_108 rfl (Nat.le_of_ble_eq_true rfl) rfl rfl rfl ?_
              refine J_goto (tgt := 27) dX9_judgeAll_111 (by decide) ?_
              refine J_drop (ls2 := [some (.ref 57), some (.int (zI pair_42)), some (.int (zI (left_27 + 1))), none]) [true, true, true, false] rfl ?_
              exact ih27 pair_42 (left_27 + 1) ht_42 br_42 hl_42 le_42 ba_42 tk_42 wx_42 kx_42 vx_42 (v_da458fa48a i27_0) (v_e390a36114 h5) (by rw [prs_step (v_2b02420001 i27_0) (v_fe9ea41faa h5) (v_dc59a041dc q3)]; exact (v_c22f222aa9 i42_1 i42_2 h6)) i42_3 i42_4 i42_5 i42_6 i42_7 i42_8 i42_9 i42_10 i42_11 i42_12 i42_13 i42_14 i42_15 i42_16 (meas_lt v_90eacd6fd4 (v_8b7dd7d486 h5) hm27)
            · have g7 := prs_le (p := places) (l := left_27) (v_2b02420001 i27_0) (v_f96728aa25 i42_0 h6) (v_dc59a041dc q3)
              refine J_aload_n dX9_judgeAll_53 rfl rfl ?_
              refine J_get (v := .ref 58) dX9_judgeAll_54 fl_X9_12 hk57 rfl ?_
              refine J_iload_n dX9_judgeAll_57 rfl rfl ?_
              refine J_iload_n dX9_judgeAll_58 rfl rfl ?_
              refine J_callV (st := []) dX9_judgeAll_59 cv_X9_88 (j_setPlaces left_27 right_42 wx_42 ht_42 br_42 hl_42 le_42 ba_42 tk_42 i27_0 (v_d3fc41f99a q3 i42_0 h6) (v_d253cb2c59 i27_0 i42_0) (v_4e1fda5c2f q3 h6) i42_15 rfl rfl) rfl rfl rfl (Nat.le_of_ble_eq_true rfl) ⟨(Nat.le_of_ble_eq_true rfl), (Nat.le_of_ble_eq_true rfl)⟩ ⟨(Nat.le_of_ble_eq_true rfl), (Nat.le_of_ble_eq_true rfl)⟩ (fun r h9 hp => ?_)
              obtain ⟨f8, rfl, rfl, h9⟩ := hp
              refine J_nf (nh2 := nh) (ck2 := 0) (sk2 := 0) (st2 := []) rfl rfl rfl rfl ?_
              refine J_app (L3 := [(59, .inl (0, 8, .inl (zA f8))), (64, .inl (0, 2625, .inl (zA vx_42))), (60, .inl (1, 64, .inr (.inl (zAL kx_42)))), (58, .inr (1, [.ref 59, .ref 60, .int (zI ht_42), .int (zI br_42), .int (zI hl_42), .int (zI le_42), .int (zI ba_42), .int (zI tk_42)])), (59, .inl (0, 8, .inl (zA wx_42)))]) rfl ?_
              refine J_mask (L2 := [(59, .inl (0, 8, .inl (zA f8))), (64, .inl (0, 2625, .inl (zA vx_42))), (60, .inl (1, 64, .inr (.inl (zAL kx_42)))), (58, .inr (1, [.ref 59, .ref 60, .int (zI ht_42), .int (zI br_42), .int (zI hl_42), .int (zI le_42), .int (zI ba_42), .int (zI tk_42)]))]) (ks := [59, 64, 60, 58, 59]) [true, true, true, true, false] rfl (by decide +kernel) rfl ?_
              refine J_aload_n dX9_judgeAll_62 rfl rfl ?_
              refine J_iload_n dX9_judgeAll_63 rfl rfl ?_
              refine J_aload_n dX9_judgeAll_64 rfl rfl ?_
              refine J_get (v := .ref 1) dX9_judgeAll_65 fl_X9_42 hk57 rfl ?_
              refine J_callV (st := [.int (zI pair_42), .ref 57]) dX9_judgeAll_68 cv_X9_91 (s_lawful lc fo wc cc sc q4 q5 q6 q7 hk1) hk1 rfl rfl (Nat.le_of_ble_eq_true rfl) ⟨(Nat.le_of_ble_eq_true rfl), (Nat.le_of_ble_eq_true rfl)⟩ ⟨(Nat.le_of_ble_eq_true rfl), (Nat.le_of_ble_eq_true rfl)⟩ (fun r h9 hp => ?_)
              rcases hp with ⟨rfl, rfl, h10⟩ | ⟨rfl, rfl, h11⟩
              · refine J_nf (nh2 := nh) (ck2 := 0) (sk2 := 0) (st2 := [.int (zI 1), .int (zI pair_42), .ref 57]) rfl rfl rfl rfl ?_
                refine Z_if_eq (tgt := 92) dX9_judgeAll_71 (by decide) v_4dcc24baa7 (fun h12 => absurd h12 v_3a47bfd896) (fun h12 => ?_)
                refine J_aload_n dX9_judgeAll_74 rfl rfl ?_
                refine J_get (v := .ref 1) dX9_judgeAll_75 fl_X9_42 hk57 rfl ?_
                refine J_get (v := .ref 4) dX9_judgeAll_78 fl_X9_95 hk1 rfl ?_
                refine J_aload_n dX9_judgeAll_81 rfl rfl ?_
                refine J_get (v := .ref 1) dX9_judgeAll_82 fl_X9_42 hk57 rfl ?_
                refine J_get (v := .int (zI fo)) dX9_judgeAll_85 fl_X9_99 hk1 rfl ?_
                obtain ⟨k13, k13a, k13b, k13n, k13f, k13c, k13d, k13e, k13g⟩ := q18 fo.toNat (by omega)
                refine Y_aald 6 dX9_judgeAll_88 hk4 rfl (by decide) (v_2b02420001 h10) (v_0e7a20f8bd q5 q7) k13a ?_
                refine J_goto (tgt := 96) dX9_judgeAll_89 (by decide) ?_
                refine J_callV (st := []) dX9_judgeAll_96 cv_X9_102 (t_judgePair pair_42 k13 k13n k13f ks ve ss vs lc fo wc cc sc ht_42 br_42 hl_42 le_42 ba_42 tk_42 f8 kx_42 ff vx_42 (v_33a97cc6cd i42_0 i42_2 g7.1) (v_004452eb75 i42_2 h6 g7.2) k13d k13e k13b k13g i42_16 h9 q16 i42_3 i42_4 i42_5 i42_6 i42_7 i42_8 i42_9 i42_10 i42_11 i42_12 i42_13 i42_14 hk57 hk1 hk2 rfl (hcn (k13b 59 (by decide)) (hcn (k13b 64 (by decide)) (hcn (k13b 60 (by decide)) (hcn (k13b 58 (by decide)) k13c)))) rfl rfl rfl) hk57 rfl rfl (Nat.le_of_ble_eq_true rfl) ⟨(Nat.le_of_ble_eq_true rfl), (Nat.le_of_ble_eq_true rfl)⟩ ⟨(Nat.le_of_ble_eq_true rfl), (Nat.le_of_ble_eq_true rfl)⟩ (fun r h9 hp => ?_)
                obtain ⟨z15, z16, z17, z18, z19, z20, f21, f22, f23, rfl, rfl, h24, h25, h26, h27, h28, h29, h30, h31, h32, h33, h34, h35, h36, h37⟩ := hp
                refine J_nf (nh2 := nh) (ck2 := 0) (sk2 := 0) (st2 := []) rfl rfl rfl rfl ?_
                refine J_app (L3 := [(58, .inr (1, [.ref 59, .ref 60, .int (zI z15), .int (zI z16), .int (zI z17), .int (zI z18), .int (zI z19), .int (zI z20)])), (59, .inl (0, 8, .inl (zA f21))), (60, .inl (1, 64, .inr (.inl (zAL f22)))), (64, .inl (0, 2625, .inl (zA f23))), (59, .inl (0, 8, .inl (zA f8))), (64, .inl (0, 2625, .inl (zA vx_42))), (60, .inl (1, 64, .inr (.inl (zAL kx_42)))), (58, .inr (1, [.ref 59, .ref 60, .int (zI ht_42), .int (zI br_42), .int (zI hl_42), .int (zI le_42), .int (zI ba_42), .int (zI tk_42)]))]) rfl ?_
                refine J_mask (L2 := [(58, .inr (1, [.ref 59, .ref 60, .int (zI z15), .int (zI z16), .int (zI z17), .int (zI z18), .int (zI z19), .int (zI z20)])), (59, .inl (0, 8, .inl (zA f21))), (60, .inl (1, 64, .inr (.inl (zAL f22)))), (64, .inl (0, 2625, .inl (zA f23)))]) (ks := [58, 59, 60, 64, 59, 64, 60, 58]) [true, true, true, true, false, false, false, false] rfl (by decide +kernel) rfl ?_
                refine Z_iinc (c := pair_42 + 1) (ls2 := [some (.ref 57), some (.int (zI (pair_42 + 1))), some (.int (zI left_27)), some (.int (zI right_42))]) dX9_judgeAll_99 rfl (Nat.le_of_ble_eq_true rfl) rfl rfl rfl ?_
                refine Z_iinc (c := right_42 + 1) (ls2 := [some (.ref 57), some (.int (zI (pair_42 + 1))), some (.int (zI left_27)), some (.int (zI (right_42 + 1)))]) dX9_judgeAll_102 rfl (Nat.le_of_ble_eq_true rfl) rfl rfl rfl ?_
                refine J_goto (tgt := 42) dX9_judgeAll_105 (by decide) ?_
                refine J_touch (k := 59) (e := .inl (0, 8, .inl (zA f21))) rfl ?_
                refine J_touch (k := 58) (e := .inr (1, [.ref 59, .ref 60, .int (zI z15), .int (zI z16), .int (zI z17), .int (zI z18), .int (zI z19), .int (zI z20)])) rfl ?_
                refine J_touch (k := 60) (e := .inl (1, 64, .inr (.inl (zAL f22)))) rfl ?_
                refine J_touch (k := 64) (e := .inl (0, 2625, .inl (zA f23))) rfl ?_
                refine J_mask (L2 := [(64, .inl (0, 2625, .inl (zA f23))), (60, .inl (1, 64, .inr (.inl (zAL f22)))), (58, .inr (1, [.ref 59, .ref 60, .int (zI z15), .int (zI z16), .int (zI z17), .int (zI z18), .int (zI z19), .int (zI z20)])), (59, .inl (0, 8, .inl (zA f21)))]) (ks := [64, 60, 58, 59, 58, 59, 60, 64]) [true, true, true, true, false, false, false, false] rfl (by decide +kernel) rfl ?_
                exact ih42 (pair_42 + 1) (right_42 + 1) z15 z16 z17 z18 z19 z20 f21 f22 f23 (v_b108d4967d i42_0) (v_e390a36114 h6) (v_f1b0b32074 i42_2) h24 h25 h26 h27 h28 h29 h30 h31 h32 h33 h34 h35 h36 h37 (meas_lt v_90eacd6fd4 (v_8b7dd7d486 h6) hm42)
              · refine J_nf (nh2 := nh) (ck2 := 0) (sk2 := 0) (st2 := [.int (zI 0), .int (zI pair_42), .ref 57]) rfl rfl rfl rfl ?_
                refine Z_if_eq (tgt := 92) dX9_judgeAll_71 (by decide) v_b17331891f (fun h38 => ?_) (fun h38 => absurd h38 (fun q => q v_2ca2bbca1f))
                refine J_aload_n dX9_judgeAll_92 rfl rfl ?_
                refine J_get (v := .ref 61) dX9_judgeAll_93 fl_X9_18 hk57 rfl ?_
                refine J_callV (st := []) dX9_judgeAll_96 cv_X9_102 (t_judgePair pair_42 61 0 nf ks ve ss vs lc fo wc cc sc ht_42 br_42 hl_42 le_42 ba_42 tk_42 f8 kx_42 ff vx_42 (v_33a97cc6cd i42_0 i42_2 g7.1) (v_004452eb75 i42_2 h6 g7.2) v_939070ca3f v_53cebe670f (by unfold Fx; decide) (Rg.nil v_939070ca3f) i42_16 h9 q16 i42_3 i42_4 i42_5 i42_6 i42_7 i42_8 i42_9 i42_10 i42_11 i42_12 i42_13 i42_14 hk57 hk1 hk2 rfl hk61 rfl rfl rfl) hk57 rfl rfl (Nat.le_of_ble_eq_true rfl) ⟨(Nat.le_of_ble_eq_true rfl), (Nat.le_of_ble_eq_true rfl)⟩ ⟨(Nat.le_of_ble_eq_true rfl), (Nat.le_of_ble_eq_true rfl)⟩ (fun r h9 hp => ?_)
                obtain ⟨z39, z40, z41, z42, z43, z44, f45, f46, f47, rfl, rfl, h48, h49, h50, h51, h52, h53, h54, h55, h56, h57, h58, h59, h60, h61⟩ := hp
                refine J_nf (nh2 := nh) (ck2 := 0) (sk2 := 0) (st2 := []) rfl rfl rfl rfl ?_
                refine J_app (L3 := [(58, .inr (1, [.ref 59, .ref 60, .int (zI z39), .int (zI z40), .int (zI z41), .int (zI z42), .int (zI z43), .int (zI z44)])), (59, .inl (0, 8, .inl (zA f45))), (60, .inl (1, 64, .inr (.inl (zAL f46)))), (64, .inl (0, 2625, .inl (zA f47))), (59, .inl (0, 8, .inl (zA f8))), (64, .inl (0, 2625, .inl (zA vx_42))), (60, .inl (1, 64, .inr (.inl (zAL kx_42)))), (58, .inr (1, [.ref 59, .ref 60, .int (zI ht_42), .int (zI br_42), .int (zI hl_42), .int (zI le_42), .int (zI ba_42), .int (zI tk_42)]))]) rfl ?_
                refine J_mask (L2 := [(58, .inr (1, [.ref 59, .ref 60, .int (zI z39), .int (zI z40), .int (zI z41), .int (zI z42), .int (zI z43), .int (zI z44)])), (59, .inl (0, 8, .inl (zA f45))), (60, .inl (1, 64, .inr (.inl (zAL f46)))), (64, .inl (0, 2625, .inl (zA f47)))]) (ks := [58, 59, 60, 64, 59, 64, 60, 58]) [true, true, true, true, false, false, false, false] rfl (by decide +kernel) rfl ?_
                refine Z_iinc (c := pair_42 + 1) (ls2 := [some (.ref 57), some (.int (zI (pair_42 + 1))), some (.int (zI left_27)), some (.int (zI right_42))]) dX9_judgeAll_99 rfl (Nat.le_of_ble_eq_true rfl) rfl rfl rfl ?_
                refine Z_iinc (c := right_42 + 1) (ls2 := [some (.ref 57), some (.int (zI (pair_42 + 1))), some (.int (zI left_27)), some (.int (zI (right_42 + 1)))]) dX9_judgeAll_102 rfl (Nat.le_of_ble_eq_true rfl) rfl rfl rfl ?_
                refine J_goto (tgt := 42) dX9_judgeAll_105 (by decide) ?_
                refine J_touch (k := 59) (e := .inl (0, 8, .inl (zA f45))) rfl ?_
                refine J_touch (k := 58) (e := .inr (1, [.ref 59, .ref 60, .int (zI z39), .int (zI z40), .int (zI z41), .int (zI z42), .int (zI z43), .int (zI z44)])) rfl ?_
                refine J_touch (k := 60) (e := .inl (1, 64, .inr (.inl (zAL f46)))) rfl ?_
                refine J_touch (k := 64) (e := .inl (0, 2625, .inl (zA f47))) rfl ?_
                refine J_mask (L2 := [(64, .inl (0, 2625, .inl (zA f47))), (60, .inl (1, 64, .inr (.inl (zAL f46)))), (58, .inr (1, [.ref 59, .ref 60, .int (zI z39), .int (zI z40), .int (zI z41), .int (zI z42), .int (zI z43), .int (zI z44)])), (59, .inl (0, 8, .inl (zA f45)))]) (ks := [64, 60, 58, 59, 58, 59, 60, 64]) [true, true, true, true, false, false, false, false] rfl (by decide +kernel) rfl ?_
                exact ih42 (pair_42 + 1) (right_42 + 1) z39 z40 z41 z42 z43 z44 f45 f46 f47 (v_b108d4967d i42_0) (v_e390a36114 h6) (v_f1b0b32074 i42_2) h48 h49 h50 h51 h52 h53 h54 h55 h56 h57 h58 h59 h60 h61 (meas_lt v_90eacd6fd4 (v_8b7dd7d486 h6) hm42)
        exact lp42 _ pair_27 (left_27 + 1) ht_27 br_27 hl_27 le_27 ba_27 tk_27 wx_27 kx_27 vx_27 v_3bdb46b03b (v_e390a36114 h5) (v_fcab51fa92 i27_2) i27_3 i27_4 i27_5 i27_6 i27_7 i27_8 i27_9 i27_10 i27_11 i27_12 i27_13 i27_14 i27_15 i27_16 (Nat.lt_succ_self _)
  exact lp27 _ 0 0 ht br hl le ba tk f3 kf vf v_939070ca3f q2 ((prs_0 places).symm) q19 q20 q21 q22 q23 q24 q25 q26 q27 q28 q29 q30 h4 q14 (Nat.lt_succ_self _)
set_option maxHeartbeats 4000000 in
set_option maxRecDepth 100000 in
theorem t_prepare {l : Launch} {G : jG} {nh : Nat} {fh : Nat → Option va_E} (S : Int) (ks : Nat) (ve : Int) (ss : Int) (vs : Int) (many : Int) (places : Int) (ff : Int → Int) (lc : Int) (fo : Int) (wc : Int) (cc : Int) (sc : Int) (tf : Int → Int) (df : Int → Int) (sf : Int → Int) (ns : Int) (vf : Int → Int) (ht : Int) (br : Int) (hl : Int) (le : Int) (ba : Int) (tk : Int) (wf : Int → Int) (kf : Int → Int) (lf : Nat → Option Nat) (nf : Int → Int) (q0 : 0 ≤ S) (q1 : NLe 135 nh) (q2 : NLt ks nh) (q3 : Fx ks) (q4 : 0 ≤ ss) (q5 : ss ≤ 1) (q6 : 0 ≤ vs) (q7 : vs ≤ 1) (q8 : zr ve) (q9 : 1 ≤ many) (q10 : many ≤ 1260) (q11 : 0 ≤ places) (q12 : places ≤ 7) (q13 : 0 ≤ lc) (q14 : lc ≤ 6) (q15 : -1 ≤ fo) (q16 : fo < lc) (q17 : 0 ≤ wc) (q18 : wc ≤ 8) (q19 : 0 ≤ cc) (q20 : cc ≤ 6) (q21 : 0 ≤ sc) (q22 : sc ≤ 12) (q23 : Rg vf 2625 0 99) (q24 : 0 ≤ ns) (q25 : ns ≤ 60000) (q26 : Rg wf 8 (-2147483648) 2147483647) (q27 : Rg ff 5 (-2147483648) 2147483647) (q28 : Rg tf 2 (-2147483648) 2147483647) (q29 : Rg df 1260 (-2147483648) 2147483647) (q30 : Rg sf ns (-2147483648) 2147483647) (q31 : LawsIn fh lf) (q32 : ns < 22 * many → 22 * many ≤ S ∧ 2 * ns ≤ S) (q33 : ss = 0 → 22 * many ≤ ns ∧ StOK df sf many) (q34 : 0 ≤ ht) (q35 : ht ≤ 64) (q36 : 0 ≤ br) (q37 : br ≤ 1) (q38 : 0 ≤ hl) (q39 : hl ≤ 1) (q40 : 0 ≤ le) (q41 : le ≤ 1) (q42 : 0 ≤ ba) (q43 : ba ≤ 1) (q44 : 1 ≤ tk) (q45 : tk ≤ 99) (hk57 : fh 57 = some (.inr (9, [.ref 1, .ref 51, .ref 58, .ref 61, .ref 62, .ref ks, .ref 64, .int (zI ve), .int (zI ss), .int (zI vs)]))) (hk51 : fh 51 = some (.inr (0, [.ref 52, .ref 53, .int (zI many), .int (zI places)]))) (hk1 : fh 1 = some (.inr (8, [.ref 2, .ref 3, .ref 4, .int (zI lc), .int (zI fo), .ref 11, .ref 12, .int (zI wc), .ref 13, .ref 14, .int (zI cc), .ref 15, .ref 16, .int (zI sc)]))) (hk2 : fh 2 = some (.inl (0, 5, .inl (zA ff)))) (hk3 : fh 3 = some (.inl (0, 2, .inl (zA tf)))) (hk4 : fh 4 = some (.inl (5, 6, .inr (.inr (.inr (.inr lf)))))) (hk61 : fh 61 = some (.inl (0, 0, .inl (zA nf)))) (hk64 : fh 64 = some (.inl (0, 2625, .inl (zA vf)))) (hk62 : fh 62 = some (.inl (0, 1260, .inl (zA df)))) (hkks : fh ks = some (.inl (0, (ns).toNat, .inl (zA sf)))) (hk58 : fh 58 = some (.inr (1, [.ref 59, .ref 60, .int (zI ht), .int (zI br), .int (zI hl), .int (zI le), .int (zI ba), .int (zI tk)]))) (hk59 : fh 59 = some (.inl (0, 8, .inl (zA wf)))) (hk60 : fh 60 = some (.inl (1, 64, .inr (.inl (zAL kf))))) : JM l G yX9_prepare MX9_prepare { frames := 6, cells := 1, slots := (S).toNat, locals := 144 } [.ref 57] (nh, fh) (fun rr h9 => ∃ ht2 : Int, ∃ br2 : Int, ∃ hl2 : Int, ∃ le2 : Int, ∃ ba2 : Int, ∃ tk2 : Int, ∃ wg : Int → Int, ∃ kg : Int → Int, ∃ vg : Int → Int, ∃ dg : Int → Int, ∃ sg : Int → Int, ∃ ks2 : Nat, ∃ ns2 : Int, ∃ nh2 : Nat, ∃ ss2 : Int, ∃ vs2 : Int, rr = none ∧ h9 = (nh2, hc fh [(57, .inr (9, [.ref 1, .ref 51, .ref 58, .ref 61, .ref 62, .ref ks2, .ref 64, .int (zI ve), .int (zI ss2), .int (zI vs2)])), (58, .inr (1, [.ref 59, .ref 60, .int (zI ht2), .int (zI br2), .int (zI hl2), .int (zI le2), .int (zI ba2), .int (zI tk2)])), (59, .inl (0, 8, .inl (zA wg))), (60, .inl (1, 64, .inr (.inl (zAL kg)))), (64, .inl (0, 2625, .inl (zA vg))), (62, .inl (0, 1260, .inl (zA dg))), (ks2, .inl (0, (ns2).toNat, .inl (zA sg)))]) ∧ (0 ≤ ht2) ∧ (ht2 ≤ 64) ∧ (0 ≤ br2) ∧ (br2 ≤ 1) ∧ (0 ≤ hl2) ∧ (hl2 ≤ 1) ∧ (0 ≤ le2) ∧ (le2 ≤ 1) ∧ (0 ≤ ba2) ∧ (ba2 ≤ 1) ∧ (1 ≤ tk2) ∧ (tk2 ≤ 99) ∧ (Rg wg 8 (-2147483648) 2147483647) ∧ (Rg vg 2625 0 99) ∧ (Rg dg 1260 (-2147483648) 2147483647) ∧ (Fx ks2) ∧ (NLt ks2 nh2) ∧ (NLe nh nh2) ∧ (22 * many ≤ ns2) ∧ (ns2 ≤ 60000) ∧ (StOK dg sg many) ∧ (ns ≤ ns2) ∧ ((ns2 = ns ∧ ks2 = ks ∧ nh2 = nh) ∨ (ns < 22 * many ∧ 2 * ns ≤ ns2 ∧ ns2 ≤ S ∧ ks2 = nh ∧ nh2 = nh + 1)) ∧ (Rg sg ns2 (-2147483648) 2147483647) ∧ (ss2 = 0) ∧ (vs2 = 0)) := by
  refine JM.of (by decide) rfl (fun h => by cases h) (Nat.le_of_ble_eq_true rfl) ⟨1, rfl⟩ ?_
  refine J_hc0 (J_ls (ls2 := [some (.ref 57), none]) rfl ?_)
  refine J_aload_n dX9_prepare_0 rfl rfl ?_
  refine J_get (v := .int (zI vs)) dX9_prepare_1 fl_X9_39 hk57 rfl ?_
  refine Z_if_eq (tgt := 16) dX9_prepare_4 (by decide) (v_5f10a759cd q6 q7) (fun h1 => ?_) (fun h1 => ?_)
  · refine J_aload_n dX9_prepare_16 rfl rfl ?_
    refine J_get (v := .int (zI ss)) dX9_prepare_17 fl_X9_35 hk57 rfl ?_
    refine Z_if_eq (tgt := 61) dX9_prepare_20 (by decide) (v_5f10a759cd q4 q5) (fun h2 => ?_) (fun h2 => ?_)
    · have g3 := q33 (v_bd6c74a791 q4 h2)
      refine J_touch (k := ks) (e := .inl (0, (ns).toNat, .inl (zA sf))) hkks ?_
      refine J_touch (k := 62) (e := .inl (0, 1260, .inl (zA df))) (hcn (Ne.symm (q3 62 (by decide))) hk62) ?_
      refine J_touch (k := 64) (e := .inl (0, 2625, .inl (zA vf))) (hcn (by decide) (hcn (Ne.symm (q3 64 (by decide))) hk64)) ?_
      refine J_touch (k := 60) (e := .inl (1, 64, .inr (.inl (zAL kf)))) (hcn (by decide) (hcn (by decide) (hcn (Ne.symm (q3 60 (by decide))) hk60))) ?_
      refine J_touch (k := 59) (e := .inl (0, 8, .inl (zA wf))) (hcn (by decide) (hcn (by decide) (hcn (by decide) (hcn (Ne.symm (q3 59 (by decide))) hk59)))) ?_
      refine J_touch (k := 58) (e := .inr (1, [.ref 59, .ref 60, .int (zI ht), .int (zI br), .int (zI hl), .int (zI le), .int (zI ba), .int (zI tk)])) (hcn (by decide) (hcn (by decide) (hcn (by decide) (hcn (by decide) (hcn (Ne.symm (q3 58 (by decide))) hk58))))) ?_
      refine J_touch (k := 57) (e := .inr (9, [.ref 1, .ref 51, .ref 58, .ref 61, .ref 62, .ref ks, .ref 64, .int (zI ve), .int (zI ss), .int (zI vs)])) (hcn (by decide) (hcn (by decide) (hcn (by decide) (hcn (by decide) (hcn (by decide) (hcn (Ne.symm (q3 57 (by decide))) hk57)))))) ?_
      exact J_vret dX9_prepare_61 rfl (Nat.le_of_ble_eq_true rfl) (by show (0 : Nat) ≤ (S).toNat; omega) ⟨ht, br, hl, le, ba, tk, wf, kf, vf, df, sf, ks, ns, nh, ss, vs, rfl, rfl, q34, q35, q36, q37, q38, q39, q40, q41, q42, q43, q44, q45, q26, q23, (q29), q3, q2, (NLe.refl _), g3.1, q25, (g3.2), v_0065452639, (Or.inl ⟨rfl, rfl, rfl⟩), q30, h2, h1⟩
    · refine J_aload_n dX9_prepare_23 rfl rfl ?_
      refine J_get (v := .ref 51) dX9_prepare_24 fl_X9_46 hk57 rfl ?_
      refine J_callV (st := []) dX9_prepare_27 cv_X9_56 (g_many many places hk51) hk51 rfl rfl (Nat.le_of_ble_eq_true rfl) ⟨(Nat.le_of_ble_eq_true rfl), (Nat.le_of_ble_eq_true rfl)⟩ ⟨(Nat.le_of_ble_eq_true rfl), (by show (0 : Nat) + 0 ≤ (S).toNat; omega)⟩ (fun r h9 hp => ?_)
      obtain ⟨rfl, rfl⟩ := hp
      refine J_nf (nh2 := nh) (ck2 := 0) (sk2 := 0) (st2 := [.int (zI many)]) rfl rfl rfl rfl ?_
      refine J_istore_n dX9_prepare_30 rfl (Nat.le_of_ble_eq_true rfl) rfl ?_
      refine J_ls (ls2 := [some (.ref 57), some (.int (zI many))]) rfl ?_
      refine J_aload_n dX9_prepare_31 rfl rfl ?_
      refine J_aload_n dX9_prepare_32 rfl rfl ?_
      refine J_get (v := .ref ks) dX9_prepare_33 fl_X9_25 hk57 rfl ?_
      refine J_iload_n dX9_prepare_36 rfl rfl ?_
      refine Z_bipush (n := 22) dX9_prepare_37 (by decide +kernel) ?_
      refine Z_imul (c := 22 * many) dX9_prepare_39 v_40f5fee78f ?_
      refine J_callS (st := [.ref 57]) dX9_prepare_40 cs_X9_62 (b_grown ks ns sf (22 * many) S q24 (v_68ff3cbdd5 q25) (v_6c834f4ebb q9) (v_7bca4b0b3e q10) q0 q32 hkks) rfl rfl (Nat.le_of_ble_eq_true rfl) ⟨(Nat.le_of_ble_eq_true rfl), (Nat.le_of_ble_eq_true rfl)⟩ ⟨(Nat.le_of_ble_eq_true rfl), (by show (0 : Nat) + ((S).toNat) ≤ (S).toNat; omega)⟩ (fun r h9 hp => ?_)
      rcases hp with ⟨rfl, rfl, h4⟩ | ⟨z5, rfl, rfl, h6, h7, h8, h9, h10⟩
      · refine J_nf (nh2 := nh) (ck2 := 1) (sk2 := (S).toNat) (st2 := [.ref ks, .ref 57]) rfl rfl (Nat.zero_add _) rfl ?_
        refine K_put (fs2 := [.ref 1, .ref 51, .ref 58, .ref 61, .ref 62, .ref ks, .ref 64, .int (zI ve), .int (zI ss), .int (zI vs)]) dX9_prepare_43 fw_X9_25 hk57 (Nat.le_of_ble_eq_true rfl) (fun _ => ⟨rfl, rfl⟩) rfl ?_
        refine J_aload_n dX9_prepare_46 rfl rfl ?_
        refine J_get (v := .ref 62) dX9_prepare_47 fl_X9_22 rfl rfl ?_
        refine Z_iconst (n := 0) dX9_prepare_50 ?_
        refine J_iload_n dX9_prepare_51 rfl rfl ?_
        refine Z_iconst (n := -1) dX9_prepare_52 ?_
        refine J_callS (st := []) dX9_prepare_53 cs_X9_66 (a_fillr 62 1260 df 0 many (-1) v_b13e5cccd9 v_67f32b312e v_d64efa60f9 v_939070ca3f (v_632d2dbe78 q9) q10 hk62) rfl rfl (Nat.le_of_ble_eq_true rfl) ⟨(Nat.le_of_ble_eq_true rfl), (Nat.le_of_ble_eq_true rfl)⟩ ⟨(Nat.le_of_ble_eq_true rfl), (by show ((S).toNat : Nat) + 0 ≤ (S).toNat; omega)⟩ (fun r h9 hp => ?_)
        obtain ⟨f11, rfl, rfl, h12⟩ := hp
        refine J_nf (nh2 := nh) (ck2 := 1) (sk2 := (S).toNat) (st2 := []) rfl rfl rfl rfl ?_
        refine J_app (L3 := [(62, .inl (0, 1260, .inl (zA f11))), (57, .inr (9, [.ref 1, .ref 51, .ref 58, .ref 61, .ref 62, .ref ks, .ref 64, .int (zI ve), .int (zI ss), .int (zI vs)]))]) rfl ?_
        refine J_aload_n dX9_prepare_56 rfl rfl ?_
        refine Z_iconst (n := 0) dX9_prepare_57 ?_
        refine K_put (fs2 := [.ref 1, .ref 51, .ref 58, .ref 61, .ref 62, .ref ks, .ref 64, .int (zI ve), .int (zI 0), .int (zI vs)]) dX9_prepare_58 fw_X9_35 rfl (Nat.le_of_ble_eq_true rfl) (jbz v_939070ca3f v_316afd7d0b) rfl ?_
        refine J_mask (L2 := [(57, .inr (9, [.ref 1, .ref 51, .ref 58, .ref 61, .ref 62, .ref ks, .ref 64, .int (zI ve), .int (zI 0), .int (zI vs)])), (62, .inl (0, 1260, .inl (zA f11)))]) (ks := [57, 62, 57]) [true, true, false] rfl (by decide +kernel) rfl ?_
        refine J_touch (k := ks) (e := .inl (0, (ns).toNat, .inl (zA sf))) (hcn (q3 57 (by decide)) (hcn (q3 62 (by decide)) hkks)) ?_
        refine J_touch (k := 62) (e := .inl (0, 1260, .inl (zA f11))) (hcn (Ne.symm (q3 62 (by decide))) (hcn (by decide) hch)) ?_
        refine J_touch (k := 64) (e := .inl (0, 2625, .inl (zA vf))) (hcn (by decide) (hcn (Ne.symm (q3 64 (by decide))) (hcn (by decide) (hcn (by decide) hk64)))) ?_
        refine J_touch (k := 60) (e := .inl (1, 64, .inr (.inl (zAL kf)))) (hcn (by decide) (hcn (by decide) (hcn (Ne.symm (q3 60 (by decide))) (hcn (by decide) (hcn (by decide) hk60))))) ?_
        refine J_touch (k := 59) (e := .inl (0, 8, .inl (zA wf))) (hcn (by decide) (hcn (by decide) (hcn (by decide) (hcn (Ne.symm (q3 59 (by decide))) (hcn (by decide) (hcn (by decide) hk59)))))) ?_
        refine J_touch (k := 58) (e := .inr (1, [.ref 59, .ref 60, .int (zI ht), .int (zI br), .int (zI hl), .int (zI le), .int (zI ba), .int (zI tk)])) (hcn (by decide) (hcn (by decide) (hcn (by decide) (hcn (by decide) (hcn (Ne.symm (q3 58 (by decide))) (hcn (by decide) (hcn (by decide) hk58))))))) ?_
        refine J_touch (k := 57) (e := .inr (9, [.ref 1, .ref 51, .ref 58, .ref 61, .ref 62, .ref ks, .ref 64, .int (zI ve), .int (zI 0), .int (zI vs)])) (hcn (by decide) (hcn (by decide) (hcn (by decide) (hcn (by decide) (hcn (by decide) (hcn (Ne.symm (q3 57 (by decide))) hch)))))) ?_
        refine J_dupc (A := [(57, .inr (9, [.ref 1, .ref 51, .ref 58, .ref 61, .ref 62, .ref ks, .ref 64, .int (zI ve), .int (zI 0), .int (zI vs)])), (58, .inr (1, [.ref 59, .ref 60, .int (zI ht), .int (zI br), .int (zI hl), .int (zI le), .int (zI ba), .int (zI tk)])), (59, .inl (0, 8, .inl (zA wf))), (60, .inl (1, 64, .inr (.inl (zAL kf)))), (64, .inl (0, 2625, .inl (zA vf))), (62, .inl (0, 1260, .inl (zA f11))), (ks, .inl (0, (ns).toNat, .inl (zA sf)))]) (B := [(62, .inl (0, 1260, .inl (zA f11)))]) (L2 := [(57, .inr (9, [.ref 1, .ref 51, .ref 58, .ref 61, .ref 62, .ref ks, .ref 64, .int (zI ve), .int (zI 0), .int (zI vs)])), (58, .inr (1, [.ref 59, .ref 60, .int (zI ht), .int (zI br), .int (zI hl), .int (zI le), .int (zI ba), .int (zI tk)])), (59, .inl (0, 8, .inl (zA wf))), (60, .inl (1, 64, .inr (.inl (zAL kf)))), (64, .inl (0, 2625, .inl (zA vf))), (62, .inl (0, 1260, .inl (zA f11))), (ks, .inl (0, (ns).toNat, .inl (zA sf))), (62, .inl (0, 1260, .inl (zA f11)))]) (k := 57) (c := .inr (9, [.ref 1, .ref 51, .ref 58, .ref 61, .ref 62, .ref ks, .ref 64, .int (zI ve), .int (zI 0), .int (zI vs)])) (e := .inr (9, [.ref 1, .ref 51, .ref 58, .ref 61, .ref 62, .ref ks, .ref 64, .int (zI ve), .int (zI 0), .int (zI vs)])) rfl rfl (List.mem_of_getElem? (i := 0) rfl) ?_
        refine J_dupc (A := [(57, .inr (9, [.ref 1, .ref 51, .ref 58, .ref 61, .ref 62, .ref ks, .ref 64, .int (zI ve), .int (zI 0), .int (zI vs)])), (58, .inr (1, [.ref 59, .ref 60, .int (zI ht), .int (zI br), .int (zI hl), .int (zI le), .int (zI ba), .int (zI tk)])), (59, .inl (0, 8, .inl (zA wf))), (60, .inl (1, 64, .inr (.inl (zAL kf)))), (64, .inl (0, 2625, .inl (zA vf))), (62, .inl (0, 1260, .inl (zA f11))), (ks, .inl (0, (ns).toNat, .inl (zA sf)))]) (B := []) (L2 := [(57, .inr (9, [.ref 1, .ref 51, .ref 58, .ref 61, .ref 62, .ref ks, .ref 64, .int (zI ve), .int (zI 0), .int (zI vs)])), (58, .inr (1, [.ref 59, .ref 60, .int (zI ht), .int (zI br), .int (zI hl), .int (zI le), .int (zI ba), .int (zI tk)])), (59, .inl (0, 8, .inl (zA wf))), (60, .inl (1, 64, .inr (.inl (zAL kf)))), (64, .inl (0, 2625, .inl (zA vf))), (62, .inl (0, 1260, .inl (zA f11))), (ks, .inl (0, (ns).toNat, .inl (zA sf)))]) (k := 62) (c := .inl (0, 1260, .inl (zA f11))) (e := .inl (0, 1260, .inl (zA f11))) rfl rfl (List.mem_of_getElem? (i := 5) rfl) ?_
        exact J_vret dX9_prepare_61 rfl (Nat.le_of_ble_eq_true rfl) (by show ((S).toNat : Nat) ≤ (S).toNat; omega) ⟨ht, br, hl, le, ba, tk, wf, kf, vf, f11, sf, ks, ns, nh, 0, vs, rfl, rfl, q34, q35, q36, q37, q38, q39, q40, q41, q42, q43, q44, q45, q26, q23, (fill_Rg2 q29 h12 (by decide) (by decide)), q3, q2, (NLe.refl _), h4, q25, (StOK.fresh (fill_Rg h12 (Int.le_refl _) (by decide) (by decide))), v_0065452639, (Or.inl ⟨rfl, rfl, rfl⟩), q30, v_2ca2bbca1f, h1⟩
      · refine J_nf (nh2 := nh + 1) (ck2 := 1) (sk2 := (S).toNat) (st2 := [.ref nh, .ref 57]) rfl rfl (Nat.zero_add _) rfl ?_
        refine J_app (L3 := [(nh, .inl (0, (z5).toNat, .inl (zA (fun _ => 0))))]) rfl ?_
        refine K_put (fs2 := [.ref 1, .ref 51, .ref 58, .ref 61, .ref 62, .ref nh, .ref 64, .int (zI ve), .int (zI ss), .int (zI vs)]) dX9_prepare_43 fw_X9_25 (hcn (Ne.symm ((Fx_of q1) 57 (by decide))) hk57) (Nat.le_of_ble_eq_true rfl) (fun _ => ⟨rfl, rfl⟩) rfl ?_
        refine J_aload_n dX9_prepare_46 rfl rfl ?_
        refine J_get (v := .ref 62) dX9_prepare_47 fl_X9_22 rfl rfl ?_
        refine Z_iconst (n := 0) dX9_prepare_50 ?_
        refine J_iload_n dX9_prepare_51 rfl rfl ?_
        refine Z_iconst (n := -1) dX9_prepare_52 ?_
        refine J_callS (st := []) dX9_prepare_53 cs_X9_66 (a_fillr 62 1260 df 0 many (-1) v_b13e5cccd9 v_67f32b312e v_d64efa60f9 v_939070ca3f (v_632d2dbe78 q9) q10 (hcn (by decide) (hcn (Ne.symm ((Fx_of q1) 62 (by decide))) hk62))) rfl rfl (Nat.le_of_ble_eq_true rfl) ⟨(Nat.le_of_ble_eq_true rfl), (Nat.le_of_ble_eq_true rfl)⟩ ⟨(Nat.le_of_ble_eq_true rfl), (by show ((S).toNat : Nat) + 0 ≤ (S).toNat; omega)⟩ (fun r h9 hp => ?_)
        obtain ⟨f13, rfl, rfl, h14⟩ := hp
        refine J_nf (nh2 := nh + 1) (ck2 := 1) (sk2 := (S).toNat) (st2 := []) rfl rfl rfl rfl ?_
        refine J_app (L3 := [(62, .inl (0, 1260, .inl (zA f13))), (57, .inr (9, [.ref 1, .ref 51, .ref 58, .ref 61, .ref 62, .ref nh, .ref 64, .int (zI ve), .int (zI ss), .int (zI vs)])), (nh, .inl (0, (z5).toNat, .inl (zA (fun _ => 0))))]) rfl ?_
        refine J_aload_n dX9_prepare_56 rfl rfl ?_
        refine Z_iconst (n := 0) dX9_prepare_57 ?_
        refine K_put (fs2 := [.ref 1, .ref 51, .ref 58, .ref 61, .ref 62, .ref nh, .ref 64, .int (zI ve), .int (zI 0), .int (zI vs)]) dX9_prepare_58 fw_X9_35 rfl (Nat.le_of_ble_eq_true rfl) (jbz v_939070ca3f v_316afd7d0b) rfl ?_
        refine J_dupc (A := [(57, .inr (9, [.ref 1, .ref 51, .ref 58, .ref 61, .ref 62, .ref nh, .ref 64, .int (zI ve), .int (zI 0), .int (zI vs)])), (62, .inl (0, 1260, .inl (zA f13)))]) (B := [(nh, .inl (0, (z5).toNat, .inl (zA (fun _ => 0))))]) (L2 := [(57, .inr (9, [.ref 1, .ref 51, .ref 58, .ref 61, .ref 62, .ref nh, .ref 64, .int (zI ve), .int (zI 0), .int (zI vs)])), (62, .inl (0, 1260, .inl (zA f13))), (nh, .inl (0, (z5).toNat, .inl (zA (fun _ => 0))))]) (k := 57) (c := .inr (9, [.ref 1, .ref 51, .ref 58, .ref 61, .ref 62, .ref nh, .ref 64, .int (zI ve), .int (zI ss), .int (zI vs)])) (e := .inr (9, [.ref 1, .ref 51, .ref 58, .ref 61, .ref 62, .ref nh, .ref 64, .int (zI ve), .int (zI 0), .int (zI vs)])) rfl rfl (List.mem_of_getElem? (i := 0) rfl) ?_
        refine J_touch (k := nh) (e := .inl (0, (z5).toNat, .inl (zA (fun _ => 0)))) (hcn ((Fx_of q1) 57 (by decide)) (hcn ((Fx_of q1) 62 (by decide)) hch)) ?_
        refine J_touch (k := 62) (e := .inl (0, 1260, .inl (zA f13))) (hcn (Ne.symm ((Fx_of q1) 62 (by decide))) (hcn (by decide) hch)) ?_
        refine J_touch (k := 64) (e := .inl (0, 2625, .inl (zA vf))) (hcn (by decide) (hcn (Ne.symm ((Fx_of q1) 64 (by decide))) (hcn (by decide) (hcn (by decide) (hcn (Ne.symm ((Fx_of q1) 64 (by decide))) hk64))))) ?_
        refine J_touch (k := 60) (e := .inl (1, 64, .inr (.inl (zAL kf)))) (hcn (by decide) (hcn (by decide) (hcn (Ne.symm ((Fx_of q1) 60 (by decide))) (hcn (by decide) (hcn (by decide) (hcn (Ne.symm ((Fx_of q1) 60 (by decide))) hk60)))))) ?_
        refine J_touch (k := 59) (e := .inl (0, 8, .inl (zA wf))) (hcn (by decide) (hcn (by decide) (hcn (by decide) (hcn (Ne.symm ((Fx_of q1) 59 (by decide))) (hcn (by decide) (hcn (by decide) (hcn (Ne.symm ((Fx_of q1) 59 (by decide))) hk59))))))) ?_
        refine J_touch (k := 58) (e := .inr (1, [.ref 59, .ref 60, .int (zI ht), .int (zI br), .int (zI hl), .int (zI le), .int (zI ba), .int (zI tk)])) (hcn (by decide) (hcn (by decide) (hcn (by decide) (hcn (by decide) (hcn (Ne.symm ((Fx_of q1) 58 (by decide))) (hcn (by decide) (hcn (by decide) (hcn (Ne.symm ((Fx_of q1) 58 (by decide))) hk58)))))))) ?_
        refine J_touch (k := 57) (e := .inr (9, [.ref 1, .ref 51, .ref 58, .ref 61, .ref 62, .ref nh, .ref 64, .int (zI ve), .int (zI 0), .int (zI vs)])) (hcn (by decide) (hcn (by decide) (hcn (by decide) (hcn (by decide) (hcn (by decide) (hcn (Ne.symm ((Fx_of q1) 57 (by decide))) hch)))))) ?_
        refine J_dupc (A := [(57, .inr (9, [.ref 1, .ref 51, .ref 58, .ref 61, .ref 62, .ref nh, .ref 64, .int (zI ve), .int (zI 0), .int (zI vs)])), (58, .inr (1, [.ref 59, .ref 60, .int (zI ht), .int (zI br), .int (zI hl), .int (zI le), .int (zI ba), .int (zI tk)])), (59, .inl (0, 8, .inl (zA wf))), (60, .inl (1, 64, .inr (.inl (zAL kf)))), (64, .inl (0, 2625, .inl (zA vf))), (62, .inl (0, 1260, .inl (zA f13))), (nh, .inl (0, (z5).toNat, .inl (zA (fun _ => 0))))]) (B := [(62, .inl (0, 1260, .inl (zA f13))), (nh, .inl (0, (z5).toNat, .inl (zA (fun _ => 0))))]) (L2 := [(57, .inr (9, [.ref 1, .ref 51, .ref 58, .ref 61, .ref 62, .ref nh, .ref 64, .int (zI ve), .int (zI 0), .int (zI vs)])), (58, .inr (1, [.ref 59, .ref 60, .int (zI ht), .int (zI br), .int (zI hl), .int (zI le), .int (zI ba), .int (zI tk)])), (59, .inl (0, 8, .inl (zA wf))), (60, .inl (1, 64, .inr (.inl (zAL kf)))), (64, .inl (0, 2625, .inl (zA vf))), (62, .inl (0, 1260, .inl (zA f13))), (nh, .inl (0, (z5).toNat, .inl (zA (fun _ => 0)))), (62, .inl (0, 1260, .inl (zA f13))), (nh, .inl (0, (z5).toNat, .inl (zA (fun _ => 0))))]) (k := 57) (c := .inr (9, [.ref 1, .ref 51, .ref 58, .ref 61, .ref 62, .ref nh, .ref 64, .int (zI ve), .int (zI 0), .int (zI vs)])) (e := .inr (9, [.ref 1, .ref 51, .ref 58, .ref 61, .ref 62, .ref nh, .ref 64, .int (zI ve), .int (zI 0), .int (zI vs)])) rfl rfl (List.mem_of_getElem? (i := 0) rfl) ?_
        refine J_dupc (A := [(57, .inr (9, [.ref 1, .ref 51, .ref 58, .ref 61, .ref 62, .ref nh, .ref 64, .int (zI ve), .int (zI 0), .int (zI vs)])), (58, .inr (1, [.ref 59, .ref 60, .int (zI ht), .int (zI br), .int (zI hl), .int (zI le), .int (zI ba), .int (zI tk)])), (59, .inl (0, 8, .inl (zA wf))), (60, .inl (1, 64, .inr (.inl (zAL kf)))), (64, .inl (0, 2625, .inl (zA vf))), (62, .inl (0, 1260, .inl (zA f13))), (nh, .inl (0, (z5).toNat, .inl (zA (fun _ => 0))))]) (B := [(nh, .inl (0, (z5).toNat, .inl (zA (fun _ => 0))))]) (L2 := [(57, .inr (9, [.ref 1, .ref 51, .ref 58, .ref 61, .ref 62, .ref nh, .ref 64, .int (zI ve), .int (zI 0), .int (zI vs)])), (58, .inr (1, [.ref 59, .ref 60, .int (zI ht), .int (zI br), .int (zI hl), .int (zI le), .int (zI ba), .int (zI tk)])), (59, .inl (0, 8, .inl (zA wf))), (60, .inl (1, 64, .inr (.inl (zAL kf)))), (64, .inl (0, 2625, .inl (zA vf))), (62, .inl (0, 1260, .inl (zA f13))), (nh, .inl (0, (z5).toNat, .inl (zA (fun _ => 0)))), (nh, .inl (0, (z5).toNat, .inl (zA (fun _ => 0))))]) (k := 62) (c := .inl (0, 1260, .inl (zA f13))) (e := .inl (0, 1260, .inl (zA f13))) rfl rfl (List.mem_of_getElem? (i := 5) rfl) ?_
        refine J_dupc (A := [(57, .inr (9, [.ref 1, .ref 51, .ref 58, .ref 61, .ref 62, .ref nh, .ref 64, .int (zI ve), .int (zI 0), .int (zI vs)])), (58, .inr (1, [.ref 59, .ref 60, .int (zI ht), .int (zI br), .int (zI hl), .int (zI le), .int (zI ba), .int (zI tk)])), (59, .inl (0, 8, .inl (zA wf))), (60, .inl (1, 64, .inr (.inl (zAL kf)))), (64, .inl (0, 2625, .inl (zA vf))), (62, .inl (0, 1260, .inl (zA f13))), (nh, .inl (0, (z5).toNat, .inl (zA (fun _ => 0))))]) (B := []) (L2 := [(57, .inr (9, [.ref 1, .ref 51, .ref 58, .ref 61, .ref 62, .ref nh, .ref 64, .int (zI ve), .int (zI 0), .int (zI vs)])), (58, .inr (1, [.ref 59, .ref 60, .int (zI ht), .int (zI br), .int (zI hl), .int (zI le), .int (zI ba), .int (zI tk)])), (59, .inl (0, 8, .inl (zA wf))), (60, .inl (1, 64, .inr (.inl (zAL kf)))), (64, .inl (0, 2625, .inl (zA vf))), (62, .inl (0, 1260, .inl (zA f13))), (nh, .inl (0, (z5).toNat, .inl (zA (fun _ => 0))))]) (k := nh) (c := .inl (0, (z5).toNat, .inl (zA (fun _ => 0)))) (e := .inl (0, (z5).toNat, .inl (zA (fun _ => 0)))) rfl rfl (List.mem_of_getElem? (i := 6) rfl) ?_
        exact J_vret dX9_prepare_61 rfl (Nat.le_of_ble_eq_true rfl) (by show ((S).toNat : Nat) ≤ (S).toNat; omega) ⟨ht, br, hl, le, ba, tk, wf, kf, vf, f13, (fun _ => 0), nh, z5, (nh + 1), 0, vs, rfl, rfl, q34, q35, q36, q37, q38, q39, q40, q41, q42, q43, q44, q45, q26, q23, (fill_Rg2 q29 h14 (by decide) (by decide)), (Fx_of q1), (NLt.self _), (NLe.step (NLe.refl _)), h7, (v_fe405a789f q10 h9), (StOK.fresh (fill_Rg h14 (Int.le_refl _) (by decide) (by decide))), (v_3ae73fe288 h6 h7), (Or.inr ⟨(v_0b660d5a9b h6), (v_d9fe08462c h8), (v_d464d4c634 h10), rfl, rfl⟩), (Rg.const v_9c5011c36f v_cd342b47c7), v_2ca2bbca1f, h1⟩
  · refine J_aload_n dX9_prepare_7 rfl rfl ?_
    refine J_callV (st := []) dX9_prepare_8 cv_X9_53 (t_judgeAll ks ve ss vs many places lc fo wc cc sc ht br hl le ba tk wf kf ff tf vf lf nf q9 q10 q11 q12 q13 q14 q15 q16 q17 q18 q19 q20 q21 q22 q23 q26 q27 q28 q31 q34 q35 q36 q37 q38 q39 q40 q41 q42 q43 q44 q45 hk57 hk51 hk1 hk2 hk3 hk4 hk61 hk64 hk58 hk59 hk60) hk57 rfl rfl (Nat.le_of_ble_eq_true rfl) ⟨(Nat.le_of_ble_eq_true rfl), (Nat.le_of_ble_eq_true rfl)⟩ ⟨(Nat.le_of_ble_eq_true rfl), (by show (0 : Nat) + 0 ≤ (S).toNat; omega)⟩ (fun r h9 hp => ?_)
    obtain ⟨z15, z16, z17, z18, z19, z20, f21, f22, f23, rfl, rfl, h24, h25, h26, h27, h28, h29, h30, h31, h32, h33, h34, h35, h36, h37⟩ := hp
    refine J_nf (nh2 := nh) (ck2 := 0) (sk2 := 0) (st2 := []) rfl rfl rfl rfl ?_
    refine J_app (L3 := [(58, .inr (1, [.ref 59, .ref 60, .int (zI z15), .int (zI z16), .int (zI z17), .int (zI z18), .int (zI z19), .int (zI z20)])), (59, .inl (0, 8, .inl (zA f21))), (60, .inl (1, 64, .inr (.inl (zAL f22)))), (64, .inl (0, 2625, .inl (zA f23)))]) rfl ?_
    refine J_aload_n dX9_prepare_11 rfl rfl ?_
    refine Z_iconst (n := 0) dX9_prepare_12 ?_
    refine K_put (fs2 := [.ref 1, .ref 51, .ref 58, .ref 61, .ref 62, .ref ks, .ref 64, .int (zI ve), .int (zI ss), .int (zI 0)]) dX9_prepare_13 fw_X9_39 hk57 (Nat.le_of_ble_eq_true rfl) (jbz v_939070ca3f v_316afd7d0b) rfl ?_
    refine J_aload_n dX9_prepare_16 rfl rfl ?_
    refine J_get (v := .int (zI ss)) dX9_prepare_17 fl_X9_35 rfl rfl ?_
    refine Z_if_eq (tgt := 61) dX9_prepare_20 (by decide) (v_5f10a759cd q4 q5) (fun h38 => ?_) (fun h38 => ?_)
    · have g39 := q33 (v_bd6c74a791 q4 h38)
      refine J_touch (k := ks) (e := .inl (0, (ns).toNat, .inl (zA sf))) (hcn (q3 57 (by decide)) (hcn (q3 58 (by decide)) (hcn (q3 59 (by decide)) (hcn (q3 60 (by decide)) (hcn (q3 64 (by decide)) hkks))))) ?_
      refine J_touch (k := 62) (e := .inl (0, 1260, .inl (zA df))) (hcn (Ne.symm (q3 62 (by decide))) (hcn (by decide) (hcn (by decide) (hcn (by decide) (hcn (by decide) (hcn (by decide) hk62)))))) ?_
      refine J_touch (k := 64) (e := .inl (0, 2625, .inl (zA f23))) (hcn (by decide) (hcn (Ne.symm (q3 64 (by decide))) (hcn (by decide) (hcn (by decide) (hcn (by decide) (hcn (by decide) hch)))))) ?_
      refine J_touch (k := 60) (e := .inl (1, 64, .inr (.inl (zAL f22)))) (hcn (by decide) (hcn (by decide) (hcn (Ne.symm (q3 60 (by decide))) (hcn (by decide) (hcn (by decide) (hcn (by decide) hch)))))) ?_
      refine J_touch (k := 59) (e := .inl (0, 8, .inl (zA f21))) (hcn (by decide) (hcn (by decide) (hcn (by decide) (hcn (Ne.symm (q3 59 (by decide))) (hcn (by decide) (hcn (by decide) hch)))))) ?_
      refine J_touch (k := 58) (e := .inr (1, [.ref 59, .ref 60, .int (zI z15), .int (zI z16), .int (zI z17), .int (zI z18), .int (zI z19), .int (zI z20)])) (hcn (by decide) (hcn (by decide) (hcn (by decide) (hcn (by decide) (hcn (Ne.symm (q3 58 (by decide))) (hcn (by decide) hch)))))) ?_
      refine J_touch (k := 57) (e := .inr (9, [.ref 1, .ref 51, .ref 58, .ref 61, .ref 62, .ref ks, .ref 64, .int (zI ve), .int (zI ss), .int (zI 0)])) (hcn (by decide) (hcn (by decide) (hcn (by decide) (hcn (by decide) (hcn (by decide) (hcn (Ne.symm (q3 57 (by decide))) hch)))))) ?_
      refine J_dupc (A := [(57, .inr (9, [.ref 1, .ref 51, .ref 58, .ref 61, .ref 62, .ref ks, .ref 64, .int (zI ve), .int (zI ss), .int (zI 0)])), (58, .inr (1, [.ref 59, .ref 60, .int (zI z15), .int (zI z16), .int (zI z17), .int (zI z18), .int (zI z19), .int (zI z20)])), (59, .inl (0, 8, .inl (zA f21))), (60, .inl (1, 64, .inr (.inl (zAL f22)))), (64, .inl (0, 2625, .inl (zA f23))), (62, .inl (0, 1260, .inl (zA df))), (ks, .inl (0, (ns).toNat, .inl (zA sf)))]) (B := [(58, .inr (1, [.ref 59, .ref 60, .int (zI z15), .int (zI z16), .int (zI z17), .int (zI z18), .int (zI z19), .int (zI z20)])), (59, .inl (0, 8, .inl (zA f21))), (60, .inl (1, 64, .inr (.inl (zAL f22)))), (64, .inl (0, 2625, .inl (zA f23)))]) (L2 := [(57, .inr (9, [.ref 1, .ref 51, .ref 58, .ref 61, .ref 62, .ref ks, .ref 64, .int (zI ve), .int (zI ss), .int (zI 0)])), (58, .inr (1, [.ref 59, .ref 60, .int (zI z15), .int (zI z16), .int (zI z17), .int (zI z18), .int (zI z19), .int (zI z20)])), (59, .inl (0, 8, .inl (zA f21))), (60, .inl (1, 64, .inr (.inl (zAL f22)))), (64, .inl (0, 2625, .inl (zA f23))), (62, .inl (0, 1260, .inl (zA df))), (ks, .inl (0, (ns).toNat, .inl (zA sf))), (58, .inr (1, [.ref 59, .ref 60, .int (zI z15), .int (zI z16), .int (zI z17), .int (zI z18), .int (zI z19), .int (zI z20)])), (59, .inl (0, 8, .inl (zA f21))), (60, .inl (1, 64, .inr (.inl (zAL f22)))), (64, .inl (0, 2625, .inl (zA f23)))]) (k := 57) (c := .inr (9, [.ref 1, .ref 51, .ref 58, .ref 61, .ref 62, .ref ks, .ref 64, .int (zI ve), .int (zI ss), .int (zI 0)])) (e := .inr (9, [.ref 1, .ref 51, .ref 58, .ref 61, .ref 62, .ref ks, .ref 64, .int (zI ve), .int (zI ss), .int (zI 0)])) rfl rfl (List.mem_of_getElem? (i := 0) rfl) ?_
      refine J_dupc (A := [(57, .inr (9, [.ref 1, .ref 51, .ref 58, .ref 61, .ref 62, .ref ks, .ref 64, .int (zI ve), .int (zI ss), .int (zI 0)])), (58, .inr (1, [.ref 59, .ref 60, .int (zI z15), .int (zI z16), .int (zI z17), .int (zI z18), .int (zI z19), .int (zI z20)])), (59, .inl (0, 8, .inl (zA f21))), (60, .inl (1, 64, .inr (.inl (zAL f22)))), (64, .inl (0, 2625, .inl (zA f23))), (62, .inl (0, 1260, .inl (zA df))), (ks, .inl (0, (ns).toNat, .inl (zA sf)))]) (B := [(59, .inl (0, 8, .inl (zA f21))), (60, .inl (1, 64, .inr (.inl (zAL f22)))), (64, .inl (0, 2625, .inl (zA f23)))]) (L2 := [(57, .inr (9, [.ref 1, .ref 51, .ref 58, .ref 61, .ref 62, .ref ks, .ref 64, .int (zI ve), .int (zI ss), .int (zI 0)])), (58, .inr (1, [.ref 59, .ref 60, .int (zI z15), .int (zI z16), .int (zI z17), .int (zI z18), .int (zI z19), .int (zI z20)])), (59, .inl (0, 8, .inl (zA f21))), (60, .inl (1, 64, .inr (.inl (zAL f22)))), (64, .inl (0, 2625, .inl (zA f23))), (62, .inl (0, 1260, .inl (zA df))), (ks, .inl (0, (ns).toNat, .inl (zA sf))), (59, .inl (0, 8, .inl (zA f21))), (60, .inl (1, 64, .inr (.inl (zAL f22)))), (64, .inl (0, 2625, .inl (zA f23)))]) (k := 58) (c := .inr (1, [.ref 59, .ref 60, .int (zI z15), .int (zI z16), .int (zI z17), .int (zI z18), .int (zI z19), .int (zI z20)])) (e := .inr (1, [.ref 59, .ref 60, .int (zI z15), .int (zI z16), .int (zI z17), .int (zI z18), .int (zI z19), .int (zI z20)])) rfl rfl (List.mem_of_getElem? (i := 1) rfl) ?_
      refine J_dupc (A := [(57, .inr (9, [.ref 1, .ref 51, .ref 58, .ref 61, .ref 62, .ref ks, .ref 64, .int (zI ve), .int (zI ss), .int (zI 0)])), (58, .inr (1, [.ref 59, .ref 60, .int (zI z15), .int (zI z16), .int (zI z17), .int (zI z18), .int (zI z19), .int (zI z20)])), (59, .inl (0, 8, .inl (zA f21))), (60, .inl (1, 64, .inr (.inl (zAL f22)))), (64, .inl (0, 2625, .inl (zA f23))), (62, .inl (0, 1260, .inl (zA df))), (ks, .inl (0, (ns).toNat, .inl (zA sf)))]) (B := [(60, .inl (1, 64, .inr (.inl (zAL f22)))), (64, .inl (0, 2625, .inl (zA f23)))]) (L2 := [(57, .inr (9, [.ref 1, .ref 51, .ref 58, .ref 61, .ref 62, .ref ks, .ref 64, .int (zI ve), .int (zI ss), .int (zI 0)])), (58, .inr (1, [.ref 59, .ref 60, .int (zI z15), .int (zI z16), .int (zI z17), .int (zI z18), .int (zI z19), .int (zI z20)])), (59, .inl (0, 8, .inl (zA f21))), (60, .inl (1, 64, .inr (.inl (zAL f22)))), (64, .inl (0, 2625, .inl (zA f23))), (62, .inl (0, 1260, .inl (zA df))), (ks, .inl (0, (ns).toNat, .inl (zA sf))), (60, .inl (1, 64, .inr (.inl (zAL f22)))), (64, .inl (0, 2625, .inl (zA f23)))]) (k := 59) (c := .inl (0, 8, .inl (zA f21))) (e := .inl (0, 8, .inl (zA f21))) rfl rfl (List.mem_of_getElem? (i := 2) rfl) ?_
      refine J_dupc (A := [(57, .inr (9, [.ref 1, .ref 51, .ref 58, .ref 61, .ref 62, .ref ks, .ref 64, .int (zI ve), .int (zI ss), .int (zI 0)])), (58, .inr (1, [.ref 59, .ref 60, .int (zI z15), .int (zI z16), .int (zI z17), .int (zI z18), .int (zI z19), .int (zI z20)])), (59, .inl (0, 8, .inl (zA f21))), (60, .inl (1, 64, .inr (.inl (zAL f22)))), (64, .inl (0, 2625, .inl (zA f23))), (62, .inl (0, 1260, .inl (zA df))), (ks, .inl (0, (ns).toNat, .inl (zA sf)))]) (B := [(64, .inl (0, 2625, .inl (zA f23)))]) (L2 := [(57, .inr (9, [.ref 1, .ref 51, .ref 58, .ref 61, .ref 62, .ref ks, .ref 64, .int (zI ve), .int (zI ss), .int (zI 0)])), (58, .inr (1, [.ref 59, .ref 60, .int (zI z15), .int (zI z16), .int (zI z17), .int (zI z18), .int (zI z19), .int (zI z20)])), (59, .inl (0, 8, .inl (zA f21))), (60, .inl (1, 64, .inr (.inl (zAL f22)))), (64, .inl (0, 2625, .inl (zA f23))), (62, .inl (0, 1260, .inl (zA df))), (ks, .inl (0, (ns).toNat, .inl (zA sf))), (64, .inl (0, 2625, .inl (zA f23)))]) (k := 60) (c := .inl (1, 64, .inr (.inl (zAL f22)))) (e := .inl (1, 64, .inr (.inl (zAL f22)))) rfl rfl (List.mem_of_getElem? (i := 3) rfl) ?_
      refine J_dupc (A := [(57, .inr (9, [.ref 1, .ref 51, .ref 58, .ref 61, .ref 62, .ref ks, .ref 64, .int (zI ve), .int (zI ss), .int (zI 0)])), (58, .inr (1, [.ref 59, .ref 60, .int (zI z15), .int (zI z16), .int (zI z17), .int (zI z18), .int (zI z19), .int (zI z20)])), (59, .inl (0, 8, .inl (zA f21))), (60, .inl (1, 64, .inr (.inl (zAL f22)))), (64, .inl (0, 2625, .inl (zA f23))), (62, .inl (0, 1260, .inl (zA df))), (ks, .inl (0, (ns).toNat, .inl (zA sf)))]) (B := []) (L2 := [(57, .inr (9, [.ref 1, .ref 51, .ref 58, .ref 61, .ref 62, .ref ks, .ref 64, .int (zI ve), .int (zI ss), .int (zI 0)])), (58, .inr (1, [.ref 59, .ref 60, .int (zI z15), .int (zI z16), .int (zI z17), .int (zI z18), .int (zI z19), .int (zI z20)])), (59, .inl (0, 8, .inl (zA f21))), (60, .inl (1, 64, .inr (.inl (zAL f22)))), (64, .inl (0, 2625, .inl (zA f23))), (62, .inl (0, 1260, .inl (zA df))), (ks, .inl (0, (ns).toNat, .inl (zA sf)))]) (k := 64) (c := .inl (0, 2625, .inl (zA f23))) (e := .inl (0, 2625, .inl (zA f23))) rfl rfl (List.mem_of_getElem? (i := 4) rfl) ?_
      exact J_vret dX9_prepare_61 rfl (Nat.le_of_ble_eq_true rfl) (by show (0 : Nat) ≤ (S).toNat; omega) ⟨z15, z16, z17, z18, z19, z20, f21, f22, f23, df, sf, ks, ns, nh, ss, 0, rfl, rfl, h24, h25, h26, h27, h28, h29, h30, h31, h32, h33, h34, h35, h36, h37, (q29), q3, q2, (NLe.refl _), g39.1, q25, (g39.2), v_0065452639, (Or.inl ⟨rfl, rfl, rfl⟩), q30, h38, v_2ca2bbca1f⟩
    · refine J_aload_n dX9_prepare_23 rfl rfl ?_
      refine J_get (v := .ref 51) dX9_prepare_24 fl_X9_46 rfl rfl ?_
      refine J_callV (st := []) dX9_prepare_27 cv_X9_56 (g_many many places hk51) hk51 rfl rfl (Nat.le_of_ble_eq_true rfl) ⟨(Nat.le_of_ble_eq_true rfl), (Nat.le_of_ble_eq_true rfl)⟩ ⟨(Nat.le_of_ble_eq_true rfl), (by show (0 : Nat) + 0 ≤ (S).toNat; omega)⟩ (fun r h9 hp => ?_)
      obtain ⟨rfl, rfl⟩ := hp
      refine J_nf (nh2 := nh) (ck2 := 0) (sk2 := 0) (st2 := [.int (zI many)]) rfl rfl rfl rfl ?_
      refine J_istore_n dX9_prepare_30 rfl (Nat.le_of_ble_eq_true rfl) rfl ?_
      refine J_ls (ls2 := [some (.ref 57), some (.int (zI many))]) rfl ?_
      refine J_aload_n dX9_prepare_31 rfl rfl ?_
      refine J_aload_n dX9_prepare_32 rfl rfl ?_
      refine J_get (v := .ref ks) dX9_prepare_33 fl_X9_25 rfl rfl ?_
      refine J_iload_n dX9_prepare_36 rfl rfl ?_
      refine Z_bipush (n := 22) dX9_prepare_37 (by decide +kernel) ?_
      refine Z_imul (c := 22 * many) dX9_prepare_39 v_40f5fee78f ?_
      refine J_callS (st := [.ref 57]) dX9_prepare_40 cs_X9_62 (b_grown ks ns sf (22 * many) S q24 (v_68ff3cbdd5 q25) (v_6c834f4ebb q9) (v_7bca4b0b3e q10) q0 q32 (hcn (q3 57 (by decide)) (hcn (q3 58 (by decide)) (hcn (q3 59 (by decide)) (hcn (q3 60 (by decide)) (hcn (q3 64 (by decide)) hkks)))))) rfl rfl (Nat.le_of_ble_eq_true rfl) ⟨(Nat.le_of_ble_eq_true rfl), (Nat.le_of_ble_eq_true rfl)⟩ ⟨(Nat.le_of_ble_eq_true rfl), (by show (0 : Nat) + ((S).toNat) ≤ (S).toNat; omega)⟩ (fun r h9 hp => ?_)
      rcases hp with ⟨rfl, rfl, h40⟩ | ⟨z41, rfl, rfl, h42, h43, h44, h45, h46⟩
      · refine J_nf (nh2 := nh) (ck2 := 1) (sk2 := (S).toNat) (st2 := [.ref ks, .ref 57]) rfl rfl (Nat.zero_add _) rfl ?_
        refine K_put (fs2 := [.ref 1, .ref 51, .ref 58, .ref 61, .ref 62, .ref ks, .ref 64, .int (zI ve), .int (zI ss), .int (zI 0)]) dX9_prepare_43 fw_X9_25 rfl (Nat.le_of_ble_eq_true rfl) (fun _ => ⟨rfl, rfl⟩) rfl ?_
        refine J_aload_n dX9_prepare_46 rfl rfl ?_
        refine J_get (v := .ref 62) dX9_prepare_47 fl_X9_22 rfl rfl ?_
        refine Z_iconst (n := 0) dX9_prepare_50 ?_
        refine J_iload_n dX9_prepare_51 rfl rfl ?_
        refine Z_iconst (n := -1) dX9_prepare_52 ?_
        refine J_callS (st := []) dX9_prepare_53 cs_X9_66 (a_fillr 62 1260 df 0 many (-1) v_b13e5cccd9 v_67f32b312e v_d64efa60f9 v_939070ca3f (v_632d2dbe78 q9) q10 hk62) rfl rfl (Nat.le_of_ble_eq_true rfl) ⟨(Nat.le_of_ble_eq_true rfl), (Nat.le_of_ble_eq_true rfl)⟩ ⟨(Nat.le_of_ble_eq_true rfl), (by show ((S).toNat : Nat) + 0 ≤ (S).toNat; omega)⟩ (fun r h9 hp => ?_)
        obtain ⟨f47, rfl, rfl, h48⟩ := hp
        refine J_nf (nh2 := nh) (ck2 := 1) (sk2 := (S).toNat) (st2 := []) rfl rfl rfl rfl ?_
        refine J_app (L3 := [(62, .inl (0, 1260, .inl (zA f47))), (57, .inr (9, [.ref 1, .ref 51, .ref 58, .ref 61, .ref 62, .ref ks, .ref 64, .int (zI ve), .int (zI ss), .int (zI 0)])), (57, .inr (9, [.ref 1, .ref 51, .ref 58, .ref 61, .ref 62, .ref ks, .ref 64, .int (zI ve), .int (zI ss), .int (zI 0)])), (58, .inr (1, [.ref 59, .ref 60, .int (zI z15), .int (zI z16), .int (zI z17), .int (zI z18), .int (zI z19), .int (zI z20)])), (59, .inl (0, 8, .inl (zA f21))), (60, .inl (1, 64, .inr (.inl (zAL f22)))), (64, .inl (0, 2625, .inl (zA f23)))]) rfl ?_
        refine J_mask (L2 := [(62, .inl (0, 1260, .inl (zA f47))), (57, .inr (9, [.ref 1, .ref 51, .ref 58, .ref 61, .ref 62, .ref ks, .ref 64, .int (zI ve), .int (zI ss), .int (zI 0)])), (58, .inr (1, [.ref 59, .ref 60, .int (zI z15), .int (zI z16), .int (zI z17), .int (zI z18), .int (zI z19), .int (zI z20)])), (59, .inl (0, 8, .inl (zA f21))), (60, .inl (1, 64, .inr (.inl (zAL f22)))), (64, .inl (0, 2625, .inl (zA f23)))]) (ks := [62, 57, 57, 58, 59, 60, 64]) [true, true, false, true, true, true, true] rfl (by decide +kernel) rfl ?_
        refine J_aload_n dX9_prepare_56 rfl rfl ?_
        refine Z_iconst (n := 0) dX9_prepare_57 ?_
        refine K_put (fs2 := [.ref 1, .ref 51, .ref 58, .ref 61, .ref 62, .ref ks, .ref 64, .int (zI ve), .int (zI 0), .int (zI 0)]) dX9_prepare_58 fw_X9_35 rfl (Nat.le_of_ble_eq_true rfl) (jbz v_939070ca3f v_316afd7d0b) rfl ?_
        refine J_mask (L2 := [(57, .inr (9, [.ref 1, .ref 51, .ref 58, .ref 61, .ref 62, .ref ks, .ref 64, .int (zI ve), .int (zI 0), .int (zI 0)])), (62, .inl (0, 1260, .inl (zA f47))), (58, .inr (1, [.ref 59, .ref 60, .int (zI z15), .int (zI z16), .int (zI z17), .int (zI z18), .int (zI z19), .int (zI z20)])), (59, .inl (0, 8, .inl (zA f21))), (60, .inl (1, 64, .inr (.inl (zAL f22)))), (64, .inl (0, 2625, .inl (zA f23)))]) (ks := [57, 62, 57, 58, 59, 60, 64]) [true, true, false, true, true, true, true] rfl (by decide +kernel) rfl ?_
        refine J_touch (k := ks) (e := .inl (0, (ns).toNat, .inl (zA sf))) (hcn (q3 57 (by decide)) (hcn (q3 62 (by decide)) (hcn (q3 58 (by decide)) (hcn (q3 59 (by decide)) (hcn (q3 60 (by decide)) (hcn (q3 64 (by decide)) hkks)))))) ?_
        refine J_touch (k := 62) (e := .inl (0, 1260, .inl (zA f47))) (hcn (Ne.symm (q3 62 (by decide))) (hcn (by decide) hch)) ?_
        refine J_touch (k := 64) (e := .inl (0, 2625, .inl (zA f23))) (hcn (by decide) (hcn (Ne.symm (q3 64 (by decide))) (hcn (by decide) (hcn (by decide) (hcn (by decide) (hcn (by decide) (hcn (by decide) hch))))))) ?_
        refine J_touch (k := 60) (e := .inl (1, 64, .inr (.inl (zAL f22)))) (hcn (by decide) (hcn (by decide) (hcn (Ne.symm (q3 60 (by decide))) (hcn (by decide) (hcn (by decide) (hcn (by decide) (hcn (by decide) hch))))))) ?_
        refine J_touch (k := 59) (e := .inl (0, 8, .inl (zA f21))) (hcn (by decide) (hcn (by decide) (hcn (by decide) (hcn (Ne.symm (q3 59 (by decide))) (hcn (by decide) (hcn (by decide) (hcn (by decide) hch))))))) ?_
        refine J_touch (k := 58) (e := .inr (1, [.ref 59, .ref 60, .int (zI z15), .int (zI z16), .int (zI z17), .int (zI z18), .int (zI z19), .int (zI z20)])) (hcn (by decide) (hcn (by decide) (hcn (by decide) (hcn (by decide) (hcn (Ne.symm (q3 58 (by decide))) (hcn (by decide) (hcn (by decide) hch))))))) ?_
        refine J_touch (k := 57) (e := .inr (9, [.ref 1, .ref 51, .ref 58, .ref 61, .ref 62, .ref ks, .ref 64, .int (zI ve), .int (zI 0), .int (zI 0)])) (hcn (by decide) (hcn (by decide) (hcn (by decide) (hcn (by decide) (hcn (by decide) (hcn (Ne.symm (q3 57 (by decide))) hch)))))) ?_
        refine J_dupc (A := [(57, .inr (9, [.ref 1, .ref 51, .ref 58, .ref 61, .ref 62, .ref ks, .ref 64, .int (zI ve), .int (zI 0), .int (zI 0)])), (58, .inr (1, [.ref 59, .ref 60, .int (zI z15), .int (zI z16), .int (zI z17), .int (zI z18), .int (zI z19), .int (zI z20)])), (59, .inl (0, 8, .inl (zA f21))), (60, .inl (1, 64, .inr (.inl (zAL f22)))), (64, .inl (0, 2625, .inl (zA f23))), (62, .inl (0, 1260, .inl (zA f47))), (ks, .inl (0, (ns).toNat, .inl (zA sf)))]) (B := [(62, .inl (0, 1260, .inl (zA f47))), (58, .inr (1, [.ref 59, .ref 60, .int (zI z15), .int (zI z16), .int (zI z17), .int (zI z18), .int (zI z19), .int (zI z20)])), (59, .inl (0, 8, .inl (zA f21))), (60, .inl (1, 64, .inr (.inl (zAL f22)))), (64, .inl (0, 2625, .inl (zA f23)))]) (L2 := [(57, .inr (9, [.ref 1, .ref 51, .ref 58, .ref 61, .ref 62, .ref ks, .ref 64, .int (zI ve), .int (zI 0), .int (zI 0)])), (58, .inr (1, [.ref 59, .ref 60, .int (zI z15), .int (zI z16), .int (zI z17), .int (zI z18), .int (zI z19), .int (zI z20)])), (59, .inl (0, 8, .inl (zA f21))), (60, .inl (1, 64, .inr (.inl (zAL f22)))), (64, .inl (0, 2625, .inl (zA f23))), (62, .inl (0, 1260, .inl (zA f47))), (ks, .inl (0, (ns).toNat, .inl (zA sf))), (62, .inl (0, 1260, .inl (zA f47))), (58, .inr (1, [.ref 59, .ref 60, .int (zI z15), .int (zI z16), .int (zI z17), .int (zI z18), .int (zI z19), .int (zI z20)])), (59, .inl (0, 8, .inl (zA f21))), (60, .inl (1, 64, .inr (.inl (zAL f22)))), (64, .inl (0, 2625, .inl (zA f23)))]) (k := 57) (c := .inr (9, [.ref 1, .ref 51, .ref 58, .ref 61, .ref 62, .ref ks, .ref 64, .int (zI ve), .int (zI 0), .int (zI 0)])) (e := .inr (9, [.ref 1, .ref 51, .ref 58, .ref 61, .ref 62, .ref ks, .ref 64, .int (zI ve), .int (zI 0), .int (zI 0)])) rfl rfl (List.mem_of_getElem? (i := 0) rfl) ?_
        refine J_dupc (A := [(57, .inr (9, [.ref 1, .ref 51, .ref 58, .ref 61, .ref 62, .ref ks, .ref 64, .int (zI ve), .int (zI 0), .int (zI 0)])), (58, .inr (1, [.ref 59, .ref 60, .int (zI z15), .int (zI z16), .int (zI z17), .int (zI z18), .int (zI z19), .int (zI z20)])), (59, .inl (0, 8, .inl (zA f21))), (60, .inl (1, 64, .inr (.inl (zAL f22)))), (64, .inl (0, 2625, .inl (zA f23))), (62, .inl (0, 1260, .inl (zA f47))), (ks, .inl (0, (ns).toNat, .inl (zA sf)))]) (B := [(58, .inr (1, [.ref 59, .ref 60, .int (zI z15), .int (zI z16), .int (zI z17), .int (zI z18), .int (zI z19), .int (zI z20)])), (59, .inl (0, 8, .inl (zA f21))), (60, .inl (1, 64, .inr (.inl (zAL f22)))), (64, .inl (0, 2625, .inl (zA f23)))]) (L2 := [(57, .inr (9, [.ref 1, .ref 51, .ref 58, .ref 61, .ref 62, .ref ks, .ref 64, .int (zI ve), .int (zI 0), .int (zI 0)])), (58, .inr (1, [.ref 59, .ref 60, .int (zI z15), .int (zI z16), .int (zI z17), .int (zI z18), .int (zI z19), .int (zI z20)])), (59, .inl (0, 8, .inl (zA f21))), (60, .inl (1, 64, .inr (.inl (zAL f22)))), (64, .inl (0, 2625, .inl (zA f23))), (62, .inl (0, 1260, .inl (zA f47))), (ks, .inl (0, (ns).toNat, .inl (zA sf))), (58, .inr (1, [.ref 59, .ref 60, .int (zI z15), .int (zI z16), .int (zI z17), .int (zI z18), .int (zI z19), .int (zI z20)])), (59, .inl (0, 8, .inl (zA f21))), (60, .inl (1, 64, .inr (.inl (zAL f22)))), (64, .inl (0, 2625, .inl (zA f23)))]) (k := 62) (c := .inl (0, 1260, .inl (zA f47))) (e := .inl (0, 1260, .inl (zA f47))) rfl rfl (List.mem_of_getElem? (i := 5) rfl) ?_
        refine J_dupc (A := [(57, .inr (9, [.ref 1, .ref 51, .ref 58, .ref 61, .ref 62, .ref ks, .ref 64, .int (zI ve), .int (zI 0), .int (zI 0)])), (58, .inr (1, [.ref 59, .ref 60, .int (zI z15), .int (zI z16), .int (zI z17), .int (zI z18), .int (zI z19), .int (zI z20)])), (59, .inl (0, 8, .inl (zA f21))), (60, .inl (1, 64, .inr (.inl (zAL f22)))), (64, .inl (0, 2625, .inl (zA f23))), (62, .inl (0, 1260, .inl (zA f47))), (ks, .inl (0, (ns).toNat, .inl (zA sf)))]) (B := [(59, .inl (0, 8, .inl (zA f21))), (60, .inl (1, 64, .inr (.inl (zAL f22)))), (64, .inl (0, 2625, .inl (zA f23)))]) (L2 := [(57, .inr (9, [.ref 1, .ref 51, .ref 58, .ref 61, .ref 62, .ref ks, .ref 64, .int (zI ve), .int (zI 0), .int (zI 0)])), (58, .inr (1, [.ref 59, .ref 60, .int (zI z15), .int (zI z16), .int (zI z17), .int (zI z18), .int (zI z19), .int (zI z20)])), (59, .inl (0, 8, .inl (zA f21))), (60, .inl (1, 64, .inr (.inl (zAL f22)))), (64, .inl (0, 2625, .inl (zA f23))), (62, .inl (0, 1260, .inl (zA f47))), (ks, .inl (0, (ns).toNat, .inl (zA sf))), (59, .inl (0, 8, .inl (zA f21))), (60, .inl (1, 64, .inr (.inl (zAL f22)))), (64, .inl (0, 2625, .inl (zA f23)))]) (k := 58) (c := .inr (1, [.ref 59, .ref 60, .int (zI z15), .int (zI z16), .int (zI z17), .int (zI z18), .int (zI z19), .int (zI z20)])) (e := .inr (1, [.ref 59, .ref 60, .int (zI z15), .int (zI z16), .int (zI z17), .int (zI z18), .int (zI z19), .int (zI z20)])) rfl rfl (List.mem_of_getElem? (i := 1) rfl) ?_
        refine J_dupc (A := [(57, .inr (9, [.ref 1, .ref 51, .ref 58, .ref 61, .ref 62, .ref ks, .ref 64, .int (zI ve), .int (zI 0), .int (zI 0)])), (58, .inr (1, [.ref 59, .ref 60, .int (zI z15), .int (zI z16), .int (zI z17), .int (zI z18), .int (zI z19), .int (zI z20)])), (59, .inl (0, 8, .inl (zA f21))), (60, .inl (1, 64, .inr (.inl (zAL f22)))), (64, .inl (0, 2625, .inl (zA f23))), (62, .inl (0, 1260, .inl (zA f47))), (ks, .inl (0, (ns).toNat, .inl (zA sf)))]) (B := [(60, .inl (1, 64, .inr (.inl (zAL f22)))), (64, .inl (0, 2625, .inl (zA f23)))]) (L2 := [(57, .inr (9, [.ref 1, .ref 51, .ref 58, .ref 61, .ref 62, .ref ks, .ref 64, .int (zI ve), .int (zI 0), .int (zI 0)])), (58, .inr (1, [.ref 59, .ref 60, .int (zI z15), .int (zI z16), .int (zI z17), .int (zI z18), .int (zI z19), .int (zI z20)])), (59, .inl (0, 8, .inl (zA f21))), (60, .inl (1, 64, .inr (.inl (zAL f22)))), (64, .inl (0, 2625, .inl (zA f23))), (62, .inl (0, 1260, .inl (zA f47))), (ks, .inl (0, (ns).toNat, .inl (zA sf))), (60, .inl (1, 64, .inr (.inl (zAL f22)))), (64, .inl (0, 2625, .inl (zA f23)))]) (k := 59) (c := .inl (0, 8, .inl (zA f21))) (e := .inl (0, 8, .inl (zA f21))) rfl rfl (List.mem_of_getElem? (i := 2) rfl) ?_
        refine J_dupc (A := [(57, .inr (9, [.ref 1, .ref 51, .ref 58, .ref 61, .ref 62, .ref ks, .ref 64, .int (zI ve), .int (zI 0), .int (zI 0)])), (58, .inr (1, [.ref 59, .ref 60, .int (zI z15), .int (zI z16), .int (zI z17), .int (zI z18), .int (zI z19), .int (zI z20)])), (59, .inl (0, 8, .inl (zA f21))), (60, .inl (1, 64, .inr (.inl (zAL f22)))), (64, .inl (0, 2625, .inl (zA f23))), (62, .inl (0, 1260, .inl (zA f47))), (ks, .inl (0, (ns).toNat, .inl (zA sf)))]) (B := [(64, .inl (0, 2625, .inl (zA f23)))]) (L2 := [(57, .inr (9, [.ref 1, .ref 51, .ref 58, .ref 61, .ref 62, .ref ks, .ref 64, .int (zI ve), .int (zI 0), .int (zI 0)])), (58, .inr (1, [.ref 59, .ref 60, .int (zI z15), .int (zI z16), .int (zI z17), .int (zI z18), .int (zI z19), .int (zI z20)])), (59, .inl (0, 8, .inl (zA f21))), (60, .inl (1, 64, .inr (.inl (zAL f22)))), (64, .inl (0, 2625, .inl (zA f23))), (62, .inl (0, 1260, .inl (zA f47))), (ks, .inl (0, (ns).toNat, .inl (zA sf))), (64, .inl (0, 2625, .inl (zA f23)))]) (k := 60) (c := .inl (1, 64, .inr (.inl (zAL f22)))) (e := .inl (1, 64, .inr (.inl (zAL f22)))) rfl rfl (List.mem_of_getElem? (i := 3) rfl) ?_
        refine J_dupc (A := [(57, .inr (9, [.ref 1, .ref 51, .ref 58, .ref 61, .ref 62, .ref ks, .ref 64, .int (zI ve), .int (zI 0), .int (zI 0)])), (58, .inr (1, [.ref 59, .ref 60, .int (zI z15), .int (zI z16), .int (zI z17), .int (zI z18), .int (zI z19), .int (zI z20)])), (59, .inl (0, 8, .inl (zA f21))), (60, .inl (1, 64, .inr (.inl (zAL f22)))), (64, .inl (0, 2625, .inl (zA f23))), (62, .inl (0, 1260, .inl (zA f47))), (ks, .inl (0, (ns).toNat, .inl (zA sf)))]) (B := []) (L2 := [(57, .inr (9, [.ref 1, .ref 51, .ref 58, .ref 61, .ref 62, .ref ks, .ref 64, .int (zI ve), .int (zI 0), .int (zI 0)])), (58, .inr (1, [.ref 59, .ref 60, .int (zI z15), .int (zI z16), .int (zI z17), .int (zI z18), .int (zI z19), .int (zI z20)])), (59, .inl (0, 8, .inl (zA f21))), (60, .inl (1, 64, .inr (.inl (zAL f22)))), (64, .inl (0, 2625, .inl (zA f23))), (62, .inl (0, 1260, .inl (zA f47))), (ks, .inl (0, (ns).toNat, .inl (zA sf)))]) (k := 64) (c := .inl (0, 2625, .inl (zA f23))) (e := .inl (0, 2625, .inl (zA f23))) rfl rfl (List.mem_of_getElem? (i := 4) rfl) ?_
        exact J_vret dX9_prepare_61 rfl (Nat.le_of_ble_eq_true rfl) (by show ((S).toNat : Nat) ≤ (S).toNat; omega) ⟨z15, z16, z17, z18, z19, z20, f21, f22, f23, f47, sf, ks, ns, nh, 0, 0, rfl, rfl, h24, h25, h26, h27, h28, h29, h30, h31, h32, h33, h34, h35, h36, h37, (fill_Rg2 q29 h48 (by decide) (by decide)), q3, q2, (NLe.refl _), h40, q25, (StOK.fresh (fill_Rg h48 (Int.le_refl _) (by decide) (by decide))), v_0065452639, (Or.inl ⟨rfl, rfl, rfl⟩), q30, v_2ca2bbca1f, v_2ca2bbca1f⟩
      · refine J_nf (nh2 := nh + 1) (ck2 := 1) (sk2 := (S).toNat) (st2 := [.ref nh, .ref 57]) rfl rfl (Nat.zero_add _) rfl ?_
        refine J_app (L3 := [(nh, .inl (0, (z41).toNat, .inl (zA (fun _ => 0)))), (57, .inr (9, [.ref 1, .ref 51, .ref 58, .ref 61, .ref 62, .ref ks, .ref 64, .int (zI ve), .int (zI ss), .int (zI 0)])), (58, .inr (1, [.ref 59, .ref 60, .int (zI z15), .int (zI z16), .int (zI z17), .int (zI z18), .int (zI z19), .int (zI z20)])), (59, .inl (0, 8, .inl (zA f21))), (60, .inl (1, 64, .inr (.inl (zAL f22)))), (64, .inl (0, 2625, .inl (zA f23)))]) rfl ?_
        refine K_put (fs2 := [.ref 1, .ref 51, .ref 58, .ref 61, .ref 62, .ref nh, .ref 64, .int (zI ve), .int (zI ss), .int (zI 0)]) dX9_prepare_43 fw_X9_25 (hcn (Ne.symm ((Fx_of q1) 57 (by decide))) hch) (Nat.le_of_ble_eq_true rfl) (fun _ => ⟨rfl, rfl⟩) rfl ?_
        refine J_aload_n dX9_prepare_46 rfl rfl ?_
        refine J_get (v := .ref 62) dX9_prepare_47 fl_X9_22 rfl rfl ?_
        refine Z_iconst (n := 0) dX9_prepare_50 ?_
        refine J_iload_n dX9_prepare_51 rfl rfl ?_
        refine Z_iconst (n := -1) dX9_prepare_52 ?_
        refine J_callS (st := []) dX9_prepare_53 cs_X9_66 (a_fillr 62 1260 df 0 many (-1) v_b13e5cccd9 v_67f32b312e v_d64efa60f9 v_939070ca3f (v_632d2dbe78 q9) q10 (hcn (by decide) (hcn (Ne.symm ((Fx_of q1) 62 (by decide))) (hcn (by decide) (hcn (by decide) (hcn (by decide) (hcn (by decide) (hcn (by decide) hk62)))))))) rfl rfl (Nat.le_of_ble_eq_true rfl) ⟨(Nat.le_of_ble_eq_true rfl), (Nat.le_of_ble_eq_true rfl)⟩ ⟨(Nat.le_of_ble_eq_true rfl), (by show ((S).toNat : Nat) + 0 ≤ (S).toNat; omega)⟩ (fun r h9 hp => ?_)
        obtain ⟨f49, rfl, rfl, h50⟩ := hp
        refine J_nf (nh2 := nh + 1) (ck2 := 1) (sk2 := (S).toNat) (st2 := []) rfl rfl rfl rfl ?_
        refine J_app (L3 := [(62, .inl (0, 1260, .inl (zA f49))), (57, .inr (9, [.ref 1, .ref 51, .ref 58, .ref 61, .ref 62, .ref nh, .ref 64, .int (zI ve), .int (zI ss), .int (zI 0)])), (nh, .inl (0, (z41).toNat, .inl (zA (fun _ => 0)))), (57, .inr (9, [.ref 1, .ref 51, .ref 58, .ref 61, .ref 62, .ref ks, .ref 64, .int (zI ve), .int (zI ss), .int (zI 0)])), (58, .inr (1, [.ref 59, .ref 60, .int (zI z15), .int (zI z16), .int (zI z17), .int (zI z18), .int (zI z19), .int (zI z20)])), (59, .inl (0, 8, .inl (zA f21))), (60, .inl (1, 64, .inr (.inl (zAL f22)))), (64, .inl (0, 2625, .inl (zA f23)))]) rfl ?_
        refine J_dupc (A := [(62, .inl (0, 1260, .inl (zA f49))), (57, .inr (9, [.ref 1, .ref 51, .ref 58, .ref 61, .ref 62, .ref nh, .ref 64, .int (zI ve), .int (zI ss), .int (zI 0)])), (nh, .inl (0, (z41).toNat, .inl (zA (fun _ => 0))))]) (B := [(58, .inr (1, [.ref 59, .ref 60, .int (zI z15), .int (zI z16), .int (zI z17), .int (zI z18), .int (zI z19), .int (zI z20)])), (59, .inl (0, 8, .inl (zA f21))), (60, .inl (1, 64, .inr (.inl (zAL f22)))), (64, .inl (0, 2625, .inl (zA f23)))]) (L2 := [(62, .inl (0, 1260, .inl (zA f49))), (57, .inr (9, [.ref 1, .ref 51, .ref 58, .ref 61, .ref 62, .ref nh, .ref 64, .int (zI ve), .int (zI ss), .int (zI 0)])), (nh, .inl (0, (z41).toNat, .inl (zA (fun _ => 0)))), (58, .inr (1, [.ref 59, .ref 60, .int (zI z15), .int (zI z16), .int (zI z17), .int (zI z18), .int (zI z19), .int (zI z20)])), (59, .inl (0, 8, .inl (zA f21))), (60, .inl (1, 64, .inr (.inl (zAL f22)))), (64, .inl (0, 2625, .inl (zA f23)))]) (k := 57) (c := .inr (9, [.ref 1, .ref 51, .ref 58, .ref 61, .ref 62, .ref ks, .ref 64, .int (zI ve), .int (zI ss), .int (zI 0)])) (e := .inr (9, [.ref 1, .ref 51, .ref 58, .ref 61, .ref 62, .ref nh, .ref 64, .int (zI ve), .int (zI ss), .int (zI 0)])) rfl rfl (List.mem_of_getElem? (i := 1) rfl) ?_
        refine J_aload_n dX9_prepare_56 rfl rfl ?_
        refine Z_iconst (n := 0) dX9_prepare_57 ?_
        refine K_put (fs2 := [.ref 1, .ref 51, .ref 58, .ref 61, .ref 62, .ref nh, .ref 64, .int (zI ve), .int (zI 0), .int (zI 0)]) dX9_prepare_58 fw_X9_35 rfl (Nat.le_of_ble_eq_true rfl) (jbz v_939070ca3f v_316afd7d0b) rfl ?_
        refine J_dupc (A := [(57, .inr (9, [.ref 1, .ref 51, .ref 58, .ref 61, .ref 62, .ref nh, .ref 64, .int (zI ve), .int (zI 0), .int (zI 0)])), (62, .inl (0, 1260, .inl (zA f49)))]) (B := [(nh, .inl (0, (z41).toNat, .inl (zA (fun _ => 0)))), (58, .inr (1, [.ref 59, .ref 60, .int (zI z15), .int (zI z16), .int (zI z17), .int (zI z18), .int (zI z19), .int (zI z20)])), (59, .inl (0, 8, .inl (zA f21))), (60, .inl (1, 64, .inr (.inl (zAL f22)))), (64, .inl (0, 2625, .inl (zA f23)))]) (L2 := [(57, .inr (9, [.ref 1, .ref 51, .ref 58, .ref 61, .ref 62, .ref nh, .ref 64, .int (zI ve), .int (zI 0), .int (zI 0)])), (62, .inl (0, 1260, .inl (zA f49))), (nh, .inl (0, (z41).toNat, .inl (zA (fun _ => 0)))), (58, .inr (1, [.ref 59, .ref 60, .int (zI z15), .int (zI z16), .int (zI z17), .int (zI z18), .int (zI z19), .int (zI z20)])), (59, .inl (0, 8, .inl (zA f21))), (60, .inl (1, 64, .inr (.inl (zAL f22)))), (64, .inl (0, 2625, .inl (zA f23)))]) (k := 57) (c := .inr (9, [.ref 1, .ref 51, .ref 58, .ref 61, .ref 62, .ref nh, .ref 64, .int (zI ve), .int (zI ss), .int (zI 0)])) (e := .inr (9, [.ref 1, .ref 51, .ref 58, .ref 61, .ref 62, .ref nh, .ref 64, .int (zI ve), .int (zI 0), .int (zI 0)])) rfl rfl (List.mem_of_getElem? (i := 0) rfl) ?_
        refine J_touch (k := nh) (e := .inl (0, (z41).toNat, .inl (zA (fun _ => 0)))) (hcn ((Fx_of q1) 57 (by decide)) (hcn ((Fx_of q1) 62 (by decide)) hch)) ?_
        refine J_touch (k := 62) (e := .inl (0, 1260, .inl (zA f49))) (hcn (Ne.symm ((Fx_of q1) 62 (by decide))) (hcn (by decide) hch)) ?_
        refine J_touch (k := 64) (e := .inl (0, 2625, .inl (zA f23))) (hcn (by decide) (hcn (Ne.symm ((Fx_of q1) 64 (by decide))) (hcn (by decide) (hcn (by decide) (hcn (Ne.symm ((Fx_of q1) 64 (by decide))) (hcn (by decide) (hcn (by decide) (hcn (by decide) hch)))))))) ?_
        refine J_touch (k := 60) (e := .inl (1, 64, .inr (.inl (zAL f22)))) (hcn (by decide) (hcn (by decide) (hcn (Ne.symm ((Fx_of q1) 60 (by decide))) (hcn (by decide) (hcn (by decide) (hcn (Ne.symm ((Fx_of q1) 60 (by decide))) (hcn (by decide) (hcn (by decide) hch)))))))) ?_
        refine J_touch (k := 59) (e := .inl (0, 8, .inl (zA f21))) (hcn (by decide) (hcn (by decide) (hcn (by decide) (hcn (Ne.symm ((Fx_of q1) 59 (by decide))) (hcn (by decide) (hcn (by decide) (hcn (Ne.symm ((Fx_of q1) 59 (by decide))) (hcn (by decide) hch)))))))) ?_
        refine J_touch (k := 58) (e := .inr (1, [.ref 59, .ref 60, .int (zI z15), .int (zI z16), .int (zI z17), .int (zI z18), .int (zI z19), .int (zI z20)])) (hcn (by decide) (hcn (by decide) (hcn (by decide) (hcn (by decide) (hcn (Ne.symm ((Fx_of q1) 58 (by decide))) (hcn (by decide) (hcn (by decide) (hcn (Ne.symm ((Fx_of q1) 58 (by decide))) hch)))))))) ?_
        refine J_touch (k := 57) (e := .inr (9, [.ref 1, .ref 51, .ref 58, .ref 61, .ref 62, .ref nh, .ref 64, .int (zI ve), .int (zI 0), .int (zI 0)])) (hcn (by decide) (hcn (by decide) (hcn (by decide) (hcn (by decide) (hcn (by decide) (hcn (Ne.symm ((Fx_of q1) 57 (by decide))) hch)))))) ?_
        refine J_dupc (A := [(57, .inr (9, [.ref 1, .ref 51, .ref 58, .ref 61, .ref 62, .ref nh, .ref 64, .int (zI ve), .int (zI 0), .int (zI 0)])), (58, .inr (1, [.ref 59, .ref 60, .int (zI z15), .int (zI z16), .int (zI z17), .int (zI z18), .int (zI z19), .int (zI z20)])), (59, .inl (0, 8, .inl (zA f21))), (60, .inl (1, 64, .inr (.inl (zAL f22)))), (64, .inl (0, 2625, .inl (zA f23))), (62, .inl (0, 1260, .inl (zA f49))), (nh, .inl (0, (z41).toNat, .inl (zA (fun _ => 0))))]) (B := [(62, .inl (0, 1260, .inl (zA f49))), (nh, .inl (0, (z41).toNat, .inl (zA (fun _ => 0)))), (58, .inr (1, [.ref 59, .ref 60, .int (zI z15), .int (zI z16), .int (zI z17), .int (zI z18), .int (zI z19), .int (zI z20)])), (59, .inl (0, 8, .inl (zA f21))), (60, .inl (1, 64, .inr (.inl (zAL f22)))), (64, .inl (0, 2625, .inl (zA f23)))]) (L2 := [(57, .inr (9, [.ref 1, .ref 51, .ref 58, .ref 61, .ref 62, .ref nh, .ref 64, .int (zI ve), .int (zI 0), .int (zI 0)])), (58, .inr (1, [.ref 59, .ref 60, .int (zI z15), .int (zI z16), .int (zI z17), .int (zI z18), .int (zI z19), .int (zI z20)])), (59, .inl (0, 8, .inl (zA f21))), (60, .inl (1, 64, .inr (.inl (zAL f22)))), (64, .inl (0, 2625, .inl (zA f23))), (62, .inl (0, 1260, .inl (zA f49))), (nh, .inl (0, (z41).toNat, .inl (zA (fun _ => 0)))), (62, .inl (0, 1260, .inl (zA f49))), (nh, .inl (0, (z41).toNat, .inl (zA (fun _ => 0)))), (58, .inr (1, [.ref 59, .ref 60, .int (zI z15), .int (zI z16), .int (zI z17), .int (zI z18), .int (zI z19), .int (zI z20)])), (59, .inl (0, 8, .inl (zA f21))), (60, .inl (1, 64, .inr (.inl (zAL f22)))), (64, .inl (0, 2625, .inl (zA f23)))]) (k := 57) (c := .inr (9, [.ref 1, .ref 51, .ref 58, .ref 61, .ref 62, .ref nh, .ref 64, .int (zI ve), .int (zI 0), .int (zI 0)])) (e := .inr (9, [.ref 1, .ref 51, .ref 58, .ref 61, .ref 62, .ref nh, .ref 64, .int (zI ve), .int (zI 0), .int (zI 0)])) rfl rfl (List.mem_of_getElem? (i := 0) rfl) ?_
        refine J_dupc (A := [(57, .inr (9, [.ref 1, .ref 51, .ref 58, .ref 61, .ref 62, .ref nh, .ref 64, .int (zI ve), .int (zI 0), .int (zI 0)])), (58, .inr (1, [.ref 59, .ref 60, .int (zI z15), .int (zI z16), .int (zI z17), .int (zI z18), .int (zI z19), .int (zI z20)])), (59, .inl (0, 8, .inl (zA f21))), (60, .inl (1, 64, .inr (.inl (zAL f22)))), (64, .inl (0, 2625, .inl (zA f23))), (62, .inl (0, 1260, .inl (zA f49))), (nh, .inl (0, (z41).toNat, .inl (zA (fun _ => 0))))]) (B := [(nh, .inl (0, (z41).toNat, .inl (zA (fun _ => 0)))), (58, .inr (1, [.ref 59, .ref 60, .int (zI z15), .int (zI z16), .int (zI z17), .int (zI z18), .int (zI z19), .int (zI z20)])), (59, .inl (0, 8, .inl (zA f21))), (60, .inl (1, 64, .inr (.inl (zAL f22)))), (64, .inl (0, 2625, .inl (zA f23)))]) (L2 := [(57, .inr (9, [.ref 1, .ref 51, .ref 58, .ref 61, .ref 62, .ref nh, .ref 64, .int (zI ve), .int (zI 0), .int (zI 0)])), (58, .inr (1, [.ref 59, .ref 60, .int (zI z15), .int (zI z16), .int (zI z17), .int (zI z18), .int (zI z19), .int (zI z20)])), (59, .inl (0, 8, .inl (zA f21))), (60, .inl (1, 64, .inr (.inl (zAL f22)))), (64, .inl (0, 2625, .inl (zA f23))), (62, .inl (0, 1260, .inl (zA f49))), (nh, .inl (0, (z41).toNat, .inl (zA (fun _ => 0)))), (nh, .inl (0, (z41).toNat, .inl (zA (fun _ => 0)))), (58, .inr (1, [.ref 59, .ref 60, .int (zI z15), .int (zI z16), .int (zI z17), .int (zI z18), .int (zI z19), .int (zI z20)])), (59, .inl (0, 8, .inl (zA f21))), (60, .inl (1, 64, .inr (.inl (zAL f22)))), (64, .inl (0, 2625, .inl (zA f23)))]) (k := 62) (c := .inl (0, 1260, .inl (zA f49))) (e := .inl (0, 1260, .inl (zA f49))) rfl rfl (List.mem_of_getElem? (i := 5) rfl) ?_
        refine J_dupc (A := [(57, .inr (9, [.ref 1, .ref 51, .ref 58, .ref 61, .ref 62, .ref nh, .ref 64, .int (zI ve), .int (zI 0), .int (zI 0)])), (58, .inr (1, [.ref 59, .ref 60, .int (zI z15), .int (zI z16), .int (zI z17), .int (zI z18), .int (zI z19), .int (zI z20)])), (59, .inl (0, 8, .inl (zA f21))), (60, .inl (1, 64, .inr (.inl (zAL f22)))), (64, .inl (0, 2625, .inl (zA f23))), (62, .inl (0, 1260, .inl (zA f49))), (nh, .inl (0, (z41).toNat, .inl (zA (fun _ => 0))))]) (B := [(58, .inr (1, [.ref 59, .ref 60, .int (zI z15), .int (zI z16), .int (zI z17), .int (zI z18), .int (zI z19), .int (zI z20)])), (59, .inl (0, 8, .inl (zA f21))), (60, .inl (1, 64, .inr (.inl (zAL f22)))), (64, .inl (0, 2625, .inl (zA f23)))]) (L2 := [(57, .inr (9, [.ref 1, .ref 51, .ref 58, .ref 61, .ref 62, .ref nh, .ref 64, .int (zI ve), .int (zI 0), .int (zI 0)])), (58, .inr (1, [.ref 59, .ref 60, .int (zI z15), .int (zI z16), .int (zI z17), .int (zI z18), .int (zI z19), .int (zI z20)])), (59, .inl (0, 8, .inl (zA f21))), (60, .inl (1, 64, .inr (.inl (zAL f22)))), (64, .inl (0, 2625, .inl (zA f23))), (62, .inl (0, 1260, .inl (zA f49))), (nh, .inl (0, (z41).toNat, .inl (zA (fun _ => 0)))), (58, .inr (1, [.ref 59, .ref 60, .int (zI z15), .int (zI z16), .int (zI z17), .int (zI z18), .int (zI z19), .int (zI z20)])), (59, .inl (0, 8, .inl (zA f21))), (60, .inl (1, 64, .inr (.inl (zAL f22)))), (64, .inl (0, 2625, .inl (zA f23)))]) (k := nh) (c := .inl (0, (z41).toNat, .inl (zA (fun _ => 0)))) (e := .inl (0, (z41).toNat, .inl (zA (fun _ => 0)))) rfl rfl (List.mem_of_getElem? (i := 6) rfl) ?_
        refine J_dupc (A := [(57, .inr (9, [.ref 1, .ref 51, .ref 58, .ref 61, .ref 62, .ref nh, .ref 64, .int (zI ve), .int (zI 0), .int (zI 0)])), (58, .inr (1, [.ref 59, .ref 60, .int (zI z15), .int (zI z16), .int (zI z17), .int (zI z18), .int (zI z19), .int (zI z20)])), (59, .inl (0, 8, .inl (zA f21))), (60, .inl (1, 64, .inr (.inl (zAL f22)))), (64, .inl (0, 2625, .inl (zA f23))), (62, .inl (0, 1260, .inl (zA f49))), (nh, .inl (0, (z41).toNat, .inl (zA (fun _ => 0))))]) (B := [(59, .inl (0, 8, .inl (zA f21))), (60, .inl (1, 64, .inr (.inl (zAL f22)))), (64, .inl (0, 2625, .inl (zA f23)))]) (L2 := [(57, .inr (9, [.ref 1, .ref 51, .ref 58, .ref 61, .ref 62, .ref nh, .ref 64, .int (zI ve), .int (zI 0), .int (zI 0)])), (58, .inr (1, [.ref 59, .ref 60, .int (zI z15), .int (zI z16), .int (zI z17), .int (zI z18), .int (zI z19), .int (zI z20)])), (59, .inl (0, 8, .inl (zA f21))), (60, .inl (1, 64, .inr (.inl (zAL f22)))), (64, .inl (0, 2625, .inl (zA f23))), (62, .inl (0, 1260, .inl (zA f49))), (nh, .inl (0, (z41).toNat, .inl (zA (fun _ => 0)))), (59, .inl (0, 8, .inl (zA f21))), (60, .inl (1, 64, .inr (.inl (zAL f22)))), (64, .inl (0, 2625, .inl (zA f23)))]) (k := 58) (c := .inr (1, [.ref 59, .ref 60, .int (zI z15), .int (zI z16), .int (zI z17), .int (zI z18), .int (zI z19), .int (zI z20)])) (e := .inr (1, [.ref 59, .ref 60, .int (zI z15), .int (zI z16), .int (zI z17), .int (zI z18), .int (zI z19), .int (zI z20)])) rfl rfl (List.mem_of_getElem? (i := 1) rfl) ?_
        refine J_dupc (A := [(57, .inr (9, [.ref 1, .ref 51, .ref 58, .ref 61, .ref 62, .ref nh, .ref 64, .int (zI ve), .int (zI 0), .int (zI 0)])), (58, .inr (1, [.ref 59, .ref 60, .int (zI z15), .int (zI z16), .int (zI z17), .int (zI z18), .int (zI z19), .int (zI z20)])), (59, .inl (0, 8, .inl (zA f21))), (60, .inl (1, 64, .inr (.inl (zAL f22)))), (64, .inl (0, 2625, .inl (zA f23))), (62, .inl (0, 1260, .inl (zA f49))), (nh, .inl (0, (z41).toNat, .inl (zA (fun _ => 0))))]) (B := [(60, .inl (1, 64, .inr (.inl (zAL f22)))), (64, .inl (0, 2625, .inl (zA f23)))]) (L2 := [(57, .inr (9, [.ref 1, .ref 51, .ref 58, .ref 61, .ref 62, .ref nh, .ref 64, .int (zI ve), .int (zI 0), .int (zI 0)])), (58, .inr (1, [.ref 59, .ref 60, .int (zI z15), .int (zI z16), .int (zI z17), .int (zI z18), .int (zI z19), .int (zI z20)])), (59, .inl (0, 8, .inl (zA f21))), (60, .inl (1, 64, .inr (.inl (zAL f22)))), (64, .inl (0, 2625, .inl (zA f23))), (62, .inl (0, 1260, .inl (zA f49))), (nh, .inl (0, (z41).toNat, .inl (zA (fun _ => 0)))), (60, .inl (1, 64, .inr (.inl (zAL f22)))), (64, .inl (0, 2625, .inl (zA f23)))]) (k := 59) (c := .inl (0, 8, .inl (zA f21))) (e := .inl (0, 8, .inl (zA f21))) rfl rfl (List.mem_of_getElem? (i := 2) rfl) ?_
        refine J_dupc (A := [(57, .inr (9, [.ref 1, .ref 51, .ref 58, .ref 61, .ref 62, .ref nh, .ref 64, .int (zI ve), .int (zI 0), .int (zI 0)])), (58, .inr (1, [.ref 59, .ref 60, .int (zI z15), .int (zI z16), .int (zI z17), .int (zI z18), .int (zI z19), .int (zI z20)])), (59, .inl (0, 8, .inl (zA f21))), (60, .inl (1, 64, .inr (.inl (zAL f22)))), (64, .inl (0, 2625, .inl (zA f23))), (62, .inl (0, 1260, .inl (zA f49))), (nh, .inl (0, (z41).toNat, .inl (zA (fun _ => 0))))]) (B := [(64, .inl (0, 2625, .inl (zA f23)))]) (L2 := [(57, .inr (9, [.ref 1, .ref 51, .ref 58, .ref 61, .ref 62, .ref nh, .ref 64, .int (zI ve), .int (zI 0), .int (zI 0)])), (58, .inr (1, [.ref 59, .ref 60, .int (zI z15), .int (zI z16), .int (zI z17), .int (zI z18), .int (zI z19), .int (zI z20)])), (59, .inl (0, 8, .inl (zA f21))), (60, .inl (1, 64, .inr (.inl (zAL f22)))), (64, .inl (0, 2625, .inl (zA f23))), (62, .inl (0, 1260, .inl (zA f49))), (nh, .inl (0, (z41).toNat, .inl (zA (fun _ => 0)))), (64, .inl (0, 2625, .inl (zA f23)))]) (k := 60) (c := .inl (1, 64, .inr (.inl (zAL f22)))) (e := .inl (1, 64, .inr (.inl (zAL f22)))) rfl rfl (List.mem_of_getElem? (i := 3) rfl) ?_
        refine J_dupc (A := [(57, .inr (9, [.ref 1, .ref 51, .ref 58, .ref 61, .ref 62, .ref nh, .ref 64, .int (zI ve), .int (zI 0), .int (zI 0)])), (58, .inr (1, [.ref 59, .ref 60, .int (zI z15), .int (zI z16), .int (zI z17), .int (zI z18), .int (zI z19), .int (zI z20)])), (59, .inl (0, 8, .inl (zA f21))), (60, .inl (1, 64, .inr (.inl (zAL f22)))), (64, .inl (0, 2625, .inl (zA f23))), (62, .inl (0, 1260, .inl (zA f49))), (nh, .inl (0, (z41).toNat, .inl (zA (fun _ => 0))))]) (B := []) (L2 := [(57, .inr (9, [.ref 1, .ref 51, .ref 58, .ref 61, .ref 62, .ref nh, .ref 64, .int (zI ve), .int (zI 0), .int (zI 0)])), (58, .inr (1, [.ref 59, .ref 60, .int (zI z15), .int (zI z16), .int (zI z17), .int (zI z18), .int (zI z19), .int (zI z20)])), (59, .inl (0, 8, .inl (zA f21))), (60, .inl (1, 64, .inr (.inl (zAL f22)))), (64, .inl (0, 2625, .inl (zA f23))), (62, .inl (0, 1260, .inl (zA f49))), (nh, .inl (0, (z41).toNat, .inl (zA (fun _ => 0))))]) (k := 64) (c := .inl (0, 2625, .inl (zA f23))) (e := .inl (0, 2625, .inl (zA f23))) rfl rfl (List.mem_of_getElem? (i := 4) rfl) ?_
        exact J_vret dX9_prepare_61 rfl (Nat.le_of_ble_eq_true rfl) (by show ((S).toNat : Nat) ≤ (S).toNat; omega) ⟨z15, z16, z17, z18, z19, z20, f21, f22, f23, f49, (fun _ => 0), nh, z41, (nh + 1), 0, 0, rfl, rfl, h24, h25, h26, h27, h28, h29, h30, h31, h32, h33, h34, h35, h36, h37, (fill_Rg2 q29 h50 (by decide) (by decide)), (Fx_of q1), (NLt.self _), (NLe.step (NLe.refl _)), h43, (v_fe405a789f q10 h45), (StOK.fresh (fill_Rg h50 (Int.le_refl _) (by decide) (by decide))), (v_3ae73fe288 h42 h43), (Or.inr ⟨(v_0b660d5a9b h42), (v_d9fe08462c h44), (v_d464d4c634 h46), rfl, rfl⟩), (Rg.const v_9c5011c36f v_cd342b47c7), v_2ca2bbca1f, v_2ca2bbca1f⟩
set_option maxHeartbeats 4000000 in
set_option maxRecDepth 100000 in
theorem t_to {l : Launch} {G : jG} {nh : Nat} {fh : Nat → Option va_E} (x : Int) (i : Int) (many : Int) (ks : Nat) (ve : Int) (ss : Int) (vs : Int) (df : Int → Int) (sf : Int → Int) (ns : Int) (q0 : 0 ≤ x) (q1 : x < many) (q2 : 0 ≤ i) (q3 : i < df x) (q4 : Fx ks) (q5 : 22 * many ≤ ns) (q6 : many ≤ 1260) (q7 : ns ≤ 100000) (q8 : StOK df sf many) (hk57 : fh 57 = some (.inr (9, [.ref 1, .ref 51, .ref 58, .ref 61, .ref 62, .ref ks, .ref 64, .int (zI ve), .int (zI ss), .int (zI vs)]))) (hk62 : fh 62 = some (.inl (0, 1260, .inl (zA df)))) (hkks : fh ks = some (.inl (0, (ns).toNat, .inl (zA sf)))) : JM l G yX9_to MX9_to { frames := 0, cells := 0, slots := 0, locals := 0 } [.ref 57, .int (zI x), .int (zI i)] (nh, fh) (fun rr h9 => ∃ r : Int, rr = some (.int (zI r)) ∧ h9 = (nh, fh) ∧ (0 ≤ r) ∧ (r < many) ∧ (zand (sf (22 * x + i)) 2047 = r)) := by
  refine JM.of (by decide) rfl (fun h => by cases h) (Nat.le_of_ble_eq_true rfl) ⟨0, rfl⟩ ?_
  refine J_hc0 (J_ls (ls2 := [some (.ref 57), some (.int (zI x)), some (.int (zI i))]) rfl ?_)
  refine J_aload_n dX9_to_0 rfl rfl ?_
  refine J_get (v := .ref ks) dX9_to_1 fl_X9_25 hk57 rfl ?_
  obtain ⟨z1, ez1⟩ : ∃ z : Int, df x = z := ⟨_, rfl⟩
  have h2 := StOK.deg q8 (v_2b02420001 q0) (v_b9aca61388 q1) ez1
  refine J_iload_n dX9_to_4 rfl rfl ?_
  refine Z_bipush (n := 22) dX9_to_5 (by decide +kernel) ?_
  refine Z_imul (c := 22 * x) dX9_to_7 v_40f5fee78f ?_
  refine J_iload_n dX9_to_8 rfl rfl ?_
  refine Z_iadd (c := i + 22 * x) dX9_to_9 v_ad6305c414 ?_
  obtain ⟨z3, ez3⟩ : ∃ z : Int, sf (i + 22 * x) = z := ⟨_, rfl⟩
  refine Y_iald (z := z3) ns dX9_to_10 hkks (Int.toNat_of_nonneg (v_4e827dc1f5 q0 q1 q5)) (v_49a98948d1 q7) (v_20ea8ee269 q0 q2) (v_b360e62d4f q1 q3 q5 ez1 h2.2) ez3 ?_
  refine Z_sipush (n := 2047) dX9_to_11 (by decide +kernel) ?_
  obtain ⟨z4, ez4⟩ : ∃ z : Int, zand z3 2047 = z := ⟨_, rfl⟩
  refine Y_iand (z := z4) dX9_to_14 ez4 ?_
  have h5 : zr z4 := by rw [← ez4]; exact zr_toInt _
  have h6 : 0 ≤ z4 ∧ z4 ≤ 2047 := zand_mask 11 (by decide) (by decide +kernel) (by decide) ez4
  exact J_iret dX9_to_15 rfl rfl (Nat.le_of_ble_eq_true rfl) (Nat.le_of_ble_eq_true rfl) ⟨z4, rfl, rfl, ((StOK.to q8 q0 q1 q2 q3 (by rw [Int.add_comm]; exact ez3) ez4).1), ((StOK.to q8 q0 q1 q2 q3 (by rw [Int.add_comm]; exact ez3) ez4).2), (by rw [Int.add_comm (22 * x) i, ez3]; exact ez4)⟩
set_option maxHeartbeats 4000000 in
set_option maxRecDepth 100000 in
theorem t_takes {l : Launch} {G : jG} {nh : Nat} {fh : Nat → Option va_E} (x : Int) (i : Int) (many : Int) (ks : Nat) (ve : Int) (ss : Int) (vs : Int) (df : Int → Int) (sf : Int → Int) (ns : Int) (q0 : 0 ≤ x) (q1 : x < many) (q2 : 0 ≤ i) (q3 : i < df x) (q4 : Fx ks) (q5 : 22 * many ≤ ns) (q6 : many ≤ 1260) (q7 : ns ≤ 100000) (q8 : StOK df sf many) (q9 : Rg sf ns (-2147483648) 2147483647) (hk57 : fh 57 = some (.inr (9, [.ref 1, .ref 51, .ref 58, .ref 61, .ref 62, .ref ks, .ref 64, .int (zI ve), .int (zI ss), .int (zI vs)]))) (hk62 : fh 62 = some (.inl (0, 1260, .inl (zA df)))) (hkks : fh ks = some (.inl (0, (ns).toNat, .inl (zA sf)))) : JM l G yX9_takes MX9_takes { frames := 0, cells := 0, slots := 0, locals := 0 } [.ref 57, .int (zI x), .int (zI i)] (nh, fh) (fun rr h9 => ∃ r : Int, rr = some (.int (zI r)) ∧ h9 = (nh, fh) ∧ (1 ≤ r) ∧ (r ≤ 99)) := by
  refine JM.of (by decide) rfl (fun h => by cases h) (Nat.le_of_ble_eq_true rfl) ⟨0, rfl⟩ ?_
  refine J_hc0 (J_ls (ls2 := [some (.ref 57), some (.int (zI x)), some (.int (zI i))]) rfl ?_)
  refine J_aload_n dX9_takes_0 rfl rfl ?_
  refine J_get (v := .ref ks) dX9_takes_1 fl_X9_25 hk57 rfl ?_
  obtain ⟨z1, ez1⟩ : ∃ z : Int, df x = z := ⟨_, rfl⟩
  have h2 := StOK.deg q8 (v_2b02420001 q0) (v_b9aca61388 q1) ez1
  refine J_iload_n dX9_takes_4 rfl rfl ?_
  refine Z_bipush (n := 22) dX9_takes_5 (by decide +kernel) ?_
  refine Z_imul (c := 22 * x) dX9_takes_7 v_40f5fee78f ?_
  refine J_iload_n dX9_takes_8 rfl rfl ?_
  refine Z_iadd (c := i + 22 * x) dX9_takes_9 v_ad6305c414 ?_
  obtain ⟨z3, ez3⟩ : ∃ z : Int, sf (i + 22 * x) = z := ⟨_, rfl⟩
  have h4 := Rg.at q9 (v_20ea8ee269 q0 q2) (v_b360e62d4f q1 q3 q5 ez1 h2.2) ez3
  refine Y_iald (z := z3) ns dX9_takes_10 hkks (Int.toNat_of_nonneg (v_4e827dc1f5 q0 q1 q5)) (v_49a98948d1 q7) (v_20ea8ee269 q0 q2) (v_b360e62d4f q1 q3 q5 ez1 h2.2) ez3 ?_
  refine Z_bipush (n := 11) dX9_takes_11 (by decide +kernel) ?_
  obtain ⟨z5, ez5⟩ : ∃ z : Int, zshr z3 11 = z := ⟨_, rfl⟩
  refine Y_ishr (z := z5) dX9_takes_13 ez5 ?_
  have h6 : zr z5 := by rw [← ez5]; exact zr_toInt _
  have h7 : 2048 * z5 ≤ z3 ∧ z3 ≤ 2048 * z5 + 2047 := dv_lem (zshr_div (p := 2048) 11 11 (v_f306e1cdb8 h4.1 h4.2) (by decide +kernel) (by decide) ez5).symm (by decide)
  exact J_iret dX9_takes_14 rfl rfl (Nat.le_of_ble_eq_true rfl) (Nat.le_of_ble_eq_true rfl) ⟨z5, rfl, rfl, ((StOK.takes q8 q0 q1 q2 q3 (by rw [Int.add_comm]; exact ez3) ez5).1), ((StOK.takes q8 q0 q1 q2 q3 (by rw [Int.add_comm]; exact ez3) ez5).2)⟩
set_option maxHeartbeats 4000000 in
set_option maxRecDepth 100000 in
theorem t_add {l : Launch} {G : jG} {nh : Nat} {fh : Nat → Option va_E} (x : Int) (to : Int) (tk : Int) (ks : Nat) (ve : Int) (ss : Int) (vs : Int) (many : Int) (lc : Int) (fo : Int) (wc : Int) (cc : Int) (sc : Int) (wa : Int → Int) (wb : Int → Int) (df : Int → Int) (sf : Int → Int) (ns : Int) (q0 : 0 ≤ x) (q1 : x < many) (q2 : Fx ks) (q3 : 1 ≤ many) (q4 : many ≤ 1260) (q5 : 0 ≤ lc) (q6 : lc ≤ 6) (q7 : -1 ≤ fo) (q8 : fo < lc) (q9 : 0 ≤ wc) (q10 : wc ≤ 8) (q11 : 0 ≤ cc) (q12 : cc ≤ 6) (q13 : 0 ≤ sc) (q14 : sc ≤ 12) (q15 : Rg wa 8 (-2147483648) 2147483647) (q16 : Rg wb 8 (-2147483648) 2147483647) (q17 : 22 * many ≤ ns) (q18 : ns ≤ 100000) (q19 : StOK df sf many) (q20 : Rg sf ns (-2147483648) 2147483647) (q21 : -1 ≤ to) (q22 : to < many) (q23 : 1 ≤ tk) (q24 : tk ≤ 99) (q25 : 0 ≤ df x) (hk57 : fh 57 = some (.inr (9, [.ref 1, .ref 51, .ref 58, .ref 61, .ref 62, .ref ks, .ref 64, .int (zI ve), .int (zI ss), .int (zI vs)]))) (hk1 : fh 1 = some (.inr (8, [.ref 2, .ref 3, .ref 4, .int (zI lc), .int (zI fo), .ref 11, .ref 12, .int (zI wc), .ref 13, .ref 14, .int (zI cc), .ref 15, .ref 16, .int (zI sc)]))) (hk11 : fh 11 = some (.inl (0, 8, .inl (zA wa)))) (hk12 : fh 12 = some (.inl (0, 8, .inl (zA wb)))) (hk62 : fh 62 = some (.inl (0, 1260, .inl (zA df)))) (hkks : fh ks = some (.inl (0, (ns).toNat, .inl (zA sf)))) : JM l G yX9_add MX9_add { frames := 1, cells := 0, slots := 0, locals := 24 } [.ref 57, .int (zI x), .int (zI to), .int (zI tk)] (nh, fh) (fun rr h9 => ∃ dg : Int → Int, ∃ sg : Int → Int, rr = none ∧ h9 = (nh, hc fh [(62, .inl (0, 1260, .inl (zA dg))), (ks, .inl (0, (ns).toNat, .inl (zA sg)))]) ∧ (StOK dg sg many) ∧ (KeptO df sf dg sg many x) ∧ (0 ≤ dg x) ∧ (dg x ≤ 22) ∧ (Rg sg ns (-2147483648) 2147483647)) := by
  refine JM.of (by decide) rfl (fun h => by cases h) (Nat.le_of_ble_eq_true rfl) ⟨0, rfl⟩ ?_
  refine J_hc0 (J_ls (ls2 := [some (.ref 57), some (.int (zI x)), some (.int (zI to)), some (.int (zI tk))]) rfl ?_)
  refine J_iload_n dX9_add_0 rfl rfl ?_
  refine Z_iconst (n := -1) dX9_add_1 ?_
  refine Z_icmp_eq (tgt := 61) dX9_add_2 (by decide) (v_e305852bbd q4 q21 q22) v_d64efa60f9 (fun h1 => ?_) (fun h1 => ?_)
  · refine J_touch (k := ks) (e := .inl (0, (ns).toNat, .inl (zA sf))) hkks ?_
    refine J_touch (k := 62) (e := .inl (0, 1260, .inl (zA df))) (hcn (Ne.symm (q2 62 (by decide))) hk62) ?_
    exact J_vret dX9_add_61 rfl (Nat.le_of_ble_eq_true rfl) (Nat.le_of_ble_eq_true rfl) ⟨df, sf, rfl, rfl, (q19), (KeptO.refl), (q25), (by have := StOK.deg q19 q0 q1 rfl; omega), q20⟩
  · refine J_aload_n dX9_add_5 rfl rfl ?_
    refine J_get (v := .ref 1) dX9_add_6 fl_X9_42 hk57 rfl ?_
    refine J_iload_n dX9_add_9 rfl rfl ?_
    refine J_iload_n dX9_add_10 rfl rfl ?_
    refine J_callV (st := []) dX9_add_11 cv_X9_145 (s_wallBetween x to lc fo wc cc sc wa wb (v_23d004c61f q0 q1 q4) (v_e305852bbd q4 q21 q22) q5 q6 q7 q8 q9 q10 q11 q12 q13 q14 q15 q16 hk1 hk11 hk12) hk1 rfl rfl (Nat.le_of_ble_eq_true rfl) ⟨(Nat.le_of_ble_eq_true rfl), (Nat.le_of_ble_eq_true rfl)⟩ ⟨(Nat.le_of_ble_eq_true rfl), (Nat.le_of_ble_eq_true rfl)⟩ (fun r h9 hp => ?_)
    rcases hp with ⟨z2, rfl, rfl, h3, h4, h5⟩ | ⟨rfl, rfl, h6⟩
    · refine J_nf (nh2 := nh) (ck2 := 0) (sk2 := 0) (st2 := [.int (zI z2)]) rfl rfl rfl rfl ?_
      refine Z_iconst (n := -1) dX9_add_14 ?_
      refine Z_icmp_ne (tgt := 61) dX9_add_15 (by decide) (v_5282293a48 q10 h3 h4) v_d64efa60f9 (fun h7 => ?_) (fun h7 => absurd h7 (v_ec89eb1211 h3))
      refine J_touch (k := ks) (e := .inl (0, (ns).toNat, .inl (zA sf))) hkks ?_
      refine J_touch (k := 62) (e := .inl (0, 1260, .inl (zA df))) (hcn (Ne.symm (q2 62 (by decide))) hk62) ?_
      exact J_vret dX9_add_61 rfl (Nat.le_of_ble_eq_true rfl) (Nat.le_of_ble_eq_true rfl) ⟨df, sf, rfl, rfl, (q19), (KeptO.refl), (q25), (by have := StOK.deg q19 q0 q1 rfl; omega), q20⟩
    · refine J_nf (nh2 := nh) (ck2 := 0) (sk2 := 0) (st2 := [.int (zI (-1))]) rfl rfl rfl rfl ?_
      refine Z_iconst (n := -1) dX9_add_14 ?_
      refine Z_icmp_ne (tgt := 61) dX9_add_15 (by decide) v_d64efa60f9 v_d64efa60f9 (fun h8 => absurd h8 (fun q => q v_6d2ae2573e)) (fun h8 => ?_)
      refine J_aload_n dX9_add_18 rfl rfl ?_
      refine J_get (v := .ref 62) dX9_add_19 fl_X9_22 hk57 rfl ?_
      refine J_iload_n dX9_add_22 rfl rfl ?_
      obtain ⟨z9, ez9⟩ : ∃ z : Int, df x = z := ⟨_, rfl⟩
      have h10 := StOK.deg q19 (v_2b02420001 q0) (v_b9aca61388 q1) ez9
      refine Y_iald (z := z9) 1260 dX9_add_23 hk62 rfl (by decide) (v_2b02420001 q0) (v_6251b724b8 q1 q4) ez9 ?_
      refine Z_bipush (n := 22) dX9_add_24 (by decide +kernel) ?_
      refine Z_icmp_ge (tgt := 61) dX9_add_26 (by decide) (v_2e7a4574f6 h10.1 h10.2) v_47b1fdf360 (fun h11 => ?_) (fun h11 => ?_)
      · refine J_touch (k := ks) (e := .inl (0, (ns).toNat, .inl (zA sf))) hkks ?_
        refine J_touch (k := 62) (e := .inl (0, 1260, .inl (zA df))) (hcn (Ne.symm (q2 62 (by decide))) hk62) ?_
        exact J_vret dX9_add_61 rfl (Nat.le_of_ble_eq_true rfl) (Nat.le_of_ble_eq_true rfl) ⟨df, sf, rfl, rfl, (q19), (KeptO.refl), (q25), (by have := StOK.deg q19 q0 q1 rfl; omega), q20⟩
      · refine J_aload_n dX9_add_29 rfl rfl ?_
        refine J_get (v := .ref ks) dX9_add_30 fl_X9_25 hk57 rfl ?_
        refine J_iload_n dX9_add_33 rfl rfl ?_
        refine Z_bipush (n := 22) dX9_add_34 (by decide +kernel) ?_
        refine Z_imul (c := 22 * x) dX9_add_36 v_40f5fee78f ?_
        refine J_aload_n dX9_add_37 rfl rfl ?_
        refine J_get (v := .ref 62) dX9_add_38 fl_X9_22 hk57 rfl ?_
        refine J_iload_n dX9_add_41 rfl rfl ?_
        refine Y_iald (z := z9) 1260 dX9_add_42 hk62 rfl (by decide) (v_2b02420001 q0) (v_6251b724b8 q1 q4) ez9 ?_
        refine Z_iadd (c := 22 * x + z9) dX9_add_43 rfl ?_
        refine J_iload_n dX9_add_44 rfl rfl ?_
        refine J_iload_n dX9_add_45 rfl rfl ?_
        refine Z_bipush (n := 11) dX9_add_46 (by decide +kernel) ?_
        obtain ⟨z12, ez12⟩ : ∃ z : Int, zshl tk 11 = z := ⟨_, rfl⟩
        refine Y_ishl (z := z12) dX9_add_48 ez12 ?_
        have h13 : zr z12 := by rw [← ez12]; exact zr_toInt _
        obtain ⟨z14, ez14⟩ : ∃ z : Int, zor to z12 = z := ⟨_, rfl⟩
        refine Y_ior (z := z14) dX9_add_49 ez14 ?_
        have h15 : zr z14 := by rw [← ez14]; exact zr_toInt _
        refine Y_iast (v := z14) ns dX9_add_50 hkks (Int.toNat_of_nonneg (v_5f949a6f78 q3 q17)) (v_49a98948d1 q18) (v_46488443b2 q0 q25 ez9) (v_5a3ad24ac8 q1 q17 h11) (fun f16 ef16 => ?_)
        have h17 : Rg f16 ns (-2147483648) 2147483647 := Rg.ups q20 ef16 (v_9c631c66d9 h15) (v_602fda786b h15)
        refine J_aload_n dX9_add_51 rfl rfl ?_
        refine J_get (v := .ref 62) dX9_add_52 fl_X9_22 (hcn (Ne.symm (q2 57 (by decide))) hk57) rfl ?_
        refine J_iload_n dX9_add_55 rfl rfl ?_
        refine J_dup2_11 dX9_add_56 rfl rfl ?_
        refine Y_iald (z := z9) 1260 dX9_add_57 (hcn (Ne.symm (q2 62 (by decide))) hk62) rfl (by decide) (v_2b02420001 q0) (v_6251b724b8 q1 q4) ez9 ?_
        refine Z_iconst (n := 1) dX9_add_58 ?_
        refine Z_iadd (c := z9 + 1) dX9_add_59 rfl ?_
        refine Y_iast (v := z9 + 1) 1260 dX9_add_60 (hcn (Ne.symm (q2 62 (by decide))) hk62) rfl (by decide) (v_2b02420001 q0) (v_6251b724b8 q1 q4) (fun f18 ef18 => ?_)
        exact J_vret dX9_add_61 rfl (Nat.le_of_ble_eq_true rfl) (Nat.le_of_ble_eq_true rfl) ⟨f18, f16, rfl, rfl, ((StOK.add (w := z14) (d := z9) q19 q0 q1 (v_76edbadb48 q4) ez9 (v_9af1543160 q25 ez9) (v_a44dd954a1 h11) (v_a708073960 q21 h1) (v_b9aca61388 q22) (v_5dfb8272e3 q23) (v_ec44273dfa q24) (by rw [ez12]; exact ez14) ef16 ef18).1), ((StOK.add (w := z14) (d := z9) q19 q0 q1 (v_76edbadb48 q4) ez9 (v_9af1543160 q25 ez9) (v_a44dd954a1 h11) (v_a708073960 q21 h1) (v_b9aca61388 q22) (v_5dfb8272e3 q23) (v_ec44273dfa q24) (by rw [ez12]; exact ez14) ef16 ef18).2), (by rw [ef18, up_same]; exact (v_ae13ccaf7a h10.1)), (by rw [ef18, up_same]; exact (v_f0b83b3866 h11)), h17⟩
set_option maxHeartbeats 4000000 in
set_option maxRecDepth 100000 in
theorem t_findSteps {l : Launch} {G : jG} {nh : Nat} {fh : Nat → Option va_E} (x : Int) (ks : Nat) (ve : Int) (ss : Int) (vs : Int) (many : Int) (places : Int) (ff : Int → Int) (rf : Int → Int) (lc : Int) (fo : Int) (wc : Int) (cc : Int) (sc : Int) (wa : Int → Int) (wb : Int → Int) (tf : Int → Int) (df : Int → Int) (sf : Int → Int) (ns : Int) (vf : Int → Int) (q0 : 0 ≤ x) (q1 : x < many) (q2 : Fx ks) (q3 : 0 ≤ ss) (q4 : ss ≤ 1) (q5 : 0 ≤ vs) (q6 : vs ≤ 1) (q7 : zr ve) (q8 : 1 ≤ many) (q9 : many ≤ 1260) (q10 : 0 ≤ places) (q11 : places ≤ 7) (q12 : okF ff) (q13 : many = Hi ff) (q14 : places = bsum ff) (q15 : RowsTo rf ff many) (q16 : Rg rf 1260 (-2147483648) 2147483647) (q17 : 0 ≤ lc) (q18 : lc ≤ 6) (q19 : -1 ≤ fo) (q20 : fo < lc) (q21 : 0 ≤ wc) (q22 : wc ≤ 8) (q23 : 0 ≤ cc) (q24 : cc ≤ 6) (q25 : 0 ≤ sc) (q26 : sc ≤ 12) (q27 : Rg wa 8 (-2147483648) 2147483647) (q28 : Rg wb 8 (-2147483648) 2147483647) (q29 : Rg tf 2 (-2147483648) 2147483647) (q30 : Rg vf 2625 0 99) (q31 : 22 * many ≤ ns) (q32 : ns ≤ 100000) (q33 : StOK df sf many) (q34 : Rg sf ns (-2147483648) 2147483647) (hk57 : fh 57 = some (.inr (9, [.ref 1, .ref 51, .ref 58, .ref 61, .ref 62, .ref ks, .ref 64, .int (zI ve), .int (zI ss), .int (zI vs)]))) (hk51 : fh 51 = some (.inr (0, [.ref 52, .ref 53, .int (zI many), .int (zI places)]))) (hk52 : fh 52 = some (.inl (0, 1260, .inl (zA rf)))) (hk1 : fh 1 = some (.inr (8, [.ref 2, .ref 3, .ref 4, .int (zI lc), .int (zI fo), .ref 11, .ref 12, .int (zI wc), .ref 13, .ref 14, .int (zI cc), .ref 15, .ref 16, .int (zI sc)]))) (hk3 : fh 3 = some (.inl (0, 2, .inl (zA tf)))) (hk11 : fh 11 = some (.inl (0, 8, .inl (zA wa)))) (hk12 : fh 12 = some (.inl (0, 8, .inl (zA wb)))) (hk62 : fh 62 = some (.inl (0, 1260, .inl (zA df)))) (hkks : fh ks = some (.inl (0, (ns).toNat, .inl (zA sf)))) (hk64 : fh 64 = some (.inl (0, 2625, .inl (zA vf)))) : JM l G yX9_findSteps MX9_findSteps { frames := 2, cells := 0, slots := 0, locals := 47 } [.ref 57, .int (zI x)] (nh, fh) (fun rr h9 => ∃ dg : Int → Int, ∃ sg : Int → Int, rr = none ∧ h9 = (nh, hc fh [(62, .inl (0, 1260, .inl (zA dg))), (ks, .inl (0, (ns).toNat, .inl (zA sg)))]) ∧ (StOK dg sg many) ∧ (KeptO df sf dg sg many x) ∧ (0 ≤ dg x) ∧ (Rg sg ns (-2147483648) 2147483647)) := by
  refine JM.of (by decide) rfl (fun h => by cases h) (Nat.le_of_ble_eq_true rfl) ⟨11, rfl⟩ ?_
  refine J_hc0 (J_ls (ls2 := [some (.ref 57), some (.int (zI x)), none, none, none, none, none, none, none, none, none, none, none]) rfl ?_)
  refine J_aload_n dX9_findSteps_0 rfl rfl ?_
  refine J_get (v := .ref 62) dX9_findSteps_1 fl_X9_22 hk57 rfl ?_
  refine J_iload_n dX9_findSteps_4 rfl rfl ?_
  refine Z_iconst (n := 0) dX9_findSteps_5 ?_
  refine Y_iast (v := 0) 1260 dX9_findSteps_6 hk62 rfl (by decide) (v_2b02420001 q0) (v_6251b724b8 q1 q9) (fun f1 ef1 => ?_)
  refine J_aload_n dX9_findSteps_7 rfl rfl ?_
  refine J_get (v := .ref 51) dX9_findSteps_8 fl_X9_46 hk57 rfl ?_
  refine J_callV (st := []) dX9_findSteps_11 cv_X9_76 (g_places many places hk51) hk51 rfl rfl (Nat.le_of_ble_eq_true rfl) ⟨(Nat.le_of_ble_eq_true rfl), (Nat.le_of_ble_eq_true rfl)⟩ ⟨(Nat.le_of_ble_eq_true rfl), (Nat.le_of_ble_eq_true rfl)⟩ (fun r h9 hp => ?_)
  obtain ⟨rfl, rfl⟩ := hp
  refine J_nf (nh2 := nh) (ck2 := 0) (sk2 := 0) (st2 := [.int (zI places)]) rfl rfl rfl rfl ?_
  refine J_istore_n dX9_findSteps_14 rfl (Nat.le_of_ble_eq_true rfl) rfl ?_
  refine J_ls (ls2 := [some (.ref 57), some (.int (zI x)), some (.int (zI places)), none, none, none, none, none, none, none, none, none, none]) rfl ?_
  refine J_aload_n dX9_findSteps_15 rfl rfl ?_
  refine J_get (v := .ref 51) dX9_findSteps_16 fl_X9_46 hk57 rfl ?_
  refine J_iload_n dX9_findSteps_19 rfl rfl ?_
  refine J_callV (st := []) dX9_findSteps_20 cv_X9_121 (g_rowOf x many places rf q0 q1 q8 q9 hk51 hk52) hk51 rfl rfl (Nat.le_of_ble_eq_true rfl) ⟨(Nat.le_of_ble_eq_true rfl), (Nat.le_of_ble_eq_true rfl)⟩ ⟨(Nat.le_of_ble_eq_true rfl), (Nat.le_of_ble_eq_true rfl)⟩ (fun r h9 hp => ?_)
  obtain ⟨z2, rfl, rfl, h3⟩ := hp
  have h4 := Rg.at q16 (v_2b02420001 q0) (v_6251b724b8 q1 q9) h3
  refine J_nf (nh2 := nh) (ck2 := 0) (sk2 := 0) (st2 := [.int (zI z2)]) rfl rfl rfl rfl ?_
  refine J_istore_n dX9_findSteps_23 rfl (Nat.le_of_ble_eq_true rfl) rfl ?_
  refine J_ls (ls2 := [some (.ref 57), some (.int (zI x)), some (.int (zI places)), some (.int (zI z2)), none, none, none, none, none, none, none, none, none]) rfl ?_
  refine J_iload_n dX9_findSteps_24 rfl rfl ?_
  refine J_aload_n dX9_findSteps_25 rfl rfl ?_
  refine J_get (v := .ref 51) dX9_findSteps_26 fl_X9_46 hk57 rfl ?_
  refine Z_iconst (n := 0) dX9_findSteps_29 ?_
  refine J_callV (st := [.int (zI z2)]) dX9_findSteps_30 cv_X9_125 (g_shiftOf 0 many places v_939070ca3f v_9801f0d3f8 q10 q11 hk51) hk51 rfl rfl (Nat.le_of_ble_eq_true rfl) ⟨(Nat.le_of_ble_eq_true rfl), (Nat.le_of_ble_eq_true rfl)⟩ ⟨(Nat.le_of_ble_eq_true rfl), (Nat.le_of_ble_eq_true rfl)⟩ (fun r h9 hp => ?_)
  obtain ⟨z5, rfl, rfl, h6⟩ := hp
  refine J_nf (nh2 := nh) (ck2 := 0) (sk2 := 0) (st2 := [.int (zI z5), .int (zI z2)]) rfl rfl rfl rfl ?_
  refine J_callS (st := []) dX9_findSteps_33 cs_X9_128 (g_colourAt z2 z5 (v_f306e1cdb8 h4.1 h4.2) (v_85c429e5bb q10 q11 h6)) rfl rfl (Nat.le_of_ble_eq_true rfl) ⟨(Nat.le_of_ble_eq_true rfl), (Nat.le_of_ble_eq_true rfl)⟩ ⟨(Nat.le_of_ble_eq_true rfl), (Nat.le_of_ble_eq_true rfl)⟩ (fun r h9 hp => ?_)
  obtain ⟨z7, rfl, rfl, h8, h9, h10⟩ := hp
  refine J_nf (nh2 := nh) (ck2 := 0) (sk2 := 0) (st2 := [.int (zI z7)]) rfl rfl rfl rfl ?_
  refine J_istore dX9_findSteps_36 (Nat.le_of_ble_eq_true rfl) rfl ?_
  refine J_ls (ls2 := [some (.ref 57), some (.int (zI x)), some (.int (zI places)), some (.int (zI z2)), some (.int (zI z7)), none, none, none, none, none, none, none, none]) rfl ?_
  refine Z_iconst (n := 0) dX9_findSteps_38 ?_
  refine J_istore dX9_findSteps_39 (Nat.le_of_ble_eq_true rfl) rfl ?_
  refine J_ls (ls2 := [some (.ref 57), some (.int (zI x)), some (.int (zI places)), some (.int (zI z2)), some (.int (zI z7)), some (.int (zI 0)), none, none, none, none, none, none, none]) rfl ?_
  refine Z_iconst (n := 0) dX9_findSteps_41 ?_
  refine J_istore dX9_findSteps_42 (Nat.le_of_ble_eq_true rfl) rfl ?_
  refine J_ls (ls2 := [some (.ref 57), some (.int (zI x)), some (.int (zI places)), some (.int (zI z2)), some (.int (zI z7)), some (.int (zI 0)), some (.int (zI 0)), none, none, none, none, none, none]) rfl ?_
  refine J_touch (k := ks) (e := .inl (0, (ns).toNat, .inl (zA sf))) (hcn (q2 62 (by decide)) hkks) ?_
  have lp44 : ∀ (N44 : Nat) (pair_44 : Int) (left_44 : Int) (d_44 : Int → Int) (w_44 : Int → Int), (0 ≤ left_44) → (left_44 ≤ places) → (pair_44 = prs places left_44) → (StOK d_44 w_44 many) → (KeptO df sf d_44 w_44 many x) → (0 ≤ d_44 x) → (Rg w_44 ns (-2147483648) 2147483647) → (places - left_44).toNat < N44 → J l G MX9_findSteps { frames := 2, cells := 0, slots := 0, locals := 47 } jE (jMQ G { frames := 2, cells := 0, slots := 0, locals := 47 } (fun rr h9 => ∃ dg : Int → Int, ∃ sg : Int → Int, rr = none ∧ h9 = (nh, hc fh [(62, .inl (0, 1260, .inl (zA dg))), (ks, .inl (0, (ns).toNat, .inl (zA sg)))]) ∧ (StOK dg sg many) ∧ (KeptO df sf dg sg many x) ∧ (0 ≤ dg x) ∧ (Rg sg ns (-2147483648) 2147483647))) (nh, hc fh [(ks, .inl (0, (ns).toNat, .inl (zA w_44))), (62, .inl (0, 1260, .inl (zA d_44)))]) 0 0 44 [some (.ref 57), some (.int (zI x)), some (.int (zI places)), some (.int (zI z2)), some (.int (zI z7)), some (.int (zI pair_44)), some (.int (zI left_44)), none, none, none, none, none, none] [] := by
    intro N44
    induction N44 with
    | zero => intro pair_44 left_44 d_44 w_44 i44_0 i44_1 i44_2 i44_3 i44_4 i44_5 i44_6 hm; exact absurd hm (Nat.not_lt_zero _)
    | succ N44 ih44 =>
      intro pair_44 left_44 d_44 w_44 i44_0 i44_1 i44_2 i44_3 i44_4 i44_5 i44_6 hm44
      refine J_iload dX9_findSteps_44 rfl ?_
      refine J_iload_n dX9_findSteps_46 rfl rfl ?_
      refine Z_icmp_ge (tgt := 171) dX9_findSteps_47 (by decide) (v_ee3170dbf0 q11 i44_0 i44_1) (v_2ee1de483d q10 q11) (fun h11 => ?_) (fun h11 => ?_)
      · refine J_aload_n dX9_findSteps_171 rfl rfl ?_
        refine J_get (v := .ref 51) dX9_findSteps_172 fl_X9_46 (hcn (Ne.symm (q2 57 (by decide))) (hcn (by decide) hk57)) rfl ?_
        refine J_iload_n dX9_findSteps_175 rfl rfl ?_
        refine J_callV (st := []) dX9_findSteps_176 cv_X9_142 (g_turned z2 many places (v_f306e1cdb8 h4.1 h4.2) q10 q11 (hcn (Ne.symm (q2 51 (by decide))) (hcn (by decide) hk51))) (hcn (Ne.symm (q2 51 (by decide))) (hcn (by decide) hk51)) rfl rfl (Nat.le_of_ble_eq_true rfl) ⟨(Nat.le_of_ble_eq_true rfl), (Nat.le_of_ble_eq_true rfl)⟩ ⟨(Nat.le_of_ble_eq_true rfl), (Nat.le_of_ble_eq_true rfl)⟩ (fun r h9 hp => ?_)
        obtain ⟨z12, rfl, rfl, h13⟩ := hp
        refine J_nf (nh2 := nh) (ck2 := 0) (sk2 := 0) (st2 := [.int (zI z12)]) rfl rfl rfl rfl ?_
        refine J_istore dX9_findSteps_179 (Nat.le_of_ble_eq_true rfl) rfl ?_
        refine J_ls (ls2 := [some (.ref 57), some (.int (zI x)), some (.int (zI places)), some (.int (zI z2)), some (.int (zI z7)), some (.int (zI pair_44)), some (.int (zI z12)), none, none, none, none, none, none]) rfl ?_
        refine J_aload_n dX9_findSteps_181 rfl rfl ?_
        refine J_get (v := .ref 1) dX9_findSteps_182 fl_X9_42 (hcn (Ne.symm (q2 57 (by decide))) (hcn (by decide) hk57)) rfl ?_
        refine J_get (v := .ref 3) dX9_findSteps_185 fl_X9_79 (hcn (Ne.symm (q2 1 (by decide))) (hcn (by decide) hk1)) rfl ?_
        refine Z_iconst (n := 0) dX9_findSteps_188 ?_
        obtain ⟨z14, ez14⟩ : ∃ z : Int, tf 0 = z := ⟨_, rfl⟩
        have h15 := Rg.at q29 v_939070ca3f v_72afd49884 ez14
        refine Y_iald (z := z14) 2 dX9_findSteps_189 (hcn (Ne.symm (q2 3 (by decide))) (hcn (by decide) hk3)) rfl (by decide) v_939070ca3f v_72afd49884 ez14 ?_
        refine Z_iconst (n := 1) dX9_findSteps_190 ?_
        refine Z_icmp_ne (tgt := 215) dX9_findSteps_191 (by decide) (v_f306e1cdb8 h15.1 h15.2) v_4dcc24baa7 (fun h16 => ?_) (fun h16 => ?_)
        · refine J_touch (k := ks) (e := .inl (0, (ns).toNat, .inl (zA w_44))) hch ?_
          refine J_touch (k := 62) (e := .inl (0, 1260, .inl (zA d_44))) (hcn (Ne.symm (q2 62 (by decide))) (hcn (Ne.symm (q2 62 (by decide))) hch)) ?_
          refine J_dupc (A := [(62, .inl (0, 1260, .inl (zA d_44))), (ks, .inl (0, (ns).toNat, .inl (zA w_44)))]) (B := [(62, .inl (0, 1260, .inl (zA d_44)))]) (L2 := [(62, .inl (0, 1260, .inl (zA d_44))), (ks, .inl (0, (ns).toNat, .inl (zA w_44))), (62, .inl (0, 1260, .inl (zA d_44)))]) (k := ks) (c := .inl (0, (ns).toNat, .inl (zA w_44))) (e := .inl (0, (ns).toNat, .inl (zA w_44))) rfl rfl (List.mem_of_getElem? (i := 1) rfl) ?_
          refine J_dupc (A := [(62, .inl (0, 1260, .inl (zA d_44))), (ks, .inl (0, (ns).toNat, .inl (zA w_44)))]) (B := []) (L2 := [(62, .inl (0, 1260, .inl (zA d_44))), (ks, .inl (0, (ns).toNat, .inl (zA w_44)))]) (k := 62) (c := .inl (0, 1260, .inl (zA d_44))) (e := .inl (0, 1260, .inl (zA d_44))) rfl rfl (List.mem_of_getElem? (i := 0) rfl) ?_
          exact J_vret dX9_findSteps_215 rfl (Nat.le_of_ble_eq_true rfl) (Nat.le_of_ble_eq_true rfl) ⟨d_44, w_44, rfl, rfl, i44_3, (i44_4), i44_5, i44_6⟩
        · refine J_iload dX9_findSteps_194 rfl ?_
          refine J_iload_n dX9_findSteps_196 rfl rfl ?_
          refine Z_icmp_eq (tgt := 215) dX9_findSteps_197 (by decide) (v_b25fa51a85 h13) (v_f306e1cdb8 h4.1 h4.2) (fun h17 => ?_) (fun h17 => ?_)
          · refine J_touch (k := ks) (e := .inl (0, (ns).toNat, .inl (zA w_44))) hch ?_
            refine J_touch (k := 62) (e := .inl (0, 1260, .inl (zA d_44))) (hcn (Ne.symm (q2 62 (by decide))) (hcn (Ne.symm (q2 62 (by decide))) hch)) ?_
            refine J_dupc (A := [(62, .inl (0, 1260, .inl (zA d_44))), (ks, .inl (0, (ns).toNat, .inl (zA w_44)))]) (B := [(62, .inl (0, 1260, .inl (zA d_44)))]) (L2 := [(62, .inl (0, 1260, .inl (zA d_44))), (ks, .inl (0, (ns).toNat, .inl (zA w_44))), (62, .inl (0, 1260, .inl (zA d_44)))]) (k := ks) (c := .inl (0, (ns).toNat, .inl (zA w_44))) (e := .inl (0, (ns).toNat, .inl (zA w_44))) rfl rfl (List.mem_of_getElem? (i := 1) rfl) ?_
            refine J_dupc (A := [(62, .inl (0, 1260, .inl (zA d_44))), (ks, .inl (0, (ns).toNat, .inl (zA w_44)))]) (B := []) (L2 := [(62, .inl (0, 1260, .inl (zA d_44))), (ks, .inl (0, (ns).toNat, .inl (zA w_44)))]) (k := 62) (c := .inl (0, 1260, .inl (zA d_44))) (e := .inl (0, 1260, .inl (zA d_44))) rfl rfl (List.mem_of_getElem? (i := 0) rfl) ?_
            exact J_vret dX9_findSteps_215 rfl (Nat.le_of_ble_eq_true rfl) (Nat.le_of_ble_eq_true rfl) ⟨d_44, w_44, rfl, rfl, i44_3, (i44_4), i44_5, i44_6⟩
          · refine J_aload_n dX9_findSteps_200 rfl rfl ?_
            refine J_iload_n dX9_findSteps_201 rfl rfl ?_
            refine J_aload_n dX9_findSteps_202 rfl rfl ?_
            refine J_get (v := .ref 51) dX9_findSteps_203 fl_X9_46 (hcn (Ne.symm (q2 57 (by decide))) (hcn (by decide) hk57)) rfl ?_
            refine J_iload dX9_findSteps_206 rfl ?_
            refine J_callV (st := [.int (zI x), .ref 57]) dX9_findSteps_208 cv_X9_136 (g_find z12 many places rf h13 q8 q9 q16 (Rows_mono q15 q12 q13) (hcn (Ne.symm (q2 51 (by decide))) (hcn (by decide) hk51)) (hcn (Ne.symm (q2 52 (by decide))) (hcn (by decide) hk52))) (hcn (Ne.symm (q2 51 (by decide))) (hcn (by decide) hk51)) rfl rfl (Nat.le_of_ble_eq_true rfl) ⟨(Nat.le_of_ble_eq_true rfl), (Nat.le_of_ble_eq_true rfl)⟩ ⟨(Nat.le_of_ble_eq_true rfl), (Nat.le_of_ble_eq_true rfl)⟩ (fun r h9 hp => ?_)
            obtain ⟨z18, rfl, rfl, h19, h20, h21⟩ := hp
            refine J_nf (nh2 := nh) (ck2 := 0) (sk2 := 0) (st2 := [.int (zI z18), .int (zI x), .ref 57]) rfl rfl rfl rfl ?_
            refine Z_iconst (n := 1) dX9_findSteps_211 ?_
            refine J_callV (st := []) dX9_findSteps_212 cv_X9_139 (t_add x z18 1 ks ve ss vs many lc fo wc cc sc wa wb d_44 w_44 ns q0 q1 q2 q8 q9 q17 q18 q19 q20 q21 q22 q23 q24 q25 q26 q27 q28 q31 q32 i44_3 i44_6 h19 h20 v_bbcfac9b7d v_561ce076da i44_5 (hcn (Ne.symm (q2 57 (by decide))) (hcn (by decide) hk57)) (hcn (Ne.symm (q2 1 (by decide))) (hcn (by decide) hk1)) (hcn (Ne.symm (q2 11 (by decide))) (hcn (by decide) hk11)) (hcn (Ne.symm (q2 12 (by decide))) (hcn (by decide) hk12)) (hcn (Ne.symm (q2 62 (by decide))) hch) hch) (hcn (Ne.symm (q2 57 (by decide))) (hcn (by decide) hk57)) rfl rfl (Nat.le_of_ble_eq_true rfl) ⟨(Nat.le_of_ble_eq_true rfl), (Nat.le_of_ble_eq_true rfl)⟩ ⟨(Nat.le_of_ble_eq_true rfl), (Nat.le_of_ble_eq_true rfl)⟩ (fun r h9 hp => ?_)
            obtain ⟨f22, f23, rfl, rfl, h24, h25, h26, h27, h28⟩ := hp
            refine J_nf (nh2 := nh) (ck2 := 0) (sk2 := 0) (st2 := []) rfl rfl rfl rfl ?_
            refine J_app (L3 := [(62, .inl (0, 1260, .inl (zA f22))), (ks, .inl (0, (ns).toNat, .inl (zA f23))), (ks, .inl (0, (ns).toNat, .inl (zA w_44))), (62, .inl (0, 1260, .inl (zA d_44)))]) rfl ?_
            refine J_dupc (A := [(62, .inl (0, 1260, .inl (zA f22))), (ks, .inl (0, (ns).toNat, .inl (zA f23)))]) (B := [(62, .inl (0, 1260, .inl (zA d_44)))]) (L2 := [(62, .inl (0, 1260, .inl (zA f22))), (ks, .inl (0, (ns).toNat, .inl (zA f23))), (62, .inl (0, 1260, .inl (zA d_44)))]) (k := ks) (c := .inl (0, (ns).toNat, .inl (zA w_44))) (e := .inl (0, (ns).toNat, .inl (zA f23))) rfl rfl (List.mem_of_getElem? (i := 1) rfl) ?_
            refine J_dupc (A := [(62, .inl (0, 1260, .inl (zA f22))), (ks, .inl (0, (ns).toNat, .inl (zA f23)))]) (B := []) (L2 := [(62, .inl (0, 1260, .inl (zA f22))), (ks, .inl (0, (ns).toNat, .inl (zA f23)))]) (k := 62) (c := .inl (0, 1260, .inl (zA d_44))) (e := .inl (0, 1260, .inl (zA f22))) rfl rfl (List.mem_of_getElem? (i := 0) rfl) ?_
            exact J_vret dX9_findSteps_215 rfl (Nat.le_of_ble_eq_true rfl) (Nat.le_of_ble_eq_true rfl) ⟨f22, f23, rfl, rfl, h24, (KeptO.trans i44_4 h25), h26, h28⟩
      · refine J_aload_n dX9_findSteps_50 rfl rfl ?_
        refine J_get (v := .ref 51) dX9_findSteps_51 fl_X9_46 (hcn (Ne.symm (q2 57 (by decide))) (hcn (by decide) hk57)) rfl ?_
        refine J_iload dX9_findSteps_54 rfl ?_
        refine J_callV (st := []) dX9_findSteps_56 cv_X9_125 (g_shiftOf left_44 many places i44_0 (v_4e1fda5c2f q11 h11) q10 q11 (hcn (Ne.symm (q2 51 (by decide))) (hcn (by decide) hk51))) (hcn (Ne.symm (q2 51 (by decide))) (hcn (by decide) hk51)) rfl rfl (Nat.le_of_ble_eq_true rfl) ⟨(Nat.le_of_ble_eq_true rfl), (Nat.le_of_ble_eq_true rfl)⟩ ⟨(Nat.le_of_ble_eq_true rfl), (Nat.le_of_ble_eq_true rfl)⟩ (fun r h9 hp => ?_)
        obtain ⟨z29, rfl, rfl, h30⟩ := hp
        refine J_nf (nh2 := nh) (ck2 := 0) (sk2 := 0) (st2 := [.int (zI z29)]) rfl rfl rfl rfl ?_
        refine J_istore dX9_findSteps_59 (Nat.le_of_ble_eq_true rfl) rfl ?_
        refine J_ls (ls2 := [some (.ref 57), some (.int (zI x)), some (.int (zI places)), some (.int (zI z2)), some (.int (zI z7)), some (.int (zI pair_44)), some (.int (zI left_44)), some (.int (zI z29)), none, none, none, none, none]) rfl ?_
        refine J_iload_n dX9_findSteps_61 rfl rfl ?_
        refine J_iload dX9_findSteps_62 rfl ?_
        refine J_callS (st := []) dX9_findSteps_64 cs_X9_128 (g_colourAt z2 z29 (v_f306e1cdb8 h4.1 h4.2) (v_d8240659b1 q11 i44_0 h11 h30)) rfl rfl (Nat.le_of_ble_eq_true rfl) ⟨(Nat.le_of_ble_eq_true rfl), (Nat.le_of_ble_eq_true rfl)⟩ ⟨(Nat.le_of_ble_eq_true rfl), (Nat.le_of_ble_eq_true rfl)⟩ (fun r h9 hp => ?_)
        obtain ⟨z31, rfl, rfl, h32, h33, h34⟩ := hp
        refine J_nf (nh2 := nh) (ck2 := 0) (sk2 := 0) (st2 := [.int (zI z31)]) rfl rfl rfl rfl ?_
        have g35 := Rows_dig q15 q12 q13 q0 q1 h3 q14 (v_2b02420001 i44_0) (v_fe9ea41faa h11) h30 h34
        refine J_istore dX9_findSteps_67 (Nat.le_of_ble_eq_true rfl) rfl ?_
        refine J_ls (ls2 := [some (.ref 57), some (.int (zI x)), some (.int (zI places)), some (.int (zI z2)), some (.int (zI z7)), some (.int (zI pair_44)), some (.int (zI left_44)), some (.int (zI z29)), some (.int (zI z31)), none, none, none, none]) rfl ?_
        refine J_iload dX9_findSteps_69 rfl ?_
        refine Z_iconst (n := 1) dX9_findSteps_71 ?_
        refine Z_iadd (c := left_44 + 1) dX9_findSteps_72 rfl ?_
        refine J_istore dX9_findSteps_73 (Nat.le_of_ble_eq_true rfl) rfl ?_
        refine J_ls (ls2 := [some (.ref 57), some (.int (zI x)), some (.int (zI places)), some (.int (zI z2)), some (.int (zI z7)), some (.int (zI pair_44)), some (.int (zI left_44)), some (.int (zI z29)), some (.int (zI z31)), some (.int (zI (left_44 + 1))), none, none, none]) rfl ?_
        have lp75 : ∀ (N75 : Nat) (pair_75 : Int) (right_75 : Int) (d_75 : Int → Int) (w_75 : Int → Int), (left_44 + 1 ≤ right_75) → (right_75 ≤ places) → (pair_75 = prs places left_44 + right_75 - left_44 - 1) → (StOK d_75 w_75 many) → (KeptO df sf d_75 w_75 many x) → (0 ≤ d_75 x) → (Rg w_75 ns (-2147483648) 2147483647) → (places - right_75).toNat < N75 → J l G MX9_findSteps { frames := 2, cells := 0, slots := 0, locals := 47 } jE (jMQ G { frames := 2, cells := 0, slots := 0, locals := 47 } (fun rr h9 => ∃ dg : Int → Int, ∃ sg : Int → Int, rr = none ∧ h9 = (nh, hc fh [(62, .inl (0, 1260, .inl (zA dg))), (ks, .inl (0, (ns).toNat, .inl (zA sg)))]) ∧ (StOK dg sg many) ∧ (KeptO df sf dg sg many x) ∧ (0 ≤ dg x) ∧ (Rg sg ns (-2147483648) 2147483647))) (nh, hc fh [(ks, .inl (0, (ns).toNat, .inl (zA w_75))), (62, .inl (0, 1260, .inl (zA d_75)))]) 0 0 75 [some (.ref 57), some (.int (zI x)), some (.int (zI places)), some (.int (zI z2)), some (.int (zI z7)), some (.int (zI pair_75)), some (.int (zI left_44)), some (.int (zI z29)), some (.int (zI z31)), some (.int (zI right_75)), none, none, none] [] := by
          intro N75
          induction N75 with
          | zero => intro pair_75 right_75 d_75 w_75 i75_0 i75_1 i75_2 i75_3 i75_4 i75_5 i75_6 hm; exact absurd hm (Nat.not_lt_zero _)
          | succ N75 ih75 =>
            intro pair_75 right_75 d_75 w_75 i75_0 i75_1 i75_2 i75_3 i75_4 i75_5 i75_6 hm75
            refine J_iload dX9_findSteps_75 rfl ?_
            refine J_iload_n dX9_findSteps_77 rfl rfl ?_
            refine Z_icmp_ge (tgt := 165) dX9_findSteps_78 (by decide) (v_a1d89844be q11 i44_0 i75_0 i75_1) (v_2ee1de483d q10 q11) (fun h36 => ?_) (fun h36 => ?_)
            · refine Z_iinc (c := left_44 + 1) (ls2 := [some (.ref 57), some (.int (zI x)), some (.int (zI places)), some (.int (zI z2)), some (.int (zI z7)), some (.int (zI pair_75)), some (.int (zI (left_44 + 1))), some (.int (zI z29)), some (.int (zI z31)), some (.int (zI right_75)), none, none, none]) dX9_findSteps_165 rfl (Nat.le_of_ble_eq_true rfl) rfl rfl rfl ?_
              refine J_goto (tgt := 44) dX9_findSteps_168 (by decide) ?_
              refine J_drop (ls2 := [some (.ref 57), some (.int (zI x)), some (.int (zI places)), some (.int (zI z2)), some (.int (zI z7)), some (.int (zI pair_75)), some (.int (zI (left_44 + 1))), none, none, none, none, none, none]) [true, true, true, true, true, true, true, false, false, false, false, false, false] rfl ?_
              exact ih44 pair_75 (left_44 + 1) d_75 w_75 (v_da458fa48a i44_0) (v_e390a36114 h11) (by rw [prs_step (v_2b02420001 i44_0) (v_fe9ea41faa h11) (v_dc59a041dc q11)]; exact (v_c22f222aa9 i75_1 i75_2 h36)) i75_3 i75_4 i75_5 i75_6 (meas_lt v_90eacd6fd4 (v_8b7dd7d486 h11) hm44)
            · refine J_aload_n dX9_findSteps_81 rfl rfl ?_
              refine J_get (v := .ref 51) dX9_findSteps_82 fl_X9_46 (hcn (Ne.symm (q2 57 (by decide))) (hcn (by decide) hk57)) rfl ?_
              refine J_iload dX9_findSteps_85 rfl ?_
              refine J_callV (st := []) dX9_findSteps_87 cv_X9_125 (g_shiftOf right_75 many places (v_d253cb2c59 i44_0 i75_0) (v_4e1fda5c2f q11 h36) q10 q11 (hcn (Ne.symm (q2 51 (by decide))) (hcn (by decide) hk51))) (hcn (Ne.symm (q2 51 (by decide))) (hcn (by decide) hk51)) rfl rfl (Nat.le_of_ble_eq_true rfl) ⟨(Nat.le_of_ble_eq_true rfl), (Nat.le_of_ble_eq_true rfl)⟩ ⟨(Nat.le_of_ble_eq_true rfl), (Nat.le_of_ble_eq_true rfl)⟩ (fun r h9 hp => ?_)
              obtain ⟨z37, rfl, rfl, h38⟩ := hp
              refine J_nf (nh2 := nh) (ck2 := 0) (sk2 := 0) (st2 := [.int (zI z37)]) rfl rfl rfl rfl ?_
              refine J_istore dX9_findSteps_90 (Nat.le_of_ble_eq_true rfl) rfl ?_
              refine J_ls (ls2 := [some (.ref 57), some (.int (zI x)), some (.int (zI places)), some (.int (zI z2)), some (.int (zI z7)), some (.int (zI pair_75)), some (.int (zI left_44)), some (.int (zI z29)), some (.int (zI z31)), some (.int (zI right_75)), some (.int (zI z37)), none, none]) rfl ?_
              refine J_iload_n dX9_findSteps_92 rfl rfl ?_
              refine J_iload dX9_findSteps_93 rfl ?_
              refine J_callS (st := []) dX9_findSteps_95 cs_X9_128 (g_colourAt z2 z37 (v_f306e1cdb8 h4.1 h4.2) (v_919d70eacf q11 i44_0 i75_0 h36 h38)) rfl rfl (Nat.le_of_ble_eq_true rfl) ⟨(Nat.le_of_ble_eq_true rfl), (Nat.le_of_ble_eq_true rfl)⟩ ⟨(Nat.le_of_ble_eq_true rfl), (Nat.le_of_ble_eq_true rfl)⟩ (fun r h9 hp => ?_)
              obtain ⟨z39, rfl, rfl, h40, h41, h42⟩ := hp
              refine J_nf (nh2 := nh) (ck2 := 0) (sk2 := 0) (st2 := [.int (zI z39)]) rfl rfl rfl rfl ?_
              have g43 := Rows_dig q15 q12 q13 q0 q1 h3 q14 (v_d253cb2c59 i44_0 i75_0) (v_fe9ea41faa h36) h38 h42
              refine J_istore dX9_findSteps_98 (Nat.le_of_ble_eq_true rfl) rfl ?_
              refine J_ls (ls2 := [some (.ref 57), some (.int (zI x)), some (.int (zI places)), some (.int (zI z2)), some (.int (zI z7)), some (.int (zI pair_75)), some (.int (zI left_44)), some (.int (zI z29)), some (.int (zI z31)), some (.int (zI right_75)), some (.int (zI z37)), some (.int (zI z39)), none]) rfl ?_
              have jn127 : ∀ (t0_127j : Int), (0 ≤ t0_127j) → (t0_127j ≤ 99) → J l G MX9_findSteps { frames := 2, cells := 0, slots := 0, locals := 47 } jE (jMQ G { frames := 2, cells := 0, slots := 0, locals := 47 } (fun rr h9 => ∃ dg : Int → Int, ∃ sg : Int → Int, rr = none ∧ h9 = (nh, hc fh [(62, .inl (0, 1260, .inl (zA dg))), (ks, .inl (0, (ns).toNat, .inl (zA sg)))]) ∧ (StOK dg sg many) ∧ (KeptO df sf dg sg many x) ∧ (0 ≤ dg x) ∧ (Rg sg ns (-2147483648) 2147483647))) (nh, hc fh [(ks, .inl (0, (ns).toNat, .inl (zA w_75))), (62, .inl (0, 1260, .inl (zA d_75)))]) 0 0 127 [some (.ref 57), some (.int (zI x)), some (.int (zI places)), some (.int (zI z2)), some (.int (zI z7)), some (.int (zI pair_75)), some (.int (zI left_44)), some (.int (zI z29)), some (.int (zI z31)), some (.int (zI right_75)), some (.int (zI z37)), some (.int (zI z39)), none] [.int (zI t0_127j)] := by
                intro t0_127j j127_0 j127_1
                refine J_istore dX9_findSteps_127 (Nat.le_of_ble_eq_true rfl) rfl ?_
                refine J_ls (ls2 := [some (.ref 57), some (.int (zI x)), some (.int (zI places)), some (.int (zI z2)), some (.int (zI z7)), some (.int (zI pair_75)), some (.int (zI left_44)), some (.int (zI z29)), some (.int (zI z31)), some (.int (zI right_75)), some (.int (zI z37)), some (.int (zI z39)), some (.int (zI t0_127j))]) rfl ?_
                have jn156 : ∀ (d_156j : Int → Int) (w_156j : Int → Int), (StOK d_156j w_156j many) → (KeptO df sf d_156j w_156j many x) → (0 ≤ d_156j x) → (Rg w_156j ns (-2147483648) 2147483647) → J l G MX9_findSteps { frames := 2, cells := 0, slots := 0, locals := 47 } jE (jMQ G { frames := 2, cells := 0, slots := 0, locals := 47 } (fun rr h9 => ∃ dg : Int → Int, ∃ sg : Int → Int, rr = none ∧ h9 = (nh, hc fh [(62, .inl (0, 1260, .inl (zA dg))), (ks, .inl (0, (ns).toNat, .inl (zA sg)))]) ∧ (StOK dg sg many) ∧ (KeptO df sf dg sg many x) ∧ (0 ≤ dg x) ∧ (Rg sg ns (-2147483648) 2147483647))) (nh, hc fh [(ks, .inl (0, (ns).toNat, .inl (zA w_156j))), (62, .inl (0, 1260, .inl (zA d_156j)))]) 0 0 156 [some (.ref 57), some (.int (zI x)), some (.int (zI places)), some (.int (zI z2)), some (.int (zI z7)), some (.int (zI pair_75)), some (.int (zI left_44)), some (.int (zI z29)), some (.int (zI z31)), some (.int (zI right_75)), some (.int (zI z37)), some (.int (zI z39)), some (.int (zI t0_127j))] [] := by
                  intro d_156j w_156j j156_0 j156_1 j156_2 j156_3
                  refine Z_iinc (c := pair_75 + 1) (ls2 := [some (.ref 57), some (.int (zI x)), some (.int (zI places)), some (.int (zI z2)), some (.int (zI z7)), some (.int (zI (pair_75 + 1))), some (.int (zI left_44)), some (.int (zI z29)), some (.int (zI z31)), some (.int (zI right_75)), some (.int (zI z37)), some (.int (zI z39)), some (.int (zI t0_127j))]) dX9_findSteps_156 rfl (Nat.le_of_ble_eq_true rfl) rfl rfl rfl ?_
                  refine Z_iinc (c := right_75 + 1) (ls2 := [some (.ref 57), some (.int (zI x)), some (.int (zI places)), some (.int (zI z2)), some (.int (zI z7)), some (.int (zI (pair_75 + 1))), some (.int (zI left_44)), some (.int (zI z29)), some (.int (zI z31)), some (.int (zI (right_75 + 1))), some (.int (zI z37)), some (.int (zI z39)), some (.int (zI t0_127j))]) dX9_findSteps_159 rfl (Nat.le_of_ble_eq_true rfl) rfl rfl rfl ?_
                  refine J_goto (tgt := 75) dX9_findSteps_162 (by decide) ?_
                  refine J_drop (ls2 := [some (.ref 57), some (.int (zI x)), some (.int (zI places)), some (.int (zI z2)), some (.int (zI z7)), some (.int (zI (pair_75 + 1))), some (.int (zI left_44)), some (.int (zI z29)), some (.int (zI z31)), some (.int (zI (right_75 + 1))), none, none, none]) [true, true, true, true, true, true, true, true, true, true, false, false, false] rfl ?_
                  exact ih75 (pair_75 + 1) (right_75 + 1) d_156j w_156j (v_b108d4967d i75_0) (v_e390a36114 h36) (v_f1b0b32074 i75_2) j156_0 j156_1 j156_2 j156_3 (meas_lt v_90eacd6fd4 (v_8b7dd7d486 h36) hm75)
                refine J_iload dX9_findSteps_129 rfl ?_
                refine Z_if_le (tgt := 156) dX9_findSteps_131 (by decide) (v_d9590fd053 j127_0 j127_1) (fun h44 => ?_) (fun h44 => ?_)
                · exact jn156 d_75 w_75 i75_3 (i75_4) i75_5 i75_6
                · refine J_aload_n dX9_findSteps_134 rfl rfl ?_
                  refine J_iload_n dX9_findSteps_135 rfl rfl ?_
                  refine J_aload_n dX9_findSteps_136 rfl rfl ?_
                  refine J_get (v := .ref 51) dX9_findSteps_137 fl_X9_46 (hcn (Ne.symm (q2 57 (by decide))) (hcn (by decide) hk57)) rfl ?_
                  refine J_iload_n dX9_findSteps_140 rfl rfl ?_
                  refine J_iload dX9_findSteps_141 rfl ?_
                  refine J_iload dX9_findSteps_143 rfl ?_
                  refine J_callS (st := [.ref 51, .int (zI x), .ref 57]) dX9_findSteps_145 cs_X9_132 (g_exchanged z2 z29 z37 (v_f306e1cdb8 h4.1 h4.2) (v_a6d1a4f0fa q11 i44_0 h30 i75_0 h36) (v_919d70eacf q11 i44_0 i75_0 h36 h38)) rfl rfl (Nat.le_of_ble_eq_true rfl) ⟨(Nat.le_of_ble_eq_true rfl), (Nat.le_of_ble_eq_true rfl)⟩ ⟨(Nat.le_of_ble_eq_true rfl), (Nat.le_of_ble_eq_true rfl)⟩ (fun r h9 hp => ?_)
                  obtain ⟨z45, rfl, rfl, h46, h47⟩ := hp
                  refine J_nf (nh2 := nh) (ck2 := 0) (sk2 := 0) (st2 := [.int (zI z45), .ref 51, .int (zI x), .ref 57]) rfl rfl rfl rfl ?_
                  refine J_callV (st := [.int (zI x), .ref 57]) dX9_findSteps_148 cv_X9_136 (g_find z45 many places rf h46 q8 q9 q16 (Rows_mono q15 q12 q13) (hcn (Ne.symm (q2 51 (by decide))) (hcn (by decide) hk51)) (hcn (Ne.symm (q2 52 (by decide))) (hcn (by decide) hk52))) (hcn (Ne.symm (q2 51 (by decide))) (hcn (by decide) hk51)) rfl rfl (Nat.le_of_ble_eq_true rfl) ⟨(Nat.le_of_ble_eq_true rfl), (Nat.le_of_ble_eq_true rfl)⟩ ⟨(Nat.le_of_ble_eq_true rfl), (Nat.le_of_ble_eq_true rfl)⟩ (fun r h9 hp => ?_)
                  obtain ⟨z48, rfl, rfl, h49, h50, h51⟩ := hp
                  refine J_nf (nh2 := nh) (ck2 := 0) (sk2 := 0) (st2 := [.int (zI z48), .int (zI x), .ref 57]) rfl rfl rfl rfl ?_
                  refine J_iload dX9_findSteps_151 rfl ?_
                  refine J_callV (st := []) dX9_findSteps_153 cv_X9_139 (t_add x z48 t0_127j ks ve ss vs many lc fo wc cc sc wa wb d_75 w_75 ns q0 q1 q2 q8 q9 q17 q18 q19 q20 q21 q22 q23 q24 q25 q26 q27 q28 q31 q32 i75_3 i75_6 h49 h50 (v_9bf59c6767 h44) j127_1 i75_5 (hcn (Ne.symm (q2 57 (by decide))) (hcn (by decide) hk57)) (hcn (Ne.symm (q2 1 (by decide))) (hcn (by decide) hk1)) (hcn (Ne.symm (q2 11 (by decide))) (hcn (by decide) hk11)) (hcn (Ne.symm (q2 12 (by decide))) (hcn (by decide) hk12)) (hcn (Ne.symm (q2 62 (by decide))) hch) hch) (hcn (Ne.symm (q2 57 (by decide))) (hcn (by decide) hk57)) rfl rfl (Nat.le_of_ble_eq_true rfl) ⟨(Nat.le_of_ble_eq_true rfl), (Nat.le_of_ble_eq_true rfl)⟩ ⟨(Nat.le_of_ble_eq_true rfl), (Nat.le_of_ble_eq_true rfl)⟩ (fun r h9 hp => ?_)
                  obtain ⟨f52, f53, rfl, rfl, h54, h55, h56, h57, h58⟩ := hp
                  refine J_nf (nh2 := nh) (ck2 := 0) (sk2 := 0) (st2 := []) rfl rfl rfl rfl ?_
                  refine J_app (L3 := [(62, .inl (0, 1260, .inl (zA f52))), (ks, .inl (0, (ns).toNat, .inl (zA f53))), (ks, .inl (0, (ns).toNat, .inl (zA w_75))), (62, .inl (0, 1260, .inl (zA d_75)))]) rfl ?_
                  refine J_dupc (A := [(62, .inl (0, 1260, .inl (zA f52))), (ks, .inl (0, (ns).toNat, .inl (zA f53)))]) (B := [(62, .inl (0, 1260, .inl (zA d_75)))]) (L2 := [(62, .inl (0, 1260, .inl (zA f52))), (ks, .inl (0, (ns).toNat, .inl (zA f53))), (62, .inl (0, 1260, .inl (zA d_75)))]) (k := ks) (c := .inl (0, (ns).toNat, .inl (zA w_75))) (e := .inl (0, (ns).toNat, .inl (zA f53))) rfl rfl (List.mem_of_getElem? (i := 1) rfl) ?_
                  refine J_dupc (A := [(62, .inl (0, 1260, .inl (zA f52))), (ks, .inl (0, (ns).toNat, .inl (zA f53)))]) (B := []) (L2 := [(62, .inl (0, 1260, .inl (zA f52))), (ks, .inl (0, (ns).toNat, .inl (zA f53)))]) (k := 62) (c := .inl (0, 1260, .inl (zA d_75))) (e := .inl (0, 1260, .inl (zA f52))) rfl rfl (List.mem_of_getElem? (i := 0) rfl) ?_
                  refine J_touch (k := 62) (e := .inl (0, 1260, .inl (zA f52))) rfl ?_
                  refine J_touch (k := ks) (e := .inl (0, (ns).toNat, .inl (zA f53))) (hcn (q2 62 (by decide)) (hcn (q2 62 (by decide)) hch)) ?_
                  refine J_dupc (A := [(ks, .inl (0, (ns).toNat, .inl (zA f53))), (62, .inl (0, 1260, .inl (zA f52)))]) (B := [(ks, .inl (0, (ns).toNat, .inl (zA f53)))]) (L2 := [(ks, .inl (0, (ns).toNat, .inl (zA f53))), (62, .inl (0, 1260, .inl (zA f52))), (ks, .inl (0, (ns).toNat, .inl (zA f53)))]) (k := 62) (c := .inl (0, 1260, .inl (zA f52))) (e := .inl (0, 1260, .inl (zA f52))) rfl rfl (List.mem_of_getElem? (i := 1) rfl) ?_
                  refine J_dupc (A := [(ks, .inl (0, (ns).toNat, .inl (zA f53))), (62, .inl (0, 1260, .inl (zA f52)))]) (B := []) (L2 := [(ks, .inl (0, (ns).toNat, .inl (zA f53))), (62, .inl (0, 1260, .inl (zA f52)))]) (k := ks) (c := .inl (0, (ns).toNat, .inl (zA f53))) (e := .inl (0, (ns).toNat, .inl (zA f53))) rfl rfl (List.mem_of_getElem? (i := 0) rfl) ?_
                  exact jn156 f52 f53 h54 (KeptO.trans i75_4 h55) h56 h58
              refine J_iload dX9_findSteps_100 rfl ?_
              refine J_iload dX9_findSteps_102 rfl ?_
              refine Z_icmp_ne (tgt := 111) dX9_findSteps_104 (by decide) (v_573cdf4e23 h32 g35.2.2) (v_573cdf4e23 h40 g43.2.2) (fun h59 => ?_) (fun h59 => ?_)
              · have g60 := Rows_dig q15 q12 q13 q0 q1 h3 q14 (Int.le_refl 0) (v_25b8885118 i44_0 h11) h6 h10
                have g61 := prs_le (p := places) (l := left_44) (v_2b02420001 i44_0) (v_f96728aa25 i75_0 h36) (v_dc59a041dc q11)
                refine J_aload_n dX9_findSteps_111 rfl rfl ?_
                refine J_get (v := .ref 64) dX9_findSteps_112 fl_X9_28 (hcn (Ne.symm (q2 57 (by decide))) (hcn (by decide) hk57)) rfl ?_
                refine J_iload dX9_findSteps_115 rfl ?_
                refine J_iload dX9_findSteps_117 rfl ?_
                refine J_iload dX9_findSteps_119 rfl ?_
                refine J_iload dX9_findSteps_121 rfl ?_
                refine J_callS (st := [.ref 64]) dX9_findSteps_123 cs_X9_113 (t_verdictPlace pair_75 z31 z39 z7) rfl rfl (Nat.le_of_ble_eq_true rfl) ⟨(Nat.le_of_ble_eq_true rfl), (Nat.le_of_ble_eq_true rfl)⟩ ⟨(Nat.le_of_ble_eq_true rfl), (Nat.le_of_ble_eq_true rfl)⟩ (fun r h9 hp => ?_)
                obtain ⟨z62, rfl, rfl, h63⟩ := hp
                refine J_nf (nh2 := nh) (ck2 := 0) (sk2 := 0) (st2 := [.int (zI z62), .ref 64]) rfl rfl rfl rfl ?_
                obtain ⟨z64, ez64⟩ : ∃ z : Int, vf z62 = z := ⟨_, rfl⟩
                have h65 := Rg.at q30 (v_dac867e7fa h8 h32 i75_0 i75_2 h40 g61.1 h63) (v_6928ad3832 g35.2.2 i75_2 h36 g43.2.2 g60.2.2 g61.2 h63) ez64
                refine Y_iald (z := z64) 2625 dX9_findSteps_126 (hcn (Ne.symm (q2 64 (by decide))) (hcn (by decide) hk64)) rfl (by decide) (v_dac867e7fa h8 h32 i75_0 i75_2 h40 g61.1 h63) (v_6928ad3832 g35.2.2 i75_2 h36 g43.2.2 g60.2.2 g61.2 h63) ez64 ?_
                exact jn127 z64 h65.1 h65.2
              · refine Z_iconst (n := 0) dX9_findSteps_107 ?_
                refine J_goto (tgt := 127) dX9_findSteps_108 (by decide) ?_
                exact jn127 0 v_939070ca3f v_3176ed3c91
        exact lp75 _ pair_44 (left_44 + 1) d_44 w_44 v_3bdb46b03b (v_e390a36114 h11) (v_fcab51fa92 i44_2) i44_3 i44_4 i44_5 i44_6 (Nat.lt_succ_self _)
  exact lp44 _ 0 0 f1 sf v_939070ca3f q10 ((prs_0 places).symm) (StOK.reset q33 ef1) (KeptO.reset ef1) (by rw [ef1, up_same]; exact Int.le_refl _) q34 (Nat.lt_succ_self _)
set_option maxHeartbeats 4000000 in
set_option maxRecDepth 100000 in
theorem t_degree {l : Launch} {G : jG} {nh : Nat} {fh : Nat → Option va_E} (x : Int) (ks : Nat) (ve : Int) (ss : Int) (vs : Int) (many : Int) (places : Int) (ff : Int → Int) (rf : Int → Int) (lc : Int) (fo : Int) (wc : Int) (cc : Int) (sc : Int) (wa : Int → Int) (wb : Int → Int) (tf : Int → Int) (df : Int → Int) (sf : Int → Int) (ns : Int) (vf : Int → Int) (q0 : 0 ≤ x) (q1 : x < many) (q2 : Fx ks) (q3 : 0 ≤ ss) (q4 : ss ≤ 1) (q5 : 0 ≤ vs) (q6 : vs ≤ 1) (q7 : zr ve) (q8 : 1 ≤ many) (q9 : many ≤ 1260) (q10 : 0 ≤ places) (q11 : places ≤ 7) (q12 : okF ff) (q13 : many = Hi ff) (q14 : places = bsum ff) (q15 : RowsTo rf ff many) (q16 : Rg rf 1260 (-2147483648) 2147483647) (q17 : 0 ≤ lc) (q18 : lc ≤ 6) (q19 : -1 ≤ fo) (q20 : fo < lc) (q21 : 0 ≤ wc) (q22 : wc ≤ 8) (q23 : 0 ≤ cc) (q24 : cc ≤ 6) (q25 : 0 ≤ sc) (q26 : sc ≤ 12) (q27 : Rg wa 8 (-2147483648) 2147483647) (q28 : Rg wb 8 (-2147483648) 2147483647) (q29 : Rg tf 2 (-2147483648) 2147483647) (q30 : Rg vf 2625 0 99) (q31 : 22 * many ≤ ns) (q32 : ns ≤ 100000) (q33 : StOK df sf many) (q34 : Rg sf ns (-2147483648) 2147483647) (hk57 : fh 57 = some (.inr (9, [.ref 1, .ref 51, .ref 58, .ref 61, .ref 62, .ref ks, .ref 64, .int (zI ve), .int (zI ss), .int (zI vs)]))) (hk51 : fh 51 = some (.inr (0, [.ref 52, .ref 53, .int (zI many), .int (zI places)]))) (hk52 : fh 52 = some (.inl (0, 1260, .inl (zA rf)))) (hk1 : fh 1 = some (.inr (8, [.ref 2, .ref 3, .ref 4, .int (zI lc), .int (zI fo), .ref 11, .ref 12, .int (zI wc), .ref 13, .ref 14, .int (zI cc), .ref 15, .ref 16, .int (zI sc)]))) (hk3 : fh 3 = some (.inl (0, 2, .inl (zA tf)))) (hk11 : fh 11 = some (.inl (0, 8, .inl (zA wa)))) (hk12 : fh 12 = some (.inl (0, 8, .inl (zA wb)))) (hk62 : fh 62 = some (.inl (0, 1260, .inl (zA df)))) (hkks : fh ks = some (.inl (0, (ns).toNat, .inl (zA sf)))) (hk64 : fh 64 = some (.inl (0, 2625, .inl (zA vf)))) : JM l G yX9_degree MX9_degree { frames := 3, cells := 0, slots := 0, locals := 79 } [.ref 57, .int (zI x)] (nh, fh) (fun rr h9 => ∃ r : Int, ∃ dg : Int → Int, ∃ sg : Int → Int, rr = some (.int (zI r)) ∧ h9 = (nh, hc fh [(62, .inl (0, 1260, .inl (zA dg))), (ks, .inl (0, (ns).toNat, .inl (zA sg)))]) ∧ (dg x = r) ∧ (0 ≤ r) ∧ (r ≤ 22) ∧ (StOK dg sg many) ∧ (Kept df sf dg sg many) ∧ (Rg sg ns (-2147483648) 2147483647)) := by
  refine JM.of (by decide) rfl (fun h => by cases h) (Nat.le_of_ble_eq_true rfl) ⟨0, rfl⟩ ?_
  refine J_hc0 (J_ls (ls2 := [some (.ref 57), some (.int (zI x))]) rfl ?_)
  refine J_aload_n dX9_degree_0 rfl rfl ?_
  refine J_get (v := .ref 62) dX9_degree_1 fl_X9_22 hk57 rfl ?_
  refine J_iload_n dX9_degree_4 rfl rfl ?_
  obtain ⟨z1, ez1⟩ : ∃ z : Int, df x = z := ⟨_, rfl⟩
  have h2 := StOK.deg q33 (v_2b02420001 q0) (v_b9aca61388 q1) ez1
  refine Y_iald (z := z1) 1260 dX9_degree_5 hk62 rfl (by decide) (v_2b02420001 q0) (v_6251b724b8 q1 q9) ez1 ?_
  refine Z_iconst (n := -1) dX9_degree_6 ?_
  refine Z_icmp_ne (tgt := 15) dX9_degree_7 (by decide) (v_2e7a4574f6 h2.1 h2.2) v_d64efa60f9 (fun h3 => ?_) (fun h3 => ?_)
  · refine J_aload_n dX9_degree_15 rfl rfl ?_
    refine J_get (v := .ref 62) dX9_degree_16 fl_X9_22 hk57 rfl ?_
    refine J_iload_n dX9_degree_19 rfl rfl ?_
    refine Y_iald (z := z1) 1260 dX9_degree_20 hk62 rfl (by decide) (v_2b02420001 q0) (v_6251b724b8 q1 q9) ez1 ?_
    refine J_touch (k := ks) (e := .inl (0, (ns).toNat, .inl (zA sf))) hkks ?_
    refine J_touch (k := 62) (e := .inl (0, 1260, .inl (zA df))) (hcn (Ne.symm (q2 62 (by decide))) hk62) ?_
    exact J_iret dX9_degree_21 rfl rfl (Nat.le_of_ble_eq_true rfl) (Nat.le_of_ble_eq_true rfl) ⟨z1, df, sf, rfl, rfl, ez1, (v_a708073960 h2.1 h3), h2.2, q33, (Kept.refl), q34⟩
  · refine J_aload_n dX9_degree_10 rfl rfl ?_
    refine J_iload_n dX9_degree_11 rfl rfl ?_
    refine J_callV (st := []) dX9_degree_12 cv_X9_72 (t_findSteps x ks ve ss vs many places ff rf lc fo wc cc sc wa wb tf df sf ns vf q0 q1 q2 q3 q4 q5 q6 q7 q8 q9 q10 q11 q12 q13 q14 q15 q16 q17 q18 q19 q20 q21 q22 q23 q24 q25 q26 q27 q28 q29 q30 q31 q32 q33 q34 hk57 hk51 hk52 hk1 hk3 hk11 hk12 hk62 hkks hk64) hk57 rfl rfl (Nat.le_of_ble_eq_true rfl) ⟨(Nat.le_of_ble_eq_true rfl), (Nat.le_of_ble_eq_true rfl)⟩ ⟨(Nat.le_of_ble_eq_true rfl), (Nat.le_of_ble_eq_true rfl)⟩ (fun r h9 hp => ?_)
    obtain ⟨f4, f5, rfl, rfl, h6, h7, h8, h9⟩ := hp
    refine J_nf (nh2 := nh) (ck2 := 0) (sk2 := 0) (st2 := []) rfl rfl rfl rfl ?_
    refine J_app (L3 := [(62, .inl (0, 1260, .inl (zA f4))), (ks, .inl (0, (ns).toNat, .inl (zA f5)))]) rfl ?_
    refine J_aload_n dX9_degree_15 rfl rfl ?_
    refine J_get (v := .ref 62) dX9_degree_16 fl_X9_22 (hcn (by decide) (hcn (Ne.symm (q2 57 (by decide))) hk57)) rfl ?_
    refine J_iload_n dX9_degree_19 rfl rfl ?_
    obtain ⟨z10, ez10⟩ : ∃ z : Int, f4 x = z := ⟨_, rfl⟩
    have h11 := StOK.deg h6 (v_2b02420001 q0) (v_b9aca61388 q1) ez10
    refine Y_iald (z := z10) 1260 dX9_degree_20 rfl rfl (by decide) (v_2b02420001 q0) (v_6251b724b8 q1 q9) ez10 ?_
    exact J_iret dX9_degree_21 rfl rfl (Nat.le_of_ble_eq_true rfl) (Nat.le_of_ble_eq_true rfl) ⟨z10, f4, f5, rfl, rfl, ez10, (v_9af1543160 h8 ez10), h11.2, h6, (KeptO.kept h7 ez1 (v_1022695464 h2.1 h3)), h9⟩
set_option maxHeartbeats 4000000 in
set_option maxRecDepth 100000 in
theorem t_degreeK {l : Launch} {G : jG} {nh : Nat} {fh : Nat → Option va_E} (x : Int) (many : Int) (ks : Nat) (ve : Int) (ss : Int) (vs : Int) (df : Int → Int) (sf : Int → Int) (ns : Int) (q0 : 0 ≤ x) (q1 : x < many) (q2 : many ≤ 1260) (q3 : StOK df sf many) (q4 : 0 ≤ df x) (hk57 : fh 57 = some (.inr (9, [.ref 1, .ref 51, .ref 58, .ref 61, .ref 62, .ref ks, .ref 64, .int (zI ve), .int (zI ss), .int (zI vs)]))) (hk62 : fh 62 = some (.inl (0, 1260, .inl (zA df)))) (hkks : fh ks = some (.inl (0, (ns).toNat, .inl (zA sf)))) : JM l G yX9_degree MX9_degree { frames := 0, cells := 0, slots := 0, locals := 0 } [.ref 57, .int (zI x)] (nh, fh) (fun rr h9 => ∃ r : Int, rr = some (.int (zI r)) ∧ h9 = (nh, fh) ∧ (df x = r) ∧ (0 ≤ r) ∧ (r ≤ 22)) := by
  refine JM.of (by decide) rfl (fun h => by cases h) (Nat.le_of_ble_eq_true rfl) ⟨0, rfl⟩ ?_
  refine J_hc0 (J_ls (ls2 := [some (.ref 57), some (.int (zI x))]) rfl ?_)
  refine J_aload_n dX9_degree_0 rfl rfl ?_
  refine J_get (v := .ref 62) dX9_degree_1 fl_X9_22 hk57 rfl ?_
  refine J_iload_n dX9_degree_4 rfl rfl ?_
  obtain ⟨z1, ez1⟩ : ∃ z : Int, df x = z := ⟨_, rfl⟩
  have h2 := StOK.deg q3 (v_2b02420001 q0) (v_b9aca61388 q1) ez1
  refine Y_iald (z := z1) 1260 dX9_degree_5 hk62 rfl (by decide) (v_2b02420001 q0) (v_6251b724b8 q1 q2) ez1 ?_
  refine Z_iconst (n := -1) dX9_degree_6 ?_
  refine Z_icmp_ne (tgt := 15) dX9_degree_7 (by decide) (v_2e7a4574f6 h2.1 h2.2) v_d64efa60f9 (fun h3 => ?_) (fun h3 => absurd h3 (v_77fe426a3a q4 ez1))
  refine J_aload_n dX9_degree_15 rfl rfl ?_
  refine J_get (v := .ref 62) dX9_degree_16 fl_X9_22 hk57 rfl ?_
  refine J_iload_n dX9_degree_19 rfl rfl ?_
  refine Y_iald (z := z1) 1260 dX9_degree_20 hk62 rfl (by decide) (v_2b02420001 q0) (v_6251b724b8 q1 q2) ez1 ?_
  exact J_iret dX9_degree_21 rfl rfl (Nat.le_of_ble_eq_true rfl) (Nat.le_of_ble_eq_true rfl) ⟨z1, rfl, rfl, ez1, (v_a708073960 h2.1 h3), h2.2⟩
