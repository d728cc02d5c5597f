abbrev MX11_refusalPlace : jM := (RX11, cX11_refusalPlace, 1, some .int, false)
abbrev MX11_refuse : jM := (RX11, cX11_refuse, 2, some .int, false)
set_option maxRecDepth 20000 in
theorem iX11_at : ∀ k : Nat, k < 17 → u_lay RX11 TX11 k ∈ jtb
  | 0, _ => jt2 227 rfl rfl
  | 1, _ => jt2 229 rfl rfl
  | 2, _ => jt2 231 rfl rfl
  | 3, _ => jt2 233 rfl rfl
  | 4, _ => jt2 235 rfl rfl
  | 5, _ => jt2 237 rfl rfl
  | 6, _ => jt2 239 rfl rfl
  | 7, _ => jt3 1 rfl rfl
  | 8, _ => jt3 3 rfl rfl
  | 9, _ => jt3 5 rfl rfl
  | 10, _ => jt3 7 rfl rfl
  | 11, _ => jt3 9 rfl rfl
  | 12, _ => jt3 11 rfl rfl
  | 13, _ => jt3 13 rfl rfl
  | 14, _ => jt3 15 rfl rfl
  | 15, _ => jt3 17 rfl rfl
  | 16, _ => jt3 19 rfl rfl
  | (n + 17), h => absurd h (by omega)
theorem iX11 : ∀ w ∈ u_ws RX11 TX11 17, w ∈ jtb := fun w hw => by
  obtain ⟨k, hk, rfl⟩ := List.mem_map.mp hw
  exact iX11_at k (List.mem_range.mp hk)
theorem fw_X11_97 : jFW RX11 97 11 13 (.int) false := ⟨_, _, _, tyX11, rfl, iX11, tyX11_ok, nmX11, by decide, rfl, rfl, (fun h => by cases h), Or.inl (jt2 223 rfl rfl)⟩
theorem fl_X11_93 : jFL RX11 93 11 12 := ⟨_, _, _, rfl, iX11, by decide, Or.inl (jt2 222 rfl rfl)⟩
theorem cs_X11_318 : jCS RX11 318 yX11_refusalPlace MX11_refusalPlace 1 := ⟨(jt3 32 rfl rfl), (jt3 31 rfl rfl), (jt1 1 rfl rfl), ⟨by decide, by decide, by decide +kernel⟩, Or.inl (jt3 30 rfl rfl)⟩
abbrev MX11_accept : jM := (RX11, cX11_accept, 2, some .int, false)
abbrev MX11_status : jM := (RX11, cX11_status, 1, some .int, false)
theorem fl_X11_97 : jFL RX11 97 11 13 := ⟨_, _, _, rfl, iX11, by decide, Or.inl (jt2 223 rfl rfl)⟩
abbrev MX11_fault : jM := (RX11, cX11_fault, 1, some .int, false)
theorem fl_X11_101 : jFL RX11 101 11 14 := ⟨_, _, _, rfl, iX11, by decide, Or.inl (jt2 224 rfl rfl)⟩
abbrev MX11_houses : jM := (RX11, cX11_houses, 1, some .int, false)
theorem fl_X11_27 : jFL RX11 27 11 3 := ⟨_, _, _, rfl, iX11, by decide, Or.inl (jt2 213 rfl rfl)⟩
theorem cv_X11_132 : jCV RX11 132 0 yX0_many MX0_many 0 := ⟨_, _, rfl, (jt3 68 rfl rfl), (jt3 66 rfl rfl), (jt3 67 rfl rfl), (jt1 3 rfl rfl), ⟨by decide, by decide, by decide +kernel⟩, Or.inl (jt3 65 rfl rfl)⟩
abbrev MX11_code : jM := (RX11, cX11_code, 2, some .int, false)
theorem cv_X11_135 : jCV RX11 135 0 yX0_has MX0_has 1 := ⟨_, _, rfl, (jt3 76 rfl rfl), (jt3 74 rfl rfl), (jt3 75 rfl rfl), (jt1 3 rfl rfl), ⟨by decide, by decide, by decide +kernel⟩, Or.inl (jt3 73 rfl rfl)⟩
theorem cv_X11_139 : jCV RX11 139 0 yX0_codeOf MX0_codeOf 1 := ⟨_, _, rfl, (jt3 80 rfl rfl), (jt3 78 rfl rfl), (jt3 79 rfl rfl), (jt1 3 rfl rfl), ⟨by decide, by decide, by decide +kernel⟩, Or.inl (jt3 77 rfl rfl)⟩
abbrev MX11_house : jM := (RX11, cX11_house, 2, some .int, false)
theorem cv_X11_142 : jCV RX11 142 0 yX0_withCode MX0_withCode 1 := ⟨_, _, rfl, (jt3 100 rfl rfl), (jt3 98 rfl rfl), (jt3 99 rfl rfl), (jt1 3 rfl rfl), ⟨by decide, by decide, by decide +kernel⟩, Or.inl (jt3 97 rfl rfl)⟩
abbrev MX11_read : jM := (RX11, cX11_read, 3, some .int, false)
theorem cv_X11_245 : jCV RX11 245 0 yX0_backwardOf MX0_backwardOf 1 := ⟨_, _, rfl, (jt5 51 rfl rfl), (jt5 49 rfl rfl), (jt5 50 rfl rfl), (jt1 3 rfl rfl), ⟨by decide, by decide, by decide +kernel⟩, Or.inl (jt5 48 rfl rfl)⟩
theorem cv_X11_248 : jCV RX11 248 0 yX0_inversionsOf MX0_inversionsOf 1 := ⟨_, _, rfl, (jt5 55 rfl rfl), (jt5 53 rfl rfl), (jt5 54 rfl rfl), (jt1 3 rfl rfl), ⟨by decide, by decide, by decide +kernel⟩, Or.inl (jt5 52 rfl rfl)⟩
abbrev MX11_drawn : jM := (RX11, cX11_drawn, 2, some .int, false)
theorem fl_X11_107 : jFL RX11 107 11 16 := ⟨_, _, _, rfl, iX11, by decide, Or.inl (jt2 226 rfl rfl)⟩
theorem fl_X11_104 : jFL RX11 104 11 15 := ⟨_, _, _, rfl, iX11, by decide, Or.inl (jt2 225 rfl rfl)⟩
abbrev MX11_count : jM := (RX11, cX11_count, 2, some .int, false)
theorem cv_X11_122 : jCV RX11 122 0 yX0_places MX0_places 0 := ⟨_, _, rfl, (jt3 36 rfl rfl), (jt3 34 rfl rfl), (jt3 35 rfl rfl), (jt1 3 rfl rfl), ⟨by decide, by decide, by decide +kernel⟩, Or.inl (jt3 33 rfl rfl)⟩
theorem fl_X11_10 : jFL RX11 10 11 0 := ⟨_, _, _, rfl, iX11, by decide, Or.inl (jt2 210 rfl rfl)⟩
theorem fl_X11_184 : jFL RX11 184 8 3 := ⟨_, _, _, rfl, iX8, by decide, Or.inr ⟨"BeanStreet", (jn1 47 rfl rfl)⟩⟩
theorem fl_X11_204 : jFL RX11 204 8 7 := ⟨_, _, _, rfl, iX8, by decide, Or.inr ⟨"BeanStreet", (jn1 54 rfl rfl)⟩⟩
theorem fl_X11_286 : jFL RX11 286 8 10 := ⟨_, _, _, rfl, iX8, by decide, Or.inr ⟨"BeanStreet", (jn1 61 rfl rfl)⟩⟩
theorem fl_X11_264 : jFL RX11 264 8 13 := ⟨_, _, _, rfl, iX8, by decide, Or.inr ⟨"BeanStreet", (jn1 68 rfl rfl)⟩⟩
theorem fl_X11_34 : jFL RX11 34 11 4 := ⟨_, _, _, rfl, iX11, by decide, Or.inl (jt2 214 rfl rfl)⟩
theorem cv_X11_158 : jCV RX11 158 5 yX5_length MX5_length 0 := ⟨_, _, rfl, (jt3 124 rfl rfl), (jt3 122 rfl rfl), (jt3 123 rfl rfl), (jt1 4 rfl rfl), ⟨by decide, by decide, by decide +kernel⟩, Or.inl (jt3 121 rfl rfl)⟩
theorem fl_X11_198 : jFL RX11 198 8 4 := ⟨_, _, _, rfl, iX8, by decide, Or.inr ⟨"BeanStreet", (jn1 50 rfl rfl)⟩⟩
theorem fl_X11_145 : jFL RX11 145 8 1 := ⟨_, _, _, rfl, iX8, by decide, Or.inr ⟨"BeanStreet", (jn1 41 rfl rfl)⟩⟩
theorem fl_X11_111 : jFL RX11 111 8 0 := ⟨_, _, _, rfl, iX8, by decide, Or.inr ⟨"BeanStreet", (jn1 38 rfl rfl)⟩⟩
abbrev MX11_end : jM := (RX11, cX11_end, 2, some .int, false)
theorem cv_X11_161 : jCV RX11 161 5 yX5_cut MX5_cut 1 := ⟨_, _, rfl, (jt3 132 rfl rfl), (jt3 130 rfl rfl), (jt3 131 rfl rfl), (jt1 4 rfl rfl), ⟨by decide, by decide, by decide +kernel⟩, Or.inl (jt3 129 rfl rfl)⟩
abbrev MX11_feed : jM := (RX11, cX11_feed, 6, some .int, false)
theorem cv_X11_151 : jCV RX11 151 5 yX5_hasRoom MX5_hasRoom 1 := ⟨_, _, rfl, (jt3 116 rfl rfl), (jt3 114 rfl rfl), (jt3 115 rfl rfl), (jt1 4 rfl rfl), ⟨by decide, by decide, by decide +kernel⟩, Or.inl (jt3 113 rfl rfl)⟩
theorem cv_X11_154 : jCV RX11 154 5 yX5_take MX5_take 1 := ⟨_, _, rfl, (jt3 120 rfl rfl), (jt3 118 rfl rfl), (jt3 119 rfl rfl), (jt1 4 rfl rfl), ⟨by decide, by decide, by decide +kernel⟩, Or.inl (jt3 117 rfl rfl)⟩
abbrev MX11_terms : jM := (RX11, cX11_terms, 5, some .int, false)
theorem cv_X11_118 : jCV RX11 118 11 yX11_refuse MX11_refuse 1 := ⟨_, _, rfl, (jt3 29 rfl rfl), (jt3 28 rfl rfl), (jtp (q := (⟨"BeanStreet", "refuse", "(I)I"⟩, 17)) (List.mem_of_getElem? (i := 3) rfl)), (jt1 1 rfl rfl), ⟨by decide, by decide, by decide +kernel⟩, Or.inl (jt3 26 rfl rfl)⟩
theorem fl_X11_43 : jFL RX11 43 11 5 := ⟨_, _, _, rfl, iX11, by decide, Or.inl (jt2 215 rfl rfl)⟩
theorem cv_X11_148 : jCV RX11 148 9 yX9_changeAll MX9_changeAll 0 := ⟨_, _, rfl, (jt3 52 rfl rfl), (jt3 50 rfl rfl), (jt3 51 rfl rfl), (jt1 5 rfl rfl), ⟨by decide, by decide, by decide +kernel⟩, Or.inl (jt3 49 rfl rfl)⟩
theorem cv_X11_129 : jCV RX11 129 11 yX11_accept MX11_accept 1 := ⟨_, _, rfl, (jt3 60 rfl rfl), (jt3 59 rfl rfl), (jtp (q := (⟨"BeanStreet", "accept", "(I)I"⟩, 17)) (List.mem_of_getElem? (i := 5) rfl)), (jt1 1 rfl rfl), ⟨by decide, by decide, by decide +kernel⟩, Or.inl (jt3 57 rfl rfl)⟩
abbrev MX11_force : jM := (RX11, cX11_force, 3, some .int, false)
theorem fw_X11_198 : jFW RX11 198 8 4 (.int) false := ⟨_, _, _, tyX8, rfl, iX8, tyX8_ok, nmX8, by decide, rfl, rfl, (fun h => by cases h), Or.inr ⟨"BeanStreet", (jn1 50 rfl rfl)⟩⟩
abbrev MX11_wall : jM := (RX11, cX11_wall, 3, some .int, false)
theorem cv_X11_201 : jCV RX11 201 8 yX8_wallBetween MX8_wallBetween 2 := ⟨_, _, rfl, (jt4 70 rfl rfl), (jt4 68 rfl rfl), (jt4 69 rfl rfl), (jt1 2 rfl rfl), ⟨by decide, by decide, by decide +kernel⟩, Or.inl (jt4 67 rfl rfl)⟩
theorem cv_X11_207 : jCV RX11 207 8 yX8_addWall MX8_addWall 2 := ⟨_, _, rfl, (jt4 74 rfl rfl), (jt4 72 rfl rfl), (jt4 73 rfl rfl), (jt1 2 rfl rfl), ⟨by decide, by decide, by decide +kernel⟩, Or.inl (jt4 71 rfl rfl)⟩
theorem cv_X11_211 : jCV RX11 211 9 yX9_changeWalls MX9_changeWalls 0 := ⟨_, _, rfl, (jt3 56 rfl rfl), (jt3 54 rfl rfl), (jt3 55 rfl rfl), (jt1 5 rfl rfl), ⟨by decide, by decide, by decide +kernel⟩, Or.inl (jt4 75 rfl rfl)⟩
abbrev MX11_breach : jM := (RX11, cX11_breach, 4, some .int, false)
theorem cv_X11_214 : jCV RX11 214 8 yX8_dropWall MX8_dropWall 1 := ⟨_, _, rfl, (jt4 83 rfl rfl), (jt4 81 rfl rfl), (jt4 82 rfl rfl), (jt1 2 rfl rfl), ⟨by decide, by decide, by decide +kernel⟩, Or.inl (jt4 80 rfl rfl)⟩
abbrev MX11_swapIf : jM := (RX11, cX11_swapIf, 3, some .int, false)
theorem cv_X11_267 : jCV RX11 267 8 yX8_addSwap MX8_addSwap 2 := ⟨_, _, rfl, (jt3 48 rfl rfl), (jt3 46 rfl rfl), (jt3 47 rfl rfl), (jt1 2 rfl rfl), ⟨by decide, by decide, by decide +kernel⟩, Or.inl (jt5 143 rfl rfl)⟩
abbrev MX11_keep : jM := (RX11, cX11_keep, 3, some .int, false)
theorem fw_X11_264 : jFW RX11 264 8 13 (.int) false := ⟨_, _, _, tyX8, rfl, iX8, tyX8_ok, nmX8, by decide, rfl, rfl, (fun h => by cases h), Or.inr ⟨"BeanStreet", (jn1 68 rfl rfl)⟩⟩
abbrev MX11_clue : jM := (RX11, cX11_clue, 3, some .int, false)
theorem cv_X11_289 : jCV RX11 289 8 yX8_addClue MX8_addClue 2 := ⟨_, _, rfl, (jt5 202 rfl rfl), (jt5 200 rfl rfl), (jt5 201 rfl rfl), (jt1 2 rfl rfl), ⟨by decide, by decide, by decide +kernel⟩, Or.inl (jt5 199 rfl rfl)⟩
theorem fl_X11_82 : jFL RX11 82 11 10 := ⟨_, _, _, rfl, iX11, by decide, Or.inl (jt2 220 rfl rfl)⟩
theorem cv_X11_292 : jCV RX11 292 6 yX6_change MX6_change 0 := ⟨_, _, rfl, (jt5 206 rfl rfl), (jt5 204 rfl rfl), (jt5 205 rfl rfl), (jt1 11 rfl rfl), ⟨by decide, by decide, by decide +kernel⟩, Or.inl (jt5 203 rfl rfl)⟩
abbrev MX11_forget : jM := (RX11, cX11_forget, 2, some .int, false)
theorem fw_X11_286 : jFW RX11 286 8 10 (.int) false := ⟨_, _, _, tyX8, rfl, iX8, tyX8_ok, nmX8, by decide, rfl, rfl, (fun h => by cases h), Or.inr ⟨"BeanStreet", (jn1 61 rfl rfl)⟩⟩
abbrev MX11_sorts : jM := (RX11, cX11_sorts, 2, some .int, false)
theorem fl_X11_73 : jFL RX11 73 11 9 := ⟨_, _, _, rfl, iX11, by decide, Or.inl (jt2 219 rfl rfl)⟩
theorem cv_X11_270 : jCV RX11 270 2 yX2_prepare MX2_prepare 0 := ⟨_, _, rfl, (jt5 155 rfl rfl), (jt5 153 rfl rfl), (jt5 154 rfl rfl), (jt1 10 rfl rfl), ⟨by decide, by decide, by decide +kernel⟩, Or.inl (jt5 152 rfl rfl)⟩
theorem cv_X11_271 : jCV RX11 271 2 yX2_sortedAll MX2_sortedAll 0 := ⟨_, _, rfl, (jt5 160 rfl rfl), (jt5 158 rfl rfl), (jt5 159 rfl rfl), (jt1 10 rfl rfl), ⟨by decide, by decide, by decide +kernel⟩, Or.inl (jt5 157 rfl rfl)⟩
theorem cv_X11_274 : jCV RX11 274 2 yX2_firstUnsorted MX2_firstUnsorted 0 := ⟨_, _, rfl, (jt5 176 rfl rfl), (jt5 174 rfl rfl), (jt5 175 rfl rfl), (jt1 10 rfl rfl), ⟨by decide, by decide, by decide +kernel⟩, Or.inl (jt5 173 rfl rfl)⟩
theorem cv_X11_277 : jCV RX11 277 2 yX2_needless MX2_needless 0 := ⟨_, _, rfl, (jt5 180 rfl rfl), (jt5 178 rfl rfl), (jt5 179 rfl rfl), (jt1 10 rfl rfl), ⟨by decide, by decide, by decide +kernel⟩, Or.inl (jt5 177 rfl rfl)⟩
theorem cv_X11_280 : jCV RX11 280 2 yX2_fewestFirst MX2_fewestFirst 0 := ⟨_, _, rfl, (jt5 185 rfl rfl), (jt5 183 rfl rfl), (jt5 184 rfl rfl), (jt1 10 rfl rfl), ⟨by decide, by decide, by decide +kernel⟩, Or.inl (jt5 182 rfl rfl)⟩
abbrev MX11_sorted : jM := (RX11, cX11_sorted, 2, some .int, false)
theorem cv_X11_283 : jCV RX11 283 2 yX2_result MX2_result 1 := ⟨_, _, rfl, (jt5 193 rfl rfl), (jt5 191 rfl rfl), (jt5 192 rfl rfl), (jt1 10 rfl rfl), ⟨by decide, by decide, by decide +kernel⟩, Or.inl (jt5 190 rfl rfl)⟩
theorem dX11_refusalPlace_0 : decode cX11_refusalPlace 0 = .ok (.iload_n 0, 1) := by decide +kernel
theorem dX11_refusalPlace_1 : decode cX11_refusalPlace 1 = .ok (.tableswitch 43 (-5) (-1) #[41, 43, 39, 37, 35], 35) := by decide +kernel
theorem dX11_refusalPlace_42 : decode cX11_refusalPlace 42 = .ok (.iconst 3, 1) := by decide +kernel
theorem dX11_refusalPlace_43 : decode cX11_refusalPlace 43 = .ok (.ireturn, 1) := by decide +kernel
theorem dX11_refusalPlace_44 : decode cX11_refusalPlace 44 = .ok (.iconst 4, 1) := by decide +kernel
theorem dX11_refusalPlace_45 : decode cX11_refusalPlace 45 = .ok (.ireturn, 1) := by decide +kernel
theorem dX11_refusalPlace_40 : decode cX11_refusalPlace 40 = .ok (.iconst 2, 1) := by decide +kernel
theorem dX11_refusalPlace_41 : decode cX11_refusalPlace 41 = .ok (.ireturn, 1) := by decide +kernel
theorem dX11_refusalPlace_38 : decode cX11_refusalPlace 38 = .ok (.iconst 1, 1) := by decide +kernel
theorem dX11_refusalPlace_39 : decode cX11_refusalPlace 39 = .ok (.ireturn, 1) := by decide +kernel
theorem dX11_refusalPlace_36 : decode cX11_refusalPlace 36 = .ok (.iconst 0, 1) := by decide +kernel
theorem dX11_refusalPlace_37 : decode cX11_refusalPlace 37 = .ok (.ireturn, 1) := by decide +kernel
theorem dX11_refuse_0 : decode cX11_refuse 0 = .ok (.aload_n 0, 1) := by decide +kernel
theorem dX11_refuse_1 : decode cX11_refuse 1 = .ok (.iload_n 1, 1) := by decide +kernel
theorem dX11_refuse_2 : decode cX11_refuse 2 = .ok (.putfield 97, 3) := by decide +kernel
theorem dX11_refuse_5 : decode cX11_refuse 5 = .ok (.aload_n 0, 1) := by decide +kernel
theorem dX11_refuse_6 : decode cX11_refuse 6 = .ok (.getfield 93, 3) := by decide +kernel
theorem dX11_refuse_9 : decode cX11_refuse 9 = .ok (.iload_n 1, 1) := by decide +kernel
theorem dX11_refuse_10 : decode cX11_refuse 10 = .ok (.invokestatic 318, 3) := by decide +kernel
theorem dX11_refuse_13 : decode cX11_refuse 13 = .ok (.dup2, 1) := by decide +kernel
theorem dX11_refuse_14 : decode cX11_refuse 14 = .ok (.iaload, 1) := by decide +kernel
theorem dX11_refuse_15 : decode cX11_refuse 15 = .ok (.iconst 1, 1) := by decide +kernel
theorem dX11_refuse_16 : decode cX11_refuse 16 = .ok (.iadd, 1) := by decide +kernel
theorem dX11_refuse_17 : decode cX11_refuse 17 = .ok (.iastore, 1) := by decide +kernel
theorem dX11_refuse_18 : decode cX11_refuse 18 = .ok (.iload_n 1, 1) := by decide +kernel
theorem dX11_refuse_19 : decode cX11_refuse 19 = .ok (.ireturn, 1) := by decide +kernel
theorem dX11_accept_0 : decode cX11_accept 0 = .ok (.aload_n 0, 1) := by decide +kernel
theorem dX11_accept_1 : decode cX11_accept 1 = .ok (.iconst 0, 1) := by decide +kernel
theorem dX11_accept_2 : decode cX11_accept 2 = .ok (.putfield 97, 3) := by decide +kernel
theorem dX11_accept_5 : decode cX11_accept 5 = .ok (.iload_n 1, 1) := by decide +kernel
theorem dX11_accept_6 : decode cX11_accept 6 = .ok (.ireturn, 1) := by decide +kernel
theorem dX11_status_0 : decode cX11_status 0 = .ok (.aload_n 0, 1) := by decide +kernel
theorem dX11_status_1 : decode cX11_status 1 = .ok (.getfield 97, 3) := by decide +kernel
theorem dX11_status_4 : decode cX11_status 4 = .ok (.ireturn, 1) := by decide +kernel
theorem dX11_fault_0 : decode cX11_fault 0 = .ok (.aload_n 0, 1) := by decide +kernel
theorem dX11_fault_1 : decode cX11_fault 1 = .ok (.getfield 101, 3) := by decide +kernel
theorem dX11_fault_4 : decode cX11_fault 4 = .ok (.ireturn, 1) := by decide +kernel
theorem dX11_houses_0 : decode cX11_houses 0 = .ok (.aload_n 0, 1) := by decide +kernel
theorem dX11_houses_1 : decode cX11_houses 1 = .ok (.getfield 27, 3) := by decide +kernel
theorem dX11_houses_4 : decode cX11_houses 4 = .ok (.invokevirtual 132, 3) := by decide +kernel
theorem dX11_houses_7 : decode cX11_houses 7 = .ok (.ireturn, 1) := by decide +kernel
theorem dX11_code_0 : decode cX11_code 0 = .ok (.aload_n 0, 1) := by decide +kernel
theorem dX11_code_1 : decode cX11_code 1 = .ok (.getfield 27, 3) := by decide +kernel
theorem dX11_code_4 : decode cX11_code 4 = .ok (.iload_n 1, 1) := by decide +kernel
theorem dX11_code_5 : decode cX11_code 5 = .ok (.invokevirtual 135, 3) := by decide +kernel
theorem dX11_code_8 : decode cX11_code 8 = .ok (.ifCond .eq 14, 3) := by decide +kernel
theorem dX11_code_11 : decode cX11_code 11 = .ok (.aload_n 0, 1) := by decide +kernel
theorem dX11_code_12 : decode cX11_code 12 = .ok (.getfield 27, 3) := by decide +kernel
theorem dX11_code_15 : decode cX11_code 15 = .ok (.iload_n 1, 1) := by decide +kernel
theorem dX11_code_16 : decode cX11_code 16 = .ok (.invokevirtual 139, 3) := by decide +kernel
theorem dX11_code_19 : decode cX11_code 19 = .ok (.goto 4, 3) := by decide +kernel
theorem dX11_code_23 : decode cX11_code 23 = .ok (.ireturn, 1) := by decide +kernel
theorem dX11_code_22 : decode cX11_code 22 = .ok (.iconst (-1), 1) := by decide +kernel
theorem dX11_house_0 : decode cX11_house 0 = .ok (.aload_n 0, 1) := by decide +kernel
theorem dX11_house_1 : decode cX11_house 1 = .ok (.getfield 27, 3) := by decide +kernel
theorem dX11_house_4 : decode cX11_house 4 = .ok (.iload_n 1, 1) := by decide +kernel
theorem dX11_house_5 : decode cX11_house 5 = .ok (.invokevirtual 142, 3) := by decide +kernel
theorem dX11_house_8 : decode cX11_house 8 = .ok (.ireturn, 1) := by decide +kernel
theorem dX11_read_0 : decode cX11_read 0 = .ok (.aload_n 0, 1) := by decide +kernel
theorem dX11_read_1 : decode cX11_read 1 = .ok (.getfield 27, 3) := by decide +kernel
theorem dX11_read_4 : decode cX11_read 4 = .ok (.iload_n 1, 1) := by decide +kernel
theorem dX11_read_5 : decode cX11_read 5 = .ok (.invokevirtual 135, 3) := by decide +kernel
theorem dX11_read_8 : decode cX11_read 8 = .ok (.ifCond .ne 5, 3) := by decide +kernel
theorem dX11_read_13 : decode cX11_read 13 = .ok (.iload_n 2, 1) := by decide +kernel
theorem dX11_read_14 : decode cX11_read 14 = .ok (.lookupswitch 44 #[(0, 26), (1, 35)], 26) := by decide +kernel
theorem dX11_read_40 : decode cX11_read 40 = .ok (.aload_n 0, 1) := by decide +kernel
theorem dX11_read_41 : decode cX11_read 41 = .ok (.getfield 27, 3) := by decide +kernel
theorem dX11_read_44 : decode cX11_read 44 = .ok (.iload_n 1, 1) := by decide +kernel
theorem dX11_read_45 : decode cX11_read 45 = .ok (.invokevirtual 245, 3) := by decide +kernel
theorem dX11_read_48 : decode cX11_read 48 = .ok (.ireturn, 1) := by decide +kernel
theorem dX11_read_49 : decode cX11_read 49 = .ok (.aload_n 0, 1) := by decide +kernel
theorem dX11_read_50 : decode cX11_read 50 = .ok (.getfield 27, 3) := by decide +kernel
theorem dX11_read_53 : decode cX11_read 53 = .ok (.iload_n 1, 1) := by decide +kernel
theorem dX11_read_54 : decode cX11_read 54 = .ok (.invokevirtual 248, 3) := by decide +kernel
theorem dX11_read_57 : decode cX11_read 57 = .ok (.ireturn, 1) := by decide +kernel
theorem dX11_read_58 : decode cX11_read 58 = .ok (.iconst (-1), 1) := by decide +kernel
theorem dX11_read_59 : decode cX11_read 59 = .ok (.ireturn, 1) := by decide +kernel
theorem dX11_read_11 : decode cX11_read 11 = .ok (.iconst (-1), 1) := by decide +kernel
theorem dX11_read_12 : decode cX11_read 12 = .ok (.ireturn, 1) := by decide +kernel
theorem dX11_drawn_0 : decode cX11_drawn 0 = .ok (.aload_n 0, 1) := by decide +kernel
theorem dX11_drawn_1 : decode cX11_drawn 1 = .ok (.getfield 107, 3) := by decide +kernel
theorem dX11_drawn_4 : decode cX11_drawn 4 = .ok (.ifCond .eq 23, 3) := by decide +kernel
theorem dX11_drawn_27 : decode cX11_drawn 27 = .ok (.iconst (-1), 1) := by decide +kernel
theorem dX11_drawn_28 : decode cX11_drawn 28 = .ok (.ireturn, 1) := by decide +kernel
theorem dX11_drawn_7 : decode cX11_drawn 7 = .ok (.aload_n 0, 1) := by decide +kernel
theorem dX11_drawn_8 : decode cX11_drawn 8 = .ok (.getfield 27, 3) := by decide +kernel
theorem dX11_drawn_11 : decode cX11_drawn 11 = .ok (.iload_n 1, 1) := by decide +kernel
theorem dX11_drawn_12 : decode cX11_drawn 12 = .ok (.invokevirtual 135, 3) := by decide +kernel
theorem dX11_drawn_15 : decode cX11_drawn 15 = .ok (.ifCond .eq 12, 3) := by decide +kernel
theorem dX11_drawn_18 : decode cX11_drawn 18 = .ok (.aload_n 0, 1) := by decide +kernel
theorem dX11_drawn_19 : decode cX11_drawn 19 = .ok (.getfield 104, 3) := by decide +kernel
theorem dX11_drawn_22 : decode cX11_drawn 22 = .ok (.iload_n 1, 1) := by decide +kernel
theorem dX11_drawn_23 : decode cX11_drawn 23 = .ok (.iaload, 1) := by decide +kernel
theorem dX11_drawn_24 : decode cX11_drawn 24 = .ok (.goto 4, 3) := by decide +kernel
theorem dX11_count_0 : decode cX11_count 0 = .ok (.iload_n 1, 1) := by decide +kernel
theorem dX11_count_1 : decode cX11_count 1 = .ok (.iconst 1, 1) := by decide +kernel
theorem dX11_count_2 : decode cX11_count 2 = .ok (.if_icmp .lt 20, 3) := by decide +kernel
theorem dX11_count_22 : decode cX11_count 22 = .ok (.iload_n 1, 1) := by decide +kernel
theorem dX11_count_23 : decode cX11_count 23 = .ok (.bipush 11, 2) := by decide +kernel
theorem dX11_count_25 : decode cX11_count 25 = .ok (.if_icmp .lt 19, 3) := by decide +kernel
theorem dX11_count_44 : decode cX11_count 44 = .ok (.iload_n 1, 1) := by decide +kernel
theorem dX11_count_45 : decode cX11_count 45 = .ok (.tableswitch 167 0 18 #[91, 167, 167, 167, 167, 167, 99, 107, 115, 123, 131, 167, 167, 167, 167, 167, 139, 147, 157], 91) := by decide +kernel
theorem dX11_count_136 : decode cX11_count 136 = .ok (.aload_n 0, 1) := by decide +kernel
theorem dX11_count_137 : decode cX11_count 137 = .ok (.getfield 27, 3) := by decide +kernel
theorem dX11_count_140 : decode cX11_count 140 = .ok (.invokevirtual 122, 3) := by decide +kernel
theorem dX11_count_143 : decode cX11_count 143 = .ok (.ireturn, 1) := by decide +kernel
theorem dX11_count_212 : decode cX11_count 212 = .ok (.iconst (-1), 1) := by decide +kernel
theorem dX11_count_213 : decode cX11_count 213 = .ok (.ireturn, 1) := by decide +kernel
theorem dX11_count_5 : decode cX11_count 5 = .ok (.iload_n 1, 1) := by decide +kernel
theorem dX11_count_6 : decode cX11_count 6 = .ok (.iconst 5, 1) := by decide +kernel
theorem dX11_count_7 : decode cX11_count 7 = .ok (.if_icmp .gt 15, 3) := by decide +kernel
theorem dX11_count_144 : decode cX11_count 144 = .ok (.aload_n 0, 1) := by decide +kernel
theorem dX11_count_145 : decode cX11_count 145 = .ok (.getfield 10, 3) := by decide +kernel
theorem dX11_count_148 : decode cX11_count 148 = .ok (.getfield 184, 3) := by decide +kernel
theorem dX11_count_151 : decode cX11_count 151 = .ok (.ireturn, 1) := by decide +kernel
theorem dX11_count_152 : decode cX11_count 152 = .ok (.aload_n 0, 1) := by decide +kernel
theorem dX11_count_153 : decode cX11_count 153 = .ok (.getfield 10, 3) := by decide +kernel
theorem dX11_count_156 : decode cX11_count 156 = .ok (.getfield 204, 3) := by decide +kernel
theorem dX11_count_159 : decode cX11_count 159 = .ok (.ireturn, 1) := by decide +kernel
theorem dX11_count_160 : decode cX11_count 160 = .ok (.aload_n 0, 1) := by decide +kernel
theorem dX11_count_161 : decode cX11_count 161 = .ok (.getfield 10, 3) := by decide +kernel
theorem dX11_count_164 : decode cX11_count 164 = .ok (.getfield 286, 3) := by decide +kernel
theorem dX11_count_167 : decode cX11_count 167 = .ok (.ireturn, 1) := by decide +kernel
theorem dX11_count_168 : decode cX11_count 168 = .ok (.aload_n 0, 1) := by decide +kernel
theorem dX11_count_169 : decode cX11_count 169 = .ok (.getfield 10, 3) := by decide +kernel
theorem dX11_count_172 : decode cX11_count 172 = .ok (.getfield 264, 3) := by decide +kernel
theorem dX11_count_175 : decode cX11_count 175 = .ok (.ireturn, 1) := by decide +kernel
theorem dX11_count_176 : decode cX11_count 176 = .ok (.aload_n 0, 1) := by decide +kernel
theorem dX11_count_177 : decode cX11_count 177 = .ok (.getfield 34, 3) := by decide +kernel
theorem dX11_count_180 : decode cX11_count 180 = .ok (.invokevirtual 158, 3) := by decide +kernel
theorem dX11_count_183 : decode cX11_count 183 = .ok (.ireturn, 1) := by decide +kernel
theorem dX11_count_28 : decode cX11_count 28 = .ok (.iload_n 1, 1) := by decide +kernel
theorem dX11_count_29 : decode cX11_count 29 = .ok (.bipush 15, 2) := by decide +kernel
theorem dX11_count_31 : decode cX11_count 31 = .ok (.if_icmp .gt 13, 3) := by decide +kernel
theorem dX11_count_184 : decode cX11_count 184 = .ok (.aload_n 0, 1) := by decide +kernel
theorem dX11_count_185 : decode cX11_count 185 = .ok (.getfield 10, 3) := by decide +kernel
theorem dX11_count_188 : decode cX11_count 188 = .ok (.getfield 198, 3) := by decide +kernel
theorem dX11_count_191 : decode cX11_count 191 = .ok (.ireturn, 1) := by decide +kernel
theorem dX11_count_192 : decode cX11_count 192 = .ok (.aload_n 0, 1) := by decide +kernel
theorem dX11_count_193 : decode cX11_count 193 = .ok (.getfield 10, 3) := by decide +kernel
theorem dX11_count_196 : decode cX11_count 196 = .ok (.getfield 145, 3) := by decide +kernel
theorem dX11_count_199 : decode cX11_count 199 = .ok (.iconst 0, 1) := by decide +kernel
theorem dX11_count_200 : decode cX11_count 200 = .ok (.iaload, 1) := by decide +kernel
theorem dX11_count_201 : decode cX11_count 201 = .ok (.ireturn, 1) := by decide +kernel
theorem dX11_count_202 : decode cX11_count 202 = .ok (.aload_n 0, 1) := by decide +kernel
theorem dX11_count_203 : decode cX11_count 203 = .ok (.getfield 10, 3) := by decide +kernel
theorem dX11_count_206 : decode cX11_count 206 = .ok (.getfield 145, 3) := by decide +kernel
theorem dX11_count_209 : decode cX11_count 209 = .ok (.iconst 1, 1) := by decide +kernel
theorem dX11_count_210 : decode cX11_count 210 = .ok (.iaload, 1) := by decide +kernel
theorem dX11_count_211 : decode cX11_count 211 = .ok (.ireturn, 1) := by decide +kernel
theorem dX11_count_34 : decode cX11_count 34 = .ok (.aload_n 0, 1) := by decide +kernel
theorem dX11_count_35 : decode cX11_count 35 = .ok (.getfield 93, 3) := by decide +kernel
theorem dX11_count_38 : decode cX11_count 38 = .ok (.iload_n 1, 1) := by decide +kernel
theorem dX11_count_39 : decode cX11_count 39 = .ok (.bipush 11, 2) := by decide +kernel
theorem dX11_count_41 : decode cX11_count 41 = .ok (.isub, 1) := by decide +kernel
theorem dX11_count_42 : decode cX11_count 42 = .ok (.iaload, 1) := by decide +kernel
theorem dX11_count_43 : decode cX11_count 43 = .ok (.ireturn, 1) := by decide +kernel
theorem dX11_count_10 : decode cX11_count 10 = .ok (.aload_n 0, 1) := by decide +kernel
theorem dX11_count_11 : decode cX11_count 11 = .ok (.getfield 10, 3) := by decide +kernel
theorem dX11_count_14 : decode cX11_count 14 = .ok (.getfield 111, 3) := by decide +kernel
theorem dX11_count_17 : decode cX11_count 17 = .ok (.iload_n 1, 1) := by decide +kernel
theorem dX11_count_18 : decode cX11_count 18 = .ok (.iconst 1, 1) := by decide +kernel
theorem dX11_count_19 : decode cX11_count 19 = .ok (.isub, 1) := by decide +kernel
theorem dX11_count_20 : decode cX11_count 20 = .ok (.iaload, 1) := by decide +kernel
theorem dX11_count_21 : decode cX11_count 21 = .ok (.ireturn, 1) := by decide +kernel
theorem dX11_end_0 : decode cX11_end 0 = .ok (.aload_n 0, 1) := by decide +kernel
theorem dX11_end_1 : decode cX11_end 1 = .ok (.getfield 34, 3) := by decide +kernel
theorem dX11_end_4 : decode cX11_end 4 = .ok (.iload_n 1, 1) := by decide +kernel
theorem dX11_end_5 : decode cX11_end 5 = .ok (.invokevirtual 161, 3) := by decide +kernel
theorem dX11_end_8 : decode cX11_end 8 = .ok (.ifCond .eq 7, 3) := by decide +kernel
theorem dX11_end_11 : decode cX11_end 11 = .ok (.iload_n 1, 1) := by decide +kernel
theorem dX11_end_12 : decode cX11_end 12 = .ok (.goto 4, 3) := by decide +kernel
theorem dX11_end_16 : decode cX11_end 16 = .ok (.ireturn, 1) := by decide +kernel
theorem dX11_end_15 : decode cX11_end 15 = .ok (.iconst (-1), 1) := by decide +kernel
theorem dX11_feed_0 : decode cX11_feed 0 = .ok (.aload_n 0, 1) := by decide +kernel
theorem dX11_feed_1 : decode cX11_feed 1 = .ok (.getfield 34, 3) := by decide +kernel
theorem dX11_feed_4 : decode cX11_feed 4 = .ok (.bipush 20, 2) := by decide +kernel
theorem dX11_feed_6 : decode cX11_feed 6 = .ok (.invokevirtual 151, 3) := by decide +kernel
theorem dX11_feed_9 : decode cX11_feed 9 = .ok (.ifCond .ne 5, 3) := by decide +kernel
theorem dX11_feed_14 : decode cX11_feed 14 = .ok (.aload_n 0, 1) := by decide +kernel
theorem dX11_feed_15 : decode cX11_feed 15 = .ok (.getfield 34, 3) := by decide +kernel
theorem dX11_feed_18 : decode cX11_feed 18 = .ok (.iload_n 1, 1) := by decide +kernel
theorem dX11_feed_19 : decode cX11_feed 19 = .ok (.invokevirtual 154, 3) := by decide +kernel
theorem dX11_feed_22 : decode cX11_feed 22 = .ok (.aload_n 0, 1) := by decide +kernel
theorem dX11_feed_23 : decode cX11_feed 23 = .ok (.getfield 34, 3) := by decide +kernel
theorem dX11_feed_26 : decode cX11_feed 26 = .ok (.iload_n 2, 1) := by decide +kernel
theorem dX11_feed_27 : decode cX11_feed 27 = .ok (.invokevirtual 154, 3) := by decide +kernel
theorem dX11_feed_30 : decode cX11_feed 30 = .ok (.aload_n 0, 1) := by decide +kernel
theorem dX11_feed_31 : decode cX11_feed 31 = .ok (.getfield 34, 3) := by decide +kernel
theorem dX11_feed_34 : decode cX11_feed 34 = .ok (.iload_n 3, 1) := by decide +kernel
theorem dX11_feed_35 : decode cX11_feed 35 = .ok (.invokevirtual 154, 3) := by decide +kernel
theorem dX11_feed_38 : decode cX11_feed 38 = .ok (.aload_n 0, 1) := by decide +kernel
theorem dX11_feed_39 : decode cX11_feed 39 = .ok (.getfield 34, 3) := by decide +kernel
theorem dX11_feed_42 : decode cX11_feed 42 = .ok (.iload 4, 2) := by decide +kernel
theorem dX11_feed_44 : decode cX11_feed 44 = .ok (.invokevirtual 154, 3) := by decide +kernel
theorem dX11_feed_47 : decode cX11_feed 47 = .ok (.aload_n 0, 1) := by decide +kernel
theorem dX11_feed_48 : decode cX11_feed 48 = .ok (.getfield 34, 3) := by decide +kernel
theorem dX11_feed_51 : decode cX11_feed 51 = .ok (.iload 5, 2) := by decide +kernel
theorem dX11_feed_53 : decode cX11_feed 53 = .ok (.invokevirtual 154, 3) := by decide +kernel
theorem dX11_feed_56 : decode cX11_feed 56 = .ok (.aload_n 0, 1) := by decide +kernel
theorem dX11_feed_57 : decode cX11_feed 57 = .ok (.getfield 34, 3) := by decide +kernel
theorem dX11_feed_60 : decode cX11_feed 60 = .ok (.invokevirtual 158, 3) := by decide +kernel
theorem dX11_feed_63 : decode cX11_feed 63 = .ok (.ireturn, 1) := by decide +kernel
theorem dX11_feed_12 : decode cX11_feed 12 = .ok (.iconst (-1), 1) := by decide +kernel
theorem dX11_feed_13 : decode cX11_feed 13 = .ok (.ireturn, 1) := by decide +kernel
theorem dX11_terms_0 : decode cX11_terms 0 = .ok (.iload_n 1, 1) := by decide +kernel
theorem dX11_terms_1 : decode cX11_terms 1 = .ok (.ifCond .ne 7, 3) := by decide +kernel
theorem dX11_terms_8 : decode cX11_terms 8 = .ok (.bipush 99, 2) := by decide +kernel
theorem dX11_terms_10 : decode cX11_terms 10 = .ok (.istore_n 3, 1) := by decide +kernel
theorem dX11_terms_11 : decode cX11_terms 11 = .ok (.iload_n 1, 1) := by decide +kernel
theorem dX11_terms_12 : decode cX11_terms 12 = .ok (.ifCond .lt 17, 3) := by decide +kernel
theorem dX11_terms_29 : decode cX11_terms 29 = .ok (.aload_n 0, 1) := by decide +kernel
theorem dX11_terms_30 : decode cX11_terms 30 = .ok (.iconst (-1), 1) := by decide +kernel
theorem dX11_terms_31 : decode cX11_terms 31 = .ok (.invokevirtual 118, 3) := by decide +kernel
theorem dX11_terms_34 : decode cX11_terms 34 = .ok (.ireturn, 1) := by decide +kernel
theorem dX11_terms_15 : decode cX11_terms 15 = .ok (.iload_n 1, 1) := by decide +kernel
theorem dX11_terms_16 : decode cX11_terms 16 = .ok (.iconst 1, 1) := by decide +kernel
theorem dX11_terms_17 : decode cX11_terms 17 = .ok (.if_icmp .gt 12, 3) := by decide +kernel
theorem dX11_terms_20 : decode cX11_terms 20 = .ok (.iload_n 2, 1) := by decide +kernel
theorem dX11_terms_21 : decode cX11_terms 21 = .ok (.ifCond .lt 8, 3) := by decide +kernel
theorem dX11_terms_24 : decode cX11_terms 24 = .ok (.iload_n 2, 1) := by decide +kernel
theorem dX11_terms_25 : decode cX11_terms 25 = .ok (.iload_n 3, 1) := by decide +kernel
theorem dX11_terms_26 : decode cX11_terms 26 = .ok (.if_icmp .le 9, 3) := by decide +kernel
theorem dX11_terms_35 : decode cX11_terms 35 = .ok (.aload_n 0, 1) := by decide +kernel
theorem dX11_terms_36 : decode cX11_terms 36 = .ok (.getfield 10, 3) := by decide +kernel
theorem dX11_terms_39 : decode cX11_terms 39 = .ok (.getfield 145, 3) := by decide +kernel
theorem dX11_terms_42 : decode cX11_terms 42 = .ok (.iload_n 1, 1) := by decide +kernel
theorem dX11_terms_43 : decode cX11_terms 43 = .ok (.iaload, 1) := by decide +kernel
theorem dX11_terms_44 : decode cX11_terms 44 = .ok (.istore 4, 2) := by decide +kernel
theorem dX11_terms_46 : decode cX11_terms 46 = .ok (.aload_n 0, 1) := by decide +kernel
theorem dX11_terms_47 : decode cX11_terms 47 = .ok (.getfield 10, 3) := by decide +kernel
theorem dX11_terms_50 : decode cX11_terms 50 = .ok (.getfield 145, 3) := by decide +kernel
theorem dX11_terms_53 : decode cX11_terms 53 = .ok (.iload_n 1, 1) := by decide +kernel
theorem dX11_terms_54 : decode cX11_terms 54 = .ok (.iload_n 2, 1) := by decide +kernel
theorem dX11_terms_55 : decode cX11_terms 55 = .ok (.iastore, 1) := by decide +kernel
theorem dX11_terms_56 : decode cX11_terms 56 = .ok (.aload_n 0, 1) := by decide +kernel
theorem dX11_terms_57 : decode cX11_terms 57 = .ok (.getfield 43, 3) := by decide +kernel
theorem dX11_terms_60 : decode cX11_terms 60 = .ok (.invokevirtual 148, 3) := by decide +kernel
theorem dX11_terms_63 : decode cX11_terms 63 = .ok (.aload_n 0, 1) := by decide +kernel
theorem dX11_terms_64 : decode cX11_terms 64 = .ok (.iload 4, 2) := by decide +kernel
theorem dX11_terms_66 : decode cX11_terms 66 = .ok (.invokevirtual 129, 3) := by decide +kernel
theorem dX11_terms_69 : decode cX11_terms 69 = .ok (.ireturn, 1) := by decide +kernel
theorem dX11_terms_4 : decode cX11_terms 4 = .ok (.iconst 1, 1) := by decide +kernel
theorem dX11_terms_5 : decode cX11_terms 5 = .ok (.goto 5, 3) := by decide +kernel
theorem dX11_force_0 : decode cX11_force 0 = .ok (.iload_n 1, 1) := by decide +kernel
theorem dX11_force_1 : decode cX11_force 1 = .ok (.iconst (-1), 1) := by decide +kernel
theorem dX11_force_2 : decode cX11_force 2 = .ok (.if_icmp .lt 14, 3) := by decide +kernel
theorem dX11_force_16 : decode cX11_force 16 = .ok (.aload_n 0, 1) := by decide +kernel
theorem dX11_force_17 : decode cX11_force 17 = .ok (.bipush (-2), 2) := by decide +kernel
theorem dX11_force_19 : decode cX11_force 19 = .ok (.invokevirtual 118, 3) := by decide +kernel
theorem dX11_force_22 : decode cX11_force 22 = .ok (.ireturn, 1) := by decide +kernel
theorem dX11_force_5 : decode cX11_force 5 = .ok (.iload_n 1, 1) := by decide +kernel
theorem dX11_force_6 : decode cX11_force 6 = .ok (.aload_n 0, 1) := by decide +kernel
theorem dX11_force_7 : decode cX11_force 7 = .ok (.getfield 10, 3) := by decide +kernel
theorem dX11_force_10 : decode cX11_force 10 = .ok (.getfield 184, 3) := by decide +kernel
theorem dX11_force_13 : decode cX11_force 13 = .ok (.if_icmp .lt 10, 3) := by decide +kernel
theorem dX11_force_23 : decode cX11_force 23 = .ok (.aload_n 0, 1) := by decide +kernel
theorem dX11_force_24 : decode cX11_force 24 = .ok (.getfield 10, 3) := by decide +kernel
theorem dX11_force_27 : decode cX11_force 27 = .ok (.getfield 198, 3) := by decide +kernel
theorem dX11_force_30 : decode cX11_force 30 = .ok (.istore_n 2, 1) := by decide +kernel
theorem dX11_force_31 : decode cX11_force 31 = .ok (.aload_n 0, 1) := by decide +kernel
theorem dX11_force_32 : decode cX11_force 32 = .ok (.getfield 10, 3) := by decide +kernel
theorem dX11_force_35 : decode cX11_force 35 = .ok (.iload_n 1, 1) := by decide +kernel
theorem dX11_force_36 : decode cX11_force 36 = .ok (.putfield 198, 3) := by decide +kernel
theorem dX11_force_39 : decode cX11_force 39 = .ok (.aload_n 0, 1) := by decide +kernel
theorem dX11_force_40 : decode cX11_force 40 = .ok (.getfield 43, 3) := by decide +kernel
theorem dX11_force_43 : decode cX11_force 43 = .ok (.invokevirtual 148, 3) := by decide +kernel
theorem dX11_force_46 : decode cX11_force 46 = .ok (.aload_n 0, 1) := by decide +kernel
theorem dX11_force_47 : decode cX11_force 47 = .ok (.iload_n 2, 1) := by decide +kernel
theorem dX11_force_48 : decode cX11_force 48 = .ok (.invokevirtual 129, 3) := by decide +kernel
theorem dX11_force_51 : decode cX11_force 51 = .ok (.ireturn, 1) := by decide +kernel
theorem dX11_wall_0 : decode cX11_wall 0 = .ok (.aload_n 0, 1) := by decide +kernel
theorem dX11_wall_1 : decode cX11_wall 1 = .ok (.getfield 27, 3) := by decide +kernel
theorem dX11_wall_4 : decode cX11_wall 4 = .ok (.iload_n 1, 1) := by decide +kernel
theorem dX11_wall_5 : decode cX11_wall 5 = .ok (.invokevirtual 135, 3) := by decide +kernel
theorem dX11_wall_8 : decode cX11_wall 8 = .ok (.ifCond .eq 14, 3) := by decide +kernel
theorem dX11_wall_11 : decode cX11_wall 11 = .ok (.aload_n 0, 1) := by decide +kernel
theorem dX11_wall_12 : decode cX11_wall 12 = .ok (.getfield 27, 3) := by decide +kernel
theorem dX11_wall_15 : decode cX11_wall 15 = .ok (.iload_n 2, 1) := by decide +kernel
theorem dX11_wall_16 : decode cX11_wall 16 = .ok (.invokevirtual 135, 3) := by decide +kernel
theorem dX11_wall_19 : decode cX11_wall 19 = .ok (.ifCond .ne 10, 3) := by decide +kernel
theorem dX11_wall_29 : decode cX11_wall 29 = .ok (.iload_n 1, 1) := by decide +kernel
theorem dX11_wall_30 : decode cX11_wall 30 = .ok (.iload_n 2, 1) := by decide +kernel
theorem dX11_wall_31 : decode cX11_wall 31 = .ok (.if_icmp .eq 16, 3) := by decide +kernel
theorem dX11_wall_47 : decode cX11_wall 47 = .ok (.aload_n 0, 1) := by decide +kernel
theorem dX11_wall_48 : decode cX11_wall 48 = .ok (.bipush (-3), 2) := by decide +kernel
theorem dX11_wall_50 : decode cX11_wall 50 = .ok (.invokevirtual 118, 3) := by decide +kernel
theorem dX11_wall_53 : decode cX11_wall 53 = .ok (.ireturn, 1) := by decide +kernel
theorem dX11_wall_34 : decode cX11_wall 34 = .ok (.aload_n 0, 1) := by decide +kernel
theorem dX11_wall_35 : decode cX11_wall 35 = .ok (.getfield 10, 3) := by decide +kernel
theorem dX11_wall_38 : decode cX11_wall 38 = .ok (.iload_n 1, 1) := by decide +kernel
theorem dX11_wall_39 : decode cX11_wall 39 = .ok (.iload_n 2, 1) := by decide +kernel
theorem dX11_wall_40 : decode cX11_wall 40 = .ok (.invokevirtual 201, 3) := by decide +kernel
theorem dX11_wall_43 : decode cX11_wall 43 = .ok (.iconst (-1), 1) := by decide +kernel
theorem dX11_wall_44 : decode cX11_wall 44 = .ok (.if_icmp .eq 10, 3) := by decide +kernel
theorem dX11_wall_54 : decode cX11_wall 54 = .ok (.aload_n 0, 1) := by decide +kernel
theorem dX11_wall_55 : decode cX11_wall 55 = .ok (.getfield 10, 3) := by decide +kernel
theorem dX11_wall_58 : decode cX11_wall 58 = .ok (.getfield 204, 3) := by decide +kernel
theorem dX11_wall_61 : decode cX11_wall 61 = .ok (.bipush 8, 2) := by decide +kernel
theorem dX11_wall_63 : decode cX11_wall 63 = .ok (.if_icmp .lt 10, 3) := by decide +kernel
theorem dX11_wall_73 : decode cX11_wall 73 = .ok (.aload_n 0, 1) := by decide +kernel
theorem dX11_wall_74 : decode cX11_wall 74 = .ok (.getfield 10, 3) := by decide +kernel
theorem dX11_wall_77 : decode cX11_wall 77 = .ok (.iload_n 1, 1) := by decide +kernel
theorem dX11_wall_78 : decode cX11_wall 78 = .ok (.iload_n 2, 1) := by decide +kernel
theorem dX11_wall_79 : decode cX11_wall 79 = .ok (.invokevirtual 207, 3) := by decide +kernel
theorem dX11_wall_82 : decode cX11_wall 82 = .ok (.aload_n 0, 1) := by decide +kernel
theorem dX11_wall_83 : decode cX11_wall 83 = .ok (.getfield 43, 3) := by decide +kernel
theorem dX11_wall_86 : decode cX11_wall 86 = .ok (.invokevirtual 211, 3) := by decide +kernel
theorem dX11_wall_89 : decode cX11_wall 89 = .ok (.aload_n 0, 1) := by decide +kernel
theorem dX11_wall_90 : decode cX11_wall 90 = .ok (.aload_n 0, 1) := by decide +kernel
theorem dX11_wall_91 : decode cX11_wall 91 = .ok (.getfield 10, 3) := by decide +kernel
theorem dX11_wall_94 : decode cX11_wall 94 = .ok (.getfield 204, 3) := by decide +kernel
theorem dX11_wall_97 : decode cX11_wall 97 = .ok (.invokevirtual 129, 3) := by decide +kernel
theorem dX11_wall_100 : decode cX11_wall 100 = .ok (.ireturn, 1) := by decide +kernel
theorem dX11_wall_66 : decode cX11_wall 66 = .ok (.aload_n 0, 1) := by decide +kernel
theorem dX11_wall_67 : decode cX11_wall 67 = .ok (.bipush (-5), 2) := by decide +kernel
theorem dX11_wall_69 : decode cX11_wall 69 = .ok (.invokevirtual 118, 3) := by decide +kernel
theorem dX11_wall_72 : decode cX11_wall 72 = .ok (.ireturn, 1) := by decide +kernel
theorem dX11_wall_22 : decode cX11_wall 22 = .ok (.aload_n 0, 1) := by decide +kernel
theorem dX11_wall_23 : decode cX11_wall 23 = .ok (.bipush (-2), 2) := by decide +kernel
theorem dX11_wall_25 : decode cX11_wall 25 = .ok (.invokevirtual 118, 3) := by decide +kernel
theorem dX11_wall_28 : decode cX11_wall 28 = .ok (.ireturn, 1) := by decide +kernel
theorem dX11_breach_0 : decode cX11_breach 0 = .ok (.aload_n 0, 1) := by decide +kernel
theorem dX11_breach_1 : decode cX11_breach 1 = .ok (.getfield 27, 3) := by decide +kernel
theorem dX11_breach_4 : decode cX11_breach 4 = .ok (.iload_n 1, 1) := by decide +kernel
theorem dX11_breach_5 : decode cX11_breach 5 = .ok (.invokevirtual 135, 3) := by decide +kernel
theorem dX11_breach_8 : decode cX11_breach 8 = .ok (.ifCond .eq 14, 3) := by decide +kernel
theorem dX11_breach_11 : decode cX11_breach 11 = .ok (.aload_n 0, 1) := by decide +kernel
theorem dX11_breach_12 : decode cX11_breach 12 = .ok (.getfield 27, 3) := by decide +kernel
theorem dX11_breach_15 : decode cX11_breach 15 = .ok (.iload_n 2, 1) := by decide +kernel
theorem dX11_breach_16 : decode cX11_breach 16 = .ok (.invokevirtual 135, 3) := by decide +kernel
theorem dX11_breach_19 : decode cX11_breach 19 = .ok (.ifCond .ne 10, 3) := by decide +kernel
theorem dX11_breach_29 : decode cX11_breach 29 = .ok (.aload_n 0, 1) := by decide +kernel
theorem dX11_breach_30 : decode cX11_breach 30 = .ok (.getfield 10, 3) := by decide +kernel
theorem dX11_breach_33 : decode cX11_breach 33 = .ok (.iload_n 1, 1) := by decide +kernel
theorem dX11_breach_34 : decode cX11_breach 34 = .ok (.iload_n 2, 1) := by decide +kernel
theorem dX11_breach_35 : decode cX11_breach 35 = .ok (.invokevirtual 201, 3) := by decide +kernel
theorem dX11_breach_38 : decode cX11_breach 38 = .ok (.istore_n 3, 1) := by decide +kernel
theorem dX11_breach_39 : decode cX11_breach 39 = .ok (.iload_n 3, 1) := by decide +kernel
theorem dX11_breach_40 : decode cX11_breach 40 = .ok (.iconst (-1), 1) := by decide +kernel
theorem dX11_breach_41 : decode cX11_breach 41 = .ok (.if_icmp .ne 10, 3) := by decide +kernel
theorem dX11_breach_51 : decode cX11_breach 51 = .ok (.aload_n 0, 1) := by decide +kernel
theorem dX11_breach_52 : decode cX11_breach 52 = .ok (.getfield 10, 3) := by decide +kernel
theorem dX11_breach_55 : decode cX11_breach 55 = .ok (.iload_n 3, 1) := by decide +kernel
theorem dX11_breach_56 : decode cX11_breach 56 = .ok (.invokevirtual 214, 3) := by decide +kernel
theorem dX11_breach_59 : decode cX11_breach 59 = .ok (.aload_n 0, 1) := by decide +kernel
theorem dX11_breach_60 : decode cX11_breach 60 = .ok (.getfield 43, 3) := by decide +kernel
theorem dX11_breach_63 : decode cX11_breach 63 = .ok (.invokevirtual 211, 3) := by decide +kernel
theorem dX11_breach_66 : decode cX11_breach 66 = .ok (.aload_n 0, 1) := by decide +kernel
theorem dX11_breach_67 : decode cX11_breach 67 = .ok (.aload_n 0, 1) := by decide +kernel
theorem dX11_breach_68 : decode cX11_breach 68 = .ok (.getfield 10, 3) := by decide +kernel
theorem dX11_breach_71 : decode cX11_breach 71 = .ok (.getfield 204, 3) := by decide +kernel
theorem dX11_breach_74 : decode cX11_breach 74 = .ok (.invokevirtual 129, 3) := by decide +kernel
theorem dX11_breach_77 : decode cX11_breach 77 = .ok (.ireturn, 1) := by decide +kernel
theorem dX11_breach_44 : decode cX11_breach 44 = .ok (.aload_n 0, 1) := by decide +kernel
theorem dX11_breach_45 : decode cX11_breach 45 = .ok (.bipush (-3), 2) := by decide +kernel
theorem dX11_breach_47 : decode cX11_breach 47 = .ok (.invokevirtual 118, 3) := by decide +kernel
theorem dX11_breach_50 : decode cX11_breach 50 = .ok (.ireturn, 1) := by decide +kernel
theorem dX11_breach_22 : decode cX11_breach 22 = .ok (.aload_n 0, 1) := by decide +kernel
theorem dX11_breach_23 : decode cX11_breach 23 = .ok (.bipush (-2), 2) := by decide +kernel
theorem dX11_breach_25 : decode cX11_breach 25 = .ok (.invokevirtual 118, 3) := by decide +kernel
theorem dX11_breach_28 : decode cX11_breach 28 = .ok (.ireturn, 1) := by decide +kernel
theorem dX11_swapIf_0 : decode cX11_swapIf 0 = .ok (.iload_n 1, 1) := by decide +kernel
theorem dX11_swapIf_1 : decode cX11_swapIf 1 = .ok (.ifCond .lt 19, 3) := by decide +kernel
theorem dX11_swapIf_20 : decode cX11_swapIf 20 = .ok (.aload_n 0, 1) := by decide +kernel
theorem dX11_swapIf_21 : decode cX11_swapIf 21 = .ok (.iconst (-1), 1) := by decide +kernel
theorem dX11_swapIf_22 : decode cX11_swapIf 22 = .ok (.invokevirtual 118, 3) := by decide +kernel
theorem dX11_swapIf_25 : decode cX11_swapIf 25 = .ok (.ireturn, 1) := by decide +kernel
theorem dX11_swapIf_4 : decode cX11_swapIf 4 = .ok (.iload_n 2, 1) := by decide +kernel
theorem dX11_swapIf_5 : decode cX11_swapIf 5 = .ok (.iload_n 1, 1) := by decide +kernel
theorem dX11_swapIf_6 : decode cX11_swapIf 6 = .ok (.if_icmp .le 14, 3) := by decide +kernel
theorem dX11_swapIf_9 : decode cX11_swapIf 9 = .ok (.iload_n 2, 1) := by decide +kernel
theorem dX11_swapIf_10 : decode cX11_swapIf 10 = .ok (.aload_n 0, 1) := by decide +kernel
theorem dX11_swapIf_11 : decode cX11_swapIf 11 = .ok (.getfield 27, 3) := by decide +kernel
theorem dX11_swapIf_14 : decode cX11_swapIf 14 = .ok (.invokevirtual 122, 3) := by decide +kernel
theorem dX11_swapIf_17 : decode cX11_swapIf 17 = .ok (.if_icmp .lt 9, 3) := by decide +kernel
theorem dX11_swapIf_26 : decode cX11_swapIf 26 = .ok (.aload_n 0, 1) := by decide +kernel
theorem dX11_swapIf_27 : decode cX11_swapIf 27 = .ok (.getfield 10, 3) := by decide +kernel
theorem dX11_swapIf_30 : decode cX11_swapIf 30 = .ok (.getfield 264, 3) := by decide +kernel
theorem dX11_swapIf_33 : decode cX11_swapIf 33 = .ok (.bipush 12, 2) := by decide +kernel
theorem dX11_swapIf_35 : decode cX11_swapIf 35 = .ok (.if_icmp .lt 10, 3) := by decide +kernel
theorem dX11_swapIf_45 : decode cX11_swapIf 45 = .ok (.aload_n 0, 1) := by decide +kernel
theorem dX11_swapIf_46 : decode cX11_swapIf 46 = .ok (.getfield 10, 3) := by decide +kernel
theorem dX11_swapIf_49 : decode cX11_swapIf 49 = .ok (.iload_n 1, 1) := by decide +kernel
theorem dX11_swapIf_50 : decode cX11_swapIf 50 = .ok (.iload_n 2, 1) := by decide +kernel
theorem dX11_swapIf_51 : decode cX11_swapIf 51 = .ok (.invokevirtual 267, 3) := by decide +kernel
theorem dX11_swapIf_54 : decode cX11_swapIf 54 = .ok (.aload_n 0, 1) := by decide +kernel
theorem dX11_swapIf_55 : decode cX11_swapIf 55 = .ok (.aload_n 0, 1) := by decide +kernel
theorem dX11_swapIf_56 : decode cX11_swapIf 56 = .ok (.getfield 10, 3) := by decide +kernel
theorem dX11_swapIf_59 : decode cX11_swapIf 59 = .ok (.getfield 264, 3) := by decide +kernel
theorem dX11_swapIf_62 : decode cX11_swapIf 62 = .ok (.invokevirtual 129, 3) := by decide +kernel
theorem dX11_swapIf_65 : decode cX11_swapIf 65 = .ok (.ireturn, 1) := by decide +kernel
theorem dX11_swapIf_38 : decode cX11_swapIf 38 = .ok (.aload_n 0, 1) := by decide +kernel
theorem dX11_swapIf_39 : decode cX11_swapIf 39 = .ok (.bipush (-5), 2) := by decide +kernel
theorem dX11_swapIf_41 : decode cX11_swapIf 41 = .ok (.invokevirtual 118, 3) := by decide +kernel
theorem dX11_swapIf_44 : decode cX11_swapIf 44 = .ok (.ireturn, 1) := by decide +kernel
theorem dX11_keep_0 : decode cX11_keep 0 = .ok (.iload_n 1, 1) := by decide +kernel
theorem dX11_keep_1 : decode cX11_keep 1 = .ok (.ifCond .lt 14, 3) := by decide +kernel
theorem dX11_keep_15 : decode cX11_keep 15 = .ok (.aload_n 0, 1) := by decide +kernel
theorem dX11_keep_16 : decode cX11_keep 16 = .ok (.iconst (-1), 1) := by decide +kernel
theorem dX11_keep_17 : decode cX11_keep 17 = .ok (.invokevirtual 118, 3) := by decide +kernel
theorem dX11_keep_20 : decode cX11_keep 20 = .ok (.ireturn, 1) := by decide +kernel
theorem dX11_keep_4 : decode cX11_keep 4 = .ok (.iload_n 1, 1) := by decide +kernel
theorem dX11_keep_5 : decode cX11_keep 5 = .ok (.aload_n 0, 1) := by decide +kernel
theorem dX11_keep_6 : decode cX11_keep 6 = .ok (.getfield 10, 3) := by decide +kernel
theorem dX11_keep_9 : decode cX11_keep 9 = .ok (.getfield 264, 3) := by decide +kernel
theorem dX11_keep_12 : decode cX11_keep 12 = .ok (.if_icmp .le 9, 3) := by decide +kernel
theorem dX11_keep_21 : decode cX11_keep 21 = .ok (.aload_n 0, 1) := by decide +kernel
theorem dX11_keep_22 : decode cX11_keep 22 = .ok (.getfield 10, 3) := by decide +kernel
theorem dX11_keep_25 : decode cX11_keep 25 = .ok (.getfield 264, 3) := by decide +kernel
theorem dX11_keep_28 : decode cX11_keep 28 = .ok (.istore_n 2, 1) := by decide +kernel
theorem dX11_keep_29 : decode cX11_keep 29 = .ok (.aload_n 0, 1) := by decide +kernel
theorem dX11_keep_30 : decode cX11_keep 30 = .ok (.getfield 10, 3) := by decide +kernel
theorem dX11_keep_33 : decode cX11_keep 33 = .ok (.iload_n 1, 1) := by decide +kernel
theorem dX11_keep_34 : decode cX11_keep 34 = .ok (.putfield 264, 3) := by decide +kernel
theorem dX11_keep_37 : decode cX11_keep 37 = .ok (.aload_n 0, 1) := by decide +kernel
theorem dX11_keep_38 : decode cX11_keep 38 = .ok (.iload_n 2, 1) := by decide +kernel
theorem dX11_keep_39 : decode cX11_keep 39 = .ok (.invokevirtual 129, 3) := by decide +kernel
theorem dX11_keep_42 : decode cX11_keep 42 = .ok (.ireturn, 1) := by decide +kernel
theorem dX11_clue_0 : decode cX11_clue 0 = .ok (.iload_n 2, 1) := by decide +kernel
theorem dX11_clue_1 : decode cX11_clue 1 = .ok (.iconst (-1), 1) := by decide +kernel
theorem dX11_clue_2 : decode cX11_clue 2 = .ok (.if_icmp .ge 9, 3) := by decide +kernel
theorem dX11_clue_11 : decode cX11_clue 11 = .ok (.aload_n 0, 1) := by decide +kernel
theorem dX11_clue_12 : decode cX11_clue 12 = .ok (.getfield 27, 3) := by decide +kernel
theorem dX11_clue_15 : decode cX11_clue 15 = .ok (.iload_n 1, 1) := by decide +kernel
theorem dX11_clue_16 : decode cX11_clue 16 = .ok (.invokevirtual 135, 3) := by decide +kernel
theorem dX11_clue_19 : decode cX11_clue 19 = .ok (.ifCond .ne 10, 3) := by decide +kernel
theorem dX11_clue_29 : decode cX11_clue 29 = .ok (.aload_n 0, 1) := by decide +kernel
theorem dX11_clue_30 : decode cX11_clue 30 = .ok (.getfield 10, 3) := by decide +kernel
theorem dX11_clue_33 : decode cX11_clue 33 = .ok (.getfield 286, 3) := by decide +kernel
theorem dX11_clue_36 : decode cX11_clue 36 = .ok (.bipush 6, 2) := by decide +kernel
theorem dX11_clue_38 : decode cX11_clue 38 = .ok (.if_icmp .lt 10, 3) := by decide +kernel
theorem dX11_clue_48 : decode cX11_clue 48 = .ok (.aload_n 0, 1) := by decide +kernel
theorem dX11_clue_49 : decode cX11_clue 49 = .ok (.getfield 10, 3) := by decide +kernel
theorem dX11_clue_52 : decode cX11_clue 52 = .ok (.iload_n 1, 1) := by decide +kernel
theorem dX11_clue_53 : decode cX11_clue 53 = .ok (.iload_n 2, 1) := by decide +kernel
theorem dX11_clue_54 : decode cX11_clue 54 = .ok (.invokevirtual 289, 3) := by decide +kernel
theorem dX11_clue_57 : decode cX11_clue 57 = .ok (.aload_n 0, 1) := by decide +kernel
theorem dX11_clue_58 : decode cX11_clue 58 = .ok (.getfield 82, 3) := by decide +kernel
theorem dX11_clue_61 : decode cX11_clue 61 = .ok (.invokevirtual 292, 3) := by decide +kernel
theorem dX11_clue_64 : decode cX11_clue 64 = .ok (.aload_n 0, 1) := by decide +kernel
theorem dX11_clue_65 : decode cX11_clue 65 = .ok (.aload_n 0, 1) := by decide +kernel
theorem dX11_clue_66 : decode cX11_clue 66 = .ok (.getfield 10, 3) := by decide +kernel
theorem dX11_clue_69 : decode cX11_clue 69 = .ok (.getfield 286, 3) := by decide +kernel
theorem dX11_clue_72 : decode cX11_clue 72 = .ok (.invokevirtual 129, 3) := by decide +kernel
theorem dX11_clue_75 : decode cX11_clue 75 = .ok (.ireturn, 1) := by decide +kernel
theorem dX11_clue_41 : decode cX11_clue 41 = .ok (.aload_n 0, 1) := by decide +kernel
theorem dX11_clue_42 : decode cX11_clue 42 = .ok (.bipush (-5), 2) := by decide +kernel
theorem dX11_clue_44 : decode cX11_clue 44 = .ok (.invokevirtual 118, 3) := by decide +kernel
theorem dX11_clue_47 : decode cX11_clue 47 = .ok (.ireturn, 1) := by decide +kernel
theorem dX11_clue_22 : decode cX11_clue 22 = .ok (.aload_n 0, 1) := by decide +kernel
theorem dX11_clue_23 : decode cX11_clue 23 = .ok (.bipush (-2), 2) := by decide +kernel
theorem dX11_clue_25 : decode cX11_clue 25 = .ok (.invokevirtual 118, 3) := by decide +kernel
theorem dX11_clue_28 : decode cX11_clue 28 = .ok (.ireturn, 1) := by decide +kernel
theorem dX11_clue_5 : decode cX11_clue 5 = .ok (.aload_n 0, 1) := by decide +kernel
theorem dX11_clue_6 : decode cX11_clue 6 = .ok (.iconst (-1), 1) := by decide +kernel
theorem dX11_clue_7 : decode cX11_clue 7 = .ok (.invokevirtual 118, 3) := by decide +kernel
theorem dX11_clue_10 : decode cX11_clue 10 = .ok (.ireturn, 1) := by decide +kernel
theorem dX11_forget_0 : decode cX11_forget 0 = .ok (.aload_n 0, 1) := by decide +kernel
theorem dX11_forget_1 : decode cX11_forget 1 = .ok (.getfield 10, 3) := by decide +kernel
theorem dX11_forget_4 : decode cX11_forget 4 = .ok (.getfield 286, 3) := by decide +kernel
theorem dX11_forget_7 : decode cX11_forget 7 = .ok (.istore_n 1, 1) := by decide +kernel
theorem dX11_forget_8 : decode cX11_forget 8 = .ok (.aload_n 0, 1) := by decide +kernel
theorem dX11_forget_9 : decode cX11_forget 9 = .ok (.getfield 10, 3) := by decide +kernel
theorem dX11_forget_12 : decode cX11_forget 12 = .ok (.iconst 0, 1) := by decide +kernel
theorem dX11_forget_13 : decode cX11_forget 13 = .ok (.putfield 286, 3) := by decide +kernel
theorem dX11_forget_16 : decode cX11_forget 16 = .ok (.aload_n 0, 1) := by decide +kernel
theorem dX11_forget_17 : decode cX11_forget 17 = .ok (.getfield 82, 3) := by decide +kernel
theorem dX11_forget_20 : decode cX11_forget 20 = .ok (.invokevirtual 292, 3) := by decide +kernel
theorem dX11_forget_23 : decode cX11_forget 23 = .ok (.iload_n 1, 1) := by decide +kernel
theorem dX11_forget_24 : decode cX11_forget 24 = .ok (.ireturn, 1) := by decide +kernel
theorem dX11_sorts_0 : decode cX11_sorts 0 = .ok (.aload_n 0, 1) := by decide +kernel
theorem dX11_sorts_1 : decode cX11_sorts 1 = .ok (.getfield 73, 3) := by decide +kernel
theorem dX11_sorts_4 : decode cX11_sorts 4 = .ok (.invokevirtual 270, 3) := by decide +kernel
theorem dX11_sorts_7 : decode cX11_sorts 7 = .ok (.iload_n 1, 1) := by decide +kernel
theorem dX11_sorts_8 : decode cX11_sorts 8 = .ok (.tableswitch 64 0 3 #[32, 40, 48, 56], 32) := by decide +kernel
theorem dX11_sorts_40 : decode cX11_sorts 40 = .ok (.aload_n 0, 1) := by decide +kernel
theorem dX11_sorts_41 : decode cX11_sorts 41 = .ok (.getfield 73, 3) := by decide +kernel
theorem dX11_sorts_44 : decode cX11_sorts 44 = .ok (.invokevirtual 271, 3) := by decide +kernel
theorem dX11_sorts_47 : decode cX11_sorts 47 = .ok (.ireturn, 1) := by decide +kernel
theorem dX11_sorts_48 : decode cX11_sorts 48 = .ok (.aload_n 0, 1) := by decide +kernel
theorem dX11_sorts_49 : decode cX11_sorts 49 = .ok (.getfield 73, 3) := by decide +kernel
theorem dX11_sorts_52 : decode cX11_sorts 52 = .ok (.invokevirtual 274, 3) := by decide +kernel
theorem dX11_sorts_55 : decode cX11_sorts 55 = .ok (.ireturn, 1) := by decide +kernel
theorem dX11_sorts_56 : decode cX11_sorts 56 = .ok (.aload_n 0, 1) := by decide +kernel
theorem dX11_sorts_57 : decode cX11_sorts 57 = .ok (.getfield 73, 3) := by decide +kernel
theorem dX11_sorts_60 : decode cX11_sorts 60 = .ok (.invokevirtual 277, 3) := by decide +kernel
theorem dX11_sorts_63 : decode cX11_sorts 63 = .ok (.ireturn, 1) := by decide +kernel
theorem dX11_sorts_64 : decode cX11_sorts 64 = .ok (.aload_n 0, 1) := by decide +kernel
theorem dX11_sorts_65 : decode cX11_sorts 65 = .ok (.getfield 73, 3) := by decide +kernel
theorem dX11_sorts_68 : decode cX11_sorts 68 = .ok (.invokevirtual 280, 3) := by decide +kernel
theorem dX11_sorts_71 : decode cX11_sorts 71 = .ok (.ireturn, 1) := by decide +kernel
theorem dX11_sorts_72 : decode cX11_sorts 72 = .ok (.iconst (-1), 1) := by decide +kernel
theorem dX11_sorts_73 : decode cX11_sorts 73 = .ok (.ireturn, 1) := by decide +kernel
theorem dX11_sorted_0 : decode cX11_sorted 0 = .ok (.aload_n 0, 1) := by decide +kernel
theorem dX11_sorted_1 : decode cX11_sorted 1 = .ok (.getfield 27, 3) := by decide +kernel
theorem dX11_sorted_4 : decode cX11_sorted 4 = .ok (.iload_n 1, 1) := by decide +kernel
theorem dX11_sorted_5 : decode cX11_sorted 5 = .ok (.invokevirtual 135, 3) := by decide +kernel
theorem dX11_sorted_8 : decode cX11_sorted 8 = .ok (.ifCond .ne 5, 3) := by decide +kernel
theorem dX11_sorted_13 : decode cX11_sorted 13 = .ok (.aload_n 0, 1) := by decide +kernel
theorem dX11_sorted_14 : decode cX11_sorted 14 = .ok (.getfield 73, 3) := by decide +kernel
theorem dX11_sorted_17 : decode cX11_sorted 17 = .ok (.invokevirtual 270, 3) := by decide +kernel
theorem dX11_sorted_20 : decode cX11_sorted 20 = .ok (.aload_n 0, 1) := by decide +kernel
theorem dX11_sorted_21 : decode cX11_sorted 21 = .ok (.getfield 73, 3) := by decide +kernel
theorem dX11_sorted_24 : decode cX11_sorted 24 = .ok (.iload_n 1, 1) := by decide +kernel
theorem dX11_sorted_25 : decode cX11_sorted 25 = .ok (.invokevirtual 283, 3) := by decide +kernel
theorem dX11_sorted_28 : decode cX11_sorted 28 = .ok (.ireturn, 1) := by decide +kernel
theorem dX11_sorted_11 : decode cX11_sorted 11 = .ok (.iconst (-1), 1) := by decide +kernel
theorem dX11_sorted_12 : decode cX11_sorted 12 = .ok (.ireturn, 1) := by decide +kernel
theorem v_4bead6aee4 {a0 : Int} (h0 : -6 ≤ a0) (h1 : a0 ≤ -1) : zr a0 := by omega
theorem v_5eaaed88a2 {a0 : Int} (h0 : a0 = -5) : a0 = -5 := by omega
theorem v_7e5dcff364 : (3 : Int) ≤ 4 := by omega
theorem v_a6699efdce {a0 : Int} (h0 : a0 = -4) : a0 = -4 := by omega
theorem v_bfd4af0b98 {a0 : Int} (h0 : a0 = -3) : a0 = -3 := by omega
theorem v_f7e68fe148 : (2 : Int) ≤ 4 := by omega
theorem v_e19977d040 {a0 : Int} (h0 : a0 = -2) : a0 = -2 := by omega
theorem v_dae748834d {a0 : Int} (h0 : a0 ≤ -1) (h1 : a0 = -1) : a0 = -1 := by omega
theorem v_d00a9ce962 {a0 : Int} (h0 : a0 ≤ 4) : a0 < 5 := by omega
theorem v_ac1024872f {a0 : Int} (h0 : zr a0) (h1 : a0 < 1) : zr a0 := by omega
theorem v_5b2e4e4b9d {a0 : Int} (h0 : a0 < 1) : a0 < 11 := by omega
theorem v_89f77b7dc1 {a0 : Int} (h0 : a0 < 1) (h1 : a0 = 0) : a0 = 0 := by omega
theorem v_bece870d64 {a0 : Int} (h0 : a0 < 1) (h1 : ¬ a0 = 0) : a0 < 0 := by omega
theorem v_5ea54326bb {a0 : Int} (h0 : zr a0) (h1 : ¬ a0 < 1) : zr a0 := by omega
theorem v_af36111c9d {a0 : Int} (h0 : zr a0) (h1 : 5 < a0) : zr a0 := by omega
theorem v_2865180cc1 {a0 : Int} (h0 : 5 < a0) (h1 : a0 < 11) : zr a0 := by omega
theorem v_fdf45abe22 {a0 : Int} (h0 : 5 < a0) (h1 : a0 = 6) : a0 = 6 := by omega
theorem v_5473fbde26 {a0 : Int} (h0 : a0 < 11) (h1 : a0 = 10) : a0 = 10 := by omega
theorem v_f4920d4f68 {a0 : Int} (h0 : zr a0) (h1 : ¬ a0 < 11) : zr a0 := by omega
theorem v_c4791f836d {a0 : Int} (h0 : zr a0) (h1 : 15 < a0) : zr a0 := by omega
theorem v_6e54210300 {a0 : Int} (h0 : 15 < a0) (h1 : a0 = 16) : a0 = 16 := by omega
theorem v_caed12187e {a0 : Int} (h0 : ¬ a0 < 11) : 0 ≤ a0 - 11 := by omega
theorem v_36688d3432 {a0 : Int} (h0 : ¬ 15 < a0) : a0 - 11 < 5 := by omega
theorem v_2d443ed03a {a0 : Int} (h0 : ¬ a0 < 1) : 0 ≤ a0 - 1 := by omega
theorem v_71fb768711 {a0 : Int} (h0 : ¬ 5 < a0) : a0 - 1 < 5 := by omega
theorem v_8bef8a30b0 : (20 : Int) ≤ 100 := by omega
theorem v_ea89b2c152 {a0 : Int} (h0 : a0 + 20 ≤ 400) : a0 ≤ 396 := by omega
theorem v_6d132b2274 {a0 a1 : Int} (h0 : a0 + 20 ≤ 400) (h1 : a1 = a0 + 4) : a1 ≤ 396 := by omega
theorem v_c355f0a46b {a0 a1 a2 : Int} (h0 : a0 + 20 ≤ 400) (h1 : a1 = a0 + 4) (h2 : a2 = a1 + 4) : a2 ≤ 396 := by omega
theorem v_3ec64413b0 {a0 a1 a2 a3 : Int} (h0 : a0 + 20 ≤ 400) (h1 : a1 = a0 + 4) (h2 : a2 = a1 + 4) (h3 : a3 = a2 + 4) : a3 ≤ 396 := by omega
theorem v_c89d2f660a {a0 a1 a2 a3 a4 : Int} (h0 : a0 + 20 ≤ 400) (h1 : a1 = a0 + 4) (h2 : a2 = a1 + 4) (h3 : a3 = a2 + 4) (h4 : a4 = a3 + 4) : a4 ≤ 396 := by omega
theorem v_a8c9166d2e {a0 a1 a2 a3 a4 a5 : Int} (h0 : a0 = a1 + 4) (h1 : a2 = a0 + 4) (h2 : a3 = a2 + 4) (h3 : a4 = a3 + 4) (h4 : a5 = a4 + 4) : a5 = a1 + 20 := by omega
theorem v_0fdc5ad492 {a0 a1 : Int} (h0 : a0 = a1 + 4) : a0 = a1 + 4 := by omega
theorem v_a324caf399 {a0 : Int} (h0 : 400 < a0 + 20) : 380 < a0 := by omega
theorem v_7f68ac6a07 {a0 : Int} (h0 : ¬ 1 < a0) : a0 < 2 := by omega
theorem v_72438f5f82 {a0 : Int} (h0 : 0 ≤ a0) (h1 : a0 ≤ 10000) : zr a0 := by omega
theorem v_c8d7785628 {a0 : Int} (h0 : a0 ≤ 10000) : a0 ≤ 100000 := by omega
theorem v_f807a01f72 {a0 : Int} (h0 : ¬ 1 < a0) : a0 ≤ 1 := by omega
theorem v_4218de3c40 {a0 a1 : Int} (h0 : ¬ a0 = 0) (h1 : ¬ a0 < 0) (h2 : a1 ≤ 99) : a1 ≤ 98 * a0 + 1 := by omega
theorem v_376052f867 {a0 a1 : Int} (h0 : ¬ 1 < a0) (h1 : ¬ a1 ≤ 99) : ¬ a1 ≤ 98 * a0 + 1 := by omega
theorem v_a9318e7b09 {a0 : Int} (h0 : a0 = 0) : zr a0 := by omega
theorem v_7bf129d738 {a0 : Int} (h0 : a0 = 0) : ¬ a0 < 0 := by omega
theorem v_7a6a884611 {a0 : Int} (h0 : a0 = 0) : ¬ 1 < a0 := by omega
theorem v_800e358fde {a0 : Int} (h0 : a0 = 0) : 0 ≤ a0 := by omega
theorem v_bc32b157de {a0 : Int} (h0 : a0 = 0) : a0 < 2 := by omega
theorem v_a15994c18b {a0 a1 : Int} (h0 : a0 = 0) (h1 : a1 ≤ 1) : a1 ≤ 98 * a0 + 1 := by omega
theorem v_c195667b59 {a0 a1 : Int} (h0 : a0 = 0) (h1 : ¬ a1 ≤ 1) : ¬ a1 ≤ 98 * a0 + 1 := by omega
theorem v_fb459e3f4e {a0 : Int} (h0 : zr a0) (h1 : ¬ a0 < -1) : zr a0 := by omega
theorem v_a64c37121f {a0 : Int} (h0 : ¬ a0 < -1) : -1 ≤ a0 := by omega
theorem v_fea0d8f6f7 {a0 : Int} (h0 : a0 < 8) (h1 : 8 ≤ a0) : False := by omega
theorem v_6467fcf465 {a0 a1 a2 : Int} (h0 : a0 ≤ 7) (h1 : ¬ a1 ≤ a2) (h2 : a1 < a0) : a2 ≤ 6 := by omega
theorem v_f014042237 {a0 a1 : Int} (h0 : ¬ a0 < 0) (h1 : ¬ a1 ≤ a0) : 0 ≤ a1 := by omega
theorem v_b1a5e0b584 {a0 a1 : Int} (h0 : a0 ≤ 7) (h1 : a1 < a0) : a1 ≤ 6 := by omega
theorem v_06cdecbc5e {a0 : Int} (h0 : a0 < 12) (h1 : 12 ≤ a0) : False := by omega
theorem v_218a8bd85e {a0 : Int} (h0 : ¬ a0 < 12) : 12 ≤ a0 := by omega
theorem v_2b21f1f297 {a0 a1 : Int} (h0 : ¬ a0 ≤ a1) : ¬ a0 ≤ a1 := by omega
theorem v_6bee6ad1ef {a0 : Int} (h0 : a0 < 6) (h1 : 6 ≤ a0) : False := by omega
theorem v_7fd5f98511 {a0 : Int} (h0 : ¬ a0 < 6) : 6 ≤ a0 := by omega
set_option maxHeartbeats 4000000 in
set_option maxRecDepth 100000 in
theorem b_refusalPlace {l : Launch} {G : jG} {nh : Nat} {fh : Nat → Option va_E} (x : Int) (q0 : -6 ≤ x) (q1 : x ≤ -1) : JM l G yX11_refusalPlace MX11_refusalPlace { frames := 0, cells := 0, slots := 0, locals := 0 } [.int (zI x)] (nh, fh) (fun rr h9 => ∃ r : Int, rr = some (.int (zI r)) ∧ h9 = (nh, fh) ∧ (0 ≤ r) ∧ (r ≤ 4)) := by
  refine JM.of (by decide) rfl (fun h => by cases h) (Nat.le_of_ble_eq_true rfl) ⟨0, rfl⟩ ?_
  refine J_hc0 (J_ls (ls2 := [some (.int (zI x))]) rfl ?_)
  refine J_iload_n dX11_refusalPlace_0 rfl rfl ?_
  by_cases h1 : x = -5
  · refine Z_tableIn (tgt := 42) (off := 41) (-5) dX11_refusalPlace_1 (v_4bead6aee4 q0 q1) (v_5eaaed88a2 h1) (by decide) (by decide) (by decide) (by decide) ?_
    refine Z_iconst (n := 3) dX11_refusalPlace_42 ?_
    exact J_iret dX11_refusalPlace_43 rfl rfl (Nat.le_of_ble_eq_true rfl) (Nat.le_of_ble_eq_true rfl) ⟨3, rfl, rfl, v_c33180d5d7, v_7e5dcff364⟩
  by_cases h2 : x = -4
  · refine Z_tableIn (tgt := 44) (off := 43) (-4) dX11_refusalPlace_1 (v_4bead6aee4 q0 q1) (v_a6699efdce h2) (by decide) (by decide) (by decide) (by decide) ?_
    refine Z_iconst (n := 4) dX11_refusalPlace_44 ?_
    exact J_iret dX11_refusalPlace_45 rfl rfl (Nat.le_of_ble_eq_true rfl) (Nat.le_of_ble_eq_true rfl) ⟨4, rfl, rfl, v_92ab544b5f, v_13cb52b44b⟩
  by_cases h3 : x = -3
  · refine Z_tableIn (tgt := 40) (off := 39) (-3) dX11_refusalPlace_1 (v_4bead6aee4 q0 q1) (v_bfd4af0b98 h3) (by decide) (by decide) (by decide) (by decide) ?_
    refine Z_iconst (n := 2) dX11_refusalPlace_40 ?_
    exact J_iret dX11_refusalPlace_41 rfl rfl (Nat.le_of_ble_eq_true rfl) (Nat.le_of_ble_eq_true rfl) ⟨2, rfl, rfl, v_06d31e7a75, v_f7e68fe148⟩
  by_cases h4 : x = -2
  · refine Z_tableIn (tgt := 38) (off := 37) (-2) dX11_refusalPlace_1 (v_4bead6aee4 q0 q1) (v_e19977d040 h4) (by decide) (by decide) (by decide) (by decide) ?_
    refine Z_iconst (n := 1) dX11_refusalPlace_38 ?_
    exact J_iret dX11_refusalPlace_39 rfl rfl (Nat.le_of_ble_eq_true rfl) (Nat.le_of_ble_eq_true rfl) ⟨1, rfl, rfl, v_316afd7d0b, v_9767b8a520⟩
  by_cases h5 : x = -1
  · refine Z_tableIn (tgt := 36) (off := 35) (-1) dX11_refusalPlace_1 (v_4bead6aee4 q0 q1) (v_dae748834d q1 h5) (by decide) (by decide) (by decide) (by decide) ?_
    refine Z_iconst (n := 0) dX11_refusalPlace_36 ?_
    exact J_iret dX11_refusalPlace_37 rfl rfl (Nat.le_of_ble_eq_true rfl) (Nat.le_of_ble_eq_true rfl) ⟨0, rfl, rfl, v_939070ca3f, v_92ab544b5f⟩
  refine Z_tableOut (tgt := 44) dX11_refusalPlace_1 (v_4bead6aee4 q0 q1) (by omega) (by decide) ?_
  refine Z_iconst (n := 4) dX11_refusalPlace_44 ?_
  exact J_iret dX11_refusalPlace_45 rfl rfl (Nat.le_of_ble_eq_true rfl) (Nat.le_of_ble_eq_true rfl) ⟨4, rfl, rfl, v_92ab544b5f, v_13cb52b44b⟩
set_option maxHeartbeats 4000000 in
set_option maxRecDepth 100000 in
theorem b_refuse {l : Launch} {G : jG} {nh : Nat} {fh : Nat → Option va_E} (x : Int) (cst : Int) (cfa : Int) (cdk : Int) (rfs : Int → Int) (q0 : -6 ≤ x) (q1 : x ≤ -1) (hk0 : fh 0 = some (.inr (11, [.ref 1, .ref 17, .ref 50, .ref 51, .ref 54, .ref 57, .ref 65, .ref 75, .ref 81, .ref 85, .ref 88, .ref 93, .ref 96, .int (zI cst), .int (zI cfa), .ref 97, .int (zI cdk)]))) (hk96 : fh 96 = some (.inl (0, 5, .inl (zA rfs)))) : JM l G yX11_refuse MX11_refuse { frames := 1, cells := 0, slots := 0, locals := 20 } [.ref 0, .int (zI x)] (nh, fh) (fun rr h9 => ∃ rfs2 : Int → Int, rr = some (.int (zI x)) ∧ h9 = (nh, hc fh [(0, .inr (11, [.ref 1, .ref 17, .ref 50, .ref 51, .ref 54, .ref 57, .ref 65, .ref 75, .ref 81, .ref 85, .ref 88, .ref 93, .ref 96, .int (zI x), .int (zI cfa), .ref 97, .int (zI cdk)])), (96, .inl (0, 5, .inl (zA rfs2)))])) := by
  refine JM.of (by decide) rfl (fun h => by cases h) (Nat.le_of_ble_eq_true rfl) ⟨0, rfl⟩ ?_
  refine J_hc0 (J_ls (ls2 := [some (.ref 0), some (.int (zI x))]) rfl ?_)
  refine J_aload_n dX11_refuse_0 rfl rfl ?_
  refine J_iload_n dX11_refuse_1 rfl rfl ?_
  refine K_put (fs2 := [.ref 1, .ref 17, .ref 50, .ref 51, .ref 54, .ref 57, .ref 65, .ref 75, .ref 81, .ref 85, .ref 88, .ref 93, .ref 96, .int (zI x), .int (zI cfa), .ref 97, .int (zI cdk)]) dX11_refuse_2 fw_X11_97 hk0 (Nat.le_of_ble_eq_true rfl) (fun _ => ⟨rfl, rfl⟩) rfl ?_
  refine J_aload_n dX11_refuse_5 rfl rfl ?_
  refine J_get (v := .ref 96) dX11_refuse_6 fl_X11_93 rfl rfl ?_
  refine J_iload_n dX11_refuse_9 rfl rfl ?_
  refine J_callS (st := [.ref 96]) dX11_refuse_10 cs_X11_318 (b_refusalPlace x q0 q1) rfl rfl (Nat.le_of_ble_eq_true rfl) ⟨(Nat.le_of_ble_eq_true rfl), (Nat.le_of_ble_eq_true rfl)⟩ ⟨(Nat.le_of_ble_eq_true rfl), (Nat.le_of_ble_eq_true rfl)⟩ (fun r h9 hp => ?_)
  obtain ⟨z1, rfl, rfl, h2, h3⟩ := hp
  refine J_nf (nh2 := nh) (ck2 := 0) (sk2 := 0) (st2 := [.int (zI z1), .ref 96]) rfl rfl rfl rfl ?_
  refine J_dup2_11 dX11_refuse_13 rfl rfl ?_
  obtain ⟨z4, ez4⟩ : ∃ z : Int, rfs z1 = z := ⟨_, rfl⟩
  refine Y_iald (z := z4) 5 dX11_refuse_14 hk96 rfl (by decide) (v_2b02420001 h2) (v_d00a9ce962 h3) ez4 ?_
  refine Z_iconst (n := 1) dX11_refuse_15 ?_
  refine Z_iadd (c := z4 + 1) dX11_refuse_16 rfl ?_
  refine Y_iast (v := z4 + 1) 5 dX11_refuse_17 hk96 rfl (by decide) (v_2b02420001 h2) (v_d00a9ce962 h3) (fun f5 ef5 => ?_)
  refine J_iload_n dX11_refuse_18 rfl rfl ?_
  refine J_touch (k := 96) (e := .inl (0, 5, .inl (zA f5))) rfl ?_
  refine J_touch (k := 0) (e := .inr (11, [.ref 1, .ref 17, .ref 50, .ref 51, .ref 54, .ref 57, .ref 65, .ref 75, .ref 81, .ref 85, .ref 88, .ref 93, .ref 96, .int (zI x), .int (zI cfa), .ref 97, .int (zI cdk)])) rfl ?_
  refine J_mask (L2 := [(0, .inr (11, [.ref 1, .ref 17, .ref 50, .ref 51, .ref 54, .ref 57, .ref 65, .ref 75, .ref 81, .ref 85, .ref 88, .ref 93, .ref 96, .int (zI x), .int (zI cfa), .ref 97, .int (zI cdk)])), (96, .inl (0, 5, .inl (zA f5)))]) (ks := [0, 96, 96, 0]) [true, true, false, false] rfl (by decide +kernel) rfl ?_
  exact J_iret dX11_refuse_19 rfl rfl (Nat.le_of_ble_eq_true rfl) (Nat.le_of_ble_eq_true rfl) ⟨f5, rfl, rfl⟩
set_option maxHeartbeats 4000000 in
set_option maxRecDepth 100000 in
theorem b_accept {l : Launch} {G : jG} {nh : Nat} {fh : Nat → Option va_E} (x : Int) (cst : Int) (cfa : Int) (cdk : Int) (hk0 : fh 0 = some (.inr (11, [.ref 1, .ref 17, .ref 50, .ref 51, .ref 54, .ref 57, .ref 65, .ref 75, .ref 81, .ref 85, .ref 88, .ref 93, .ref 96, .int (zI cst), .int (zI cfa), .ref 97, .int (zI cdk)]))) : JM l G yX11_accept MX11_accept { frames := 0, cells := 0, slots := 0, locals := 0 } [.ref 0, .int (zI x)] (nh, fh) (fun rr h9 => rr = some (.int (zI x)) ∧ h9 = (nh, hc fh [(0, .inr (11, [.ref 1, .ref 17, .ref 50, .ref 51, .ref 54, .ref 57, .ref 65, .ref 75, .ref 81, .ref 85, .ref 88, .ref 93, .ref 96, .int (zI 0), .int (zI cfa), .ref 97, .int (zI cdk)]))])) := by
  refine JM.of (by decide) rfl (fun h => by cases h) (Nat.le_of_ble_eq_true rfl) ⟨0, rfl⟩ ?_
  refine J_hc0 (J_ls (ls2 := [some (.ref 0), some (.int (zI x))]) rfl ?_)
  refine J_aload_n dX11_accept_0 rfl rfl ?_
  refine Z_iconst (n := 0) dX11_accept_1 ?_
  refine K_put (fs2 := [.ref 1, .ref 17, .ref 50, .ref 51, .ref 54, .ref 57, .ref 65, .ref 75, .ref 81, .ref 85, .ref 88, .ref 93, .ref 96, .int (zI 0), .int (zI cfa), .ref 97, .int (zI cdk)]) dX11_accept_2 fw_X11_97 hk0 (Nat.le_of_ble_eq_true rfl) (fun _ => ⟨rfl, rfl⟩) rfl ?_
  refine J_iload_n dX11_accept_5 rfl rfl ?_
  exact J_iret dX11_accept_6 rfl rfl (Nat.le_of_ble_eq_true rfl) (Nat.le_of_ble_eq_true rfl) ⟨rfl, rfl⟩
set_option maxHeartbeats 4000000 in
set_option maxRecDepth 100000 in
theorem b_status {l : Launch} {G : jG} {nh : Nat} {fh : Nat → Option va_E} (cst : Int) (cfa : Int) (cdk : Int) (q0 : 0 ≤ cdk) (q1 : cdk ≤ 1) (hk0 : fh 0 = some (.inr (11, [.ref 1, .ref 17, .ref 50, .ref 51, .ref 54, .ref 57, .ref 65, .ref 75, .ref 81, .ref 85, .ref 88, .ref 93, .ref 96, .int (zI cst), .int (zI cfa), .ref 97, .int (zI cdk)]))) : JM l G yX11_status MX11_status { frames := 0, cells := 0, slots := 0, locals := 0 } [.ref 0] (nh, fh) (fun rr h9 => rr = some (.int (zI cst)) ∧ h9 = (nh, fh)) := by
  refine JM.of (by decide) rfl (fun h => by cases h) (Nat.le_of_ble_eq_true rfl) ⟨0, rfl⟩ ?_
  refine J_hc0 (J_ls (ls2 := [some (.ref 0)]) rfl ?_)
  refine J_aload_n dX11_status_0 rfl rfl ?_
  refine J_get (v := .int (zI cst)) dX11_status_1 fl_X11_97 hk0 rfl ?_
  exact J_iret dX11_status_4 rfl rfl (Nat.le_of_ble_eq_true rfl) (Nat.le_of_ble_eq_true rfl) ⟨rfl, rfl⟩
set_option maxHeartbeats 4000000 in
set_option maxRecDepth 100000 in
theorem b_fault {l : Launch} {G : jG} {nh : Nat} {fh : Nat → Option va_E} (cst : Int) (cfa : Int) (cdk : Int) (q0 : 0 ≤ cdk) (q1 : cdk ≤ 1) (hk0 : fh 0 = some (.inr (11, [.ref 1, .ref 17, .ref 50, .ref 51, .ref 54, .ref 57, .ref 65, .ref 75, .ref 81, .ref 85, .ref 88, .ref 93, .ref 96, .int (zI cst), .int (zI cfa), .ref 97, .int (zI cdk)]))) : JM l G yX11_fault MX11_fault { frames := 0, cells := 0, slots := 0, locals := 0 } [.ref 0] (nh, fh) (fun rr h9 => rr = some (.int (zI cfa)) ∧ h9 = (nh, fh)) := by
  refine JM.of (by decide) rfl (fun h => by cases h) (Nat.le_of_ble_eq_true rfl) ⟨0, rfl⟩ ?_
  refine J_hc0 (J_ls (ls2 := [some (.ref 0)]) rfl ?_)
  refine J_aload_n dX11_fault_0 rfl rfl ?_
  refine J_get (v := .int (zI cfa)) dX11_fault_1 fl_X11_101 hk0 rfl ?_
  exact J_iret dX11_fault_4 rfl rfl (Nat.le_of_ble_eq_true rfl) (Nat.le_of_ble_eq_true rfl) ⟨rfl, rfl⟩
set_option maxHeartbeats 4000000 in
set_option maxRecDepth 100000 in
theorem b_houses {l : Launch} {G : jG} {nh : Nat} {fh : Nat → Option va_E} (cst : Int) (cfa : Int) (cdk : Int) (many : Int) (places : Int) (rf : Int → Int) (bf : Int → Int) (ff : Int → Int) (tf : Int → Int) (lf : Nat → Option Nat) (wa : Int → Int) (wb : Int → Int) (ca : Int → Int) (cb : Int → Int) (sa : Int → Int) (sb : Int → Int) (lc : Int) (fo : Int) (wc : Int) (cc : Int) (sc : Int) (q0 : 0 ≤ cdk) (q1 : cdk ≤ 1) (q2 : 1 ≤ many) (q3 : many ≤ 1260) (q4 : 0 ≤ places) (q5 : places ≤ 7) (q6 : many = Hi ff) (q7 : places = bsum ff) (q8 : RowsTo rf ff many) (q9 : Rg rf 1260 (-2147483648) 2147483647) (q10 : Rg bf 7 0 4) (q11 : okF ff) (q12 : 0 ≤ lc) (q13 : lc ≤ 6) (q14 : -1 ≤ fo) (q15 : fo < lc) (q16 : 0 ≤ wc) (q17 : wc ≤ 8) (q18 : 0 ≤ cc) (q19 : cc ≤ 6) (q20 : 0 ≤ sc) (q21 : sc ≤ 12) (q22 : Rg tf 2 (-2147483648) 2147483647) (q23 : Rg wa 8 (-2147483648) 2147483647) (q24 : Rg wb 8 (-2147483648) 2147483647) (q25 : Rg ca 6 (-2147483648) 2147483647) (q26 : Rg ca cc 0 (Hi ff - 1)) (q27 : Rg cb 6 (-2147483648) 2147483647) (q28 : Rg sa 12 0 6) (q29 : Rg sb 12 0 6) (q30 : Rg ff 5 (-2147483648) 2147483647) (q31 : LawsIn fh lf) (hk0 : fh 0 = some (.inr (11, [.ref 1, .ref 17, .ref 50, .ref 51, .ref 54, .ref 57, .ref 65, .ref 75, .ref 81, .ref 85, .ref 88, .ref 93, .ref 96, .int (zI cst), .int (zI cfa), .ref 97, .int (zI cdk)]))) (hk51 : fh 51 = some (.inr (0, [.ref 52, .ref 53, .int (zI many), .int (zI places)]))) (hk52 : fh 52 = some (.inl (0, 1260, .inl (zA rf)))) (hk53 : fh 53 = some (.inl (0, 7, .inl (zA bf)))) (hk1 : fh 1 = some (.inr (8, [.ref 2, .ref 3, .ref 4, .int (zI lc), .int (zI fo), .ref 11, .ref 12, .int (zI wc), .ref 13, .ref 14, .int (zI cc), .ref 15, .ref 16, .int (zI sc)]))) (hk2 : fh 2 = some (.inl (0, 5, .inl (zA ff)))) (hk3 : fh 3 = some (.inl (0, 2, .inl (zA tf)))) (hk4 : fh 4 = some (.inl (5, 6, .inr (.inr (.inr (.inr lf)))))) (hk11 : fh 11 = some (.inl (0, 8, .inl (zA wa)))) (hk12 : fh 12 = some (.inl (0, 8, .inl (zA wb)))) (hk13 : fh 13 = some (.inl (0, 6, .inl (zA ca)))) (hk14 : fh 14 = some (.inl (0, 6, .inl (zA cb)))) (hk15 : fh 15 = some (.inl (0, 12, .inl (zA sa)))) (hk16 : fh 16 = some (.inl (0, 12, .inl (zA sb)))) : JM l G yX11_houses MX11_houses { frames := 1, cells := 0, slots := 0, locals := 20 } [.ref 0] (nh, fh) (fun rr h9 => rr = some (.int (zI many)) ∧ h9 = (nh, fh)) := by
  refine JM.of (by decide) rfl (fun h => by cases h) (Nat.le_of_ble_eq_true rfl) ⟨0, rfl⟩ ?_
  refine J_hc0 (J_ls (ls2 := [some (.ref 0)]) rfl ?_)
  refine J_aload_n dX11_houses_0 rfl rfl ?_
  refine J_get (v := .ref 51) dX11_houses_1 fl_X11_27 hk0 rfl ?_
  refine J_callV (st := []) dX11_houses_4 cv_X11_132 (g_many many places hk51) hk51 rfl rfl (Nat.le_of_ble_eq_true rfl) ⟨(Nat.le_of_ble_eq_true rfl), (Nat.le_of_ble_eq_true rfl)⟩ ⟨(Nat.le_of_ble_eq_true rfl), (Nat.le_of_ble_eq_true rfl)⟩ (fun r h9 hp => ?_)
  obtain ⟨rfl, rfl⟩ := hp
  refine J_nf (nh2 := nh) (ck2 := 0) (sk2 := 0) (st2 := [.int (zI many)]) rfl rfl rfl rfl ?_
  exact J_iret dX11_houses_7 rfl rfl (Nat.le_of_ble_eq_true rfl) (Nat.le_of_ble_eq_true rfl) ⟨rfl, rfl⟩
set_option maxHeartbeats 4000000 in
set_option maxRecDepth 100000 in
theorem b_code {l : Launch} {G : jG} {nh : Nat} {fh : Nat → Option va_E} (x : Int) (cst : Int) (cfa : Int) (cdk : Int) (many : Int) (places : Int) (rf : Int → Int) (bf : Int → Int) (ff : Int → Int) (tf : Int → Int) (lf : Nat → Option Nat) (wa : Int → Int) (wb : Int → Int) (ca : Int → Int) (cb : Int → Int) (sa : Int → Int) (sb : Int → Int) (lc : Int) (fo : Int) (wc : Int) (cc : Int) (sc : Int) (q0 : zr x) (q1 : 0 ≤ cdk) (q2 : cdk ≤ 1) (q3 : 1 ≤ many) (q4 : many ≤ 1260) (q5 : 0 ≤ places) (q6 : places ≤ 7) (q7 : many = Hi ff) (q8 : places = bsum ff) (q9 : RowsTo rf ff many) (q10 : Rg rf 1260 (-2147483648) 2147483647) (q11 : Rg bf 7 0 4) (q12 : okF ff) (q13 : 0 ≤ lc) (q14 : lc ≤ 6) (q15 : -1 ≤ fo) (q16 : fo < lc) (q17 : 0 ≤ wc) (q18 : wc ≤ 8) (q19 : 0 ≤ cc) (q20 : cc ≤ 6) (q21 : 0 ≤ sc) (q22 : sc ≤ 12) (q23 : Rg tf 2 (-2147483648) 2147483647) (q24 : Rg wa 8 (-2147483648) 2147483647) (q25 : Rg wb 8 (-2147483648) 2147483647) (q26 : Rg ca 6 (-2147483648) 2147483647) (q27 : Rg ca cc 0 (Hi ff - 1)) (q28 : Rg cb 6 (-2147483648) 2147483647) (q29 : Rg sa 12 0 6) (q30 : Rg sb 12 0 6) (q31 : Rg ff 5 (-2147483648) 2147483647) (q32 : LawsIn fh lf) (hk0 : fh 0 = some (.inr (11, [.ref 1, .ref 17, .ref 50, .ref 51, .ref 54, .ref 57, .ref 65, .ref 75, .ref 81, .ref 85, .ref 88, .ref 93, .ref 96, .int (zI cst), .int (zI cfa), .ref 97, .int (zI cdk)]))) (hk51 : fh 51 = some (.inr (0, [.ref 52, .ref 53, .int (zI many), .int (zI places)]))) (hk52 : fh 52 = some (.inl (0, 1260, .inl (zA rf)))) (hk53 : fh 53 = some (.inl (0, 7, .inl (zA bf)))) (hk1 : fh 1 = some (.inr (8, [.ref 2, .ref 3, .ref 4, .int (zI lc), .int (zI fo), .ref 11, .ref 12, .int (zI wc), .ref 13, .ref 14, .int (zI cc), .ref 15, .ref 16, .int (zI sc)]))) (hk2 : fh 2 = some (.inl (0, 5, .inl (zA ff)))) (hk3 : fh 3 = some (.inl (0, 2, .inl (zA tf)))) (hk4 : fh 4 = some (.inl (5, 6, .inr (.inr (.inr (.inr lf)))))) (hk11 : fh 11 = some (.inl (0, 8, .inl (zA wa)))) (hk12 : fh 12 = some (.inl (0, 8, .inl (zA wb)))) (hk13 : fh 13 = some (.inl (0, 6, .inl (zA ca)))) (hk14 : fh 14 = some (.inl (0, 6, .inl (zA cb)))) (hk15 : fh 15 = some (.inl (0, 12, .inl (zA sa)))) (hk16 : fh 16 = some (.inl (0, 12, .inl (zA sb)))) : JM l G yX11_code MX11_code { frames := 3, cells := 0, slots := 0, locals := 65 } [.ref 0, .int (zI x)] (nh, fh) (fun rr h9 => (rr = some (.int (zI (-1))) ∧ h9 = (nh, fh) ∧ (¬ isA x (Hi ff))) ∨ (∃ r : Int, rr = some (.int (zI r)) ∧ h9 = (nh, fh) ∧ (isA x (Hi ff)) ∧ (cod5 (itB ff (x).toNat) (places).toNat = r))) := by
  refine JM.of (by decide) rfl (fun h => by cases h) (Nat.le_of_ble_eq_true rfl) ⟨0, rfl⟩ ?_
  refine J_hc0 (J_ls (ls2 := [some (.ref 0), some (.int (zI x))]) rfl ?_)
  refine J_aload_n dX11_code_0 rfl rfl ?_
  refine J_get (v := .ref 51) dX11_code_1 fl_X11_27 hk0 rfl ?_
  refine J_iload_n dX11_code_4 rfl rfl ?_
  refine J_callV (st := []) dX11_code_5 cv_X11_135 (g_has x many places q0 q3 q4 hk51) hk51 rfl rfl (Nat.le_of_ble_eq_true rfl) ⟨(Nat.le_of_ble_eq_true rfl), (Nat.le_of_ble_eq_true rfl)⟩ ⟨(Nat.le_of_ble_eq_true rfl), (Nat.le_of_ble_eq_true rfl)⟩ (fun r h9 hp => ?_)
  rcases hp with ⟨rfl, rfl, h1, h2⟩ | ⟨rfl, rfl, h3⟩ | ⟨rfl, rfl, h4⟩
  · refine J_nf (nh2 := nh) (ck2 := 0) (sk2 := 0) (st2 := [.int (zI 1)]) rfl rfl rfl rfl ?_
    refine Z_if_eq (tgt := 22) dX11_code_8 (by decide) v_4dcc24baa7 (fun h5 => absurd h5 v_3a47bfd896) (fun h5 => ?_)
    refine J_aload_n dX11_code_11 rfl rfl ?_
    refine J_get (v := .ref 51) dX11_code_12 fl_X11_27 hk0 rfl ?_
    refine J_iload_n dX11_code_15 rfl rfl ?_
    refine J_callV (st := []) dX11_code_16 cv_X11_139 (g_codeOf x many places rf ff h1 h2 q3 q4 q5 q6 q10 q12 q7 q8 q9 hk51 hk52) hk51 rfl rfl (Nat.le_of_ble_eq_true rfl) ⟨(Nat.le_of_ble_eq_true rfl), (Nat.le_of_ble_eq_true rfl)⟩ ⟨(Nat.le_of_ble_eq_true rfl), (Nat.le_of_ble_eq_true rfl)⟩ (fun r h9 hp => ?_)
    obtain ⟨z6, rfl, rfl, h7⟩ := hp
    refine J_nf (nh2 := nh) (ck2 := 0) (sk2 := 0) (st2 := [.int (zI z6)]) rfl rfl rfl rfl ?_
    refine J_goto (tgt := 23) dX11_code_19 (by decide) ?_
    exact J_iret dX11_code_23 rfl rfl (Nat.le_of_ble_eq_true rfl) (Nat.le_of_ble_eq_true rfl) (Or.inr ⟨z6, rfl, rfl, (⟨(v_2b02420001 h1), (v_d7c2909a09 q7 h2)⟩), h7⟩)
  · refine J_nf (nh2 := nh) (ck2 := 0) (sk2 := 0) (st2 := [.int (zI 0)]) rfl rfl rfl rfl ?_
    refine Z_if_eq (tgt := 22) dX11_code_8 (by decide) v_b17331891f (fun h8 => ?_) (fun h8 => absurd h8 (fun q => q v_2ca2bbca1f))
    refine Z_iconst (n := -1) dX11_code_22 ?_
    exact J_iret dX11_code_23 rfl rfl (Nat.le_of_ble_eq_true rfl) (Nat.le_of_ble_eq_true rfl) (Or.inl ⟨rfl, rfl, (fun q => absurd q.1 (v_dccefa8cdf h3))⟩)
  · refine J_nf (nh2 := nh) (ck2 := 0) (sk2 := 0) (st2 := [.int (zI 0)]) rfl rfl rfl rfl ?_
    refine Z_if_eq (tgt := 22) dX11_code_8 (by decide) v_b17331891f (fun h9 => ?_) (fun h9 => absurd h9 (fun q => q v_2ca2bbca1f))
    refine Z_iconst (n := -1) dX11_code_22 ?_
    exact J_iret dX11_code_23 rfl rfl (Nat.le_of_ble_eq_true rfl) (Nat.le_of_ble_eq_true rfl) (Or.inl ⟨rfl, rfl, (fun q => absurd q.2 (v_f9e33a7fad q7 h4))⟩)
set_option maxHeartbeats 4000000 in
set_option maxRecDepth 100000 in
theorem b_house {l : Launch} {G : jG} {nh : Nat} {fh : Nat → Option va_E} (x : Int) (cst : Int) (cfa : Int) (cdk : Int) (many : Int) (places : Int) (rf : Int → Int) (bf : Int → Int) (ff : Int → Int) (tf : Int → Int) (lf : Nat → Option Nat) (wa : Int → Int) (wb : Int → Int) (ca : Int → Int) (cb : Int → Int) (sa : Int → Int) (sb : Int → Int) (lc : Int) (fo : Int) (wc : Int) (cc : Int) (sc : Int) (q0 : zr x) (q1 : 0 ≤ cdk) (q2 : cdk ≤ 1) (q3 : 1 ≤ many) (q4 : many ≤ 1260) (q5 : 0 ≤ places) (q6 : places ≤ 7) (q7 : many = Hi ff) (q8 : places = bsum ff) (q9 : RowsTo rf ff many) (q10 : Rg rf 1260 (-2147483648) 2147483647) (q11 : Rg bf 7 0 4) (q12 : okF ff) (q13 : 0 ≤ lc) (q14 : lc ≤ 6) (q15 : -1 ≤ fo) (q16 : fo < lc) (q17 : 0 ≤ wc) (q18 : wc ≤ 8) (q19 : 0 ≤ cc) (q20 : cc ≤ 6) (q21 : 0 ≤ sc) (q22 : sc ≤ 12) (q23 : Rg tf 2 (-2147483648) 2147483647) (q24 : Rg wa 8 (-2147483648) 2147483647) (q25 : Rg wb 8 (-2147483648) 2147483647) (q26 : Rg ca 6 (-2147483648) 2147483647) (q27 : Rg ca cc 0 (Hi ff - 1)) (q28 : Rg cb 6 (-2147483648) 2147483647) (q29 : Rg sa 12 0 6) (q30 : Rg sb 12 0 6) (q31 : Rg ff 5 (-2147483648) 2147483647) (q32 : LawsIn fh lf) (hk0 : fh 0 = some (.inr (11, [.ref 1, .ref 17, .ref 50, .ref 51, .ref 54, .ref 57, .ref 65, .ref 75, .ref 81, .ref 85, .ref 88, .ref 93, .ref 96, .int (zI cst), .int (zI cfa), .ref 97, .int (zI cdk)]))) (hk51 : fh 51 = some (.inr (0, [.ref 52, .ref 53, .int (zI many), .int (zI places)]))) (hk52 : fh 52 = some (.inl (0, 1260, .inl (zA rf)))) (hk53 : fh 53 = some (.inl (0, 7, .inl (zA bf)))) (hk1 : fh 1 = some (.inr (8, [.ref 2, .ref 3, .ref 4, .int (zI lc), .int (zI fo), .ref 11, .ref 12, .int (zI wc), .ref 13, .ref 14, .int (zI cc), .ref 15, .ref 16, .int (zI sc)]))) (hk2 : fh 2 = some (.inl (0, 5, .inl (zA ff)))) (hk3 : fh 3 = some (.inl (0, 2, .inl (zA tf)))) (hk4 : fh 4 = some (.inl (5, 6, .inr (.inr (.inr (.inr lf)))))) (hk11 : fh 11 = some (.inl (0, 8, .inl (zA wa)))) (hk12 : fh 12 = some (.inl (0, 8, .inl (zA wb)))) (hk13 : fh 13 = some (.inl (0, 6, .inl (zA ca)))) (hk14 : fh 14 = some (.inl (0, 6, .inl (zA cb)))) (hk15 : fh 15 = some (.inl (0, 12, .inl (zA sa)))) (hk16 : fh 16 = some (.inl (0, 12, .inl (zA sb)))) : JM l G yX11_house MX11_house { frames := 2, cells := 0, slots := 0, locals := 48 } [.ref 0, .int (zI x)] (nh, fh) (fun rr h9 => ∃ r : Int, rr = some (.int (zI r)) ∧ h9 = (nh, fh) ∧ (HcR ff x r)) := by
  refine JM.of (by decide) rfl (fun h => by cases h) (Nat.le_of_ble_eq_true rfl) ⟨0, rfl⟩ ?_
  refine J_hc0 (J_ls (ls2 := [some (.ref 0), some (.int (zI x))]) rfl ?_)
  refine J_aload_n dX11_house_0 rfl rfl ?_
  refine J_get (v := .ref 51) dX11_house_1 fl_X11_27 hk0 rfl ?_
  refine J_iload_n dX11_house_4 rfl rfl ?_
  refine J_callV (st := []) dX11_house_5 cv_X11_142 (g_withCode x many places rf ff q0 q3 q4 q5 q6 q10 q12 q7 q8 q9 hk51 hk52) hk51 rfl rfl (Nat.le_of_ble_eq_true rfl) ⟨(Nat.le_of_ble_eq_true rfl), (Nat.le_of_ble_eq_true rfl)⟩ ⟨(Nat.le_of_ble_eq_true rfl), (Nat.le_of_ble_eq_true rfl)⟩ (fun r h9 hp => ?_)
  obtain ⟨z1, rfl, rfl, h2, h3, h4⟩ := hp
  refine J_nf (nh2 := nh) (ck2 := 0) (sk2 := 0) (st2 := [.int (zI z1)]) rfl rfl rfl rfl ?_
  exact J_iret dX11_house_8 rfl rfl (Nat.le_of_ble_eq_true rfl) (Nat.le_of_ble_eq_true rfl) ⟨z1, rfl, rfl, h4⟩
set_option maxHeartbeats 4000000 in
set_option maxRecDepth 100000 in
theorem b_read {l : Launch} {G : jG} {nh : Nat} {fh : Nat → Option va_E} (x : Int) (y : Int) (cst : Int) (cfa : Int) (cdk : Int) (many : Int) (places : Int) (rf : Int → Int) (bf : Int → Int) (ff : Int → Int) (tf : Int → Int) (lf : Nat → Option Nat) (wa : Int → Int) (wb : Int → Int) (ca : Int → Int) (cb : Int → Int) (sa : Int → Int) (sb : Int → Int) (lc : Int) (fo : Int) (wc : Int) (cc : Int) (sc : Int) (q0 : zr x) (q1 : zr y) (q2 : 0 ≤ cdk) (q3 : cdk ≤ 1) (q4 : 1 ≤ many) (q5 : many ≤ 1260) (q6 : 0 ≤ places) (q7 : places ≤ 7) (q8 : many = Hi ff) (q9 : places = bsum ff) (q10 : RowsTo rf ff many) (q11 : Rg rf 1260 (-2147483648) 2147483647) (q12 : Rg bf 7 0 4) (q13 : okF ff) (q14 : 0 ≤ lc) (q15 : lc ≤ 6) (q16 : -1 ≤ fo) (q17 : fo < lc) (q18 : 0 ≤ wc) (q19 : wc ≤ 8) (q20 : 0 ≤ cc) (q21 : cc ≤ 6) (q22 : 0 ≤ sc) (q23 : sc ≤ 12) (q24 : Rg tf 2 (-2147483648) 2147483647) (q25 : Rg wa 8 (-2147483648) 2147483647) (q26 : Rg wb 8 (-2147483648) 2147483647) (q27 : Rg ca 6 (-2147483648) 2147483647) (q28 : Rg ca cc 0 (Hi ff - 1)) (q29 : Rg cb 6 (-2147483648) 2147483647) (q30 : Rg sa 12 0 6) (q31 : Rg sb 12 0 6) (q32 : Rg ff 5 (-2147483648) 2147483647) (q33 : LawsIn fh lf) (hk0 : fh 0 = some (.inr (11, [.ref 1, .ref 17, .ref 50, .ref 51, .ref 54, .ref 57, .ref 65, .ref 75, .ref 81, .ref 85, .ref 88, .ref 93, .ref 96, .int (zI cst), .int (zI cfa), .ref 97, .int (zI cdk)]))) (hk51 : fh 51 = some (.inr (0, [.ref 52, .ref 53, .int (zI many), .int (zI places)]))) (hk52 : fh 52 = some (.inl (0, 1260, .inl (zA rf)))) (hk53 : fh 53 = some (.inl (0, 7, .inl (zA bf)))) (hk1 : fh 1 = some (.inr (8, [.ref 2, .ref 3, .ref 4, .int (zI lc), .int (zI fo), .ref 11, .ref 12, .int (zI wc), .ref 13, .ref 14, .int (zI cc), .ref 15, .ref 16, .int (zI sc)]))) (hk2 : fh 2 = some (.inl (0, 5, .inl (zA ff)))) (hk3 : fh 3 = some (.inl (0, 2, .inl (zA tf)))) (hk4 : fh 4 = some (.inl (5, 6, .inr (.inr (.inr (.inr lf)))))) (hk11 : fh 11 = some (.inl (0, 8, .inl (zA wa)))) (hk12 : fh 12 = some (.inl (0, 8, .inl (zA wb)))) (hk13 : fh 13 = some (.inl (0, 6, .inl (zA ca)))) (hk14 : fh 14 = some (.inl (0, 6, .inl (zA cb)))) (hk15 : fh 15 = some (.inl (0, 12, .inl (zA sa)))) (hk16 : fh 16 = some (.inl (0, 12, .inl (zA sb)))) : JM l G yX11_read MX11_read { frames := 3, cells := 0, slots := 0, locals := 68 } [.ref 0, .int (zI x), .int (zI y)] (nh, fh) (fun rr h9 => (rr = some (.int (zI (-1))) ∧ h9 = (nh, fh) ∧ (¬ isA x (Hi ff))) ∨ (rr = some (.int (zI (-1))) ∧ h9 = (nh, fh) ∧ (isA x (Hi ff)) ∧ (¬ y = 0) ∧ (¬ y = 1)) ∨ (∃ r : Int, rr = some (.int (zI r)) ∧ h9 = (nh, fh) ∧ (isA x (Hi ff)) ∧ (y = 0) ∧ (OrR ff (rvB (itB ff (x).toNat) places) r)) ∨ (∃ r : Int, rr = some (.int (zI r)) ∧ h9 = (nh, fh) ∧ (isA x (Hi ff)) ∧ (y = 1) ∧ (r = inN (itB ff (x).toNat) (places).toNat (places).toNat))) := by
  refine JM.of (by decide) rfl (fun h => by cases h) (Nat.le_of_ble_eq_true rfl) ⟨0, rfl⟩ ?_
  refine J_hc0 (J_ls (ls2 := [some (.ref 0), some (.int (zI x)), some (.int (zI y))]) rfl ?_)
  refine J_aload_n dX11_read_0 rfl rfl ?_
  refine J_get (v := .ref 51) dX11_read_1 fl_X11_27 hk0 rfl ?_
  refine J_iload_n dX11_read_4 rfl rfl ?_
  refine J_callV (st := []) dX11_read_5 cv_X11_135 (g_has x many places q0 q4 q5 hk51) hk51 rfl rfl (Nat.le_of_ble_eq_true rfl) ⟨(Nat.le_of_ble_eq_true rfl), (Nat.le_of_ble_eq_true rfl)⟩ ⟨(Nat.le_of_ble_eq_true rfl), (Nat.le_of_ble_eq_true rfl)⟩ (fun r h9 hp => ?_)
  rcases hp with ⟨rfl, rfl, h1, h2⟩ | ⟨rfl, rfl, h3⟩ | ⟨rfl, rfl, h4⟩
  · refine J_nf (nh2 := nh) (ck2 := 0) (sk2 := 0) (st2 := [.int (zI 1)]) rfl rfl rfl rfl ?_
    refine Z_if_ne (tgt := 13) dX11_read_8 (by decide) v_4dcc24baa7 (fun h5 => ?_) (fun h5 => absurd h5 v_3a47bfd896)
    refine J_iload_n dX11_read_13 rfl rfl ?_
    by_cases h6 : y = 0
    · refine Z_lookup (tgt := 40) (off := 26) dX11_read_14 (by decide) (v_b25fa51a85 q1) (by rw [(v_2b2aa55e09 h6)]; decide +kernel) (by decide) ?_
      refine J_aload_n dX11_read_40 rfl rfl ?_
      refine J_get (v := .ref 51) dX11_read_41 fl_X11_27 hk0 rfl ?_
      refine J_iload_n dX11_read_44 rfl rfl ?_
      refine J_callV (st := []) dX11_read_45 cv_X11_245 (g_backwardOf x many places rf ff h1 h2 q4 q5 q6 q7 q11 q13 q8 q9 q10 hk51 hk52) hk51 rfl rfl (Nat.le_of_ble_eq_true rfl) ⟨(Nat.le_of_ble_eq_true rfl), (Nat.le_of_ble_eq_true rfl)⟩ ⟨(Nat.le_of_ble_eq_true rfl), (Nat.le_of_ble_eq_true rfl)⟩ (fun r h9 hp => ?_)
      obtain ⟨z7, rfl, rfl, h8, h9, h10⟩ := hp
      refine J_nf (nh2 := nh) (ck2 := 0) (sk2 := 0) (st2 := [.int (zI z7)]) rfl rfl rfl rfl ?_
      exact J_iret dX11_read_48 rfl rfl (Nat.le_of_ble_eq_true rfl) (Nat.le_of_ble_eq_true rfl) (Or.inr (Or.inr (Or.inl ⟨z7, rfl, rfl, (⟨(v_2b02420001 h1), (v_d7c2909a09 q8 h2)⟩), h6, h10⟩)))
    by_cases h11 : y = 1
    · refine Z_lookup (tgt := 49) (off := 35) dX11_read_14 (by decide) (v_b25fa51a85 q1) (by rw [(v_b757d97f93 h11)]; decide +kernel) (by decide) ?_
      refine J_aload_n dX11_read_49 rfl rfl ?_
      refine J_get (v := .ref 51) dX11_read_50 fl_X11_27 hk0 rfl ?_
      refine J_iload_n dX11_read_53 rfl rfl ?_
      refine J_callV (st := []) dX11_read_54 cv_X11_248 (g_inversionsOf x many places rf ff h1 h2 q4 q5 q6 q7 q11 q13 q8 q9 q10 hk51 hk52) hk51 rfl rfl (Nat.le_of_ble_eq_true rfl) ⟨(Nat.le_of_ble_eq_true rfl), (Nat.le_of_ble_eq_true rfl)⟩ ⟨(Nat.le_of_ble_eq_true rfl), (Nat.le_of_ble_eq_true rfl)⟩ (fun r h9 hp => ?_)
      obtain ⟨z12, rfl, rfl, h13⟩ := hp
      refine J_nf (nh2 := nh) (ck2 := 0) (sk2 := 0) (st2 := [.int (zI z12)]) rfl rfl rfl rfl ?_
      exact J_iret dX11_read_57 rfl rfl (Nat.le_of_ble_eq_true rfl) (Nat.le_of_ble_eq_true rfl) (Or.inr (Or.inr (Or.inr ⟨z12, rfl, rfl, (⟨(v_2b02420001 h1), (v_d7c2909a09 q8 h2)⟩), h11, h13⟩)))
    refine Z_lookup (tgt := 58) (off := 44) dX11_read_14 (by decide) (v_b25fa51a85 q1) (by simp [Op.lookupswitch.offset, *]; (repeat' split) <;> omega) (by decide) ?_
    refine Z_iconst (n := -1) dX11_read_58 ?_
    exact J_iret dX11_read_59 rfl rfl (Nat.le_of_ble_eq_true rfl) (Nat.le_of_ble_eq_true rfl) (Or.inr (Or.inl ⟨rfl, rfl, (⟨(v_2b02420001 h1), (v_d7c2909a09 q8 h2)⟩), h6, h11⟩))
  · refine J_nf (nh2 := nh) (ck2 := 0) (sk2 := 0) (st2 := [.int (zI 0)]) rfl rfl rfl rfl ?_
    refine Z_if_ne (tgt := 13) dX11_read_8 (by decide) v_b17331891f (fun h14 => absurd h14 (fun q => q v_2ca2bbca1f)) (fun h14 => ?_)
    refine Z_iconst (n := -1) dX11_read_11 ?_
    exact J_iret dX11_read_12 rfl rfl (Nat.le_of_ble_eq_true rfl) (Nat.le_of_ble_eq_true rfl) (Or.inl ⟨rfl, rfl, (fun q => absurd q.1 (v_dccefa8cdf h3))⟩)
  · refine J_nf (nh2 := nh) (ck2 := 0) (sk2 := 0) (st2 := [.int (zI 0)]) rfl rfl rfl rfl ?_
    refine Z_if_ne (tgt := 13) dX11_read_8 (by decide) v_b17331891f (fun h15 => absurd h15 (fun q => q v_2ca2bbca1f)) (fun h15 => ?_)
    refine Z_iconst (n := -1) dX11_read_11 ?_
    exact J_iret dX11_read_12 rfl rfl (Nat.le_of_ble_eq_true rfl) (Nat.le_of_ble_eq_true rfl) (Or.inl ⟨rfl, rfl, (fun q => absurd q.2 (v_f9e33a7fad q8 h4))⟩)
set_option maxHeartbeats 4000000 in
set_option maxRecDepth 100000 in
theorem b_drawn {l : Launch} {G : jG} {nh : Nat} {fh : Nat → Option va_E} (x : Int) (cst : Int) (cfa : Int) (cdk : Int) (many : Int) (places : Int) (rf : Int → Int) (bf : Int → Int) (ff : Int → Int) (tf : Int → Int) (lf : Nat → Option Nat) (wa : Int → Int) (wb : Int → Int) (ca : Int → Int) (cb : Int → Int) (sa : Int → Int) (sb : Int → Int) (lc : Int) (fo : Int) (wc : Int) (cc : Int) (sc : Int) (vis : Int → Int) (q0 : zr x) (q1 : 0 ≤ cdk) (q2 : cdk ≤ 1) (q3 : 1 ≤ many) (q4 : many ≤ 1260) (q5 : 0 ≤ places) (q6 : places ≤ 7) (q7 : many = Hi ff) (q8 : places = bsum ff) (q9 : RowsTo rf ff many) (q10 : Rg rf 1260 (-2147483648) 2147483647) (q11 : Rg bf 7 0 4) (q12 : okF ff) (q13 : 0 ≤ lc) (q14 : lc ≤ 6) (q15 : -1 ≤ fo) (q16 : fo < lc) (q17 : 0 ≤ wc) (q18 : wc ≤ 8) (q19 : 0 ≤ cc) (q20 : cc ≤ 6) (q21 : 0 ≤ sc) (q22 : sc ≤ 12) (q23 : Rg tf 2 (-2147483648) 2147483647) (q24 : Rg wa 8 (-2147483648) 2147483647) (q25 : Rg wb 8 (-2147483648) 2147483647) (q26 : Rg ca 6 (-2147483648) 2147483647) (q27 : Rg ca cc 0 (Hi ff - 1)) (q28 : Rg cb 6 (-2147483648) 2147483647) (q29 : Rg sa 12 0 6) (q30 : Rg sb 12 0 6) (q31 : Rg ff 5 (-2147483648) 2147483647) (q32 : LawsIn fh lf) (hk0 : fh 0 = some (.inr (11, [.ref 1, .ref 17, .ref 50, .ref 51, .ref 54, .ref 57, .ref 65, .ref 75, .ref 81, .ref 85, .ref 88, .ref 93, .ref 96, .int (zI cst), .int (zI cfa), .ref 97, .int (zI cdk)]))) (hk51 : fh 51 = some (.inr (0, [.ref 52, .ref 53, .int (zI many), .int (zI places)]))) (hk52 : fh 52 = some (.inl (0, 1260, .inl (zA rf)))) (hk53 : fh 53 = some (.inl (0, 7, .inl (zA bf)))) (hk1 : fh 1 = some (.inr (8, [.ref 2, .ref 3, .ref 4, .int (zI lc), .int (zI fo), .ref 11, .ref 12, .int (zI wc), .ref 13, .ref 14, .int (zI cc), .ref 15, .ref 16, .int (zI sc)]))) (hk2 : fh 2 = some (.inl (0, 5, .inl (zA ff)))) (hk3 : fh 3 = some (.inl (0, 2, .inl (zA tf)))) (hk4 : fh 4 = some (.inl (5, 6, .inr (.inr (.inr (.inr lf)))))) (hk11 : fh 11 = some (.inl (0, 8, .inl (zA wa)))) (hk12 : fh 12 = some (.inl (0, 8, .inl (zA wb)))) (hk13 : fh 13 = some (.inl (0, 6, .inl (zA ca)))) (hk14 : fh 14 = some (.inl (0, 6, .inl (zA cb)))) (hk15 : fh 15 = some (.inl (0, 12, .inl (zA sa)))) (hk16 : fh 16 = some (.inl (0, 12, .inl (zA sb)))) (hk97 : fh 97 = some (.inl (0, 1260, .inl (zA vis)))) : JM l G yX11_drawn MX11_drawn { frames := 1, cells := 0, slots := 0, locals := 21 } [.ref 0, .int (zI x)] (nh, fh) (fun rr h9 => ∃ r : Int, rr = some (.int (zI r)) ∧ h9 = (nh, fh)) := by
  refine JM.of (by decide) rfl (fun h => by cases h) (Nat.le_of_ble_eq_true rfl) ⟨0, rfl⟩ ?_
  refine J_hc0 (J_ls (ls2 := [some (.ref 0), some (.int (zI x))]) rfl ?_)
  refine J_aload_n dX11_drawn_0 rfl rfl ?_
  refine J_get (v := .int (zI cdk)) dX11_drawn_1 fl_X11_107 hk0 rfl ?_
  refine Z_if_eq (tgt := 27) dX11_drawn_4 (by decide) (v_5f10a759cd q1 q2) (fun h1 => ?_) (fun h1 => ?_)
  · refine Z_iconst (n := -1) dX11_drawn_27 ?_
    exact J_iret dX11_drawn_28 rfl rfl (Nat.le_of_ble_eq_true rfl) (Nat.le_of_ble_eq_true rfl) ⟨(-1), rfl, rfl⟩
  · refine J_aload_n dX11_drawn_7 rfl rfl ?_
    refine J_get (v := .ref 51) dX11_drawn_8 fl_X11_27 hk0 rfl ?_
    refine J_iload_n dX11_drawn_11 rfl rfl ?_
    refine J_callV (st := []) dX11_drawn_12 cv_X11_135 (g_has x many places q0 q3 q4 hk51) hk51 rfl rfl (Nat.le_of_ble_eq_true rfl) ⟨(Nat.le_of_ble_eq_true rfl), (Nat.le_of_ble_eq_true rfl)⟩ ⟨(Nat.le_of_ble_eq_true rfl), (Nat.le_of_ble_eq_true rfl)⟩ (fun r h9 hp => ?_)
    rcases hp with ⟨rfl, rfl, h2, h3⟩ | ⟨rfl, rfl, h4⟩ | ⟨rfl, rfl, h5⟩
    · refine J_nf (nh2 := nh) (ck2 := 0) (sk2 := 0) (st2 := [.int (zI 1)]) rfl rfl rfl rfl ?_
      refine Z_if_eq (tgt := 27) dX11_drawn_15 (by decide) v_4dcc24baa7 (fun h6 => absurd h6 v_3a47bfd896) (fun h6 => ?_)
      refine J_aload_n dX11_drawn_18 rfl rfl ?_
      refine J_get (v := .ref 97) dX11_drawn_19 fl_X11_104 hk0 rfl ?_
      refine J_iload_n dX11_drawn_22 rfl rfl ?_
      obtain ⟨z7, ez7⟩ : ∃ z : Int, vis x = z := ⟨_, rfl⟩
      refine Y_iald (z := z7) 1260 dX11_drawn_23 hk97 rfl (by decide) (v_2b02420001 h2) (v_1c8b2a3f47 q4 h3) ez7 ?_
      refine J_goto (tgt := 28) dX11_drawn_24 (by decide) ?_
      exact J_iret dX11_drawn_28 rfl rfl (Nat.le_of_ble_eq_true rfl) (Nat.le_of_ble_eq_true rfl) ⟨z7, rfl, rfl⟩
    · refine J_nf (nh2 := nh) (ck2 := 0) (sk2 := 0) (st2 := [.int (zI 0)]) rfl rfl rfl rfl ?_
      refine Z_if_eq (tgt := 27) dX11_drawn_15 (by decide) v_b17331891f (fun h8 => ?_) (fun h8 => absurd h8 (fun q => q v_2ca2bbca1f))
      refine Z_iconst (n := -1) dX11_drawn_27 ?_
      exact J_iret dX11_drawn_28 rfl rfl (Nat.le_of_ble_eq_true rfl) (Nat.le_of_ble_eq_true rfl) ⟨(-1), rfl, rfl⟩
    · refine J_nf (nh2 := nh) (ck2 := 0) (sk2 := 0) (st2 := [.int (zI 0)]) rfl rfl rfl rfl ?_
      refine Z_if_eq (tgt := 27) dX11_drawn_15 (by decide) v_b17331891f (fun h9 => ?_) (fun h9 => absurd h9 (fun q => q v_2ca2bbca1f))
      refine Z_iconst (n := -1) dX11_drawn_27 ?_
      exact J_iret dX11_drawn_28 rfl rfl (Nat.le_of_ble_eq_true rfl) (Nat.le_of_ble_eq_true rfl) ⟨(-1), rfl, rfl⟩
set_option maxHeartbeats 4000000 in
set_option maxRecDepth 100000 in
theorem b_count {l : Launch} {G : jG} {nh : Nat} {fh : Nat → Option va_E} (x : Int) (cst : Int) (cfa : Int) (cdk : Int) (many : Int) (places : Int) (rf : Int → Int) (bf : Int → Int) (ff : Int → Int) (tf : Int → Int) (lf : Nat → Option Nat) (wa : Int → Int) (wb : Int → Int) (ca : Int → Int) (cb : Int → Int) (sa : Int → Int) (sb : Int → Int) (lc : Int) (fo : Int) (wc : Int) (cc : Int) (sc : Int) (dln : Int) (dtk : Int) (dst : Int) (dbh : Int) (dva : Int) (dpa : Int) (dfl : Int) (dsz : Int) (dtp : Int → Int) (dcd : Int → Int) (rfs : Int → Int) (q0 : zr x) (q1 : 0 ≤ cdk) (q2 : cdk ≤ 1) (q3 : 1 ≤ many) (q4 : many ≤ 1260) (q5 : 0 ≤ places) (q6 : places ≤ 7) (q7 : many = Hi ff) (q8 : places = bsum ff) (q9 : RowsTo rf ff many) (q10 : Rg rf 1260 (-2147483648) 2147483647) (q11 : Rg bf 7 0 4) (q12 : okF ff) (q13 : 0 ≤ lc) (q14 : lc ≤ 6) (q15 : -1 ≤ fo) (q16 : fo < lc) (q17 : 0 ≤ wc) (q18 : wc ≤ 8) (q19 : 0 ≤ cc) (q20 : cc ≤ 6) (q21 : 0 ≤ sc) (q22 : sc ≤ 12) (q23 : Rg tf 2 (-2147483648) 2147483647) (q24 : Rg wa 8 (-2147483648) 2147483647) (q25 : Rg wb 8 (-2147483648) 2147483647) (q26 : Rg ca 6 (-2147483648) 2147483647) (q27 : Rg ca cc 0 (Hi ff - 1)) (q28 : Rg cb 6 (-2147483648) 2147483647) (q29 : Rg sa 12 0 6) (q30 : Rg sb 12 0 6) (q31 : Rg ff 5 (-2147483648) 2147483647) (q32 : LawsIn fh lf) (q33 : 0 ≤ dln) (q34 : dln ≤ 400) (q35 : 0 ≤ dva) (q36 : dva ≤ 1001) (q37 : 0 ≤ dtk) (q38 : dtk ≤ 355) (q39 : Rg dtp 400 0 255) (q40 : Rg dcd 412 (-2147483648) 2147483647) (hk0 : fh 0 = some (.inr (11, [.ref 1, .ref 17, .ref 50, .ref 51, .ref 54, .ref 57, .ref 65, .ref 75, .ref 81, .ref 85, .ref 88, .ref 93, .ref 96, .int (zI cst), .int (zI cfa), .ref 97, .int (zI cdk)]))) (hk51 : fh 51 = some (.inr (0, [.ref 52, .ref 53, .int (zI many), .int (zI places)]))) (hk52 : fh 52 = some (.inl (0, 1260, .inl (zA rf)))) (hk53 : fh 53 = some (.inl (0, 7, .inl (zA bf)))) (hk1 : fh 1 = some (.inr (8, [.ref 2, .ref 3, .ref 4, .int (zI lc), .int (zI fo), .ref 11, .ref 12, .int (zI wc), .ref 13, .ref 14, .int (zI cc), .ref 15, .ref 16, .int (zI sc)]))) (hk2 : fh 2 = some (.inl (0, 5, .inl (zA ff)))) (hk3 : fh 3 = some (.inl (0, 2, .inl (zA tf)))) (hk4 : fh 4 = some (.inl (5, 6, .inr (.inr (.inr (.inr lf)))))) (hk11 : fh 11 = some (.inl (0, 8, .inl (zA wa)))) (hk12 : fh 12 = some (.inl (0, 8, .inl (zA wb)))) (hk13 : fh 13 = some (.inl (0, 6, .inl (zA ca)))) (hk14 : fh 14 = some (.inl (0, 6, .inl (zA cb)))) (hk15 : fh 15 = some (.inl (0, 12, .inl (zA sa)))) (hk16 : fh 16 = some (.inl (0, 12, .inl (zA sb)))) (hk54 : fh 54 = some (.inr (5, [.ref 55, .int (zI dln), .int (zI dtk), .int (zI dst), .int (zI dbh), .int (zI dva), .int (zI dpa), .int (zI dfl), .ref 56, .int (zI dsz)]))) (hk55 : fh 55 = some (.inl (0, 400, .inl (zA dtp)))) (hk56 : fh 56 = some (.inl (0, 412, .inl (zA dcd)))) (hk96 : fh 96 = some (.inl (0, 5, .inl (zA rfs)))) : JM l G yX11_count MX11_count { frames := 1, cells := 0, slots := 0, locals := 20 } [.ref 0, .int (zI x)] (nh, fh) (fun rr h9 => ∃ r : Int, rr = some (.int (zI r)) ∧ h9 = (nh, fh)) := by
  refine JM.of (by decide) rfl (fun h => by cases h) (Nat.le_of_ble_eq_true rfl) ⟨0, rfl⟩ ?_
  refine J_hc0 (J_ls (ls2 := [some (.ref 0), some (.int (zI x))]) rfl ?_)
  refine J_iload_n dX11_count_0 rfl rfl ?_
  refine Z_iconst (n := 1) dX11_count_1 ?_
  refine Z_icmp_lt (tgt := 22) dX11_count_2 (by decide) (v_b25fa51a85 q0) v_4dcc24baa7 (fun h1 => ?_) (fun h1 => ?_)
  · refine J_iload_n dX11_count_22 rfl rfl ?_
    refine Z_bipush (n := 11) dX11_count_23 (by decide +kernel) ?_
    refine Z_icmp_lt (tgt := 44) dX11_count_25 (by decide) (v_ac1024872f q0 h1) v_d58e110b81 (fun h2 => ?_) (fun h2 => absurd h2 (fun q => q (v_5b2e4e4b9d h1)))
    refine J_iload_n dX11_count_44 rfl rfl ?_
    by_cases h3 : x = 0
    · refine Z_tableIn (tgt := 136) (off := 91) 0 dX11_count_45 (v_ac1024872f q0 h1) (v_89f77b7dc1 h1 h3) (by decide) (by decide) (by decide) (by decide) ?_
      refine J_aload_n dX11_count_136 rfl rfl ?_
      refine J_get (v := .ref 51) dX11_count_137 fl_X11_27 hk0 rfl ?_
      refine J_callV (st := []) dX11_count_140 cv_X11_122 (g_places many places hk51) hk51 rfl rfl (Nat.le_of_ble_eq_true rfl) ⟨(Nat.le_of_ble_eq_true rfl), (Nat.le_of_ble_eq_true rfl)⟩ ⟨(Nat.le_of_ble_eq_true rfl), (Nat.le_of_ble_eq_true rfl)⟩ (fun r h9 hp => ?_)
      obtain ⟨rfl, rfl⟩ := hp
      refine J_nf (nh2 := nh) (ck2 := 0) (sk2 := 0) (st2 := [.int (zI places)]) rfl rfl rfl rfl ?_
      exact J_iret dX11_count_143 rfl rfl (Nat.le_of_ble_eq_true rfl) (Nat.le_of_ble_eq_true rfl) ⟨places, rfl, rfl⟩
    refine Z_tableOut (tgt := 212) dX11_count_45 (v_ac1024872f q0 h1) (Or.inl (v_bece870d64 h1 h3)) (by decide) ?_
    refine Z_iconst (n := -1) dX11_count_212 ?_
    exact J_iret dX11_count_213 rfl rfl (Nat.le_of_ble_eq_true rfl) (Nat.le_of_ble_eq_true rfl) ⟨(-1), rfl, rfl⟩
  · refine J_iload_n dX11_count_5 rfl rfl ?_
    refine Z_iconst (n := 5) dX11_count_6 ?_
    refine Z_icmp_gt (tgt := 22) dX11_count_7 (by decide) (v_5ea54326bb q0 h1) v_3961fe0d0d (fun h4 => ?_) (fun h4 => ?_)
    · refine J_iload_n dX11_count_22 rfl rfl ?_
      refine Z_bipush (n := 11) dX11_count_23 (by decide +kernel) ?_
      refine Z_icmp_lt (tgt := 44) dX11_count_25 (by decide) (v_af36111c9d q0 h4) v_d58e110b81 (fun h5 => ?_) (fun h5 => ?_)
      · refine J_iload_n dX11_count_44 rfl rfl ?_
        by_cases h6 : x = 6
        · refine Z_tableIn (tgt := 144) (off := 99) 6 dX11_count_45 (v_2865180cc1 h4 h5) (v_fdf45abe22 h4 h6) (by decide) (by decide) (by decide) (by decide) ?_
          refine J_aload_n dX11_count_144 rfl rfl ?_
          refine J_get (v := .ref 1) dX11_count_145 fl_X11_10 hk0 rfl ?_
          refine J_get (v := .int (zI lc)) dX11_count_148 fl_X11_184 hk1 rfl ?_
          exact J_iret dX11_count_151 rfl rfl (Nat.le_of_ble_eq_true rfl) (Nat.le_of_ble_eq_true rfl) ⟨lc, rfl, rfl⟩
        by_cases h7 : x = 7
        · refine Z_tableIn (tgt := 152) (off := 107) 7 dX11_count_45 (v_2865180cc1 h4 h5) (v_2f5adcf1cf h7) (by decide) (by decide) (by decide) (by decide) ?_
          refine J_aload_n dX11_count_152 rfl rfl ?_
          refine J_get (v := .ref 1) dX11_count_153 fl_X11_10 hk0 rfl ?_
          refine J_get (v := .int (zI wc)) dX11_count_156 fl_X11_204 hk1 rfl ?_
          exact J_iret dX11_count_159 rfl rfl (Nat.le_of_ble_eq_true rfl) (Nat.le_of_ble_eq_true rfl) ⟨wc, rfl, rfl⟩
        by_cases h8 : x = 8
        · refine Z_tableIn (tgt := 160) (off := 115) 8 dX11_count_45 (v_2865180cc1 h4 h5) (v_e0fa6a9ceb h8) (by decide) (by decide) (by decide) (by decide) ?_
          refine J_aload_n dX11_count_160 rfl rfl ?_
          refine J_get (v := .ref 1) dX11_count_161 fl_X11_10 hk0 rfl ?_
          refine J_get (v := .int (zI cc)) dX11_count_164 fl_X11_286 hk1 rfl ?_
          exact J_iret dX11_count_167 rfl rfl (Nat.le_of_ble_eq_true rfl) (Nat.le_of_ble_eq_true rfl) ⟨cc, rfl, rfl⟩
        by_cases h9 : x = 9
        · refine Z_tableIn (tgt := 168) (off := 123) 9 dX11_count_45 (v_2865180cc1 h4 h5) (v_953f52f1fe h9) (by decide) (by decide) (by decide) (by decide) ?_
          refine J_aload_n dX11_count_168 rfl rfl ?_
          refine J_get (v := .ref 1) dX11_count_169 fl_X11_10 hk0 rfl ?_
          refine J_get (v := .int (zI sc)) dX11_count_172 fl_X11_264 hk1 rfl ?_
          exact J_iret dX11_count_175 rfl rfl (Nat.le_of_ble_eq_true rfl) (Nat.le_of_ble_eq_true rfl) ⟨sc, rfl, rfl⟩
        by_cases h10 : x = 10
        · refine Z_tableIn (tgt := 176) (off := 131) 10 dX11_count_45 (v_2865180cc1 h4 h5) (v_5473fbde26 h5 h10) (by decide) (by decide) (by decide) (by decide) ?_
          refine J_aload_n dX11_count_176 rfl rfl ?_
          refine J_get (v := .ref 54) dX11_count_177 fl_X11_34 hk0 rfl ?_
          refine J_callV (st := []) dX11_count_180 cv_X11_158 (d_length dln dtk dst dbh dva dpa dfl dsz hk54) hk54 rfl rfl (Nat.le_of_ble_eq_true rfl) ⟨(Nat.le_of_ble_eq_true rfl), (Nat.le_of_ble_eq_true rfl)⟩ ⟨(Nat.le_of_ble_eq_true rfl), (Nat.le_of_ble_eq_true rfl)⟩ (fun r h9 hp => ?_)
          obtain ⟨rfl, rfl⟩ := hp
          refine J_nf (nh2 := nh) (ck2 := 0) (sk2 := 0) (st2 := [.int (zI dln)]) rfl rfl rfl rfl ?_
          exact J_iret dX11_count_183 rfl rfl (Nat.le_of_ble_eq_true rfl) (Nat.le_of_ble_eq_true rfl) ⟨dln, rfl, rfl⟩
        refine Z_tableOut (tgt := 212) dX11_count_45 (v_2865180cc1 h4 h5) (by omega) (by decide) ?_
        refine Z_iconst (n := -1) dX11_count_212 ?_
        exact J_iret dX11_count_213 rfl rfl (Nat.le_of_ble_eq_true rfl) (Nat.le_of_ble_eq_true rfl) ⟨(-1), rfl, rfl⟩
      · refine J_iload_n dX11_count_28 rfl rfl ?_
        refine Z_bipush (n := 15) dX11_count_29 (by decide +kernel) ?_
        refine Z_icmp_gt (tgt := 44) dX11_count_31 (by decide) (v_f4920d4f68 q0 h5) v_a632db44ba (fun h11 => ?_) (fun h11 => ?_)
        · refine J_iload_n dX11_count_44 rfl rfl ?_
          by_cases h12 : x = 16
          · refine Z_tableIn (tgt := 184) (off := 139) 16 dX11_count_45 (v_c4791f836d q0 h11) (v_6e54210300 h11 h12) (by decide) (by decide) (by decide) (by decide) ?_
            refine J_aload_n dX11_count_184 rfl rfl ?_
            refine J_get (v := .ref 1) dX11_count_185 fl_X11_10 hk0 rfl ?_
            refine J_get (v := .int (zI fo)) dX11_count_188 fl_X11_198 hk1 rfl ?_
            exact J_iret dX11_count_191 rfl rfl (Nat.le_of_ble_eq_true rfl) (Nat.le_of_ble_eq_true rfl) ⟨fo, rfl, rfl⟩
          by_cases h13 : x = 17
          · refine Z_tableIn (tgt := 192) (off := 147) 17 dX11_count_45 (v_c4791f836d q0 h11) (v_b5b75bc3fa h13) (by decide) (by decide) (by decide) (by decide) ?_
            refine J_aload_n dX11_count_192 rfl rfl ?_
            refine J_get (v := .ref 1) dX11_count_193 fl_X11_10 hk0 rfl ?_
            refine J_get (v := .ref 3) dX11_count_196 fl_X11_145 hk1 rfl ?_
            refine Z_iconst (n := 0) dX11_count_199 ?_
            obtain ⟨z14, ez14⟩ : ∃ z : Int, tf 0 = z := ⟨_, rfl⟩
            have h15 := Rg.at q23 v_939070ca3f v_72afd49884 ez14
            refine Y_iald (z := z14) 2 dX11_count_200 hk3 rfl (by decide) v_939070ca3f v_72afd49884 ez14 ?_
            exact J_iret dX11_count_201 rfl rfl (Nat.le_of_ble_eq_true rfl) (Nat.le_of_ble_eq_true rfl) ⟨z14, rfl, rfl⟩
          by_cases h16 : x = 18
          · refine Z_tableIn (tgt := 202) (off := 157) 18 dX11_count_45 (v_c4791f836d q0 h11) (v_79d75899e1 h16) (by decide) (by decide) (by decide) (by decide) ?_
            refine J_aload_n dX11_count_202 rfl rfl ?_
            refine J_get (v := .ref 1) dX11_count_203 fl_X11_10 hk0 rfl ?_
            refine J_get (v := .ref 3) dX11_count_206 fl_X11_145 hk1 rfl ?_
            refine Z_iconst (n := 1) dX11_count_209 ?_
            obtain ⟨z17, ez17⟩ : ∃ z : Int, tf 1 = z := ⟨_, rfl⟩
            have h18 := Rg.at q23 v_316afd7d0b v_c255c5148d ez17
            refine Y_iald (z := z17) 2 dX11_count_210 hk3 rfl (by decide) v_316afd7d0b v_c255c5148d ez17 ?_
            exact J_iret dX11_count_211 rfl rfl (Nat.le_of_ble_eq_true rfl) (Nat.le_of_ble_eq_true rfl) ⟨z17, rfl, rfl⟩
          refine Z_tableOut (tgt := 212) dX11_count_45 (v_c4791f836d q0 h11) (by omega) (by decide) ?_
          refine Z_iconst (n := -1) dX11_count_212 ?_
          exact J_iret dX11_count_213 rfl rfl (Nat.le_of_ble_eq_true rfl) (Nat.le_of_ble_eq_true rfl) ⟨(-1), rfl, rfl⟩
        · refine J_aload_n dX11_count_34 rfl rfl ?_
          refine J_get (v := .ref 96) dX11_count_35 fl_X11_93 hk0 rfl ?_
          refine J_iload_n dX11_count_38 rfl rfl ?_
          refine Z_bipush (n := 11) dX11_count_39 (by decide +kernel) ?_
          refine Z_isub (c := x - 11) dX11_count_41 rfl ?_
          obtain ⟨z19, ez19⟩ : ∃ z : Int, rfs (x - 11) = z := ⟨_, rfl⟩
          refine Y_iald (z := z19) 5 dX11_count_42 hk96 rfl (by decide) (v_caed12187e h5) (v_36688d3432 h11) ez19 ?_
          exact J_iret dX11_count_43 rfl rfl (Nat.le_of_ble_eq_true rfl) (Nat.le_of_ble_eq_true rfl) ⟨z19, rfl, rfl⟩
    · refine J_aload_n dX11_count_10 rfl rfl ?_
      refine J_get (v := .ref 1) dX11_count_11 fl_X11_10 hk0 rfl ?_
      refine J_get (v := .ref 2) dX11_count_14 fl_X11_111 hk1 rfl ?_
      refine J_iload_n dX11_count_17 rfl rfl ?_
      refine Z_iconst (n := 1) dX11_count_18 ?_
      refine Z_isub (c := x - 1) dX11_count_19 rfl ?_
      obtain ⟨z20, ez20⟩ : ∃ z : Int, ff (x - 1) = z := ⟨_, rfl⟩
      have h21 := Rg.at q31 (v_2d443ed03a h1) (v_71fb768711 h4) ez20
      refine Y_iald (z := z20) 5 dX11_count_20 hk2 rfl (by decide) (v_2d443ed03a h1) (v_71fb768711 h4) ez20 ?_
      exact J_iret dX11_count_21 rfl rfl (Nat.le_of_ble_eq_true rfl) (Nat.le_of_ble_eq_true rfl) ⟨z20, rfl, rfl⟩
set_option maxHeartbeats 4000000 in
set_option maxRecDepth 100000 in
theorem b_end {l : Launch} {G : jG} {nh : Nat} {fh : Nat → Option va_E} (x : Int) (cst : Int) (cfa : Int) (cdk : Int) (dln : Int) (dtk : Int) (dst : Int) (dbh : Int) (dva : Int) (dpa : Int) (dfl : Int) (dsz : Int) (dtp : Int → Int) (dcd : Int → Int) (q0 : zr x) (q1 : 0 ≤ cdk) (q2 : cdk ≤ 1) (q3 : 0 ≤ dln) (q4 : dln ≤ 400) (q5 : 0 ≤ dva) (q6 : dva ≤ 1001) (q7 : 0 ≤ dtk) (q8 : dtk ≤ 355) (q9 : Rg dtp 400 0 255) (q10 : Rg dcd 412 (-2147483648) 2147483647) (hk0 : fh 0 = some (.inr (11, [.ref 1, .ref 17, .ref 50, .ref 51, .ref 54, .ref 57, .ref 65, .ref 75, .ref 81, .ref 85, .ref 88, .ref 93, .ref 96, .int (zI cst), .int (zI cfa), .ref 97, .int (zI cdk)]))) (hk54 : fh 54 = some (.inr (5, [.ref 55, .int (zI dln), .int (zI dtk), .int (zI dst), .int (zI dbh), .int (zI dva), .int (zI dpa), .int (zI dfl), .ref 56, .int (zI dsz)]))) (hk55 : fh 55 = some (.inl (0, 400, .inl (zA dtp)))) (hk56 : fh 56 = some (.inl (0, 412, .inl (zA dcd)))) : JM l G yX11_end MX11_end { frames := 1, cells := 0, slots := 0, locals := 21 } [.ref 0, .int (zI x)] (nh, fh) (fun rr h9 => (rr = some (.int (zI x)) ∧ h9 = (nh, hc fh [(54, .inr (5, [.ref 55, .int (zI x), .int (zI dtk), .int (zI dst), .int (zI dbh), .int (zI dva), .int (zI dpa), .int (zI dfl), .ref 56, .int (zI dsz)]))]) ∧ (0 ≤ x) ∧ (x ≤ dln)) ∨ (rr = some (.int (zI (-1))) ∧ h9 = (nh, hc fh [(54, .inr (5, [.ref 55, .int (zI dln), .int (zI dtk), .int (zI dst), .int (zI dbh), .int (zI dva), .int (zI dpa), .int (zI dfl), .ref 56, .int (zI dsz)]))]) ∧ (x < 0)) ∨ (rr = some (.int (zI (-1))) ∧ h9 = (nh, hc fh [(54, .inr (5, [.ref 55, .int (zI dln), .int (zI dtk), .int (zI dst), .int (zI dbh), .int (zI dva), .int (zI dpa), .int (zI dfl), .ref 56, .int (zI dsz)]))]) ∧ (dln < x))) := by
  refine JM.of (by decide) rfl (fun h => by cases h) (Nat.le_of_ble_eq_true rfl) ⟨0, rfl⟩ ?_
  refine J_hc0 (J_ls (ls2 := [some (.ref 0), some (.int (zI x))]) rfl ?_)
  refine J_aload_n dX11_end_0 rfl rfl ?_
  refine J_get (v := .ref 54) dX11_end_1 fl_X11_34 hk0 rfl ?_
  refine J_iload_n dX11_end_4 rfl rfl ?_
  refine J_callV (st := []) dX11_end_5 cv_X11_161 (d_cut x dln dtk dst dbh dva dpa dfl dsz q0 q3 q4 hk54) hk54 rfl rfl (Nat.le_of_ble_eq_true rfl) ⟨(Nat.le_of_ble_eq_true rfl), (Nat.le_of_ble_eq_true rfl)⟩ ⟨(Nat.le_of_ble_eq_true rfl), (Nat.le_of_ble_eq_true rfl)⟩ (fun r h9 hp => ?_)
  rcases hp with ⟨rfl, rfl, h1, h2⟩ | ⟨rfl, rfl, h3⟩ | ⟨rfl, rfl, h4⟩
  · refine J_nf (nh2 := nh) (ck2 := 0) (sk2 := 0) (st2 := [.int (zI 1)]) rfl rfl rfl rfl ?_
    refine J_app (L3 := [(54, .inr (5, [.ref 55, .int (zI x), .int (zI dtk), .int (zI dst), .int (zI dbh), .int (zI dva), .int (zI dpa), .int (zI dfl), .ref 56, .int (zI dsz)]))]) rfl ?_
    refine Z_if_eq (tgt := 15) dX11_end_8 (by decide) v_4dcc24baa7 (fun h5 => absurd h5 v_3a47bfd896) (fun h5 => ?_)
    refine J_iload_n dX11_end_11 rfl rfl ?_
    refine J_goto (tgt := 16) dX11_end_12 (by decide) ?_
    exact J_iret dX11_end_16 rfl rfl (Nat.le_of_ble_eq_true rfl) (Nat.le_of_ble_eq_true rfl) (Or.inl ⟨rfl, rfl, h1, h2⟩)
  · refine J_nf (nh2 := nh) (ck2 := 0) (sk2 := 0) (st2 := [.int (zI 0)]) rfl rfl rfl rfl ?_
    refine J_app (L3 := [(54, .inr (5, [.ref 55, .int (zI dln), .int (zI dtk), .int (zI dst), .int (zI dbh), .int (zI dva), .int (zI dpa), .int (zI dfl), .ref 56, .int (zI dsz)]))]) rfl ?_
    refine Z_if_eq (tgt := 15) dX11_end_8 (by decide) v_b17331891f (fun h6 => ?_) (fun h6 => absurd h6 (fun q => q v_2ca2bbca1f))
    refine Z_iconst (n := -1) dX11_end_15 ?_
    exact J_iret dX11_end_16 rfl rfl (Nat.le_of_ble_eq_true rfl) (Nat.le_of_ble_eq_true rfl) (Or.inr (Or.inl ⟨rfl, rfl, h3⟩))
  · refine J_nf (nh2 := nh) (ck2 := 0) (sk2 := 0) (st2 := [.int (zI 0)]) rfl rfl rfl rfl ?_
    refine J_app (L3 := [(54, .inr (5, [.ref 55, .int (zI dln), .int (zI dtk), .int (zI dst), .int (zI dbh), .int (zI dva), .int (zI dpa), .int (zI dfl), .ref 56, .int (zI dsz)]))]) rfl ?_
    refine Z_if_eq (tgt := 15) dX11_end_8 (by decide) v_b17331891f (fun h7 => ?_) (fun h7 => absurd h7 (fun q => q v_2ca2bbca1f))
    refine Z_iconst (n := -1) dX11_end_15 ?_
    exact J_iret dX11_end_16 rfl rfl (Nat.le_of_ble_eq_true rfl) (Nat.le_of_ble_eq_true rfl) (Or.inr (Or.inr ⟨rfl, rfl, h4⟩))
set_option maxHeartbeats 4000000 in
set_option maxRecDepth 100000 in
theorem b_feed {l : Launch} {G : jG} {nh : Nat} {fh : Nat → Option va_E} (a : Int) (b : Int) (c : Int) (d : Int) (e : Int) (cst : Int) (cfa : Int) (cdk : Int) (dln : Int) (dtk : Int) (dst : Int) (dbh : Int) (dva : Int) (dpa : Int) (dfl : Int) (dsz : Int) (dtp : Int → Int) (dcd : Int → Int) (q0 : zr a) (q1 : zr b) (q2 : zr c) (q3 : zr d) (q4 : zr e) (q5 : 0 ≤ cdk) (q6 : cdk ≤ 1) (q7 : 0 ≤ dln) (q8 : dln ≤ 400) (q9 : 0 ≤ dva) (q10 : dva ≤ 1001) (q11 : 0 ≤ dtk) (q12 : dtk ≤ 355) (q13 : Rg dtp 400 0 255) (q14 : Rg dcd 412 (-2147483648) 2147483647) (hk0 : fh 0 = some (.inr (11, [.ref 1, .ref 17, .ref 50, .ref 51, .ref 54, .ref 57, .ref 65, .ref 75, .ref 81, .ref 85, .ref 88, .ref 93, .ref 96, .int (zI cst), .int (zI cfa), .ref 97, .int (zI cdk)]))) (hk54 : fh 54 = some (.inr (5, [.ref 55, .int (zI dln), .int (zI dtk), .int (zI dst), .int (zI dbh), .int (zI dva), .int (zI dpa), .int (zI dfl), .ref 56, .int (zI dsz)]))) (hk55 : fh 55 = some (.inl (0, 400, .inl (zA dtp)))) (hk56 : fh 56 = some (.inl (0, 412, .inl (zA dcd)))) : JM l G yX11_feed MX11_feed { frames := 1, cells := 0, slots := 0, locals := 22 } [.ref 0, .int (zI a), .int (zI b), .int (zI c), .int (zI d), .int (zI e)] (nh, fh) (fun rr h9 => (∃ r : Int, ∃ dln2 : Int, ∃ dtp2 : Int → Int, rr = some (.int (zI r)) ∧ h9 = (nh, hc fh [(54, .inr (5, [.ref 55, .int (zI dln2), .int (zI dtk), .int (zI dst), .int (zI dbh), .int (zI dva), .int (zI dpa), .int (zI dfl), .ref 56, .int (zI dsz)])), (55, .inl (0, 400, .inl (zA dtp2)))]) ∧ (0 ≤ dln2) ∧ (dln2 ≤ 400) ∧ (Rg dtp2 400 0 255) ∧ (dln2 = dln + 20) ∧ (dln ≤ 380) ∧ (r = dln2) ∧ (FdE dtp2 dtp dln a b c d e)) ∨ (rr = some (.int (zI (-1))) ∧ h9 = (nh, fh) ∧ (380 < dln))) := by
  refine JM.of (by decide) rfl (fun h => by cases h) (Nat.le_of_ble_eq_true rfl) ⟨0, rfl⟩ ?_
  refine J_hc0 (J_ls (ls2 := [some (.ref 0), some (.int (zI a)), some (.int (zI b)), some (.int (zI c)), some (.int (zI d)), some (.int (zI e))]) rfl ?_)
  refine J_aload_n dX11_feed_0 rfl rfl ?_
  refine J_get (v := .ref 54) dX11_feed_1 fl_X11_34 hk0 rfl ?_
  refine Z_bipush (n := 20) dX11_feed_4 (by decide +kernel) ?_
  refine J_callV (st := []) dX11_feed_6 cv_X11_151 (d_hasRoom 20 dln dtk dst dbh dva dpa dfl dsz v_3771d22068 v_8bef8a30b0 q7 q8 hk54) hk54 rfl rfl (Nat.le_of_ble_eq_true rfl) ⟨(Nat.le_of_ble_eq_true rfl), (Nat.le_of_ble_eq_true rfl)⟩ ⟨(Nat.le_of_ble_eq_true rfl), (Nat.le_of_ble_eq_true rfl)⟩ (fun r h9 hp => ?_)
  rcases hp with ⟨rfl, rfl, h1⟩ | ⟨rfl, rfl, h2⟩
  · refine J_nf (nh2 := nh) (ck2 := 0) (sk2 := 0) (st2 := [.int (zI 1)]) rfl rfl rfl rfl ?_
    refine Z_if_ne (tgt := 14) dX11_feed_9 (by decide) v_4dcc24baa7 (fun h3 => ?_) (fun h3 => absurd h3 v_3a47bfd896)
    refine J_aload_n dX11_feed_14 rfl rfl ?_
    refine J_get (v := .ref 54) dX11_feed_15 fl_X11_34 hk0 rfl ?_
    refine J_iload_n dX11_feed_18 rfl rfl ?_
    refine J_callV (st := []) dX11_feed_19 cv_X11_154 (d_take a dln dtk dst dbh dva dpa dfl dsz dtp q0 q7 (v_ea89b2c152 h1) q13 hk54 hk55) hk54 rfl rfl (Nat.le_of_ble_eq_true rfl) ⟨(Nat.le_of_ble_eq_true rfl), (Nat.le_of_ble_eq_true rfl)⟩ ⟨(Nat.le_of_ble_eq_true rfl), (Nat.le_of_ble_eq_true rfl)⟩ (fun r h9 hp => ?_)
    obtain ⟨z4, f5, rfl, rfl, h6, h7, h8, h9, h10⟩ := hp
    refine J_nf (nh2 := nh) (ck2 := 0) (sk2 := 0) (st2 := []) rfl rfl rfl rfl ?_
    refine J_app (L3 := [(54, .inr (5, [.ref 55, .int (zI z4), .int (zI dtk), .int (zI dst), .int (zI dbh), .int (zI dva), .int (zI dpa), .int (zI dfl), .ref 56, .int (zI dsz)])), (55, .inl (0, 400, .inl (zA f5)))]) rfl ?_
    refine J_aload_n dX11_feed_22 rfl rfl ?_
    refine J_get (v := .ref 54) dX11_feed_23 fl_X11_34 hk0 rfl ?_
    refine J_iload_n dX11_feed_26 rfl rfl ?_
    refine J_callV (st := []) dX11_feed_27 cv_X11_154 (d_take b z4 dtk dst dbh dva dpa dfl dsz f5 q1 h6 (v_6d132b2274 h1 h9) h8 rfl rfl) rfl rfl rfl (Nat.le_of_ble_eq_true rfl) ⟨(Nat.le_of_ble_eq_true rfl), (Nat.le_of_ble_eq_true rfl)⟩ ⟨(Nat.le_of_ble_eq_true rfl), (Nat.le_of_ble_eq_true rfl)⟩ (fun r h9 hp => ?_)
    obtain ⟨z11, f12, rfl, rfl, h13, h14, h15, h16, h17⟩ := hp
    refine J_nf (nh2 := nh) (ck2 := 0) (sk2 := 0) (st2 := []) rfl rfl rfl rfl ?_
    refine J_app (L3 := [(54, .inr (5, [.ref 55, .int (zI z11), .int (zI dtk), .int (zI dst), .int (zI dbh), .int (zI dva), .int (zI dpa), .int (zI dfl), .ref 56, .int (zI dsz)])), (55, .inl (0, 400, .inl (zA f12))), (54, .inr (5, [.ref 55, .int (zI z4), .int (zI dtk), .int (zI dst), .int (zI dbh), .int (zI dva), .int (zI dpa), .int (zI dfl), .ref 56, .int (zI dsz)])), (55, .inl (0, 400, .inl (zA f5)))]) rfl ?_
    refine J_mask (L2 := [(54, .inr (5, [.ref 55, .int (zI z11), .int (zI dtk), .int (zI dst), .int (zI dbh), .int (zI dva), .int (zI dpa), .int (zI dfl), .ref 56, .int (zI dsz)])), (55, .inl (0, 400, .inl (zA f12)))]) (ks := [54, 55, 54, 55]) [true, true, false, false] rfl (by decide +kernel) rfl ?_
    refine J_aload_n dX11_feed_30 rfl rfl ?_
    refine J_get (v := .ref 54) dX11_feed_31 fl_X11_34 hk0 rfl ?_
    refine J_iload_n dX11_feed_34 rfl rfl ?_
    refine J_callV (st := []) dX11_feed_35 cv_X11_154 (d_take c z11 dtk dst dbh dva dpa dfl dsz f12 q2 h13 (v_c355f0a46b h1 h9 h16) h15 rfl rfl) rfl rfl rfl (Nat.le_of_ble_eq_true rfl) ⟨(Nat.le_of_ble_eq_true rfl), (Nat.le_of_ble_eq_true rfl)⟩ ⟨(Nat.le_of_ble_eq_true rfl), (Nat.le_of_ble_eq_true rfl)⟩ (fun r h9 hp => ?_)
    obtain ⟨z18, f19, rfl, rfl, h20, h21, h22, h23, h24⟩ := hp
    refine J_nf (nh2 := nh) (ck2 := 0) (sk2 := 0) (st2 := []) rfl rfl rfl rfl ?_
    refine J_app (L3 := [(54, .inr (5, [.ref 55, .int (zI z18), .int (zI dtk), .int (zI dst), .int (zI dbh), .int (zI dva), .int (zI dpa), .int (zI dfl), .ref 56, .int (zI dsz)])), (55, .inl (0, 400, .inl (zA f19))), (54, .inr (5, [.ref 55, .int (zI z11), .int (zI dtk), .int (zI dst), .int (zI dbh), .int (zI dva), .int (zI dpa), .int (zI dfl), .ref 56, .int (zI dsz)])), (55, .inl (0, 400, .inl (zA f12)))]) rfl ?_
    refine J_mask (L2 := [(54, .inr (5, [.ref 55, .int (zI z18), .int (zI dtk), .int (zI dst), .int (zI dbh), .int (zI dva), .int (zI dpa), .int (zI dfl), .ref 56, .int (zI dsz)])), (55, .inl (0, 400, .inl (zA f19)))]) (ks := [54, 55, 54, 55]) [true, true, false, false] rfl (by decide +kernel) rfl ?_
    refine J_aload_n dX11_feed_38 rfl rfl ?_
    refine J_get (v := .ref 54) dX11_feed_39 fl_X11_34 hk0 rfl ?_
    refine J_iload dX11_feed_42 rfl ?_
    refine J_callV (st := []) dX11_feed_44 cv_X11_154 (d_take d z18 dtk dst dbh dva dpa dfl dsz f19 q3 h20 (v_3ec64413b0 h1 h9 h16 h23) h22 rfl rfl) rfl rfl rfl (Nat.le_of_ble_eq_true rfl) ⟨(Nat.le_of_ble_eq_true rfl), (Nat.le_of_ble_eq_true rfl)⟩ ⟨(Nat.le_of_ble_eq_true rfl), (Nat.le_of_ble_eq_true rfl)⟩ (fun r h9 hp => ?_)
    obtain ⟨z25, f26, rfl, rfl, h27, h28, h29, h30, h31⟩ := hp
    refine J_nf (nh2 := nh) (ck2 := 0) (sk2 := 0) (st2 := []) rfl rfl rfl rfl ?_
    refine J_app (L3 := [(54, .inr (5, [.ref 55, .int (zI z25), .int (zI dtk), .int (zI dst), .int (zI dbh), .int (zI dva), .int (zI dpa), .int (zI dfl), .ref 56, .int (zI dsz)])), (55, .inl (0, 400, .inl (zA f26))), (54, .inr (5, [.ref 55, .int (zI z18), .int (zI dtk), .int (zI dst), .int (zI dbh), .int (zI dva), .int (zI dpa), .int (zI dfl), .ref 56, .int (zI dsz)])), (55, .inl (0, 400, .inl (zA f19)))]) rfl ?_
    refine J_mask (L2 := [(54, .inr (5, [.ref 55, .int (zI z25), .int (zI dtk), .int (zI dst), .int (zI dbh), .int (zI dva), .int (zI dpa), .int (zI dfl), .ref 56, .int (zI dsz)])), (55, .inl (0, 400, .inl (zA f26)))]) (ks := [54, 55, 54, 55]) [true, true, false, false] rfl (by decide +kernel) rfl ?_
    refine J_aload_n dX11_feed_47 rfl rfl ?_
    refine J_get (v := .ref 54) dX11_feed_48 fl_X11_34 hk0 rfl ?_
    refine J_iload dX11_feed_51 rfl ?_
    refine J_callV (st := []) dX11_feed_53 cv_X11_154 (d_take e z25 dtk dst dbh dva dpa dfl dsz f26 q4 h27 (v_c89d2f660a h1 h9 h16 h23 h30) h29 rfl rfl) rfl rfl rfl (Nat.le_of_ble_eq_true rfl) ⟨(Nat.le_of_ble_eq_true rfl), (Nat.le_of_ble_eq_true rfl)⟩ ⟨(Nat.le_of_ble_eq_true rfl), (Nat.le_of_ble_eq_true rfl)⟩ (fun r h9 hp => ?_)
    obtain ⟨z32, f33, rfl, rfl, h34, h35, h36, h37, h38⟩ := hp
    refine J_nf (nh2 := nh) (ck2 := 0) (sk2 := 0) (st2 := []) rfl rfl rfl rfl ?_
    refine J_app (L3 := [(54, .inr (5, [.ref 55, .int (zI z32), .int (zI dtk), .int (zI dst), .int (zI dbh), .int (zI dva), .int (zI dpa), .int (zI dfl), .ref 56, .int (zI dsz)])), (55, .inl (0, 400, .inl (zA f33))), (54, .inr (5, [.ref 55, .int (zI z25), .int (zI dtk), .int (zI dst), .int (zI dbh), .int (zI dva), .int (zI dpa), .int (zI dfl), .ref 56, .int (zI dsz)])), (55, .inl (0, 400, .inl (zA f26)))]) rfl ?_
    refine J_mask (L2 := [(54, .inr (5, [.ref 55, .int (zI z32), .int (zI dtk), .int (zI dst), .int (zI dbh), .int (zI dva), .int (zI dpa), .int (zI dfl), .ref 56, .int (zI dsz)])), (55, .inl (0, 400, .inl (zA f33)))]) (ks := [54, 55, 54, 55]) [true, true, false, false] rfl (by decide +kernel) rfl ?_
    refine J_aload_n dX11_feed_56 rfl rfl ?_
    refine J_get (v := .ref 54) dX11_feed_57 fl_X11_34 hk0 rfl ?_
    refine J_callV (st := []) dX11_feed_60 cv_X11_158 (d_length z32 dtk dst dbh dva dpa dfl dsz rfl) rfl rfl rfl (Nat.le_of_ble_eq_true rfl) ⟨(Nat.le_of_ble_eq_true rfl), (Nat.le_of_ble_eq_true rfl)⟩ ⟨(Nat.le_of_ble_eq_true rfl), (Nat.le_of_ble_eq_true rfl)⟩ (fun r h9 hp => ?_)
    obtain ⟨rfl, rfl⟩ := hp
    refine J_nf (nh2 := nh) (ck2 := 0) (sk2 := 0) (st2 := [.int (zI z32)]) rfl rfl rfl rfl ?_
    exact J_iret dX11_feed_63 rfl rfl (Nat.le_of_ble_eq_true rfl) (Nat.le_of_ble_eq_true rfl) (Or.inl ⟨z32, z32, f33, rfl, rfl, h34, h35, h36, (v_a8c9166d2e h9 h16 h23 h30 h37), (v_8bec156621 h1), v_a0572702c4, (FdE_of h10 h17 h24 h31 h38 (v_0fdc5ad492 h9) (v_0fdc5ad492 h16) (v_0fdc5ad492 h23) (v_0fdc5ad492 h30))⟩)
  · refine J_nf (nh2 := nh) (ck2 := 0) (sk2 := 0) (st2 := [.int (zI 0)]) rfl rfl rfl rfl ?_
    refine Z_if_ne (tgt := 14) dX11_feed_9 (by decide) v_b17331891f (fun h39 => absurd h39 (fun q => q v_2ca2bbca1f)) (fun h39 => ?_)
    refine Z_iconst (n := -1) dX11_feed_12 ?_
    exact J_iret dX11_feed_13 rfl rfl (Nat.le_of_ble_eq_true rfl) (Nat.le_of_ble_eq_true rfl) (Or.inr ⟨rfl, rfl, (v_a324caf399 h2)⟩)
set_option maxHeartbeats 4000000 in
set_option maxRecDepth 100000 in
theorem b_terms {l : Launch} {G : jG} {nh : Nat} {fh : Nat → Option va_E} (x : Int) (y : Int) (cst : Int) (cfa : Int) (cdk : Int) (ff : Int → Int) (tf : Int → Int) (lf : Nat → Option Nat) (wa : Int → Int) (wb : Int → Int) (ca : Int → Int) (cb : Int → Int) (sa : Int → Int) (sb : Int → Int) (lc : Int) (fo : Int) (wc : Int) (cc : Int) (sc : Int) (ks : Nat) (ve : Int) (ss : Int) (vs : Int) (ht : Int) (br : Int) (hl : Int) (le : Int) (ba : Int) (tk : Int) (wf : Int → Int) (kf : Int → Int) (nf : Int → Int) (df : Int → Int) (sf : Int → Int) (ns : Int) (vf : Int → Int) (rfs : Int → Int) (many : Int) (places : Int) (rf : Int → Int) (bf : Int → Int) (q0 : zr x) (q1 : zr y) (q2 : 0 ≤ cdk) (q3 : cdk ≤ 1) (q4 : okF ff) (q5 : 0 ≤ lc) (q6 : lc ≤ 6) (q7 : -1 ≤ fo) (q8 : fo < lc) (q9 : 0 ≤ wc) (q10 : wc ≤ 8) (q11 : 0 ≤ cc) (q12 : cc ≤ 6) (q13 : 0 ≤ sc) (q14 : sc ≤ 12) (q15 : Rg tf 2 (-2147483648) 2147483647) (q16 : Rg wa 8 (-2147483648) 2147483647) (q17 : Rg wb 8 (-2147483648) 2147483647) (q18 : Rg ca 6 (-2147483648) 2147483647) (q19 : Rg ca cc 0 (Hi ff - 1)) (q20 : Rg cb 6 (-2147483648) 2147483647) (q21 : Rg sa 12 0 6) (q22 : Rg sb 12 0 6) (q23 : Rg ff 5 (-2147483648) 2147483647) (q24 : LawsIn fh lf) (q25 : Fx ks) (q26 : NLt ks nh) (q27 : NLe 135 nh) (q28 : 0 ≤ ss) (q29 : ss ≤ 1) (q30 : 0 ≤ vs) (q31 : vs ≤ 1) (q32 : 0 ≤ ve) (q33 : ve ≤ 10000) (q34 : Rg vf 2625 0 99) (q35 : 0 ≤ ns) (q36 : ns ≤ 60000) (q37 : Rg wf 8 (-2147483648) 2147483647) (q38 : Rg sf ns (-2147483648) 2147483647) (q39 : ss = 0 → 22 * many ≤ ns ∧ StOK df sf many) (q40 : 0 ≤ ht) (q41 : ht ≤ 64) (q42 : 0 ≤ br) (q43 : br ≤ 1) (q44 : 0 ≤ hl) (q45 : hl ≤ 1) (q46 : 0 ≤ le) (q47 : le ≤ 1) (q48 : 0 ≤ ba) (q49 : ba ≤ 1) (q50 : 1 ≤ tk) (q51 : tk ≤ 99) (q52 : 1 ≤ many) (q53 : many ≤ 1260) (q54 : 0 ≤ places) (q55 : places ≤ 7) (q56 : many = Hi ff) (q57 : places = bsum ff) (q58 : RowsTo rf ff many) (q59 : Rg rf 1260 (-2147483648) 2147483647) (q60 : Rg bf 7 0 4) (hk0 : fh 0 = some (.inr (11, [.ref 1, .ref 17, .ref 50, .ref 51, .ref 54, .ref 57, .ref 65, .ref 75, .ref 81, .ref 85, .ref 88, .ref 93, .ref 96, .int (zI cst), .int (zI cfa), .ref 97, .int (zI cdk)]))) (hk1 : fh 1 = some (.inr (8, [.ref 2, .ref 3, .ref 4, .int (zI lc), .int (zI fo), .ref 11, .ref 12, .int (zI wc), .ref 13, .ref 14, .int (zI cc), .ref 15, .ref 16, .int (zI sc)]))) (hk2 : fh 2 = some (.inl (0, 5, .inl (zA ff)))) (hk3 : fh 3 = some (.inl (0, 2, .inl (zA tf)))) (hk4 : fh 4 = some (.inl (5, 6, .inr (.inr (.inr (.inr lf)))))) (hk11 : fh 11 = some (.inl (0, 8, .inl (zA wa)))) (hk12 : fh 12 = some (.inl (0, 8, .inl (zA wb)))) (hk13 : fh 13 = some (.inl (0, 6, .inl (zA ca)))) (hk14 : fh 14 = some (.inl (0, 6, .inl (zA cb)))) (hk15 : fh 15 = some (.inl (0, 12, .inl (zA sa)))) (hk16 : fh 16 = some (.inl (0, 12, .inl (zA sb)))) (hk57 : fh 57 = some (.inr (9, [.ref 1, .ref 51, .ref 58, .ref 61, .ref 62, .ref ks, .ref 64, .int (zI ve), .int (zI ss), .int (zI vs)]))) (hk58 : fh 58 = some (.inr (1, [.ref 59, .ref 60, .int (zI ht), .int (zI br), .int (zI hl), .int (zI le), .int (zI ba), .int (zI tk)]))) (hk59 : fh 59 = some (.inl (0, 8, .inl (zA wf)))) (hk60 : fh 60 = some (.inl (1, 64, .inr (.inl (zAL kf))))) (hk61 : fh 61 = some (.inl (0, 0, .inl (zA nf)))) (hk62 : fh 62 = some (.inl (0, 1260, .inl (zA df)))) (hkks : fh ks = some (.inl (0, (ns).toNat, .inl (zA sf)))) (hk64 : fh 64 = some (.inl (0, 2625, .inl (zA vf)))) (hk96 : fh 96 = some (.inl (0, 5, .inl (zA rfs)))) (hk51 : fh 51 = some (.inr (0, [.ref 52, .ref 53, .int (zI many), .int (zI places)]))) (hk52 : fh 52 = some (.inl (0, 1260, .inl (zA rf)))) (hk53 : fh 53 = some (.inl (0, 7, .inl (zA bf)))) : JM l G yX11_terms MX11_terms { frames := 2, cells := 0, slots := 0, locals := 41 } [.ref 0, .int (zI x), .int (zI y)] (nh, fh) (fun rr h9 => (∃ rfs2 : Int → Int, rr = some (.int (zI (-1))) ∧ h9 = (nh, hc fh [(0, .inr (11, [.ref 1, .ref 17, .ref 50, .ref 51, .ref 54, .ref 57, .ref 65, .ref 75, .ref 81, .ref 85, .ref 88, .ref 93, .ref 96, .int (zI (-1)), .int (zI cfa), .ref 97, .int (zI cdk)])), (96, .inl (0, 5, .inl (zA rfs2)))]) ∧ (¬ tmk x y)) ∨ (∃ r : Int, ∃ tf2 : Int → Int, rr = some (.int (zI r)) ∧ h9 = (nh, hc fh [(0, .inr (11, [.ref 1, .ref 17, .ref 50, .ref 51, .ref 54, .ref 57, .ref 65, .ref 75, .ref 81, .ref 85, .ref 88, .ref 93, .ref 96, .int (zI 0), .int (zI cfa), .ref 97, .int (zI cdk)])), (57, .inr (9, [.ref 1, .ref 51, .ref 58, .ref 61, .ref 62, .ref ks, .ref 64, .int (zI (ve + 1)), .int (zI 1), .int (zI 1)])), (3, .inl (0, 2, .inl (zA tf2)))]) ∧ (tmk x y) ∧ (Rg tf2 2 (-2147483648) 2147483647) ∧ (tf x = r) ∧ ((tf2 = up tf x y)))) := by
  refine JM.of (by decide) rfl (fun h => by cases h) (Nat.le_of_ble_eq_true rfl) ⟨2, rfl⟩ ?_
  refine J_hc0 (J_ls (ls2 := [some (.ref 0), some (.int (zI x)), some (.int (zI y)), none, none]) rfl ?_)
  refine J_iload_n dX11_terms_0 rfl rfl ?_
  refine Z_if_ne (tgt := 8) dX11_terms_1 (by decide) (v_b25fa51a85 q0) (fun h1 => ?_) (fun h1 => ?_)
  · refine Z_bipush (n := 99) dX11_terms_8 (by decide +kernel) ?_
    refine J_istore_n dX11_terms_10 rfl (Nat.le_of_ble_eq_true rfl) rfl ?_
    refine J_ls (ls2 := [some (.ref 0), some (.int (zI x)), some (.int (zI y)), some (.int (zI 99)), none]) rfl ?_
    refine J_iload_n dX11_terms_11 rfl rfl ?_
    refine Z_if_lt (tgt := 29) dX11_terms_12 (by decide) (v_b25fa51a85 q0) (fun h2 => ?_) (fun h2 => ?_)
    · refine J_aload_n dX11_terms_29 rfl rfl ?_
      refine Z_iconst (n := -1) dX11_terms_30 ?_
      refine J_callV (st := []) dX11_terms_31 cv_X11_118 (b_refuse (-1) cst cfa cdk rfs v_ef59c9c3d8 v_646fb950f3 hk0 hk96) hk0 rfl rfl (Nat.le_of_ble_eq_true rfl) ⟨(Nat.le_of_ble_eq_true rfl), (Nat.le_of_ble_eq_true rfl)⟩ ⟨(Nat.le_of_ble_eq_true rfl), (Nat.le_of_ble_eq_true rfl)⟩ (fun r h9 hp => ?_)
      obtain ⟨f3, rfl, rfl⟩ := hp
      refine J_nf (nh2 := nh) (ck2 := 0) (sk2 := 0) (st2 := [.int (zI (-1))]) rfl rfl rfl rfl ?_
      refine J_app (L3 := [(0, .inr (11, [.ref 1, .ref 17, .ref 50, .ref 51, .ref 54, .ref 57, .ref 65, .ref 75, .ref 81, .ref 85, .ref 88, .ref 93, .ref 96, .int (zI (-1)), .int (zI cfa), .ref 97, .int (zI cdk)])), (96, .inl (0, 5, .inl (zA f3)))]) rfl ?_
      exact J_iret dX11_terms_34 rfl rfl (Nat.le_of_ble_eq_true rfl) (Nat.le_of_ble_eq_true rfl) (Or.inl ⟨f3, rfl, rfl, (fun q => absurd q.1 (v_dccefa8cdf h2))⟩)
    · refine J_iload_n dX11_terms_15 rfl rfl ?_
      refine Z_iconst (n := 1) dX11_terms_16 ?_
      refine Z_icmp_gt (tgt := 29) dX11_terms_17 (by decide) (v_edc92e96e6 q0 h2) v_4dcc24baa7 (fun h4 => ?_) (fun h4 => ?_)
      · refine J_aload_n dX11_terms_29 rfl rfl ?_
        refine Z_iconst (n := -1) dX11_terms_30 ?_
        refine J_callV (st := []) dX11_terms_31 cv_X11_118 (b_refuse (-1) cst cfa cdk rfs v_ef59c9c3d8 v_646fb950f3 hk0 hk96) hk0 rfl rfl (Nat.le_of_ble_eq_true rfl) ⟨(Nat.le_of_ble_eq_true rfl), (Nat.le_of_ble_eq_true rfl)⟩ ⟨(Nat.le_of_ble_eq_true rfl), (Nat.le_of_ble_eq_true rfl)⟩ (fun r h9 hp => ?_)
        obtain ⟨f5, rfl, rfl⟩ := hp
        refine J_nf (nh2 := nh) (ck2 := 0) (sk2 := 0) (st2 := [.int (zI (-1))]) rfl rfl rfl rfl ?_
        refine J_app (L3 := [(0, .inr (11, [.ref 1, .ref 17, .ref 50, .ref 51, .ref 54, .ref 57, .ref 65, .ref 75, .ref 81, .ref 85, .ref 88, .ref 93, .ref 96, .int (zI (-1)), .int (zI cfa), .ref 97, .int (zI cdk)])), (96, .inl (0, 5, .inl (zA f5)))]) rfl ?_
        exact J_iret dX11_terms_34 rfl rfl (Nat.le_of_ble_eq_true rfl) (Nat.le_of_ble_eq_true rfl) (Or.inl ⟨f5, rfl, rfl, (fun q => absurd q.2.1 (v_9664088974 h4))⟩)
      · refine J_iload_n dX11_terms_20 rfl rfl ?_
        refine Z_if_lt (tgt := 29) dX11_terms_21 (by decide) (v_b25fa51a85 q1) (fun h6 => ?_) (fun h6 => ?_)
        · refine J_aload_n dX11_terms_29 rfl rfl ?_
          refine Z_iconst (n := -1) dX11_terms_30 ?_
          refine J_callV (st := []) dX11_terms_31 cv_X11_118 (b_refuse (-1) cst cfa cdk rfs v_ef59c9c3d8 v_646fb950f3 hk0 hk96) hk0 rfl rfl (Nat.le_of_ble_eq_true rfl) ⟨(Nat.le_of_ble_eq_true rfl), (Nat.le_of_ble_eq_true rfl)⟩ ⟨(Nat.le_of_ble_eq_true rfl), (Nat.le_of_ble_eq_true rfl)⟩ (fun r h9 hp => ?_)
          obtain ⟨f7, rfl, rfl⟩ := hp
          refine J_nf (nh2 := nh) (ck2 := 0) (sk2 := 0) (st2 := [.int (zI (-1))]) rfl rfl rfl rfl ?_
          refine J_app (L3 := [(0, .inr (11, [.ref 1, .ref 17, .ref 50, .ref 51, .ref 54, .ref 57, .ref 65, .ref 75, .ref 81, .ref 85, .ref 88, .ref 93, .ref 96, .int (zI (-1)), .int (zI cfa), .ref 97, .int (zI cdk)])), (96, .inl (0, 5, .inl (zA f7)))]) rfl ?_
          exact J_iret dX11_terms_34 rfl rfl (Nat.le_of_ble_eq_true rfl) (Nat.le_of_ble_eq_true rfl) (Or.inl ⟨f7, rfl, rfl, (fun q => absurd q.2.2.1 (v_dccefa8cdf h6))⟩)
        · refine J_iload_n dX11_terms_24 rfl rfl ?_
          refine J_iload_n dX11_terms_25 rfl rfl ?_
          refine Z_icmp_le (tgt := 35) dX11_terms_26 (by decide) (v_edc92e96e6 q1 h6) v_c4d9d00c52 (fun h8 => ?_) (fun h8 => ?_)
          · refine J_aload_n dX11_terms_35 rfl rfl ?_
            refine J_get (v := .ref 1) dX11_terms_36 fl_X11_10 hk0 rfl ?_
            refine J_get (v := .ref 3) dX11_terms_39 fl_X11_145 hk1 rfl ?_
            refine J_iload_n dX11_terms_42 rfl rfl ?_
            obtain ⟨z9, ez9⟩ : ∃ z : Int, tf x = z := ⟨_, rfl⟩
            have h10 := Rg.at q15 (v_b2d8922659 h2) (v_7f68ac6a07 h4) ez9
            refine Y_iald (z := z9) 2 dX11_terms_43 hk3 rfl (by decide) (v_b2d8922659 h2) (v_7f68ac6a07 h4) ez9 ?_
            refine J_istore dX11_terms_44 (Nat.le_of_ble_eq_true rfl) rfl ?_
            refine J_ls (ls2 := [some (.ref 0), some (.int (zI x)), some (.int (zI y)), some (.int (zI 99)), some (.int (zI z9))]) rfl ?_
            refine J_aload_n dX11_terms_46 rfl rfl ?_
            refine J_get (v := .ref 1) dX11_terms_47 fl_X11_10 hk0 rfl ?_
            refine J_get (v := .ref 3) dX11_terms_50 fl_X11_145 hk1 rfl ?_
            refine J_iload_n dX11_terms_53 rfl rfl ?_
            refine J_iload_n dX11_terms_54 rfl rfl ?_
            refine Y_iast (v := y) 2 dX11_terms_55 hk3 rfl (by decide) (v_b2d8922659 h2) (v_7f68ac6a07 h4) (fun f11 ef11 => ?_)
            have h12 : Rg f11 2 (-2147483648) 2147483647 := Rg.ups q15 ef11 (v_867eef6787 h6) (v_955d180fa9 h8)
            refine J_aload_n dX11_terms_56 rfl rfl ?_
            refine J_get (v := .ref 57) dX11_terms_57 fl_X11_43 hk0 rfl ?_
            refine J_callV (st := []) dX11_terms_60 cv_X11_148 (t_changeAll ks ve ss vs (v_72438f5f82 q32 q33) (v_c8d7785628 q33) hk57) hk57 rfl rfl (Nat.le_of_ble_eq_true rfl) ⟨(Nat.le_of_ble_eq_true rfl), (Nat.le_of_ble_eq_true rfl)⟩ ⟨(Nat.le_of_ble_eq_true rfl), (Nat.le_of_ble_eq_true rfl)⟩ (fun r h9 hp => ?_)
            obtain ⟨rfl, rfl⟩ := hp
            refine J_nf (nh2 := nh) (ck2 := 0) (sk2 := 0) (st2 := []) rfl rfl rfl rfl ?_
            refine J_app (L3 := [(57, .inr (9, [.ref 1, .ref 51, .ref 58, .ref 61, .ref 62, .ref ks, .ref 64, .int (zI (ve + 1)), .int (zI 1), .int (zI 1)])), (3, .inl (0, 2, .inl (zA f11)))]) rfl ?_
            refine J_aload_n dX11_terms_63 rfl rfl ?_
            refine J_iload dX11_terms_64 rfl ?_
            refine J_callV (st := []) dX11_terms_66 cv_X11_129 (b_accept z9 cst cfa cdk hk0) hk0 rfl rfl (Nat.le_of_ble_eq_true rfl) ⟨(Nat.le_of_ble_eq_true rfl), (Nat.le_of_ble_eq_true rfl)⟩ ⟨(Nat.le_of_ble_eq_true rfl), (Nat.le_of_ble_eq_true rfl)⟩ (fun r h9 hp => ?_)
            obtain ⟨rfl, rfl⟩ := hp
            refine J_nf (nh2 := nh) (ck2 := 0) (sk2 := 0) (st2 := [.int (zI z9)]) rfl rfl rfl rfl ?_
            refine J_app (L3 := [(0, .inr (11, [.ref 1, .ref 17, .ref 50, .ref 51, .ref 54, .ref 57, .ref 65, .ref 75, .ref 81, .ref 85, .ref 88, .ref 93, .ref 96, .int (zI 0), .int (zI cfa), .ref 97, .int (zI cdk)])), (57, .inr (9, [.ref 1, .ref 51, .ref 58, .ref 61, .ref 62, .ref ks, .ref 64, .int (zI (ve + 1)), .int (zI 1), .int (zI 1)])), (3, .inl (0, 2, .inl (zA f11)))]) rfl ?_
            exact J_iret dX11_terms_69 rfl rfl (Nat.le_of_ble_eq_true rfl) (Nat.le_of_ble_eq_true rfl) (Or.inr ⟨z9, f11, rfl, rfl, (⟨(v_b2d8922659 h2), (v_f807a01f72 h4), (v_b2d8922659 h6), (v_4218de3c40 h1 h2 h8)⟩), h12, ez9, ef11⟩)
          · refine J_aload_n dX11_terms_29 rfl rfl ?_
            refine Z_iconst (n := -1) dX11_terms_30 ?_
            refine J_callV (st := []) dX11_terms_31 cv_X11_118 (b_refuse (-1) cst cfa cdk rfs v_ef59c9c3d8 v_646fb950f3 hk0 hk96) hk0 rfl rfl (Nat.le_of_ble_eq_true rfl) ⟨(Nat.le_of_ble_eq_true rfl), (Nat.le_of_ble_eq_true rfl)⟩ ⟨(Nat.le_of_ble_eq_true rfl), (Nat.le_of_ble_eq_true rfl)⟩ (fun r h9 hp => ?_)
            obtain ⟨f13, rfl, rfl⟩ := hp
            refine J_nf (nh2 := nh) (ck2 := 0) (sk2 := 0) (st2 := [.int (zI (-1))]) rfl rfl rfl rfl ?_
            refine J_app (L3 := [(0, .inr (11, [.ref 1, .ref 17, .ref 50, .ref 51, .ref 54, .ref 57, .ref 65, .ref 75, .ref 81, .ref 85, .ref 88, .ref 93, .ref 96, .int (zI (-1)), .int (zI cfa), .ref 97, .int (zI cdk)])), (96, .inl (0, 5, .inl (zA f13)))]) rfl ?_
            exact J_iret dX11_terms_34 rfl rfl (Nat.le_of_ble_eq_true rfl) (Nat.le_of_ble_eq_true rfl) (Or.inl ⟨f13, rfl, rfl, (fun q => absurd q.2.2.2 (v_376052f867 h4 h8))⟩)
  · refine Z_iconst (n := 1) dX11_terms_4 ?_
    refine J_goto (tgt := 10) dX11_terms_5 (by decide) ?_
    refine J_istore_n dX11_terms_10 rfl (Nat.le_of_ble_eq_true rfl) rfl ?_
    refine J_ls (ls2 := [some (.ref 0), some (.int (zI x)), some (.int (zI y)), some (.int (zI 1)), none]) rfl ?_
    refine J_iload_n dX11_terms_11 rfl rfl ?_
    refine Z_if_lt (tgt := 29) dX11_terms_12 (by decide) (v_a9318e7b09 h1) (fun h14 => absurd h14 (v_7bf129d738 h1)) (fun h14 => ?_)
    refine J_iload_n dX11_terms_15 rfl rfl ?_
    refine Z_iconst (n := 1) dX11_terms_16 ?_
    refine Z_icmp_gt (tgt := 29) dX11_terms_17 (by decide) (v_a9318e7b09 h1) v_4dcc24baa7 (fun h15 => absurd h15 (v_7a6a884611 h1)) (fun h15 => ?_)
    refine J_iload_n dX11_terms_20 rfl rfl ?_
    refine Z_if_lt (tgt := 29) dX11_terms_21 (by decide) (v_b25fa51a85 q1) (fun h16 => ?_) (fun h16 => ?_)
    · refine J_aload_n dX11_terms_29 rfl rfl ?_
      refine Z_iconst (n := -1) dX11_terms_30 ?_
      refine J_callV (st := []) dX11_terms_31 cv_X11_118 (b_refuse (-1) cst cfa cdk rfs v_ef59c9c3d8 v_646fb950f3 hk0 hk96) hk0 rfl rfl (Nat.le_of_ble_eq_true rfl) ⟨(Nat.le_of_ble_eq_true rfl), (Nat.le_of_ble_eq_true rfl)⟩ ⟨(Nat.le_of_ble_eq_true rfl), (Nat.le_of_ble_eq_true rfl)⟩ (fun r h9 hp => ?_)
      obtain ⟨f17, rfl, rfl⟩ := hp
      refine J_nf (nh2 := nh) (ck2 := 0) (sk2 := 0) (st2 := [.int (zI (-1))]) rfl rfl rfl rfl ?_
      refine J_app (L3 := [(0, .inr (11, [.ref 1, .ref 17, .ref 50, .ref 51, .ref 54, .ref 57, .ref 65, .ref 75, .ref 81, .ref 85, .ref 88, .ref 93, .ref 96, .int (zI (-1)), .int (zI cfa), .ref 97, .int (zI cdk)])), (96, .inl (0, 5, .inl (zA f17)))]) rfl ?_
      exact J_iret dX11_terms_34 rfl rfl (Nat.le_of_ble_eq_true rfl) (Nat.le_of_ble_eq_true rfl) (Or.inl ⟨f17, rfl, rfl, (fun q => absurd q.2.2.1 (v_dccefa8cdf h16))⟩)
    · refine J_iload_n dX11_terms_24 rfl rfl ?_
      refine J_iload_n dX11_terms_25 rfl rfl ?_
      refine Z_icmp_le (tgt := 35) dX11_terms_26 (by decide) (v_edc92e96e6 q1 h16) v_4dcc24baa7 (fun h18 => ?_) (fun h18 => ?_)
      · refine J_aload_n dX11_terms_35 rfl rfl ?_
        refine J_get (v := .ref 1) dX11_terms_36 fl_X11_10 hk0 rfl ?_
        refine J_get (v := .ref 3) dX11_terms_39 fl_X11_145 hk1 rfl ?_
        refine J_iload_n dX11_terms_42 rfl rfl ?_
        obtain ⟨z19, ez19⟩ : ∃ z : Int, tf x = z := ⟨_, rfl⟩
        have h20 := Rg.at q15 (v_800e358fde h1) (v_bc32b157de h1) ez19
        refine Y_iald (z := z19) 2 dX11_terms_43 hk3 rfl (by decide) (v_800e358fde h1) (v_bc32b157de h1) ez19 ?_
        refine J_istore dX11_terms_44 (Nat.le_of_ble_eq_true rfl) rfl ?_
        refine J_ls (ls2 := [some (.ref 0), some (.int (zI x)), some (.int (zI y)), some (.int (zI 1)), some (.int (zI z19))]) rfl ?_
        refine J_aload_n dX11_terms_46 rfl rfl ?_
        refine J_get (v := .ref 1) dX11_terms_47 fl_X11_10 hk0 rfl ?_
        refine J_get (v := .ref 3) dX11_terms_50 fl_X11_145 hk1 rfl ?_
        refine J_iload_n dX11_terms_53 rfl rfl ?_
        refine J_iload_n dX11_terms_54 rfl rfl ?_
        refine Y_iast (v := y) 2 dX11_terms_55 hk3 rfl (by decide) (v_800e358fde h1) (v_bc32b157de h1) (fun f21 ef21 => ?_)
        have h22 : Rg f21 2 (-2147483648) 2147483647 := Rg.ups q15 ef21 (v_867eef6787 h16) (v_96ad20775e h18)
        refine J_aload_n dX11_terms_56 rfl rfl ?_
        refine J_get (v := .ref 57) dX11_terms_57 fl_X11_43 hk0 rfl ?_
        refine J_callV (st := []) dX11_terms_60 cv_X11_148 (t_changeAll ks ve ss vs (v_72438f5f82 q32 q33) (v_c8d7785628 q33) hk57) hk57 rfl rfl (Nat.le_of_ble_eq_true rfl) ⟨(Nat.le_of_ble_eq_true rfl), (Nat.le_of_ble_eq_true rfl)⟩ ⟨(Nat.le_of_ble_eq_true rfl), (Nat.le_of_ble_eq_true rfl)⟩ (fun r h9 hp => ?_)
        obtain ⟨rfl, rfl⟩ := hp
        refine J_nf (nh2 := nh) (ck2 := 0) (sk2 := 0) (st2 := []) rfl rfl rfl rfl ?_
        refine J_app (L3 := [(57, .inr (9, [.ref 1, .ref 51, .ref 58, .ref 61, .ref 62, .ref ks, .ref 64, .int (zI (ve + 1)), .int (zI 1), .int (zI 1)])), (3, .inl (0, 2, .inl (zA f21)))]) rfl ?_
        refine J_aload_n dX11_terms_63 rfl rfl ?_
        refine J_iload dX11_terms_64 rfl ?_
        refine J_callV (st := []) dX11_terms_66 cv_X11_129 (b_accept z19 cst cfa cdk hk0) hk0 rfl rfl (Nat.le_of_ble_eq_true rfl) ⟨(Nat.le_of_ble_eq_true rfl), (Nat.le_of_ble_eq_true rfl)⟩ ⟨(Nat.le_of_ble_eq_true rfl), (Nat.le_of_ble_eq_true rfl)⟩ (fun r h9 hp => ?_)
        obtain ⟨rfl, rfl⟩ := hp
        refine J_nf (nh2 := nh) (ck2 := 0) (sk2 := 0) (st2 := [.int (zI z19)]) rfl rfl rfl rfl ?_
        refine J_app (L3 := [(0, .inr (11, [.ref 1, .ref 17, .ref 50, .ref 51, .ref 54, .ref 57, .ref 65, .ref 75, .ref 81, .ref 85, .ref 88, .ref 93, .ref 96, .int (zI 0), .int (zI cfa), .ref 97, .int (zI cdk)])), (57, .inr (9, [.ref 1, .ref 51, .ref 58, .ref 61, .ref 62, .ref ks, .ref 64, .int (zI (ve + 1)), .int (zI 1), .int (zI 1)])), (3, .inl (0, 2, .inl (zA f21)))]) rfl ?_
        exact J_iret dX11_terms_69 rfl rfl (Nat.le_of_ble_eq_true rfl) (Nat.le_of_ble_eq_true rfl) (Or.inr ⟨z19, f21, rfl, rfl, (⟨(v_800e358fde h1), (v_e327774f82 h1), (v_b2d8922659 h16), (v_a15994c18b h1 h18)⟩), h22, ez19, ef21⟩)
      · refine J_aload_n dX11_terms_29 rfl rfl ?_
        refine Z_iconst (n := -1) dX11_terms_30 ?_
        refine J_callV (st := []) dX11_terms_31 cv_X11_118 (b_refuse (-1) cst cfa cdk rfs v_ef59c9c3d8 v_646fb950f3 hk0 hk96) hk0 rfl rfl (Nat.le_of_ble_eq_true rfl) ⟨(Nat.le_of_ble_eq_true rfl), (Nat.le_of_ble_eq_true rfl)⟩ ⟨(Nat.le_of_ble_eq_true rfl), (Nat.le_of_ble_eq_true rfl)⟩ (fun r h9 hp => ?_)
        obtain ⟨f23, rfl, rfl⟩ := hp
        refine J_nf (nh2 := nh) (ck2 := 0) (sk2 := 0) (st2 := [.int (zI (-1))]) rfl rfl rfl rfl ?_
        refine J_app (L3 := [(0, .inr (11, [.ref 1, .ref 17, .ref 50, .ref 51, .ref 54, .ref 57, .ref 65, .ref 75, .ref 81, .ref 85, .ref 88, .ref 93, .ref 96, .int (zI (-1)), .int (zI cfa), .ref 97, .int (zI cdk)])), (96, .inl (0, 5, .inl (zA f23)))]) rfl ?_
        exact J_iret dX11_terms_34 rfl rfl (Nat.le_of_ble_eq_true rfl) (Nat.le_of_ble_eq_true rfl) (Or.inl ⟨f23, rfl, rfl, (fun q => absurd q.2.2.2 (v_c195667b59 h1 h18))⟩)
set_option maxHeartbeats 4000000 in
set_option maxRecDepth 100000 in
theorem b_force {l : Launch} {G : jG} {nh : Nat} {fh : Nat → Option va_E} (x : Int) (cst : Int) (cfa : Int) (cdk : Int) (ff : Int → Int) (tf : Int → Int) (lf : Nat → Option Nat) (wa : Int → Int) (wb : Int → Int) (ca : Int → Int) (cb : Int → Int) (sa : Int → Int) (sb : Int → Int) (lc : Int) (fo : Int) (wc : Int) (cc : Int) (sc : Int) (ks : Nat) (ve : Int) (ss : Int) (vs : Int) (ht : Int) (br : Int) (hl : Int) (le : Int) (ba : Int) (tk : Int) (wf : Int → Int) (kf : Int → Int) (nf : Int → Int) (df : Int → Int) (sf : Int → Int) (ns : Int) (vf : Int → Int) (rfs : Int → Int) (many : Int) (places : Int) (rf : Int → Int) (bf : Int → Int) (q0 : zr x) (q1 : 0 ≤ cdk) (q2 : cdk ≤ 1) (q3 : okF ff) (q4 : 0 ≤ lc) (q5 : lc ≤ 6) (q6 : -1 ≤ fo) (q7 : fo < lc) (q8 : 0 ≤ wc) (q9 : wc ≤ 8) (q10 : 0 ≤ cc) (q11 : cc ≤ 6) (q12 : 0 ≤ sc) (q13 : sc ≤ 12) (q14 : Rg tf 2 (-2147483648) 2147483647) (q15 : Rg wa 8 (-2147483648) 2147483647) (q16 : Rg wb 8 (-2147483648) 2147483647) (q17 : Rg ca 6 (-2147483648) 2147483647) (q18 : Rg ca cc 0 (Hi ff - 1)) (q19 : Rg cb 6 (-2147483648) 2147483647) (q20 : Rg sa 12 0 6) (q21 : Rg sb 12 0 6) (q22 : Rg ff 5 (-2147483648) 2147483647) (q23 : LawsIn fh lf) (q24 : Fx ks) (q25 : NLt ks nh) (q26 : NLe 135 nh) (q27 : 0 ≤ ss) (q28 : ss ≤ 1) (q29 : 0 ≤ vs) (q30 : vs ≤ 1) (q31 : 0 ≤ ve) (q32 : ve ≤ 10000) (q33 : Rg vf 2625 0 99) (q34 : 0 ≤ ns) (q35 : ns ≤ 60000) (q36 : Rg wf 8 (-2147483648) 2147483647) (q37 : Rg sf ns (-2147483648) 2147483647) (q38 : ss = 0 → 22 * many ≤ ns ∧ StOK df sf many) (q39 : 0 ≤ ht) (q40 : ht ≤ 64) (q41 : 0 ≤ br) (q42 : br ≤ 1) (q43 : 0 ≤ hl) (q44 : hl ≤ 1) (q45 : 0 ≤ le) (q46 : le ≤ 1) (q47 : 0 ≤ ba) (q48 : ba ≤ 1) (q49 : 1 ≤ tk) (q50 : tk ≤ 99) (q51 : 1 ≤ many) (q52 : many ≤ 1260) (q53 : 0 ≤ places) (q54 : places ≤ 7) (q55 : many = Hi ff) (q56 : places = bsum ff) (q57 : RowsTo rf ff many) (q58 : Rg rf 1260 (-2147483648) 2147483647) (q59 : Rg bf 7 0 4) (hk0 : fh 0 = some (.inr (11, [.ref 1, .ref 17, .ref 50, .ref 51, .ref 54, .ref 57, .ref 65, .ref 75, .ref 81, .ref 85, .ref 88, .ref 93, .ref 96, .int (zI cst), .int (zI cfa), .ref 97, .int (zI cdk)]))) (hk1 : fh 1 = some (.inr (8, [.ref 2, .ref 3, .ref 4, .int (zI lc), .int (zI fo), .ref 11, .ref 12, .int (zI wc), .ref 13, .ref 14, .int (zI cc), .ref 15, .ref 16, .int (zI sc)]))) (hk2 : fh 2 = some (.inl (0, 5, .inl (zA ff)))) (hk3 : fh 3 = some (.inl (0, 2, .inl (zA tf)))) (hk4 : fh 4 = some (.inl (5, 6, .inr (.inr (.inr (.inr lf)))))) (hk11 : fh 11 = some (.inl (0, 8, .inl (zA wa)))) (hk12 : fh 12 = some (.inl (0, 8, .inl (zA wb)))) (hk13 : fh 13 = some (.inl (0, 6, .inl (zA ca)))) (hk14 : fh 14 = some (.inl (0, 6, .inl (zA cb)))) (hk15 : fh 15 = some (.inl (0, 12, .inl (zA sa)))) (hk16 : fh 16 = some (.inl (0, 12, .inl (zA sb)))) (hk57 : fh 57 = some (.inr (9, [.ref 1, .ref 51, .ref 58, .ref 61, .ref 62, .ref ks, .ref 64, .int (zI ve), .int (zI ss), .int (zI vs)]))) (hk58 : fh 58 = some (.inr (1, [.ref 59, .ref 60, .int (zI ht), .int (zI br), .int (zI hl), .int (zI le), .int (zI ba), .int (zI tk)]))) (hk59 : fh 59 = some (.inl (0, 8, .inl (zA wf)))) (hk60 : fh 60 = some (.inl (1, 64, .inr (.inl (zAL kf))))) (hk61 : fh 61 = some (.inl (0, 0, .inl (zA nf)))) (hk62 : fh 62 = some (.inl (0, 1260, .inl (zA df)))) (hkks : fh ks = some (.inl (0, (ns).toNat, .inl (zA sf)))) (hk64 : fh 64 = some (.inl (0, 2625, .inl (zA vf)))) (hk96 : fh 96 = some (.inl (0, 5, .inl (zA rfs)))) (hk51 : fh 51 = some (.inr (0, [.ref 52, .ref 53, .int (zI many), .int (zI places)]))) (hk52 : fh 52 = some (.inl (0, 1260, .inl (zA rf)))) (hk53 : fh 53 = some (.inl (0, 7, .inl (zA bf)))) : JM l G yX11_force MX11_force { frames := 2, cells := 0, slots := 0, locals := 41 } [.ref 0, .int (zI x)] (nh, fh) (fun rr h9 => ∃ r : Int, ∃ cst2 : Int, ∃ rfs2 : Int → Int, ∃ ve2 : Int, ∃ ss2 : Int, ∃ vs2 : Int, ∃ fo2 : Int, rr = some (.int (zI r)) ∧ h9 = (nh, hc fh [(0, .inr (11, [.ref 1, .ref 17, .ref 50, .ref 51, .ref 54, .ref 57, .ref 65, .ref 75, .ref 81, .ref 85, .ref 88, .ref 93, .ref 96, .int (zI cst2), .int (zI cfa), .ref 97, .int (zI cdk)])), (96, .inl (0, 5, .inl (zA rfs2))), (57, .inr (9, [.ref 1, .ref 51, .ref 58, .ref 61, .ref 62, .ref ks, .ref 64, .int (zI ve2), .int (zI ss2), .int (zI vs2)])), (1, .inr (8, [.ref 2, .ref 3, .ref 4, .int (zI lc), .int (zI fo2), .ref 11, .ref 12, .int (zI wc), .ref 13, .ref 14, .int (zI cc), .ref 15, .ref 16, .int (zI sc)]))]) ∧ (-1 ≤ fo2) ∧ (fo2 < lc) ∧ (ve ≤ ve2) ∧ (ve2 ≤ ve + 1) ∧ (0 ≤ ss2) ∧ (ss2 ≤ 1) ∧ (0 ≤ vs2) ∧ (vs2 ≤ 1) ∧ (ve2 = ve → ss2 = ss) ∧ (¬ ve2 = ve → ss2 = 1)) := by
  refine JM.of (by decide) rfl (fun h => by cases h) (Nat.le_of_ble_eq_true rfl) ⟨1, rfl⟩ ?_
  refine J_hc0 (J_ls (ls2 := [some (.ref 0), some (.int (zI x)), none]) rfl ?_)
  refine J_iload_n dX11_force_0 rfl rfl ?_
  refine Z_iconst (n := -1) dX11_force_1 ?_
  refine Z_icmp_lt (tgt := 16) dX11_force_2 (by decide) (v_b25fa51a85 q0) v_d64efa60f9 (fun h1 => ?_) (fun h1 => ?_)
  · refine J_aload_n dX11_force_16 rfl rfl ?_
    refine Z_bipush (n := -2) dX11_force_17 (by decide +kernel) ?_
    refine J_callV (st := []) dX11_force_19 cv_X11_118 (b_refuse (-2) cst cfa cdk rfs v_c15e852b74 v_e7867eeafa hk0 hk96) hk0 rfl rfl (Nat.le_of_ble_eq_true rfl) ⟨(Nat.le_of_ble_eq_true rfl), (Nat.le_of_ble_eq_true rfl)⟩ ⟨(Nat.le_of_ble_eq_true rfl), (Nat.le_of_ble_eq_true rfl)⟩ (fun r h9 hp => ?_)
    obtain ⟨f2, rfl, rfl⟩ := hp
    refine J_nf (nh2 := nh) (ck2 := 0) (sk2 := 0) (st2 := [.int (zI (-2))]) rfl rfl rfl rfl ?_
    refine J_app (L3 := [(0, .inr (11, [.ref 1, .ref 17, .ref 50, .ref 51, .ref 54, .ref 57, .ref 65, .ref 75, .ref 81, .ref 85, .ref 88, .ref 93, .ref 96, .int (zI (-2)), .int (zI cfa), .ref 97, .int (zI cdk)])), (96, .inl (0, 5, .inl (zA f2)))]) rfl ?_
    refine J_touch (k := 1) (e := .inr (8, [.ref 2, .ref 3, .ref 4, .int (zI lc), .int (zI fo), .ref 11, .ref 12, .int (zI wc), .ref 13, .ref 14, .int (zI cc), .ref 15, .ref 16, .int (zI sc)])) hk1 ?_
    refine J_touch (k := 57) (e := .inr (9, [.ref 1, .ref 51, .ref 58, .ref 61, .ref 62, .ref ks, .ref 64, .int (zI ve), .int (zI ss), .int (zI vs)])) hk57 ?_
    refine J_touch (k := 96) (e := .inl (0, 5, .inl (zA f2))) rfl ?_
    refine J_touch (k := 0) (e := .inr (11, [.ref 1, .ref 17, .ref 50, .ref 51, .ref 54, .ref 57, .ref 65, .ref 75, .ref 81, .ref 85, .ref 88, .ref 93, .ref 96, .int (zI (-2)), .int (zI cfa), .ref 97, .int (zI cdk)])) rfl ?_
    refine J_mask (L2 := [(0, .inr (11, [.ref 1, .ref 17, .ref 50, .ref 51, .ref 54, .ref 57, .ref 65, .ref 75, .ref 81, .ref 85, .ref 88, .ref 93, .ref 96, .int (zI (-2)), .int (zI cfa), .ref 97, .int (zI cdk)])), (96, .inl (0, 5, .inl (zA f2))), (57, .inr (9, [.ref 1, .ref 51, .ref 58, .ref 61, .ref 62, .ref ks, .ref 64, .int (zI ve), .int (zI ss), .int (zI vs)])), (1, .inr (8, [.ref 2, .ref 3, .ref 4, .int (zI lc), .int (zI fo), .ref 11, .ref 12, .int (zI wc), .ref 13, .ref 14, .int (zI cc), .ref 15, .ref 16, .int (zI sc)]))]) (ks := [0, 96, 57, 1, 0, 96]) [true, true, true, true, false, false] rfl (by decide +kernel) rfl ?_
    exact J_iret dX11_force_22 rfl rfl (Nat.le_of_ble_eq_true rfl) (Nat.le_of_ble_eq_true rfl) ⟨(-2), (-2), f2, ve, ss, vs, fo, rfl, rfl, q6, q7, v_0065452639, v_3daf2cb668, q27, q28, q29, q30, (fun _ => rfl), (fun w => absurd rfl w)⟩
  · refine J_iload_n dX11_force_5 rfl rfl ?_
    refine J_aload_n dX11_force_6 rfl rfl ?_
    refine J_get (v := .ref 1) dX11_force_7 fl_X11_10 hk0 rfl ?_
    refine J_get (v := .int (zI lc)) dX11_force_10 fl_X11_184 hk1 rfl ?_
    refine Z_icmp_lt (tgt := 23) dX11_force_13 (by decide) (v_fb459e3f4e q0 h1) (v_5fd3895a24 q4 q5) (fun h3 => ?_) (fun h3 => ?_)
    · refine J_aload_n dX11_force_23 rfl rfl ?_
      refine J_get (v := .ref 1) dX11_force_24 fl_X11_10 hk0 rfl ?_
      refine J_get (v := .int (zI fo)) dX11_force_27 fl_X11_198 hk1 rfl ?_
      refine J_istore_n dX11_force_30 rfl (Nat.le_of_ble_eq_true rfl) rfl ?_
      refine J_ls (ls2 := [some (.ref 0), some (.int (zI x)), some (.int (zI fo))]) rfl ?_
      refine J_aload_n dX11_force_31 rfl rfl ?_
      refine J_get (v := .ref 1) dX11_force_32 fl_X11_10 hk0 rfl ?_
      refine J_iload_n dX11_force_35 rfl rfl ?_
      refine K_put (fs2 := [.ref 2, .ref 3, .ref 4, .int (zI lc), .int (zI x), .ref 11, .ref 12, .int (zI wc), .ref 13, .ref 14, .int (zI cc), .ref 15, .ref 16, .int (zI sc)]) dX11_force_36 fw_X11_198 hk1 (Nat.le_of_ble_eq_true rfl) (fun _ => ⟨rfl, rfl⟩) rfl ?_
      refine J_aload_n dX11_force_39 rfl rfl ?_
      refine J_get (v := .ref 57) dX11_force_40 fl_X11_43 hk0 rfl ?_
      refine J_callV (st := []) dX11_force_43 cv_X11_148 (t_changeAll ks ve ss vs (v_72438f5f82 q31 q32) (v_c8d7785628 q32) hk57) hk57 rfl rfl (Nat.le_of_ble_eq_true rfl) ⟨(Nat.le_of_ble_eq_true rfl), (Nat.le_of_ble_eq_true rfl)⟩ ⟨(Nat.le_of_ble_eq_true rfl), (Nat.le_of_ble_eq_true rfl)⟩ (fun r h9 hp => ?_)
      obtain ⟨rfl, rfl⟩ := hp
      refine J_nf (nh2 := nh) (ck2 := 0) (sk2 := 0) (st2 := []) rfl rfl rfl rfl ?_
      refine J_app (L3 := [(57, .inr (9, [.ref 1, .ref 51, .ref 58, .ref 61, .ref 62, .ref ks, .ref 64, .int (zI (ve + 1)), .int (zI 1), .int (zI 1)])), (1, .inr (8, [.ref 2, .ref 3, .ref 4, .int (zI lc), .int (zI x), .ref 11, .ref 12, .int (zI wc), .ref 13, .ref 14, .int (zI cc), .ref 15, .ref 16, .int (zI sc)]))]) rfl ?_
      refine J_aload_n dX11_force_46 rfl rfl ?_
      refine J_iload_n dX11_force_47 rfl rfl ?_
      refine J_callV (st := []) dX11_force_48 cv_X11_129 (b_accept fo cst cfa cdk hk0) hk0 rfl rfl (Nat.le_of_ble_eq_true rfl) ⟨(Nat.le_of_ble_eq_true rfl), (Nat.le_of_ble_eq_true rfl)⟩ ⟨(Nat.le_of_ble_eq_true rfl), (Nat.le_of_ble_eq_true rfl)⟩ (fun r h9 hp => ?_)
      obtain ⟨rfl, rfl⟩ := hp
      refine J_nf (nh2 := nh) (ck2 := 0) (sk2 := 0) (st2 := [.int (zI fo)]) rfl rfl rfl rfl ?_
      refine J_app (L3 := [(0, .inr (11, [.ref 1, .ref 17, .ref 50, .ref 51, .ref 54, .ref 57, .ref 65, .ref 75, .ref 81, .ref 85, .ref 88, .ref 93, .ref 96, .int (zI 0), .int (zI cfa), .ref 97, .int (zI cdk)])), (57, .inr (9, [.ref 1, .ref 51, .ref 58, .ref 61, .ref 62, .ref ks, .ref 64, .int (zI (ve + 1)), .int (zI 1), .int (zI 1)])), (1, .inr (8, [.ref 2, .ref 3, .ref 4, .int (zI lc), .int (zI x), .ref 11, .ref 12, .int (zI wc), .ref 13, .ref 14, .int (zI cc), .ref 15, .ref 16, .int (zI sc)]))]) rfl ?_
      refine J_touch (k := 1) (e := .inr (8, [.ref 2, .ref 3, .ref 4, .int (zI lc), .int (zI x), .ref 11, .ref 12, .int (zI wc), .ref 13, .ref 14, .int (zI cc), .ref 15, .ref 16, .int (zI sc)])) rfl ?_
      refine J_touch (k := 57) (e := .inr (9, [.ref 1, .ref 51, .ref 58, .ref 61, .ref 62, .ref ks, .ref 64, .int (zI (ve + 1)), .int (zI 1), .int (zI 1)])) rfl ?_
      refine J_touch (k := 96) (e := .inl (0, 5, .inl (zA rfs))) hk96 ?_
      refine J_touch (k := 0) (e := .inr (11, [.ref 1, .ref 17, .ref 50, .ref 51, .ref 54, .ref 57, .ref 65, .ref 75, .ref 81, .ref 85, .ref 88, .ref 93, .ref 96, .int (zI 0), .int (zI cfa), .ref 97, .int (zI cdk)])) rfl ?_
      refine J_mask (L2 := [(0, .inr (11, [.ref 1, .ref 17, .ref 50, .ref 51, .ref 54, .ref 57, .ref 65, .ref 75, .ref 81, .ref 85, .ref 88, .ref 93, .ref 96, .int (zI 0), .int (zI cfa), .ref 97, .int (zI cdk)])), (96, .inl (0, 5, .inl (zA rfs))), (57, .inr (9, [.ref 1, .ref 51, .ref 58, .ref 61, .ref 62, .ref ks, .ref 64, .int (zI (ve + 1)), .int (zI 1), .int (zI 1)])), (1, .inr (8, [.ref 2, .ref 3, .ref 4, .int (zI lc), .int (zI x), .ref 11, .ref 12, .int (zI wc), .ref 13, .ref 14, .int (zI cc), .ref 15, .ref 16, .int (zI sc)]))]) (ks := [0, 96, 57, 1, 0, 57, 1]) [true, true, true, true, false, false, false] rfl (by decide +kernel) rfl ?_
      exact J_iret dX11_force_51 rfl rfl (Nat.le_of_ble_eq_true rfl) (Nat.le_of_ble_eq_true rfl) ⟨fo, 0, rfs, (ve + 1), 1, 1, x, rfl, rfl, (v_a64c37121f h1), h3, v_32a28518ee, v_3410673be3, v_316afd7d0b, v_bbcfac9b7d, v_316afd7d0b, v_bbcfac9b7d, (fun w => absurd w (by have u : (ve + 1) = ve + 1 := v_e828b09c4d; omega)), (fun _ => rfl)⟩
    · refine J_aload_n dX11_force_16 rfl rfl ?_
      refine Z_bipush (n := -2) dX11_force_17 (by decide +kernel) ?_
      refine J_callV (st := []) dX11_force_19 cv_X11_118 (b_refuse (-2) cst cfa cdk rfs v_c15e852b74 v_e7867eeafa hk0 hk96) hk0 rfl rfl (Nat.le_of_ble_eq_true rfl) ⟨(Nat.le_of_ble_eq_true rfl), (Nat.le_of_ble_eq_true rfl)⟩ ⟨(Nat.le_of_ble_eq_true rfl), (Nat.le_of_ble_eq_true rfl)⟩ (fun r h9 hp => ?_)
      obtain ⟨f4, rfl, rfl⟩ := hp
      refine J_nf (nh2 := nh) (ck2 := 0) (sk2 := 0) (st2 := [.int (zI (-2))]) rfl rfl rfl rfl ?_
      refine J_app (L3 := [(0, .inr (11, [.ref 1, .ref 17, .ref 50, .ref 51, .ref 54, .ref 57, .ref 65, .ref 75, .ref 81, .ref 85, .ref 88, .ref 93, .ref 96, .int (zI (-2)), .int (zI cfa), .ref 97, .int (zI cdk)])), (96, .inl (0, 5, .inl (zA f4)))]) rfl ?_
      refine J_touch (k := 1) (e := .inr (8, [.ref 2, .ref 3, .ref 4, .int (zI lc), .int (zI fo), .ref 11, .ref 12, .int (zI wc), .ref 13, .ref 14, .int (zI cc), .ref 15, .ref 16, .int (zI sc)])) hk1 ?_
      refine J_touch (k := 57) (e := .inr (9, [.ref 1, .ref 51, .ref 58, .ref 61, .ref 62, .ref ks, .ref 64, .int (zI ve), .int (zI ss), .int (zI vs)])) hk57 ?_
      refine J_touch (k := 96) (e := .inl (0, 5, .inl (zA f4))) rfl ?_
      refine J_touch (k := 0) (e := .inr (11, [.ref 1, .ref 17, .ref 50, .ref 51, .ref 54, .ref 57, .ref 65, .ref 75, .ref 81, .ref 85, .ref 88, .ref 93, .ref 96, .int (zI (-2)), .int (zI cfa), .ref 97, .int (zI cdk)])) rfl ?_
      refine J_mask (L2 := [(0, .inr (11, [.ref 1, .ref 17, .ref 50, .ref 51, .ref 54, .ref 57, .ref 65, .ref 75, .ref 81, .ref 85, .ref 88, .ref 93, .ref 96, .int (zI (-2)), .int (zI cfa), .ref 97, .int (zI cdk)])), (96, .inl (0, 5, .inl (zA f4))), (57, .inr (9, [.ref 1, .ref 51, .ref 58, .ref 61, .ref 62, .ref ks, .ref 64, .int (zI ve), .int (zI ss), .int (zI vs)])), (1, .inr (8, [.ref 2, .ref 3, .ref 4, .int (zI lc), .int (zI fo), .ref 11, .ref 12, .int (zI wc), .ref 13, .ref 14, .int (zI cc), .ref 15, .ref 16, .int (zI sc)]))]) (ks := [0, 96, 57, 1, 0, 96]) [true, true, true, true, false, false] rfl (by decide +kernel) rfl ?_
      exact J_iret dX11_force_22 rfl rfl (Nat.le_of_ble_eq_true rfl) (Nat.le_of_ble_eq_true rfl) ⟨(-2), (-2), f4, ve, ss, vs, fo, rfl, rfl, q6, q7, v_0065452639, v_3daf2cb668, q27, q28, q29, q30, (fun _ => rfl), (fun w => absurd rfl w)⟩
set_option maxHeartbeats 4000000 in
set_option maxRecDepth 100000 in
theorem b_wall {l : Launch} {G : jG} {nh : Nat} {fh : Nat → Option va_E} (x : Int) (y : Int) (cst : Int) (cfa : Int) (cdk : Int) (ff : Int → Int) (tf : Int → Int) (lf : Nat → Option Nat) (wa : Int → Int) (wb : Int → Int) (ca : Int → Int) (cb : Int → Int) (sa : Int → Int) (sb : Int → Int) (lc : Int) (fo : Int) (wc : Int) (cc : Int) (sc : Int) (ks : Nat) (ve : Int) (ss : Int) (vs : Int) (ht : Int) (br : Int) (hl : Int) (le : Int) (ba : Int) (tk : Int) (wf : Int → Int) (kf : Int → Int) (nf : Int → Int) (df : Int → Int) (sf : Int → Int) (ns : Int) (vf : Int → Int) (rfs : Int → Int) (many : Int) (places : Int) (rf : Int → Int) (bf : Int → Int) (q0 : zr x) (q1 : zr y) (q2 : 0 ≤ cdk) (q3 : cdk ≤ 1) (q4 : okF ff) (q5 : 0 ≤ lc) (q6 : lc ≤ 6) (q7 : -1 ≤ fo) (q8 : fo < lc) (q9 : 0 ≤ wc) (q10 : wc ≤ 8) (q11 : 0 ≤ cc) (q12 : cc ≤ 6) (q13 : 0 ≤ sc) (q14 : sc ≤ 12) (q15 : Rg tf 2 (-2147483648) 2147483647) (q16 : Rg wa 8 (-2147483648) 2147483647) (q17 : Rg wb 8 (-2147483648) 2147483647) (q18 : Rg ca 6 (-2147483648) 2147483647) (q19 : Rg ca cc 0 (Hi ff - 1)) (q20 : Rg cb 6 (-2147483648) 2147483647) (q21 : Rg sa 12 0 6) (q22 : Rg sb 12 0 6) (q23 : Rg ff 5 (-2147483648) 2147483647) (q24 : LawsIn fh lf) (q25 : Fx ks) (q26 : NLt ks nh) (q27 : NLe 135 nh) (q28 : 0 ≤ ss) (q29 : ss ≤ 1) (q30 : 0 ≤ vs) (q31 : vs ≤ 1) (q32 : 0 ≤ ve) (q33 : ve ≤ 10000) (q34 : Rg vf 2625 0 99) (q35 : 0 ≤ ns) (q36 : ns ≤ 60000) (q37 : Rg wf 8 (-2147483648) 2147483647) (q38 : Rg sf ns (-2147483648) 2147483647) (q39 : ss = 0 → 22 * many ≤ ns ∧ StOK df sf many) (q40 : 0 ≤ ht) (q41 : ht ≤ 64) (q42 : 0 ≤ br) (q43 : br ≤ 1) (q44 : 0 ≤ hl) (q45 : hl ≤ 1) (q46 : 0 ≤ le) (q47 : le ≤ 1) (q48 : 0 ≤ ba) (q49 : ba ≤ 1) (q50 : 1 ≤ tk) (q51 : tk ≤ 99) (q52 : 1 ≤ many) (q53 : many ≤ 1260) (q54 : 0 ≤ places) (q55 : places ≤ 7) (q56 : many = Hi ff) (q57 : places = bsum ff) (q58 : RowsTo rf ff many) (q59 : Rg rf 1260 (-2147483648) 2147483647) (q60 : Rg bf 7 0 4) (hk0 : fh 0 = some (.inr (11, [.ref 1, .ref 17, .ref 50, .ref 51, .ref 54, .ref 57, .ref 65, .ref 75, .ref 81, .ref 85, .ref 88, .ref 93, .ref 96, .int (zI cst), .int (zI cfa), .ref 97, .int (zI cdk)]))) (hk1 : fh 1 = some (.inr (8, [.ref 2, .ref 3, .ref 4, .int (zI lc), .int (zI fo), .ref 11, .ref 12, .int (zI wc), .ref 13, .ref 14, .int (zI cc), .ref 15, .ref 16, .int (zI sc)]))) (hk2 : fh 2 = some (.inl (0, 5, .inl (zA ff)))) (hk3 : fh 3 = some (.inl (0, 2, .inl (zA tf)))) (hk4 : fh 4 = some (.inl (5, 6, .inr (.inr (.inr (.inr lf)))))) (hk11 : fh 11 = some (.inl (0, 8, .inl (zA wa)))) (hk12 : fh 12 = some (.inl (0, 8, .inl (zA wb)))) (hk13 : fh 13 = some (.inl (0, 6, .inl (zA ca)))) (hk14 : fh 14 = some (.inl (0, 6, .inl (zA cb)))) (hk15 : fh 15 = some (.inl (0, 12, .inl (zA sa)))) (hk16 : fh 16 = some (.inl (0, 12, .inl (zA sb)))) (hk57 : fh 57 = some (.inr (9, [.ref 1, .ref 51, .ref 58, .ref 61, .ref 62, .ref ks, .ref 64, .int (zI ve), .int (zI ss), .int (zI vs)]))) (hk58 : fh 58 = some (.inr (1, [.ref 59, .ref 60, .int (zI ht), .int (zI br), .int (zI hl), .int (zI le), .int (zI ba), .int (zI tk)]))) (hk59 : fh 59 = some (.inl (0, 8, .inl (zA wf)))) (hk60 : fh 60 = some (.inl (1, 64, .inr (.inl (zAL kf))))) (hk61 : fh 61 = some (.inl (0, 0, .inl (zA nf)))) (hk62 : fh 62 = some (.inl (0, 1260, .inl (zA df)))) (hkks : fh ks = some (.inl (0, (ns).toNat, .inl (zA sf)))) (hk64 : fh 64 = some (.inl (0, 2625, .inl (zA vf)))) (hk96 : fh 96 = some (.inl (0, 5, .inl (zA rfs)))) (hk51 : fh 51 = some (.inr (0, [.ref 52, .ref 53, .int (zI many), .int (zI places)]))) (hk52 : fh 52 = some (.inl (0, 1260, .inl (zA rf)))) (hk53 : fh 53 = some (.inl (0, 7, .inl (zA bf)))) : JM l G yX11_wall MX11_wall { frames := 2, cells := 0, slots := 0, locals := 41 } [.ref 0, .int (zI x), .int (zI y)] (nh, fh) (fun rr h9 => (∃ rfs2 : Int → Int, rr = some (.int (zI (-2))) ∧ h9 = (nh, hc fh [(0, .inr (11, [.ref 1, .ref 17, .ref 50, .ref 51, .ref 54, .ref 57, .ref 65, .ref 75, .ref 81, .ref 85, .ref 88, .ref 93, .ref 96, .int (zI (-2)), .int (zI cfa), .ref 97, .int (zI cdk)])), (96, .inl (0, 5, .inl (zA rfs2)))]) ∧ (¬ isB x y (Hi ff))) ∨ (∃ rfs2 : Int → Int, rr = some (.int (zI (-3))) ∧ h9 = (nh, hc fh [(0, .inr (11, [.ref 1, .ref 17, .ref 50, .ref 51, .ref 54, .ref 57, .ref 65, .ref 75, .ref 81, .ref 85, .ref 88, .ref 93, .ref 96, .int (zI (-3)), .int (zI cfa), .ref 97, .int (zI cdk)])), (96, .inl (0, 5, .inl (zA rfs2)))]) ∧ (isB x y (Hi ff)) ∧ (x = y ∨ ¬ WNo wa wb wc x y)) ∨ (∃ rfs2 : Int → Int, rr = some (.int (zI (-5))) ∧ h9 = (nh, hc fh [(0, .inr (11, [.ref 1, .ref 17, .ref 50, .ref 51, .ref 54, .ref 57, .ref 65, .ref 75, .ref 81, .ref 85, .ref 88, .ref 93, .ref 96, .int (zI (-5)), .int (zI cfa), .ref 97, .int (zI cdk)])), (96, .inl (0, 5, .inl (zA rfs2)))]) ∧ (isB x y (Hi ff)) ∧ (¬ x = y) ∧ (WNo wa wb wc x y) ∧ (8 ≤ wc)) ∨ (∃ wa2 : Int → Int, ∃ wb2 : Int → Int, rr = some (.int (zI (wc + 1))) ∧ h9 = (nh, hc fh [(0, .inr (11, [.ref 1, .ref 17, .ref 50, .ref 51, .ref 54, .ref 57, .ref 65, .ref 75, .ref 81, .ref 85, .ref 88, .ref 93, .ref 96, .int (zI 0), .int (zI cfa), .ref 97, .int (zI cdk)])), (57, .inr (9, [.ref 1, .ref 51, .ref 58, .ref 61, .ref 62, .ref ks, .ref 64, .int (zI (ve + 1)), .int (zI 1), .int (zI vs)])), (1, .inr (8, [.ref 2, .ref 3, .ref 4, .int (zI lc), .int (zI fo), .ref 11, .ref 12, .int (zI (wc + 1)), .ref 13, .ref 14, .int (zI cc), .ref 15, .ref 16, .int (zI sc)])), (11, .inl (0, 8, .inl (zA wa2))), (12, .inl (0, 8, .inl (zA wb2)))]) ∧ (isB x y (Hi ff)) ∧ (¬ x = y) ∧ (WNo wa wb wc x y) ∧ (wc < 8) ∧ (Rg wa2 8 (-2147483648) 2147483647) ∧ (Rg wb2 8 (-2147483648) 2147483647) ∧ ((wa2 = up wa wc x)) ∧ ((wb2 = up wb wc y)))) := by
  refine JM.of (by decide) rfl (fun h => by cases h) (Nat.le_of_ble_eq_true rfl) ⟨0, rfl⟩ ?_
  refine J_hc0 (J_ls (ls2 := [some (.ref 0), some (.int (zI x)), some (.int (zI y))]) rfl ?_)
  refine J_aload_n dX11_wall_0 rfl rfl ?_
  refine J_get (v := .ref 51) dX11_wall_1 fl_X11_27 hk0 rfl ?_
  refine J_iload_n dX11_wall_4 rfl rfl ?_
  refine J_callV (st := []) dX11_wall_5 cv_X11_135 (g_has x many places q0 q52 q53 hk51) hk51 rfl rfl (Nat.le_of_ble_eq_true rfl) ⟨(Nat.le_of_ble_eq_true rfl), (Nat.le_of_ble_eq_true rfl)⟩ ⟨(Nat.le_of_ble_eq_true rfl), (Nat.le_of_ble_eq_true rfl)⟩ (fun r h9 hp => ?_)
  rcases hp with ⟨rfl, rfl, h1, h2⟩ | ⟨rfl, rfl, h3⟩ | ⟨rfl, rfl, h4⟩
  · refine J_nf (nh2 := nh) (ck2 := 0) (sk2 := 0) (st2 := [.int (zI 1)]) rfl rfl rfl rfl ?_
    refine Z_if_eq (tgt := 22) dX11_wall_8 (by decide) v_4dcc24baa7 (fun h5 => absurd h5 v_3a47bfd896) (fun h5 => ?_)
    refine J_aload_n dX11_wall_11 rfl rfl ?_
    refine J_get (v := .ref 51) dX11_wall_12 fl_X11_27 hk0 rfl ?_
    refine J_iload_n dX11_wall_15 rfl rfl ?_
    refine J_callV (st := []) dX11_wall_16 cv_X11_135 (g_has y many places q1 q52 q53 hk51) hk51 rfl rfl (Nat.le_of_ble_eq_true rfl) ⟨(Nat.le_of_ble_eq_true rfl), (Nat.le_of_ble_eq_true rfl)⟩ ⟨(Nat.le_of_ble_eq_true rfl), (Nat.le_of_ble_eq_true rfl)⟩ (fun r h9 hp => ?_)
    rcases hp with ⟨rfl, rfl, h6, h7⟩ | ⟨rfl, rfl, h8⟩ | ⟨rfl, rfl, h9⟩
    · refine J_nf (nh2 := nh) (ck2 := 0) (sk2 := 0) (st2 := [.int (zI 1)]) rfl rfl rfl rfl ?_
      refine Z_if_ne (tgt := 29) dX11_wall_19 (by decide) v_4dcc24baa7 (fun h10 => ?_) (fun h10 => absurd h10 v_3a47bfd896)
      refine J_iload_n dX11_wall_29 rfl rfl ?_
      refine J_iload_n dX11_wall_30 rfl rfl ?_
      refine Z_icmp_eq (tgt := 47) dX11_wall_31 (by decide) (v_e33502de53 q0 h1) (v_e33502de53 q1 h6) (fun h11 => ?_) (fun h11 => ?_)
      · refine J_aload_n dX11_wall_47 rfl rfl ?_
        refine Z_bipush (n := -3) dX11_wall_48 (by decide +kernel) ?_
        refine J_callV (st := []) dX11_wall_50 cv_X11_118 (b_refuse (-3) cst cfa cdk rfs v_36df96dc2b v_6d3f6df9c9 hk0 hk96) hk0 rfl rfl (Nat.le_of_ble_eq_true rfl) ⟨(Nat.le_of_ble_eq_true rfl), (Nat.le_of_ble_eq_true rfl)⟩ ⟨(Nat.le_of_ble_eq_true rfl), (Nat.le_of_ble_eq_true rfl)⟩ (fun r h9 hp => ?_)
        obtain ⟨f12, rfl, rfl⟩ := hp
        refine J_nf (nh2 := nh) (ck2 := 0) (sk2 := 0) (st2 := [.int (zI (-3))]) rfl rfl rfl rfl ?_
        refine J_app (L3 := [(0, .inr (11, [.ref 1, .ref 17, .ref 50, .ref 51, .ref 54, .ref 57, .ref 65, .ref 75, .ref 81, .ref 85, .ref 88, .ref 93, .ref 96, .int (zI (-3)), .int (zI cfa), .ref 97, .int (zI cdk)])), (96, .inl (0, 5, .inl (zA f12)))]) rfl ?_
        exact J_iret dX11_wall_53 rfl rfl (Nat.le_of_ble_eq_true rfl) (Nat.le_of_ble_eq_true rfl) (Or.inr (Or.inl ⟨f12, rfl, rfl, (⟨(v_2b02420001 h1), (v_d7c2909a09 q56 h2), (v_2b02420001 h6), (v_d7c2909a09 q56 h7)⟩), (Or.inl (v_cd91a95e4e h11))⟩))
      · refine J_aload_n dX11_wall_34 rfl rfl ?_
        refine J_get (v := .ref 1) dX11_wall_35 fl_X11_10 hk0 rfl ?_
        refine J_iload_n dX11_wall_38 rfl rfl ?_
        refine J_iload_n dX11_wall_39 rfl rfl ?_
        refine J_callV (st := []) dX11_wall_40 cv_X11_201 (s_wallBetween x y lc fo wc cc sc wa wb q0 q1 q5 q6 q7 q8 q9 q10 q11 q12 q13 q14 q16 q17 hk1 hk11 hk12) hk1 rfl rfl (Nat.le_of_ble_eq_true rfl) ⟨(Nat.le_of_ble_eq_true rfl), (Nat.le_of_ble_eq_true rfl)⟩ ⟨(Nat.le_of_ble_eq_true rfl), (Nat.le_of_ble_eq_true rfl)⟩ (fun r h9 hp => ?_)
        rcases hp with ⟨z13, rfl, rfl, h14, h15, h16⟩ | ⟨rfl, rfl, h17⟩
        · refine J_nf (nh2 := nh) (ck2 := 0) (sk2 := 0) (st2 := [.int (zI z13)]) rfl rfl rfl rfl ?_
          refine Z_iconst (n := -1) dX11_wall_43 ?_
          refine Z_icmp_eq (tgt := 54) dX11_wall_44 (by decide) (v_5282293a48 q10 h14 h15) v_d64efa60f9 (fun h18 => absurd h18 (v_ec89eb1211 h14)) (fun h18 => ?_)
          refine J_aload_n dX11_wall_47 rfl rfl ?_
          refine Z_bipush (n := -3) dX11_wall_48 (by decide +kernel) ?_
          refine J_callV (st := []) dX11_wall_50 cv_X11_118 (b_refuse (-3) cst cfa cdk rfs v_36df96dc2b v_6d3f6df9c9 hk0 hk96) hk0 rfl rfl (Nat.le_of_ble_eq_true rfl) ⟨(Nat.le_of_ble_eq_true rfl), (Nat.le_of_ble_eq_true rfl)⟩ ⟨(Nat.le_of_ble_eq_true rfl), (Nat.le_of_ble_eq_true rfl)⟩ (fun r h9 hp => ?_)
          obtain ⟨f19, rfl, rfl⟩ := hp
          refine J_nf (nh2 := nh) (ck2 := 0) (sk2 := 0) (st2 := [.int (zI (-3))]) rfl rfl rfl rfl ?_
          refine J_app (L3 := [(0, .inr (11, [.ref 1, .ref 17, .ref 50, .ref 51, .ref 54, .ref 57, .ref 65, .ref 75, .ref 81, .ref 85, .ref 88, .ref 93, .ref 96, .int (zI (-3)), .int (zI cfa), .ref 97, .int (zI cdk)])), (96, .inl (0, 5, .inl (zA f19)))]) rfl ?_
          exact J_iret dX11_wall_53 rfl rfl (Nat.le_of_ble_eq_true rfl) (Nat.le_of_ble_eq_true rfl) (Or.inr (Or.inl ⟨f19, rfl, rfl, (⟨(v_2b02420001 h1), (v_d7c2909a09 q56 h2), (v_2b02420001 h6), (v_d7c2909a09 q56 h7)⟩), (Or.inr (fun q => q z13 (v_2b02420001 h14) (v_b9aca61388 h15) h16))⟩))
        · refine J_nf (nh2 := nh) (ck2 := 0) (sk2 := 0) (st2 := [.int (zI (-1))]) rfl rfl rfl rfl ?_
          refine Z_iconst (n := -1) dX11_wall_43 ?_
          refine Z_icmp_eq (tgt := 54) dX11_wall_44 (by decide) v_d64efa60f9 v_d64efa60f9 (fun h20 => ?_) (fun h20 => absurd h20 (fun q => q v_6d2ae2573e))
          refine J_aload_n dX11_wall_54 rfl rfl ?_
          refine J_get (v := .ref 1) dX11_wall_55 fl_X11_10 hk0 rfl ?_
          refine J_get (v := .int (zI wc)) dX11_wall_58 fl_X11_204 hk1 rfl ?_
          refine Z_bipush (n := 8) dX11_wall_61 (by decide +kernel) ?_
          refine Z_icmp_lt (tgt := 73) dX11_wall_63 (by decide) (v_9b2fd7ca71 q9 q10) v_665891e294 (fun h21 => ?_) (fun h21 => ?_)
          · refine J_aload_n dX11_wall_73 rfl rfl ?_
            refine J_get (v := .ref 1) dX11_wall_74 fl_X11_10 hk0 rfl ?_
            refine J_iload_n dX11_wall_77 rfl rfl ?_
            refine J_iload_n dX11_wall_78 rfl rfl ?_
            refine J_callV (st := []) dX11_wall_79 cv_X11_207 (s_addWall x y lc fo wc cc sc wa wb q0 q1 q5 q6 q7 q8 q9 q10 q11 q12 q13 q14 q16 q17 hk1 hk11 hk12) hk1 rfl rfl (Nat.le_of_ble_eq_true rfl) ⟨(Nat.le_of_ble_eq_true rfl), (Nat.le_of_ble_eq_true rfl)⟩ ⟨(Nat.le_of_ble_eq_true rfl), (Nat.le_of_ble_eq_true rfl)⟩ (fun r h9 hp => ?_)
            rcases hp with ⟨f22, f23, rfl, rfl, h24, h25, h26, h27, h28⟩ | ⟨rfl, rfl, h29⟩
            · refine J_nf (nh2 := nh) (ck2 := 0) (sk2 := 0) (st2 := []) rfl rfl rfl rfl ?_
              refine J_app (L3 := [(1, .inr (8, [.ref 2, .ref 3, .ref 4, .int (zI lc), .int (zI fo), .ref 11, .ref 12, .int (zI (wc + 1)), .ref 13, .ref 14, .int (zI cc), .ref 15, .ref 16, .int (zI sc)])), (11, .inl (0, 8, .inl (zA f22))), (12, .inl (0, 8, .inl (zA f23)))]) rfl ?_
              refine J_aload_n dX11_wall_82 rfl rfl ?_
              refine J_get (v := .ref 57) dX11_wall_83 fl_X11_43 hk0 rfl ?_
              refine J_callV (st := []) dX11_wall_86 cv_X11_211 (t_changeWalls ks ve ss vs (v_72438f5f82 q32 q33) (v_c8d7785628 q33) hk57) hk57 rfl rfl (Nat.le_of_ble_eq_true rfl) ⟨(Nat.le_of_ble_eq_true rfl), (Nat.le_of_ble_eq_true rfl)⟩ ⟨(Nat.le_of_ble_eq_true rfl), (Nat.le_of_ble_eq_true rfl)⟩ (fun r h9 hp => ?_)
              obtain ⟨rfl, rfl⟩ := hp
              refine J_nf (nh2 := nh) (ck2 := 0) (sk2 := 0) (st2 := []) rfl rfl rfl rfl ?_
              refine J_app (L3 := [(57, .inr (9, [.ref 1, .ref 51, .ref 58, .ref 61, .ref 62, .ref ks, .ref 64, .int (zI (ve + 1)), .int (zI 1), .int (zI vs)])), (1, .inr (8, [.ref 2, .ref 3, .ref 4, .int (zI lc), .int (zI fo), .ref 11, .ref 12, .int (zI (wc + 1)), .ref 13, .ref 14, .int (zI cc), .ref 15, .ref 16, .int (zI sc)])), (11, .inl (0, 8, .inl (zA f22))), (12, .inl (0, 8, .inl (zA f23)))]) rfl ?_
              refine J_aload_n dX11_wall_89 rfl rfl ?_
              refine J_aload_n dX11_wall_90 rfl rfl ?_
              refine J_get (v := .ref 1) dX11_wall_91 fl_X11_10 hk0 rfl ?_
              refine J_get (v := .int (zI (wc + 1))) dX11_wall_94 fl_X11_204 rfl rfl ?_
              refine J_callV (st := []) dX11_wall_97 cv_X11_129 (b_accept (wc + 1) cst cfa cdk hk0) hk0 rfl rfl (Nat.le_of_ble_eq_true rfl) ⟨(Nat.le_of_ble_eq_true rfl), (Nat.le_of_ble_eq_true rfl)⟩ ⟨(Nat.le_of_ble_eq_true rfl), (Nat.le_of_ble_eq_true rfl)⟩ (fun r h9 hp => ?_)
              obtain ⟨rfl, rfl⟩ := hp
              refine J_nf (nh2 := nh) (ck2 := 0) (sk2 := 0) (st2 := [.int (zI (wc + 1))]) rfl rfl rfl rfl ?_
              refine J_app (L3 := [(0, .inr (11, [.ref 1, .ref 17, .ref 50, .ref 51, .ref 54, .ref 57, .ref 65, .ref 75, .ref 81, .ref 85, .ref 88, .ref 93, .ref 96, .int (zI 0), .int (zI cfa), .ref 97, .int (zI cdk)])), (57, .inr (9, [.ref 1, .ref 51, .ref 58, .ref 61, .ref 62, .ref ks, .ref 64, .int (zI (ve + 1)), .int (zI 1), .int (zI vs)])), (1, .inr (8, [.ref 2, .ref 3, .ref 4, .int (zI lc), .int (zI fo), .ref 11, .ref 12, .int (zI (wc + 1)), .ref 13, .ref 14, .int (zI cc), .ref 15, .ref 16, .int (zI sc)])), (11, .inl (0, 8, .inl (zA f22))), (12, .inl (0, 8, .inl (zA f23)))]) rfl ?_
              exact J_iret dX11_wall_100 rfl rfl (Nat.le_of_ble_eq_true rfl) (Nat.le_of_ble_eq_true rfl) (Or.inr (Or.inr (Or.inr ⟨f22, f23, rfl, rfl, (⟨(v_2b02420001 h1), (v_d7c2909a09 q56 h2), (v_2b02420001 h6), (v_d7c2909a09 q56 h7)⟩), h11, h17, h24, h25, h26, h27, h28⟩)))
            · exact False.elim (v_fea0d8f6f7 h21 h29)
          · refine J_aload_n dX11_wall_66 rfl rfl ?_
            refine Z_bipush (n := -5) dX11_wall_67 (by decide +kernel) ?_
            refine J_callV (st := []) dX11_wall_69 cv_X11_118 (b_refuse (-5) cst cfa cdk rfs v_23c38dd6f5 v_711bb4d976 hk0 hk96) hk0 rfl rfl (Nat.le_of_ble_eq_true rfl) ⟨(Nat.le_of_ble_eq_true rfl), (Nat.le_of_ble_eq_true rfl)⟩ ⟨(Nat.le_of_ble_eq_true rfl), (Nat.le_of_ble_eq_true rfl)⟩ (fun r h9 hp => ?_)
            obtain ⟨f30, rfl, rfl⟩ := hp
            refine J_nf (nh2 := nh) (ck2 := 0) (sk2 := 0) (st2 := [.int (zI (-5))]) rfl rfl rfl rfl ?_
            refine J_app (L3 := [(0, .inr (11, [.ref 1, .ref 17, .ref 50, .ref 51, .ref 54, .ref 57, .ref 65, .ref 75, .ref 81, .ref 85, .ref 88, .ref 93, .ref 96, .int (zI (-5)), .int (zI cfa), .ref 97, .int (zI cdk)])), (96, .inl (0, 5, .inl (zA f30)))]) rfl ?_
            exact J_iret dX11_wall_72 rfl rfl (Nat.le_of_ble_eq_true rfl) (Nat.le_of_ble_eq_true rfl) (Or.inr (Or.inr (Or.inl ⟨f30, rfl, rfl, (⟨(v_2b02420001 h1), (v_d7c2909a09 q56 h2), (v_2b02420001 h6), (v_d7c2909a09 q56 h7)⟩), h11, h17, (v_1fd7a756fc h21)⟩)))
    · refine J_nf (nh2 := nh) (ck2 := 0) (sk2 := 0) (st2 := [.int (zI 0)]) rfl rfl rfl rfl ?_
      refine Z_if_ne (tgt := 29) dX11_wall_19 (by decide) v_b17331891f (fun h31 => absurd h31 (fun q => q v_2ca2bbca1f)) (fun h31 => ?_)
      refine J_aload_n dX11_wall_22 rfl rfl ?_
      refine Z_bipush (n := -2) dX11_wall_23 (by decide +kernel) ?_
      refine J_callV (st := []) dX11_wall_25 cv_X11_118 (b_refuse (-2) cst cfa cdk rfs v_c15e852b74 v_e7867eeafa hk0 hk96) hk0 rfl rfl (Nat.le_of_ble_eq_true rfl) ⟨(Nat.le_of_ble_eq_true rfl), (Nat.le_of_ble_eq_true rfl)⟩ ⟨(Nat.le_of_ble_eq_true rfl), (Nat.le_of_ble_eq_true rfl)⟩ (fun r h9 hp => ?_)
      obtain ⟨f32, rfl, rfl⟩ := hp
      refine J_nf (nh2 := nh) (ck2 := 0) (sk2 := 0) (st2 := [.int (zI (-2))]) rfl rfl rfl rfl ?_
      refine J_app (L3 := [(0, .inr (11, [.ref 1, .ref 17, .ref 50, .ref 51, .ref 54, .ref 57, .ref 65, .ref 75, .ref 81, .ref 85, .ref 88, .ref 93, .ref 96, .int (zI (-2)), .int (zI cfa), .ref 97, .int (zI cdk)])), (96, .inl (0, 5, .inl (zA f32)))]) rfl ?_
      exact J_iret dX11_wall_28 rfl rfl (Nat.le_of_ble_eq_true rfl) (Nat.le_of_ble_eq_true rfl) (Or.inl ⟨f32, rfl, rfl, (fun q => absurd q.2.2.1 (v_dccefa8cdf h8))⟩)
    · refine J_nf (nh2 := nh) (ck2 := 0) (sk2 := 0) (st2 := [.int (zI 0)]) rfl rfl rfl rfl ?_
      refine Z_if_ne (tgt := 29) dX11_wall_19 (by decide) v_b17331891f (fun h33 => absurd h33 (fun q => q v_2ca2bbca1f)) (fun h33 => ?_)
      refine J_aload_n dX11_wall_22 rfl rfl ?_
      refine Z_bipush (n := -2) dX11_wall_23 (by decide +kernel) ?_
      refine J_callV (st := []) dX11_wall_25 cv_X11_118 (b_refuse (-2) cst cfa cdk rfs v_c15e852b74 v_e7867eeafa hk0 hk96) hk0 rfl rfl (Nat.le_of_ble_eq_true rfl) ⟨(Nat.le_of_ble_eq_true rfl), (Nat.le_of_ble_eq_true rfl)⟩ ⟨(Nat.le_of_ble_eq_true rfl), (Nat.le_of_ble_eq_true rfl)⟩ (fun r h9 hp => ?_)
      obtain ⟨f34, rfl, rfl⟩ := hp
      refine J_nf (nh2 := nh) (ck2 := 0) (sk2 := 0) (st2 := [.int (zI (-2))]) rfl rfl rfl rfl ?_
      refine J_app (L3 := [(0, .inr (11, [.ref 1, .ref 17, .ref 50, .ref 51, .ref 54, .ref 57, .ref 65, .ref 75, .ref 81, .ref 85, .ref 88, .ref 93, .ref 96, .int (zI (-2)), .int (zI cfa), .ref 97, .int (zI cdk)])), (96, .inl (0, 5, .inl (zA f34)))]) rfl ?_
      exact J_iret dX11_wall_28 rfl rfl (Nat.le_of_ble_eq_true rfl) (Nat.le_of_ble_eq_true rfl) (Or.inl ⟨f34, rfl, rfl, (fun q => absurd q.2.2.2 (v_f9e33a7fad q56 h9))⟩)
  · refine J_nf (nh2 := nh) (ck2 := 0) (sk2 := 0) (st2 := [.int (zI 0)]) rfl rfl rfl rfl ?_
    refine Z_if_eq (tgt := 22) dX11_wall_8 (by decide) v_b17331891f (fun h35 => ?_) (fun h35 => absurd h35 (fun q => q v_2ca2bbca1f))
    refine J_aload_n dX11_wall_22 rfl rfl ?_
    refine Z_bipush (n := -2) dX11_wall_23 (by decide +kernel) ?_
    refine J_callV (st := []) dX11_wall_25 cv_X11_118 (b_refuse (-2) cst cfa cdk rfs v_c15e852b74 v_e7867eeafa hk0 hk96) hk0 rfl rfl (Nat.le_of_ble_eq_true rfl) ⟨(Nat.le_of_ble_eq_true rfl), (Nat.le_of_ble_eq_true rfl)⟩ ⟨(Nat.le_of_ble_eq_true rfl), (Nat.le_of_ble_eq_true rfl)⟩ (fun r h9 hp => ?_)
    obtain ⟨f36, rfl, rfl⟩ := hp
    refine J_nf (nh2 := nh) (ck2 := 0) (sk2 := 0) (st2 := [.int (zI (-2))]) rfl rfl rfl rfl ?_
    refine J_app (L3 := [(0, .inr (11, [.ref 1, .ref 17, .ref 50, .ref 51, .ref 54, .ref 57, .ref 65, .ref 75, .ref 81, .ref 85, .ref 88, .ref 93, .ref 96, .int (zI (-2)), .int (zI cfa), .ref 97, .int (zI cdk)])), (96, .inl (0, 5, .inl (zA f36)))]) rfl ?_
    exact J_iret dX11_wall_28 rfl rfl (Nat.le_of_ble_eq_true rfl) (Nat.le_of_ble_eq_true rfl) (Or.inl ⟨f36, rfl, rfl, (fun q => absurd q.1 (v_dccefa8cdf h3))⟩)
  · refine J_nf (nh2 := nh) (ck2 := 0) (sk2 := 0) (st2 := [.int (zI 0)]) rfl rfl rfl rfl ?_
    refine Z_if_eq (tgt := 22) dX11_wall_8 (by decide) v_b17331891f (fun h37 => ?_) (fun h37 => absurd h37 (fun q => q v_2ca2bbca1f))
    refine J_aload_n dX11_wall_22 rfl rfl ?_
    refine Z_bipush (n := -2) dX11_wall_23 (by decide +kernel) ?_
    refine J_callV (st := []) dX11_wall_25 cv_X11_118 (b_refuse (-2) cst cfa cdk rfs v_c15e852b74 v_e7867eeafa hk0 hk96) hk0 rfl rfl (Nat.le_of_ble_eq_true rfl) ⟨(Nat.le_of_ble_eq_true rfl), (Nat.le_of_ble_eq_true rfl)⟩ ⟨(Nat.le_of_ble_eq_true rfl), (Nat.le_of_ble_eq_true rfl)⟩ (fun r h9 hp => ?_)
    obtain ⟨f38, rfl, rfl⟩ := hp
    refine J_nf (nh2 := nh) (ck2 := 0) (sk2 := 0) (st2 := [.int (zI (-2))]) rfl rfl rfl rfl ?_
    refine J_app (L3 := [(0, .inr (11, [.ref 1, .ref 17, .ref 50, .ref 51, .ref 54, .ref 57, .ref 65, .ref 75, .ref 81, .ref 85, .ref 88, .ref 93, .ref 96, .int (zI (-2)), .int (zI cfa), .ref 97, .int (zI cdk)])), (96, .inl (0, 5, .inl (zA f38)))]) rfl ?_
    exact J_iret dX11_wall_28 rfl rfl (Nat.le_of_ble_eq_true rfl) (Nat.le_of_ble_eq_true rfl) (Or.inl ⟨f38, rfl, rfl, (fun q => absurd q.2.1 (v_f9e33a7fad q56 h4))⟩)
set_option maxHeartbeats 4000000 in
set_option maxRecDepth 100000 in
theorem b_breach {l : Launch} {G : jG} {nh : Nat} {fh : Nat → Option va_E} (x : Int) (y : Int) (cst : Int) (cfa : Int) (cdk : Int) (ff : Int → Int) (tf : Int → Int) (lf : Nat → Option Nat) (wa : Int → Int) (wb : Int → Int) (ca : Int → Int) (cb : Int → Int) (sa : Int → Int) (sb : Int → Int) (lc : Int) (fo : Int) (wc : Int) (cc : Int) (sc : Int) (ks : Nat) (ve : Int) (ss : Int) (vs : Int) (ht : Int) (br : Int) (hl : Int) (le : Int) (ba : Int) (tk : Int) (wf : Int → Int) (kf : Int → Int) (nf : Int → Int) (df : Int → Int) (sf : Int → Int) (ns : Int) (vf : Int → Int) (rfs : Int → Int) (many : Int) (places : Int) (rf : Int → Int) (bf : Int → Int) (q0 : zr x) (q1 : zr y) (q2 : 0 ≤ cdk) (q3 : cdk ≤ 1) (q4 : okF ff) (q5 : 0 ≤ lc) (q6 : lc ≤ 6) (q7 : -1 ≤ fo) (q8 : fo < lc) (q9 : 0 ≤ wc) (q10 : wc ≤ 8) (q11 : 0 ≤ cc) (q12 : cc ≤ 6) (q13 : 0 ≤ sc) (q14 : sc ≤ 12) (q15 : Rg tf 2 (-2147483648) 2147483647) (q16 : Rg wa 8 (-2147483648) 2147483647) (q17 : Rg wb 8 (-2147483648) 2147483647) (q18 : Rg ca 6 (-2147483648) 2147483647) (q19 : Rg ca cc 0 (Hi ff - 1)) (q20 : Rg cb 6 (-2147483648) 2147483647) (q21 : Rg sa 12 0 6) (q22 : Rg sb 12 0 6) (q23 : Rg ff 5 (-2147483648) 2147483647) (q24 : LawsIn fh lf) (q25 : Fx ks) (q26 : NLt ks nh) (q27 : NLe 135 nh) (q28 : 0 ≤ ss) (q29 : ss ≤ 1) (q30 : 0 ≤ vs) (q31 : vs ≤ 1) (q32 : 0 ≤ ve) (q33 : ve ≤ 10000) (q34 : Rg vf 2625 0 99) (q35 : 0 ≤ ns) (q36 : ns ≤ 60000) (q37 : Rg wf 8 (-2147483648) 2147483647) (q38 : Rg sf ns (-2147483648) 2147483647) (q39 : ss = 0 → 22 * many ≤ ns ∧ StOK df sf many) (q40 : 0 ≤ ht) (q41 : ht ≤ 64) (q42 : 0 ≤ br) (q43 : br ≤ 1) (q44 : 0 ≤ hl) (q45 : hl ≤ 1) (q46 : 0 ≤ le) (q47 : le ≤ 1) (q48 : 0 ≤ ba) (q49 : ba ≤ 1) (q50 : 1 ≤ tk) (q51 : tk ≤ 99) (q52 : 1 ≤ many) (q53 : many ≤ 1260) (q54 : 0 ≤ places) (q55 : places ≤ 7) (q56 : many = Hi ff) (q57 : places = bsum ff) (q58 : RowsTo rf ff many) (q59 : Rg rf 1260 (-2147483648) 2147483647) (q60 : Rg bf 7 0 4) (hk0 : fh 0 = some (.inr (11, [.ref 1, .ref 17, .ref 50, .ref 51, .ref 54, .ref 57, .ref 65, .ref 75, .ref 81, .ref 85, .ref 88, .ref 93, .ref 96, .int (zI cst), .int (zI cfa), .ref 97, .int (zI cdk)]))) (hk1 : fh 1 = some (.inr (8, [.ref 2, .ref 3, .ref 4, .int (zI lc), .int (zI fo), .ref 11, .ref 12, .int (zI wc), .ref 13, .ref 14, .int (zI cc), .ref 15, .ref 16, .int (zI sc)]))) (hk2 : fh 2 = some (.inl (0, 5, .inl (zA ff)))) (hk3 : fh 3 = some (.inl (0, 2, .inl (zA tf)))) (hk4 : fh 4 = some (.inl (5, 6, .inr (.inr (.inr (.inr lf)))))) (hk11 : fh 11 = some (.inl (0, 8, .inl (zA wa)))) (hk12 : fh 12 = some (.inl (0, 8, .inl (zA wb)))) (hk13 : fh 13 = some (.inl (0, 6, .inl (zA ca)))) (hk14 : fh 14 = some (.inl (0, 6, .inl (zA cb)))) (hk15 : fh 15 = some (.inl (0, 12, .inl (zA sa)))) (hk16 : fh 16 = some (.inl (0, 12, .inl (zA sb)))) (hk57 : fh 57 = some (.inr (9, [.ref 1, .ref 51, .ref 58, .ref 61, .ref 62, .ref ks, .ref 64, .int (zI ve), .int (zI ss), .int (zI vs)]))) (hk58 : fh 58 = some (.inr (1, [.ref 59, .ref 60, .int (zI ht), .int (zI br), .int (zI hl), .int (zI le), .int (zI ba), .int (zI tk)]))) (hk59 : fh 59 = some (.inl (0, 8, .inl (zA wf)))) (hk60 : fh 60 = some (.inl (1, 64, .inr (.inl (zAL kf))))) (hk61 : fh 61 = some (.inl (0, 0, .inl (zA nf)))) (hk62 : fh 62 = some (.inl (0, 1260, .inl (zA df)))) (hkks : fh ks = some (.inl (0, (ns).toNat, .inl (zA sf)))) (hk64 : fh 64 = some (.inl (0, 2625, .inl (zA vf)))) (hk96 : fh 96 = some (.inl (0, 5, .inl (zA rfs)))) (hk51 : fh 51 = some (.inr (0, [.ref 52, .ref 53, .int (zI many), .int (zI places)]))) (hk52 : fh 52 = some (.inl (0, 1260, .inl (zA rf)))) (hk53 : fh 53 = some (.inl (0, 7, .inl (zA bf)))) : JM l G yX11_breach MX11_breach { frames := 2, cells := 0, slots := 0, locals := 41 } [.ref 0, .int (zI x), .int (zI y)] (nh, fh) (fun rr h9 => (∃ rfs2 : Int → Int, rr = some (.int (zI (-2))) ∧ h9 = (nh, hc fh [(0, .inr (11, [.ref 1, .ref 17, .ref 50, .ref 51, .ref 54, .ref 57, .ref 65, .ref 75, .ref 81, .ref 85, .ref 88, .ref 93, .ref 96, .int (zI (-2)), .int (zI cfa), .ref 97, .int (zI cdk)])), (96, .inl (0, 5, .inl (zA rfs2)))]) ∧ (¬ isB x y (Hi ff))) ∨ (∃ rfs2 : Int → Int, rr = some (.int (zI (-3))) ∧ h9 = (nh, hc fh [(0, .inr (11, [.ref 1, .ref 17, .ref 50, .ref 51, .ref 54, .ref 57, .ref 65, .ref 75, .ref 81, .ref 85, .ref 88, .ref 93, .ref 96, .int (zI (-3)), .int (zI cfa), .ref 97, .int (zI cdk)])), (96, .inl (0, 5, .inl (zA rfs2)))]) ∧ (isB x y (Hi ff)) ∧ (WNo wa wb wc x y)) ∨ (∃ w : Int, ∃ wa2 : Int → Int, ∃ wb2 : Int → Int, rr = some (.int (zI (wc - 1))) ∧ h9 = (nh, hc fh [(0, .inr (11, [.ref 1, .ref 17, .ref 50, .ref 51, .ref 54, .ref 57, .ref 65, .ref 75, .ref 81, .ref 85, .ref 88, .ref 93, .ref 96, .int (zI 0), .int (zI cfa), .ref 97, .int (zI cdk)])), (57, .inr (9, [.ref 1, .ref 51, .ref 58, .ref 61, .ref 62, .ref ks, .ref 64, .int (zI (ve + 1)), .int (zI 1), .int (zI vs)])), (1, .inr (8, [.ref 2, .ref 3, .ref 4, .int (zI lc), .int (zI fo), .ref 11, .ref 12, .int (zI (wc - 1)), .ref 13, .ref 14, .int (zI cc), .ref 15, .ref 16, .int (zI sc)])), (11, .inl (0, 8, .inl (zA wa2))), (12, .inl (0, 8, .inl (zA wb2)))]) ∧ (isB x y (Hi ff)) ∧ (0 ≤ w) ∧ (w < wc) ∧ (WM wa wb w x y) ∧ (Rg wa2 8 (-2147483648) 2147483647) ∧ (Rg wb2 8 (-2147483648) 2147483647) ∧ ((wa2 = up wa w (wa (wc - 1)))) ∧ ((wb2 = up wb w (wb (wc - 1)))))) := by
  refine JM.of (by decide) rfl (fun h => by cases h) (Nat.le_of_ble_eq_true rfl) ⟨1, rfl⟩ ?_
  refine J_hc0 (J_ls (ls2 := [some (.ref 0), some (.int (zI x)), some (.int (zI y)), none]) rfl ?_)
  refine J_aload_n dX11_breach_0 rfl rfl ?_
  refine J_get (v := .ref 51) dX11_breach_1 fl_X11_27 hk0 rfl ?_
  refine J_iload_n dX11_breach_4 rfl rfl ?_
  refine J_callV (st := []) dX11_breach_5 cv_X11_135 (g_has x many places q0 q52 q53 hk51) hk51 rfl rfl (Nat.le_of_ble_eq_true rfl) ⟨(Nat.le_of_ble_eq_true rfl), (Nat.le_of_ble_eq_true rfl)⟩ ⟨(Nat.le_of_ble_eq_true rfl), (Nat.le_of_ble_eq_true rfl)⟩ (fun r h9 hp => ?_)
  rcases hp with ⟨rfl, rfl, h1, h2⟩ | ⟨rfl, rfl, h3⟩ | ⟨rfl, rfl, h4⟩
  · refine J_nf (nh2 := nh) (ck2 := 0) (sk2 := 0) (st2 := [.int (zI 1)]) rfl rfl rfl rfl ?_
    refine Z_if_eq (tgt := 22) dX11_breach_8 (by decide) v_4dcc24baa7 (fun h5 => absurd h5 v_3a47bfd896) (fun h5 => ?_)
    refine J_aload_n dX11_breach_11 rfl rfl ?_
    refine J_get (v := .ref 51) dX11_breach_12 fl_X11_27 hk0 rfl ?_
    refine J_iload_n dX11_breach_15 rfl rfl ?_
    refine J_callV (st := []) dX11_breach_16 cv_X11_135 (g_has y many places q1 q52 q53 hk51) hk51 rfl rfl (Nat.le_of_ble_eq_true rfl) ⟨(Nat.le_of_ble_eq_true rfl), (Nat.le_of_ble_eq_true rfl)⟩ ⟨(Nat.le_of_ble_eq_true rfl), (Nat.le_of_ble_eq_true rfl)⟩ (fun r h9 hp => ?_)
    rcases hp with ⟨rfl, rfl, h6, h7⟩ | ⟨rfl, rfl, h8⟩ | ⟨rfl, rfl, h9⟩
    · refine J_nf (nh2 := nh) (ck2 := 0) (sk2 := 0) (st2 := [.int (zI 1)]) rfl rfl rfl rfl ?_
      refine Z_if_ne (tgt := 29) dX11_breach_19 (by decide) v_4dcc24baa7 (fun h10 => ?_) (fun h10 => absurd h10 v_3a47bfd896)
      refine J_aload_n dX11_breach_29 rfl rfl ?_
      refine J_get (v := .ref 1) dX11_breach_30 fl_X11_10 hk0 rfl ?_
      refine J_iload_n dX11_breach_33 rfl rfl ?_
      refine J_iload_n dX11_breach_34 rfl rfl ?_
      refine J_callV (st := []) dX11_breach_35 cv_X11_201 (s_wallBetween x y lc fo wc cc sc wa wb q0 q1 q5 q6 q7 q8 q9 q10 q11 q12 q13 q14 q16 q17 hk1 hk11 hk12) hk1 rfl rfl (Nat.le_of_ble_eq_true rfl) ⟨(Nat.le_of_ble_eq_true rfl), (Nat.le_of_ble_eq_true rfl)⟩ ⟨(Nat.le_of_ble_eq_true rfl), (Nat.le_of_ble_eq_true rfl)⟩ (fun r h9 hp => ?_)
      rcases hp with ⟨z11, rfl, rfl, h12, h13, h14⟩ | ⟨rfl, rfl, h15⟩
      · refine J_nf (nh2 := nh) (ck2 := 0) (sk2 := 0) (st2 := [.int (zI z11)]) rfl rfl rfl rfl ?_
        refine J_istore_n dX11_breach_38 rfl (Nat.le_of_ble_eq_true rfl) rfl ?_
        refine J_ls (ls2 := [some (.ref 0), some (.int (zI x)), some (.int (zI y)), some (.int (zI z11))]) rfl ?_
        refine J_iload_n dX11_breach_39 rfl rfl ?_
        refine Z_iconst (n := -1) dX11_breach_40 ?_
        refine Z_icmp_ne (tgt := 51) dX11_breach_41 (by decide) (v_5282293a48 q10 h12 h13) v_d64efa60f9 (fun h16 => ?_) (fun h16 => absurd h16 (v_ec89eb1211 h12))
        refine J_aload_n dX11_breach_51 rfl rfl ?_
        refine J_get (v := .ref 1) dX11_breach_52 fl_X11_10 hk0 rfl ?_
        refine J_iload_n dX11_breach_55 rfl rfl ?_
        refine J_callV (st := []) dX11_breach_56 cv_X11_214 (s_dropWall z11 lc fo wc cc sc wa wb h12 h13 q5 q6 q7 q8 q9 q10 q11 q12 q13 q14 q16 q17 hk1 hk11 hk12) hk1 rfl rfl (Nat.le_of_ble_eq_true rfl) ⟨(Nat.le_of_ble_eq_true rfl), (Nat.le_of_ble_eq_true rfl)⟩ ⟨(Nat.le_of_ble_eq_true rfl), (Nat.le_of_ble_eq_true rfl)⟩ (fun r h9 hp => ?_)
        obtain ⟨f17, f18, rfl, rfl, h19, h20, h21, h22⟩ := hp
        refine J_nf (nh2 := nh) (ck2 := 0) (sk2 := 0) (st2 := []) rfl rfl rfl rfl ?_
        refine J_app (L3 := [(1, .inr (8, [.ref 2, .ref 3, .ref 4, .int (zI lc), .int (zI fo), .ref 11, .ref 12, .int (zI (wc - 1)), .ref 13, .ref 14, .int (zI cc), .ref 15, .ref 16, .int (zI sc)])), (11, .inl (0, 8, .inl (zA f17))), (12, .inl (0, 8, .inl (zA f18)))]) rfl ?_
        refine J_aload_n dX11_breach_59 rfl rfl ?_
        refine J_get (v := .ref 57) dX11_breach_60 fl_X11_43 hk0 rfl ?_
        refine J_callV (st := []) dX11_breach_63 cv_X11_211 (t_changeWalls ks ve ss vs (v_72438f5f82 q32 q33) (v_c8d7785628 q33) hk57) hk57 rfl rfl (Nat.le_of_ble_eq_true rfl) ⟨(Nat.le_of_ble_eq_true rfl), (Nat.le_of_ble_eq_true rfl)⟩ ⟨(Nat.le_of_ble_eq_true rfl), (Nat.le_of_ble_eq_true rfl)⟩ (fun r h9 hp => ?_)
        obtain ⟨rfl, rfl⟩ := hp
        refine J_nf (nh2 := nh) (ck2 := 0) (sk2 := 0) (st2 := []) rfl rfl rfl rfl ?_
        refine J_app (L3 := [(57, .inr (9, [.ref 1, .ref 51, .ref 58, .ref 61, .ref 62, .ref ks, .ref 64, .int (zI (ve + 1)), .int (zI 1), .int (zI vs)])), (1, .inr (8, [.ref 2, .ref 3, .ref 4, .int (zI lc), .int (zI fo), .ref 11, .ref 12, .int (zI (wc - 1)), .ref 13, .ref 14, .int (zI cc), .ref 15, .ref 16, .int (zI sc)])), (11, .inl (0, 8, .inl (zA f17))), (12, .inl (0, 8, .inl (zA f18)))]) rfl ?_
        refine J_aload_n dX11_breach_66 rfl rfl ?_
        refine J_aload_n dX11_breach_67 rfl rfl ?_
        refine J_get (v := .ref 1) dX11_breach_68 fl_X11_10 hk0 rfl ?_
        refine J_get (v := .int (zI (wc - 1))) dX11_breach_71 fl_X11_204 rfl rfl ?_
        refine J_callV (st := []) dX11_breach_74 cv_X11_129 (b_accept (wc - 1) cst cfa cdk hk0) hk0 rfl rfl (Nat.le_of_ble_eq_true rfl) ⟨(Nat.le_of_ble_eq_true rfl), (Nat.le_of_ble_eq_true rfl)⟩ ⟨(Nat.le_of_ble_eq_true rfl), (Nat.le_of_ble_eq_true rfl)⟩ (fun r h9 hp => ?_)
        obtain ⟨rfl, rfl⟩ := hp
        refine J_nf (nh2 := nh) (ck2 := 0) (sk2 := 0) (st2 := [.int (zI (wc - 1))]) rfl rfl rfl rfl ?_
        refine J_app (L3 := [(0, .inr (11, [.ref 1, .ref 17, .ref 50, .ref 51, .ref 54, .ref 57, .ref 65, .ref 75, .ref 81, .ref 85, .ref 88, .ref 93, .ref 96, .int (zI 0), .int (zI cfa), .ref 97, .int (zI cdk)])), (57, .inr (9, [.ref 1, .ref 51, .ref 58, .ref 61, .ref 62, .ref ks, .ref 64, .int (zI (ve + 1)), .int (zI 1), .int (zI vs)])), (1, .inr (8, [.ref 2, .ref 3, .ref 4, .int (zI lc), .int (zI fo), .ref 11, .ref 12, .int (zI (wc - 1)), .ref 13, .ref 14, .int (zI cc), .ref 15, .ref 16, .int (zI sc)])), (11, .inl (0, 8, .inl (zA f17))), (12, .inl (0, 8, .inl (zA f18)))]) rfl ?_
        exact J_iret dX11_breach_77 rfl rfl (Nat.le_of_ble_eq_true rfl) (Nat.le_of_ble_eq_true rfl) (Or.inr (Or.inr ⟨z11, f17, f18, rfl, rfl, (⟨(v_2b02420001 h1), (v_d7c2909a09 q56 h2), (v_2b02420001 h6), (v_d7c2909a09 q56 h7)⟩), h12, h13, h14, h19, h20, h21, h22⟩))
      · refine J_nf (nh2 := nh) (ck2 := 0) (sk2 := 0) (st2 := [.int (zI (-1))]) rfl rfl rfl rfl ?_
        refine J_istore_n dX11_breach_38 rfl (Nat.le_of_ble_eq_true rfl) rfl ?_
        refine J_ls (ls2 := [some (.ref 0), some (.int (zI x)), some (.int (zI y)), some (.int (zI (-1)))]) rfl ?_
        refine J_iload_n dX11_breach_39 rfl rfl ?_
        refine Z_iconst (n := -1) dX11_breach_40 ?_
        refine Z_icmp_ne (tgt := 51) dX11_breach_41 (by decide) v_d64efa60f9 v_d64efa60f9 (fun h23 => absurd h23 (fun q => q v_6d2ae2573e)) (fun h23 => ?_)
        refine J_aload_n dX11_breach_44 rfl rfl ?_
        refine Z_bipush (n := -3) dX11_breach_45 (by decide +kernel) ?_
        refine J_callV (st := []) dX11_breach_47 cv_X11_118 (b_refuse (-3) cst cfa cdk rfs v_36df96dc2b v_6d3f6df9c9 hk0 hk96) hk0 rfl rfl (Nat.le_of_ble_eq_true rfl) ⟨(Nat.le_of_ble_eq_true rfl), (Nat.le_of_ble_eq_true rfl)⟩ ⟨(Nat.le_of_ble_eq_true rfl), (Nat.le_of_ble_eq_true rfl)⟩ (fun r h9 hp => ?_)
        obtain ⟨f24, rfl, rfl⟩ := hp
        refine J_nf (nh2 := nh) (ck2 := 0) (sk2 := 0) (st2 := [.int (zI (-3))]) rfl rfl rfl rfl ?_
        refine J_app (L3 := [(0, .inr (11, [.ref 1, .ref 17, .ref 50, .ref 51, .ref 54, .ref 57, .ref 65, .ref 75, .ref 81, .ref 85, .ref 88, .ref 93, .ref 96, .int (zI (-3)), .int (zI cfa), .ref 97, .int (zI cdk)])), (96, .inl (0, 5, .inl (zA f24)))]) rfl ?_
        exact J_iret dX11_breach_50 rfl rfl (Nat.le_of_ble_eq_true rfl) (Nat.le_of_ble_eq_true rfl) (Or.inr (Or.inl ⟨f24, rfl, rfl, (⟨(v_2b02420001 h1), (v_d7c2909a09 q56 h2), (v_2b02420001 h6), (v_d7c2909a09 q56 h7)⟩), h15⟩))
    · refine J_nf (nh2 := nh) (ck2 := 0) (sk2 := 0) (st2 := [.int (zI 0)]) rfl rfl rfl rfl ?_
      refine Z_if_ne (tgt := 29) dX11_breach_19 (by decide) v_b17331891f (fun h25 => absurd h25 (fun q => q v_2ca2bbca1f)) (fun h25 => ?_)
      refine J_aload_n dX11_breach_22 rfl rfl ?_
      refine Z_bipush (n := -2) dX11_breach_23 (by decide +kernel) ?_
      refine J_callV (st := []) dX11_breach_25 cv_X11_118 (b_refuse (-2) cst cfa cdk rfs v_c15e852b74 v_e7867eeafa hk0 hk96) hk0 rfl rfl (Nat.le_of_ble_eq_true rfl) ⟨(Nat.le_of_ble_eq_true rfl), (Nat.le_of_ble_eq_true rfl)⟩ ⟨(Nat.le_of_ble_eq_true rfl), (Nat.le_of_ble_eq_true rfl)⟩ (fun r h9 hp => ?_)
      obtain ⟨f26, rfl, rfl⟩ := hp
      refine J_nf (nh2 := nh) (ck2 := 0) (sk2 := 0) (st2 := [.int (zI (-2))]) rfl rfl rfl rfl ?_
      refine J_app (L3 := [(0, .inr (11, [.ref 1, .ref 17, .ref 50, .ref 51, .ref 54, .ref 57, .ref 65, .ref 75, .ref 81, .ref 85, .ref 88, .ref 93, .ref 96, .int (zI (-2)), .int (zI cfa), .ref 97, .int (zI cdk)])), (96, .inl (0, 5, .inl (zA f26)))]) rfl ?_
      exact J_iret dX11_breach_28 rfl rfl (Nat.le_of_ble_eq_true rfl) (Nat.le_of_ble_eq_true rfl) (Or.inl ⟨f26, rfl, rfl, (fun q => absurd q.2.2.1 (v_dccefa8cdf h8))⟩)
    · refine J_nf (nh2 := nh) (ck2 := 0) (sk2 := 0) (st2 := [.int (zI 0)]) rfl rfl rfl rfl ?_
      refine Z_if_ne (tgt := 29) dX11_breach_19 (by decide) v_b17331891f (fun h27 => absurd h27 (fun q => q v_2ca2bbca1f)) (fun h27 => ?_)
      refine J_aload_n dX11_breach_22 rfl rfl ?_
      refine Z_bipush (n := -2) dX11_breach_23 (by decide +kernel) ?_
      refine J_callV (st := []) dX11_breach_25 cv_X11_118 (b_refuse (-2) cst cfa cdk rfs v_c15e852b74 v_e7867eeafa hk0 hk96) hk0 rfl rfl (Nat.le_of_ble_eq_true rfl) ⟨(Nat.le_of_ble_eq_true rfl), (Nat.le_of_ble_eq_true rfl)⟩ ⟨(Nat.le_of_ble_eq_true rfl), (Nat.le_of_ble_eq_true rfl)⟩ (fun r h9 hp => ?_)
      obtain ⟨f28, rfl, rfl⟩ := hp
      refine J_nf (nh2 := nh) (ck2 := 0) (sk2 := 0) (st2 := [.int (zI (-2))]) rfl rfl rfl rfl ?_
      refine J_app (L3 := [(0, .inr (11, [.ref 1, .ref 17, .ref 50, .ref 51, .ref 54, .ref 57, .ref 65, .ref 75, .ref 81, .ref 85, .ref 88, .ref 93, .ref 96, .int (zI (-2)), .int (zI cfa), .ref 97, .int (zI cdk)])), (96, .inl (0, 5, .inl (zA f28)))]) rfl ?_
      exact J_iret dX11_breach_28 rfl rfl (Nat.le_of_ble_eq_true rfl) (Nat.le_of_ble_eq_true rfl) (Or.inl ⟨f28, rfl, rfl, (fun q => absurd q.2.2.2 (v_f9e33a7fad q56 h9))⟩)
  · refine J_nf (nh2 := nh) (ck2 := 0) (sk2 := 0) (st2 := [.int (zI 0)]) rfl rfl rfl rfl ?_
    refine Z_if_eq (tgt := 22) dX11_breach_8 (by decide) v_b17331891f (fun h29 => ?_) (fun h29 => absurd h29 (fun q => q v_2ca2bbca1f))
    refine J_aload_n dX11_breach_22 rfl rfl ?_
    refine Z_bipush (n := -2) dX11_breach_23 (by decide +kernel) ?_
    refine J_callV (st := []) dX11_breach_25 cv_X11_118 (b_refuse (-2) cst cfa cdk rfs v_c15e852b74 v_e7867eeafa hk0 hk96) hk0 rfl rfl (Nat.le_of_ble_eq_true rfl) ⟨(Nat.le_of_ble_eq_true rfl), (Nat.le_of_ble_eq_true rfl)⟩ ⟨(Nat.le_of_ble_eq_true rfl), (Nat.le_of_ble_eq_true rfl)⟩ (fun r h9 hp => ?_)
    obtain ⟨f30, rfl, rfl⟩ := hp
    refine J_nf (nh2 := nh) (ck2 := 0) (sk2 := 0) (st2 := [.int (zI (-2))]) rfl rfl rfl rfl ?_
    refine J_app (L3 := [(0, .inr (11, [.ref 1, .ref 17, .ref 50, .ref 51, .ref 54, .ref 57, .ref 65, .ref 75, .ref 81, .ref 85, .ref 88, .ref 93, .ref 96, .int (zI (-2)), .int (zI cfa), .ref 97, .int (zI cdk)])), (96, .inl (0, 5, .inl (zA f30)))]) rfl ?_
    exact J_iret dX11_breach_28 rfl rfl (Nat.le_of_ble_eq_true rfl) (Nat.le_of_ble_eq_true rfl) (Or.inl ⟨f30, rfl, rfl, (fun q => absurd q.1 (v_dccefa8cdf h3))⟩)
  · refine J_nf (nh2 := nh) (ck2 := 0) (sk2 := 0) (st2 := [.int (zI 0)]) rfl rfl rfl rfl ?_
    refine Z_if_eq (tgt := 22) dX11_breach_8 (by decide) v_b17331891f (fun h31 => ?_) (fun h31 => absurd h31 (fun q => q v_2ca2bbca1f))
    refine J_aload_n dX11_breach_22 rfl rfl ?_
    refine Z_bipush (n := -2) dX11_breach_23 (by decide +kernel) ?_
    refine J_callV (st := []) dX11_breach_25 cv_X11_118 (b_refuse (-2) cst cfa cdk rfs v_c15e852b74 v_e7867eeafa hk0 hk96) hk0 rfl rfl (Nat.le_of_ble_eq_true rfl) ⟨(Nat.le_of_ble_eq_true rfl), (Nat.le_of_ble_eq_true rfl)⟩ ⟨(Nat.le_of_ble_eq_true rfl), (Nat.le_of_ble_eq_true rfl)⟩ (fun r h9 hp => ?_)
    obtain ⟨f32, rfl, rfl⟩ := hp
    refine J_nf (nh2 := nh) (ck2 := 0) (sk2 := 0) (st2 := [.int (zI (-2))]) rfl rfl rfl rfl ?_
    refine J_app (L3 := [(0, .inr (11, [.ref 1, .ref 17, .ref 50, .ref 51, .ref 54, .ref 57, .ref 65, .ref 75, .ref 81, .ref 85, .ref 88, .ref 93, .ref 96, .int (zI (-2)), .int (zI cfa), .ref 97, .int (zI cdk)])), (96, .inl (0, 5, .inl (zA f32)))]) rfl ?_
    exact J_iret dX11_breach_28 rfl rfl (Nat.le_of_ble_eq_true rfl) (Nat.le_of_ble_eq_true rfl) (Or.inl ⟨f32, rfl, rfl, (fun q => absurd q.2.1 (v_f9e33a7fad q56 h4))⟩)
set_option maxHeartbeats 4000000 in
set_option maxRecDepth 100000 in
theorem b_swapIf {l : Launch} {G : jG} {nh : Nat} {fh : Nat → Option va_E} (x : Int) (y : Int) (cst : Int) (cfa : Int) (cdk : Int) (ff : Int → Int) (tf : Int → Int) (lf : Nat → Option Nat) (wa : Int → Int) (wb : Int → Int) (ca : Int → Int) (cb : Int → Int) (sa : Int → Int) (sb : Int → Int) (lc : Int) (fo : Int) (wc : Int) (cc : Int) (sc : Int) (rfs : Int → Int) (many : Int) (places : Int) (rf : Int → Int) (bf : Int → Int) (q0 : zr x) (q1 : zr y) (q2 : 0 ≤ cdk) (q3 : cdk ≤ 1) (q4 : okF ff) (q5 : 0 ≤ lc) (q6 : lc ≤ 6) (q7 : -1 ≤ fo) (q8 : fo < lc) (q9 : 0 ≤ wc) (q10 : wc ≤ 8) (q11 : 0 ≤ cc) (q12 : cc ≤ 6) (q13 : 0 ≤ sc) (q14 : sc ≤ 12) (q15 : Rg tf 2 (-2147483648) 2147483647) (q16 : Rg wa 8 (-2147483648) 2147483647) (q17 : Rg wb 8 (-2147483648) 2147483647) (q18 : Rg ca 6 (-2147483648) 2147483647) (q19 : Rg ca cc 0 (Hi ff - 1)) (q20 : Rg cb 6 (-2147483648) 2147483647) (q21 : Rg sa 12 0 6) (q22 : Rg sb 12 0 6) (q23 : Rg ff 5 (-2147483648) 2147483647) (q24 : LawsIn fh lf) (q25 : 1 ≤ many) (q26 : many ≤ 1260) (q27 : 0 ≤ places) (q28 : places ≤ 7) (q29 : many = Hi ff) (q30 : places = bsum ff) (q31 : RowsTo rf ff many) (q32 : Rg rf 1260 (-2147483648) 2147483647) (q33 : Rg bf 7 0 4) (hk0 : fh 0 = some (.inr (11, [.ref 1, .ref 17, .ref 50, .ref 51, .ref 54, .ref 57, .ref 65, .ref 75, .ref 81, .ref 85, .ref 88, .ref 93, .ref 96, .int (zI cst), .int (zI cfa), .ref 97, .int (zI cdk)]))) (hk1 : fh 1 = some (.inr (8, [.ref 2, .ref 3, .ref 4, .int (zI lc), .int (zI fo), .ref 11, .ref 12, .int (zI wc), .ref 13, .ref 14, .int (zI cc), .ref 15, .ref 16, .int (zI sc)]))) (hk2 : fh 2 = some (.inl (0, 5, .inl (zA ff)))) (hk3 : fh 3 = some (.inl (0, 2, .inl (zA tf)))) (hk4 : fh 4 = some (.inl (5, 6, .inr (.inr (.inr (.inr lf)))))) (hk11 : fh 11 = some (.inl (0, 8, .inl (zA wa)))) (hk12 : fh 12 = some (.inl (0, 8, .inl (zA wb)))) (hk13 : fh 13 = some (.inl (0, 6, .inl (zA ca)))) (hk14 : fh 14 = some (.inl (0, 6, .inl (zA cb)))) (hk15 : fh 15 = some (.inl (0, 12, .inl (zA sa)))) (hk16 : fh 16 = some (.inl (0, 12, .inl (zA sb)))) (hk96 : fh 96 = some (.inl (0, 5, .inl (zA rfs)))) (hk51 : fh 51 = some (.inr (0, [.ref 52, .ref 53, .int (zI many), .int (zI places)]))) (hk52 : fh 52 = some (.inl (0, 1260, .inl (zA rf)))) (hk53 : fh 53 = some (.inl (0, 7, .inl (zA bf)))) : JM l G yX11_swapIf MX11_swapIf { frames := 2, cells := 0, slots := 0, locals := 41 } [.ref 0, .int (zI x), .int (zI y)] (nh, fh) (fun rr h9 => (∃ rfs2 : Int → Int, rr = some (.int (zI (-1))) ∧ h9 = (nh, hc fh [(0, .inr (11, [.ref 1, .ref 17, .ref 50, .ref 51, .ref 54, .ref 57, .ref 65, .ref 75, .ref 81, .ref 85, .ref 88, .ref 93, .ref 96, .int (zI (-1)), .int (zI cfa), .ref 97, .int (zI cdk)])), (96, .inl (0, 5, .inl (zA rfs2)))]) ∧ (¬ swk x y (bsum ff))) ∨ (∃ rfs2 : Int → Int, rr = some (.int (zI (-5))) ∧ h9 = (nh, hc fh [(0, .inr (11, [.ref 1, .ref 17, .ref 50, .ref 51, .ref 54, .ref 57, .ref 65, .ref 75, .ref 81, .ref 85, .ref 88, .ref 93, .ref 96, .int (zI (-5)), .int (zI cfa), .ref 97, .int (zI cdk)])), (96, .inl (0, 5, .inl (zA rfs2)))]) ∧ (swk x y (bsum ff)) ∧ (12 ≤ sc)) ∨ (∃ sa2 : Int → Int, ∃ sb2 : Int → Int, rr = some (.int (zI (sc + 1))) ∧ h9 = (nh, hc fh [(0, .inr (11, [.ref 1, .ref 17, .ref 50, .ref 51, .ref 54, .ref 57, .ref 65, .ref 75, .ref 81, .ref 85, .ref 88, .ref 93, .ref 96, .int (zI 0), .int (zI cfa), .ref 97, .int (zI cdk)])), (1, .inr (8, [.ref 2, .ref 3, .ref 4, .int (zI lc), .int (zI fo), .ref 11, .ref 12, .int (zI wc), .ref 13, .ref 14, .int (zI cc), .ref 15, .ref 16, .int (zI (sc + 1))])), (15, .inl (0, 12, .inl (zA sa2))), (16, .inl (0, 12, .inl (zA sb2)))]) ∧ (swk x y (bsum ff)) ∧ (sc < 12) ∧ (Rg sa2 12 0 6) ∧ (Rg sb2 12 0 6) ∧ ((sa2 = up sa sc x)) ∧ ((sb2 = up sb sc y)))) := by
  refine JM.of (by decide) rfl (fun h => by cases h) (Nat.le_of_ble_eq_true rfl) ⟨0, rfl⟩ ?_
  refine J_hc0 (J_ls (ls2 := [some (.ref 0), some (.int (zI x)), some (.int (zI y))]) rfl ?_)
  refine J_iload_n dX11_swapIf_0 rfl rfl ?_
  refine Z_if_lt (tgt := 20) dX11_swapIf_1 (by decide) (v_b25fa51a85 q0) (fun h1 => ?_) (fun h1 => ?_)
  · refine J_aload_n dX11_swapIf_20 rfl rfl ?_
    refine Z_iconst (n := -1) dX11_swapIf_21 ?_
    refine J_callV (st := []) dX11_swapIf_22 cv_X11_118 (b_refuse (-1) cst cfa cdk rfs v_ef59c9c3d8 v_646fb950f3 hk0 hk96) hk0 rfl rfl (Nat.le_of_ble_eq_true rfl) ⟨(Nat.le_of_ble_eq_true rfl), (Nat.le_of_ble_eq_true rfl)⟩ ⟨(Nat.le_of_ble_eq_true rfl), (Nat.le_of_ble_eq_true rfl)⟩ (fun r h9 hp => ?_)
    obtain ⟨f2, rfl, rfl⟩ := hp
    refine J_nf (nh2 := nh) (ck2 := 0) (sk2 := 0) (st2 := [.int (zI (-1))]) rfl rfl rfl rfl ?_
    refine J_app (L3 := [(0, .inr (11, [.ref 1, .ref 17, .ref 50, .ref 51, .ref 54, .ref 57, .ref 65, .ref 75, .ref 81, .ref 85, .ref 88, .ref 93, .ref 96, .int (zI (-1)), .int (zI cfa), .ref 97, .int (zI cdk)])), (96, .inl (0, 5, .inl (zA f2)))]) rfl ?_
    exact J_iret dX11_swapIf_25 rfl rfl (Nat.le_of_ble_eq_true rfl) (Nat.le_of_ble_eq_true rfl) (Or.inl ⟨f2, rfl, rfl, (fun q => absurd q.1 (v_dccefa8cdf h1))⟩)
  · refine J_iload_n dX11_swapIf_4 rfl rfl ?_
    refine J_iload_n dX11_swapIf_5 rfl rfl ?_
    refine Z_icmp_le (tgt := 20) dX11_swapIf_6 (by decide) (v_b25fa51a85 q1) (v_edc92e96e6 q0 h1) (fun h3 => ?_) (fun h3 => ?_)
    · refine J_aload_n dX11_swapIf_20 rfl rfl ?_
      refine Z_iconst (n := -1) dX11_swapIf_21 ?_
      refine J_callV (st := []) dX11_swapIf_22 cv_X11_118 (b_refuse (-1) cst cfa cdk rfs v_ef59c9c3d8 v_646fb950f3 hk0 hk96) hk0 rfl rfl (Nat.le_of_ble_eq_true rfl) ⟨(Nat.le_of_ble_eq_true rfl), (Nat.le_of_ble_eq_true rfl)⟩ ⟨(Nat.le_of_ble_eq_true rfl), (Nat.le_of_ble_eq_true rfl)⟩ (fun r h9 hp => ?_)
      obtain ⟨f4, rfl, rfl⟩ := hp
      refine J_nf (nh2 := nh) (ck2 := 0) (sk2 := 0) (st2 := [.int (zI (-1))]) rfl rfl rfl rfl ?_
      refine J_app (L3 := [(0, .inr (11, [.ref 1, .ref 17, .ref 50, .ref 51, .ref 54, .ref 57, .ref 65, .ref 75, .ref 81, .ref 85, .ref 88, .ref 93, .ref 96, .int (zI (-1)), .int (zI cfa), .ref 97, .int (zI cdk)])), (96, .inl (0, 5, .inl (zA f4)))]) rfl ?_
      exact J_iret dX11_swapIf_25 rfl rfl (Nat.le_of_ble_eq_true rfl) (Nat.le_of_ble_eq_true rfl) (Or.inl ⟨f4, rfl, rfl, (fun q => absurd q.2.1 (v_b598cf8bfa h3))⟩)
    · refine J_iload_n dX11_swapIf_9 rfl rfl ?_
      refine J_aload_n dX11_swapIf_10 rfl rfl ?_
      refine J_get (v := .ref 51) dX11_swapIf_11 fl_X11_27 hk0 rfl ?_
      refine J_callV (st := [.int (zI y)]) dX11_swapIf_14 cv_X11_122 (g_places many places hk51) hk51 rfl rfl (Nat.le_of_ble_eq_true rfl) ⟨(Nat.le_of_ble_eq_true rfl), (Nat.le_of_ble_eq_true rfl)⟩ ⟨(Nat.le_of_ble_eq_true rfl), (Nat.le_of_ble_eq_true rfl)⟩ (fun r h9 hp => ?_)
      obtain ⟨rfl, rfl⟩ := hp
      refine J_nf (nh2 := nh) (ck2 := 0) (sk2 := 0) (st2 := [.int (zI places), .int (zI y)]) rfl rfl rfl rfl ?_
      refine Z_icmp_lt (tgt := 26) dX11_swapIf_17 (by decide) (v_b25fa51a85 q1) (v_2ee1de483d q27 q28) (fun h5 => ?_) (fun h5 => ?_)
      · refine J_aload_n dX11_swapIf_26 rfl rfl ?_
        refine J_get (v := .ref 1) dX11_swapIf_27 fl_X11_10 hk0 rfl ?_
        refine J_get (v := .int (zI sc)) dX11_swapIf_30 fl_X11_264 hk1 rfl ?_
        refine Z_bipush (n := 12) dX11_swapIf_33 (by decide +kernel) ?_
        refine Z_icmp_lt (tgt := 45) dX11_swapIf_35 (by decide) (v_00eb067ff8 q13 q14) v_1288359c70 (fun h6 => ?_) (fun h6 => ?_)
        · refine J_aload_n dX11_swapIf_45 rfl rfl ?_
          refine J_get (v := .ref 1) dX11_swapIf_46 fl_X11_10 hk0 rfl ?_
          refine J_iload_n dX11_swapIf_49 rfl rfl ?_
          refine J_iload_n dX11_swapIf_50 rfl rfl ?_
          refine J_callV (st := []) dX11_swapIf_51 cv_X11_267 (s_addSwap x y lc fo wc cc sc sa sb (v_b2d8922659 h1) (v_6467fcf465 q28 h3 h5) (v_f014042237 h1 h3) (v_b1a5e0b584 q28 h5) q5 q6 q7 q8 q9 q10 q11 q12 q13 q14 q21 q22 hk1 hk15 hk16) hk1 rfl rfl (Nat.le_of_ble_eq_true rfl) ⟨(Nat.le_of_ble_eq_true rfl), (Nat.le_of_ble_eq_true rfl)⟩ ⟨(Nat.le_of_ble_eq_true rfl), (Nat.le_of_ble_eq_true rfl)⟩ (fun r h9 hp => ?_)
          rcases hp with ⟨f7, f8, rfl, rfl, h9, h10, h11, h12, h13⟩ | ⟨rfl, rfl, h14⟩
          · refine J_nf (nh2 := nh) (ck2 := 0) (sk2 := 0) (st2 := []) rfl rfl rfl rfl ?_
            refine J_app (L3 := [(1, .inr (8, [.ref 2, .ref 3, .ref 4, .int (zI lc), .int (zI fo), .ref 11, .ref 12, .int (zI wc), .ref 13, .ref 14, .int (zI cc), .ref 15, .ref 16, .int (zI (sc + 1))])), (15, .inl (0, 12, .inl (zA f7))), (16, .inl (0, 12, .inl (zA f8)))]) rfl ?_
            refine J_aload_n dX11_swapIf_54 rfl rfl ?_
            refine J_aload_n dX11_swapIf_55 rfl rfl ?_
            refine J_get (v := .ref 1) dX11_swapIf_56 fl_X11_10 hk0 rfl ?_
            refine J_get (v := .int (zI (sc + 1))) dX11_swapIf_59 fl_X11_264 rfl rfl ?_
            refine J_callV (st := []) dX11_swapIf_62 cv_X11_129 (b_accept (sc + 1) cst cfa cdk hk0) hk0 rfl rfl (Nat.le_of_ble_eq_true rfl) ⟨(Nat.le_of_ble_eq_true rfl), (Nat.le_of_ble_eq_true rfl)⟩ ⟨(Nat.le_of_ble_eq_true rfl), (Nat.le_of_ble_eq_true rfl)⟩ (fun r h9 hp => ?_)
            obtain ⟨rfl, rfl⟩ := hp
            refine J_nf (nh2 := nh) (ck2 := 0) (sk2 := 0) (st2 := [.int (zI (sc + 1))]) rfl rfl rfl rfl ?_
            refine J_app (L3 := [(0, .inr (11, [.ref 1, .ref 17, .ref 50, .ref 51, .ref 54, .ref 57, .ref 65, .ref 75, .ref 81, .ref 85, .ref 88, .ref 93, .ref 96, .int (zI 0), .int (zI cfa), .ref 97, .int (zI cdk)])), (1, .inr (8, [.ref 2, .ref 3, .ref 4, .int (zI lc), .int (zI fo), .ref 11, .ref 12, .int (zI wc), .ref 13, .ref 14, .int (zI cc), .ref 15, .ref 16, .int (zI (sc + 1))])), (15, .inl (0, 12, .inl (zA f7))), (16, .inl (0, 12, .inl (zA f8)))]) rfl ?_
            exact J_iret dX11_swapIf_65 rfl rfl (Nat.le_of_ble_eq_true rfl) (Nat.le_of_ble_eq_true rfl) (Or.inr (Or.inr ⟨f7, f8, rfl, rfl, (⟨(v_b2d8922659 h1), (v_fe9ea41faa h3), (v_d7c2909a09 q30 h5)⟩), h9, h10, h11, h12, h13⟩))
          · exact False.elim (v_06cdecbc5e h6 h14)
        · refine J_aload_n dX11_swapIf_38 rfl rfl ?_
          refine Z_bipush (n := -5) dX11_swapIf_39 (by decide +kernel) ?_
          refine J_callV (st := []) dX11_swapIf_41 cv_X11_118 (b_refuse (-5) cst cfa cdk rfs v_23c38dd6f5 v_711bb4d976 hk0 hk96) hk0 rfl rfl (Nat.le_of_ble_eq_true rfl) ⟨(Nat.le_of_ble_eq_true rfl), (Nat.le_of_ble_eq_true rfl)⟩ ⟨(Nat.le_of_ble_eq_true rfl), (Nat.le_of_ble_eq_true rfl)⟩ (fun r h9 hp => ?_)
          obtain ⟨f15, rfl, rfl⟩ := hp
          refine J_nf (nh2 := nh) (ck2 := 0) (sk2 := 0) (st2 := [.int (zI (-5))]) rfl rfl rfl rfl ?_
          refine J_app (L3 := [(0, .inr (11, [.ref 1, .ref 17, .ref 50, .ref 51, .ref 54, .ref 57, .ref 65, .ref 75, .ref 81, .ref 85, .ref 88, .ref 93, .ref 96, .int (zI (-5)), .int (zI cfa), .ref 97, .int (zI cdk)])), (96, .inl (0, 5, .inl (zA f15)))]) rfl ?_
          exact J_iret dX11_swapIf_44 rfl rfl (Nat.le_of_ble_eq_true rfl) (Nat.le_of_ble_eq_true rfl) (Or.inr (Or.inl ⟨f15, rfl, rfl, (⟨(v_b2d8922659 h1), (v_fe9ea41faa h3), (v_d7c2909a09 q30 h5)⟩), (v_218a8bd85e h6)⟩))
      · refine J_aload_n dX11_swapIf_20 rfl rfl ?_
        refine Z_iconst (n := -1) dX11_swapIf_21 ?_
        refine J_callV (st := []) dX11_swapIf_22 cv_X11_118 (b_refuse (-1) cst cfa cdk rfs v_ef59c9c3d8 v_646fb950f3 hk0 hk96) hk0 rfl rfl (Nat.le_of_ble_eq_true rfl) ⟨(Nat.le_of_ble_eq_true rfl), (Nat.le_of_ble_eq_true rfl)⟩ ⟨(Nat.le_of_ble_eq_true rfl), (Nat.le_of_ble_eq_true rfl)⟩ (fun r h9 hp => ?_)
        obtain ⟨f16, rfl, rfl⟩ := hp
        refine J_nf (nh2 := nh) (ck2 := 0) (sk2 := 0) (st2 := [.int (zI (-1))]) rfl rfl rfl rfl ?_
        refine J_app (L3 := [(0, .inr (11, [.ref 1, .ref 17, .ref 50, .ref 51, .ref 54, .ref 57, .ref 65, .ref 75, .ref 81, .ref 85, .ref 88, .ref 93, .ref 96, .int (zI (-1)), .int (zI cfa), .ref 97, .int (zI cdk)])), (96, .inl (0, 5, .inl (zA f16)))]) rfl ?_
        exact J_iret dX11_swapIf_25 rfl rfl (Nat.le_of_ble_eq_true rfl) (Nat.le_of_ble_eq_true rfl) (Or.inl ⟨f16, rfl, rfl, (fun q => absurd q.2.2 (v_8b3df8f0b9 q30 h5))⟩)
set_option maxHeartbeats 4000000 in
set_option maxRecDepth 100000 in
theorem b_keep {l : Launch} {G : jG} {nh : Nat} {fh : Nat → Option va_E} (x : Int) (cst : Int) (cfa : Int) (cdk : Int) (ff : Int → Int) (tf : Int → Int) (lf : Nat → Option Nat) (wa : Int → Int) (wb : Int → Int) (ca : Int → Int) (cb : Int → Int) (sa : Int → Int) (sb : Int → Int) (lc : Int) (fo : Int) (wc : Int) (cc : Int) (sc : Int) (rfs : Int → Int) (many : Int) (places : Int) (rf : Int → Int) (bf : Int → Int) (q0 : zr x) (q1 : 0 ≤ cdk) (q2 : cdk ≤ 1) (q3 : okF ff) (q4 : 0 ≤ lc) (q5 : lc ≤ 6) (q6 : -1 ≤ fo) (q7 : fo < lc) (q8 : 0 ≤ wc) (q9 : wc ≤ 8) (q10 : 0 ≤ cc) (q11 : cc ≤ 6) (q12 : 0 ≤ sc) (q13 : sc ≤ 12) (q14 : Rg tf 2 (-2147483648) 2147483647) (q15 : Rg wa 8 (-2147483648) 2147483647) (q16 : Rg wb 8 (-2147483648) 2147483647) (q17 : Rg ca 6 (-2147483648) 2147483647) (q18 : Rg ca cc 0 (Hi ff - 1)) (q19 : Rg cb 6 (-2147483648) 2147483647) (q20 : Rg sa 12 0 6) (q21 : Rg sb 12 0 6) (q22 : Rg ff 5 (-2147483648) 2147483647) (q23 : LawsIn fh lf) (q24 : 1 ≤ many) (q25 : many ≤ 1260) (q26 : 0 ≤ places) (q27 : places ≤ 7) (q28 : many = Hi ff) (q29 : places = bsum ff) (q30 : RowsTo rf ff many) (q31 : Rg rf 1260 (-2147483648) 2147483647) (q32 : Rg bf 7 0 4) (hk0 : fh 0 = some (.inr (11, [.ref 1, .ref 17, .ref 50, .ref 51, .ref 54, .ref 57, .ref 65, .ref 75, .ref 81, .ref 85, .ref 88, .ref 93, .ref 96, .int (zI cst), .int (zI cfa), .ref 97, .int (zI cdk)]))) (hk1 : fh 1 = some (.inr (8, [.ref 2, .ref 3, .ref 4, .int (zI lc), .int (zI fo), .ref 11, .ref 12, .int (zI wc), .ref 13, .ref 14, .int (zI cc), .ref 15, .ref 16, .int (zI sc)]))) (hk2 : fh 2 = some (.inl (0, 5, .inl (zA ff)))) (hk3 : fh 3 = some (.inl (0, 2, .inl (zA tf)))) (hk4 : fh 4 = some (.inl (5, 6, .inr (.inr (.inr (.inr lf)))))) (hk11 : fh 11 = some (.inl (0, 8, .inl (zA wa)))) (hk12 : fh 12 = some (.inl (0, 8, .inl (zA wb)))) (hk13 : fh 13 = some (.inl (0, 6, .inl (zA ca)))) (hk14 : fh 14 = some (.inl (0, 6, .inl (zA cb)))) (hk15 : fh 15 = some (.inl (0, 12, .inl (zA sa)))) (hk16 : fh 16 = some (.inl (0, 12, .inl (zA sb)))) (hk96 : fh 96 = some (.inl (0, 5, .inl (zA rfs)))) (hk51 : fh 51 = some (.inr (0, [.ref 52, .ref 53, .int (zI many), .int (zI places)]))) (hk52 : fh 52 = some (.inl (0, 1260, .inl (zA rf)))) (hk53 : fh 53 = some (.inl (0, 7, .inl (zA bf)))) : JM l G yX11_keep MX11_keep { frames := 2, cells := 0, slots := 0, locals := 41 } [.ref 0, .int (zI x)] (nh, fh) (fun rr h9 => (∃ rfs2 : Int → Int, rr = some (.int (zI (-1))) ∧ h9 = (nh, hc fh [(0, .inr (11, [.ref 1, .ref 17, .ref 50, .ref 51, .ref 54, .ref 57, .ref 65, .ref 75, .ref 81, .ref 85, .ref 88, .ref 93, .ref 96, .int (zI (-1)), .int (zI cfa), .ref 97, .int (zI cdk)])), (96, .inl (0, 5, .inl (zA rfs2)))]) ∧ (¬ kpk x sc)) ∨ (rr = some (.int (zI sc)) ∧ h9 = (nh, hc fh [(0, .inr (11, [.ref 1, .ref 17, .ref 50, .ref 51, .ref 54, .ref 57, .ref 65, .ref 75, .ref 81, .ref 85, .ref 88, .ref 93, .ref 96, .int (zI 0), .int (zI cfa), .ref 97, .int (zI cdk)])), (1, .inr (8, [.ref 2, .ref 3, .ref 4, .int (zI lc), .int (zI fo), .ref 11, .ref 12, .int (zI wc), .ref 13, .ref 14, .int (zI cc), .ref 15, .ref 16, .int (zI x)]))]) ∧ (kpk x sc))) := by
  refine JM.of (by decide) rfl (fun h => by cases h) (Nat.le_of_ble_eq_true rfl) ⟨1, rfl⟩ ?_
  refine J_hc0 (J_ls (ls2 := [some (.ref 0), some (.int (zI x)), none]) rfl ?_)
  refine J_iload_n dX11_keep_0 rfl rfl ?_
  refine Z_if_lt (tgt := 15) dX11_keep_1 (by decide) (v_b25fa51a85 q0) (fun h1 => ?_) (fun h1 => ?_)
  · refine J_aload_n dX11_keep_15 rfl rfl ?_
    refine Z_iconst (n := -1) dX11_keep_16 ?_
    refine J_callV (st := []) dX11_keep_17 cv_X11_118 (b_refuse (-1) cst cfa cdk rfs v_ef59c9c3d8 v_646fb950f3 hk0 hk96) hk0 rfl rfl (Nat.le_of_ble_eq_true rfl) ⟨(Nat.le_of_ble_eq_true rfl), (Nat.le_of_ble_eq_true rfl)⟩ ⟨(Nat.le_of_ble_eq_true rfl), (Nat.le_of_ble_eq_true rfl)⟩ (fun r h9 hp => ?_)
    obtain ⟨f2, rfl, rfl⟩ := hp
    refine J_nf (nh2 := nh) (ck2 := 0) (sk2 := 0) (st2 := [.int (zI (-1))]) rfl rfl rfl rfl ?_
    refine J_app (L3 := [(0, .inr (11, [.ref 1, .ref 17, .ref 50, .ref 51, .ref 54, .ref 57, .ref 65, .ref 75, .ref 81, .ref 85, .ref 88, .ref 93, .ref 96, .int (zI (-1)), .int (zI cfa), .ref 97, .int (zI cdk)])), (96, .inl (0, 5, .inl (zA f2)))]) rfl ?_
    exact J_iret dX11_keep_20 rfl rfl (Nat.le_of_ble_eq_true rfl) (Nat.le_of_ble_eq_true rfl) (Or.inl ⟨f2, rfl, rfl, (fun q => absurd q.1 (v_dccefa8cdf h1))⟩)
  · refine J_iload_n dX11_keep_4 rfl rfl ?_
    refine J_aload_n dX11_keep_5 rfl rfl ?_
    refine J_get (v := .ref 1) dX11_keep_6 fl_X11_10 hk0 rfl ?_
    refine J_get (v := .int (zI sc)) dX11_keep_9 fl_X11_264 hk1 rfl ?_
    refine Z_icmp_le (tgt := 21) dX11_keep_12 (by decide) (v_edc92e96e6 q0 h1) (v_00eb067ff8 q12 q13) (fun h3 => ?_) (fun h3 => ?_)
    · refine J_aload_n dX11_keep_21 rfl rfl ?_
      refine J_get (v := .ref 1) dX11_keep_22 fl_X11_10 hk0 rfl ?_
      refine J_get (v := .int (zI sc)) dX11_keep_25 fl_X11_264 hk1 rfl ?_
      refine J_istore_n dX11_keep_28 rfl (Nat.le_of_ble_eq_true rfl) rfl ?_
      refine J_ls (ls2 := [some (.ref 0), some (.int (zI x)), some (.int (zI sc))]) rfl ?_
      refine J_aload_n dX11_keep_29 rfl rfl ?_
      refine J_get (v := .ref 1) dX11_keep_30 fl_X11_10 hk0 rfl ?_
      refine J_iload_n dX11_keep_33 rfl rfl ?_
      refine K_put (fs2 := [.ref 2, .ref 3, .ref 4, .int (zI lc), .int (zI fo), .ref 11, .ref 12, .int (zI wc), .ref 13, .ref 14, .int (zI cc), .ref 15, .ref 16, .int (zI x)]) dX11_keep_34 fw_X11_264 hk1 (Nat.le_of_ble_eq_true rfl) (fun _ => ⟨rfl, rfl⟩) rfl ?_
      refine J_aload_n dX11_keep_37 rfl rfl ?_
      refine J_iload_n dX11_keep_38 rfl rfl ?_
      refine J_callV (st := []) dX11_keep_39 cv_X11_129 (b_accept sc cst cfa cdk hk0) hk0 rfl rfl (Nat.le_of_ble_eq_true rfl) ⟨(Nat.le_of_ble_eq_true rfl), (Nat.le_of_ble_eq_true rfl)⟩ ⟨(Nat.le_of_ble_eq_true rfl), (Nat.le_of_ble_eq_true rfl)⟩ (fun r h9 hp => ?_)
      obtain ⟨rfl, rfl⟩ := hp
      refine J_nf (nh2 := nh) (ck2 := 0) (sk2 := 0) (st2 := [.int (zI sc)]) rfl rfl rfl rfl ?_
      refine J_app (L3 := [(0, .inr (11, [.ref 1, .ref 17, .ref 50, .ref 51, .ref 54, .ref 57, .ref 65, .ref 75, .ref 81, .ref 85, .ref 88, .ref 93, .ref 96, .int (zI 0), .int (zI cfa), .ref 97, .int (zI cdk)])), (1, .inr (8, [.ref 2, .ref 3, .ref 4, .int (zI lc), .int (zI fo), .ref 11, .ref 12, .int (zI wc), .ref 13, .ref 14, .int (zI cc), .ref 15, .ref 16, .int (zI x)]))]) rfl ?_
      exact J_iret dX11_keep_42 rfl rfl (Nat.le_of_ble_eq_true rfl) (Nat.le_of_ble_eq_true rfl) (Or.inr ⟨rfl, rfl, (⟨(v_b2d8922659 h1), (v_d464d4c634 h3)⟩)⟩)
    · refine J_aload_n dX11_keep_15 rfl rfl ?_
      refine Z_iconst (n := -1) dX11_keep_16 ?_
      refine J_callV (st := []) dX11_keep_17 cv_X11_118 (b_refuse (-1) cst cfa cdk rfs v_ef59c9c3d8 v_646fb950f3 hk0 hk96) hk0 rfl rfl (Nat.le_of_ble_eq_true rfl) ⟨(Nat.le_of_ble_eq_true rfl), (Nat.le_of_ble_eq_true rfl)⟩ ⟨(Nat.le_of_ble_eq_true rfl), (Nat.le_of_ble_eq_true rfl)⟩ (fun r h9 hp => ?_)
      obtain ⟨f4, rfl, rfl⟩ := hp
      refine J_nf (nh2 := nh) (ck2 := 0) (sk2 := 0) (st2 := [.int (zI (-1))]) rfl rfl rfl rfl ?_
      refine J_app (L3 := [(0, .inr (11, [.ref 1, .ref 17, .ref 50, .ref 51, .ref 54, .ref 57, .ref 65, .ref 75, .ref 81, .ref 85, .ref 88, .ref 93, .ref 96, .int (zI (-1)), .int (zI cfa), .ref 97, .int (zI cdk)])), (96, .inl (0, 5, .inl (zA f4)))]) rfl ?_
      exact J_iret dX11_keep_20 rfl rfl (Nat.le_of_ble_eq_true rfl) (Nat.le_of_ble_eq_true rfl) (Or.inl ⟨f4, rfl, rfl, (fun q => absurd q.2 (v_2b21f1f297 h3))⟩)
set_option maxHeartbeats 4000000 in
set_option maxRecDepth 100000 in
theorem b_clue {l : Launch} {G : jG} {nh : Nat} {fh : Nat → Option va_E} (x : Int) (y : Int) (cst : Int) (cfa : Int) (cdk : Int) (ff : Int → Int) (tf : Int → Int) (lf : Nat → Option Nat) (wa : Int → Int) (wb : Int → Int) (ca : Int → Int) (cb : Int → Int) (sa : Int → Int) (sb : Int → Int) (lc : Int) (fo : Int) (wc : Int) (cc : Int) (sc : Int) (rfs : Int → Int) (many : Int) (places : Int) (rf : Int → Int) (bf : Int → Int) (rm : Int) (fv : Int) (be : Int) (wrs : Int) (av : Int) (qbt : Int → Int) (qft : Int → Int) (qsb : Int → Int) (qoo : Int → Int) (q0 : zr x) (q1 : zr y) (q2 : 0 ≤ cdk) (q3 : cdk ≤ 1) (q4 : okF ff) (q5 : 0 ≤ lc) (q6 : lc ≤ 6) (q7 : -1 ≤ fo) (q8 : fo < lc) (q9 : 0 ≤ wc) (q10 : wc ≤ 8) (q11 : 0 ≤ cc) (q12 : cc ≤ 6) (q13 : 0 ≤ sc) (q14 : sc ≤ 12) (q15 : Rg tf 2 (-2147483648) 2147483647) (q16 : Rg wa 8 (-2147483648) 2147483647) (q17 : Rg wb 8 (-2147483648) 2147483647) (q18 : Rg ca 6 (-2147483648) 2147483647) (q19 : Rg ca cc 0 (Hi ff - 1)) (q20 : Rg cb 6 (-2147483648) 2147483647) (q21 : Rg sa 12 0 6) (q22 : Rg sb 12 0 6) (q23 : Rg ff 5 (-2147483648) 2147483647) (q24 : LawsIn fh lf) (q25 : 1 ≤ many) (q26 : many ≤ 1260) (q27 : 0 ≤ places) (q28 : places ≤ 7) (q29 : many = Hi ff) (q30 : places = bsum ff) (q31 : RowsTo rf ff many) (q32 : Rg rf 1260 (-2147483648) 2147483647) (q33 : Rg bf 7 0 4) (q34 : zr fv) (q35 : 0 ≤ rm) (q36 : rm ≤ 1260) (q37 : Rg qbt 1260 0 1) (q38 : zr av) (q39 : zr wrs) (hk0 : fh 0 = some (.inr (11, [.ref 1, .ref 17, .ref 50, .ref 51, .ref 54, .ref 57, .ref 65, .ref 75, .ref 81, .ref 85, .ref 88, .ref 93, .ref 96, .int (zI cst), .int (zI cfa), .ref 97, .int (zI cdk)]))) (hk1 : fh 1 = some (.inr (8, [.ref 2, .ref 3, .ref 4, .int (zI lc), .int (zI fo), .ref 11, .ref 12, .int (zI wc), .ref 13, .ref 14, .int (zI cc), .ref 15, .ref 16, .int (zI sc)]))) (hk2 : fh 2 = some (.inl (0, 5, .inl (zA ff)))) (hk3 : fh 3 = some (.inl (0, 2, .inl (zA tf)))) (hk4 : fh 4 = some (.inl (5, 6, .inr (.inr (.inr (.inr lf)))))) (hk11 : fh 11 = some (.inl (0, 8, .inl (zA wa)))) (hk12 : fh 12 = some (.inl (0, 8, .inl (zA wb)))) (hk13 : fh 13 = some (.inl (0, 6, .inl (zA ca)))) (hk14 : fh 14 = some (.inl (0, 6, .inl (zA cb)))) (hk15 : fh 15 = some (.inl (0, 12, .inl (zA sa)))) (hk16 : fh 16 = some (.inl (0, 12, .inl (zA sb)))) (hk96 : fh 96 = some (.inl (0, 5, .inl (zA rfs)))) (hk51 : fh 51 = some (.inr (0, [.ref 52, .ref 53, .int (zI many), .int (zI places)]))) (hk52 : fh 52 = some (.inl (0, 1260, .inl (zA rf)))) (hk53 : fh 53 = some (.inl (0, 7, .inl (zA bf)))) (hk88 : fh 88 = some (.inr (6, [.ref 1, .ref 51, .ref 57, .ref 65, .ref 89, .ref 90, .int (zI rm), .int (zI fv), .ref 91, .ref 92, .int (zI be), .int (zI wrs), .int (zI av)]))) (hk89 : fh 89 = some (.inl (2, 1260, .inl (zA qbt)))) (hk90 : fh 90 = some (.inl (0, 1260, .inl (zA qft)))) (hk91 : fh 91 = some (.inl (0, 1260, .inl (zA qsb)))) (hk92 : fh 92 = some (.inl (0, 1260, .inl (zA qoo)))) : JM l G yX11_clue MX11_clue { frames := 2, cells := 0, slots := 0, locals := 41 } [.ref 0, .int (zI x), .int (zI y)] (nh, fh) (fun rr h9 => (∃ rfs2 : Int → Int, rr = some (.int (zI (-1))) ∧ h9 = (nh, hc fh [(0, .inr (11, [.ref 1, .ref 17, .ref 50, .ref 51, .ref 54, .ref 57, .ref 65, .ref 75, .ref 81, .ref 85, .ref 88, .ref 93, .ref 96, .int (zI (-1)), .int (zI cfa), .ref 97, .int (zI cdk)])), (96, .inl (0, 5, .inl (zA rfs2)))]) ∧ (y < -1)) ∨ (∃ rfs2 : Int → Int, rr = some (.int (zI (-2))) ∧ h9 = (nh, hc fh [(0, .inr (11, [.ref 1, .ref 17, .ref 50, .ref 51, .ref 54, .ref 57, .ref 65, .ref 75, .ref 81, .ref 85, .ref 88, .ref 93, .ref 96, .int (zI (-2)), .int (zI cfa), .ref 97, .int (zI cdk)])), (96, .inl (0, 5, .inl (zA rfs2)))]) ∧ (-1 ≤ y) ∧ (¬ isA x (Hi ff))) ∨ (∃ rfs2 : Int → Int, rr = some (.int (zI (-5))) ∧ h9 = (nh, hc fh [(0, .inr (11, [.ref 1, .ref 17, .ref 50, .ref 51, .ref 54, .ref 57, .ref 65, .ref 75, .ref 81, .ref 85, .ref 88, .ref 93, .ref 96, .int (zI (-5)), .int (zI cfa), .ref 97, .int (zI cdk)])), (96, .inl (0, 5, .inl (zA rfs2)))]) ∧ (-1 ≤ y) ∧ (isA x (Hi ff)) ∧ (6 ≤ cc)) ∨ (∃ fv2 : Int, ∃ av2 : Int, ∃ ca2 : Int → Int, ∃ cb2 : Int → Int, rr = some (.int (zI (cc + 1))) ∧ h9 = (nh, hc fh [(0, .inr (11, [.ref 1, .ref 17, .ref 50, .ref 51, .ref 54, .ref 57, .ref 65, .ref 75, .ref 81, .ref 85, .ref 88, .ref 93, .ref 96, .int (zI 0), .int (zI cfa), .ref 97, .int (zI cdk)])), (88, .inr (6, [.ref 1, .ref 51, .ref 57, .ref 65, .ref 89, .ref 90, .int (zI rm), .int (zI fv2), .ref 91, .ref 92, .int (zI be), .int (zI wrs), .int (zI av2)])), (1, .inr (8, [.ref 2, .ref 3, .ref 4, .int (zI lc), .int (zI fo), .ref 11, .ref 12, .int (zI wc), .ref 13, .ref 14, .int (zI (cc + 1)), .ref 15, .ref 16, .int (zI sc)])), (13, .inl (0, 6, .inl (zA ca2))), (14, .inl (0, 6, .inl (zA cb2)))]) ∧ (-1 ≤ y) ∧ (isA x (Hi ff)) ∧ (cc < 6) ∧ (Rg ca2 6 (-2147483648) 2147483647) ∧ (Rg ca2 (cc + 1) 0 (Hi ff - 1)) ∧ (Rg cb2 6 (-2147483648) 2147483647) ∧ (zr fv2) ∧ (zr av2) ∧ ((ca2 = up ca cc x)) ∧ ((cb2 = up cb cc y)))) := by
  refine JM.of (by decide) rfl (fun h => by cases h) (Nat.le_of_ble_eq_true rfl) ⟨0, rfl⟩ ?_
  refine J_hc0 (J_ls (ls2 := [some (.ref 0), some (.int (zI x)), some (.int (zI y))]) rfl ?_)
  refine J_iload_n dX11_clue_0 rfl rfl ?_
  refine Z_iconst (n := -1) dX11_clue_1 ?_
  refine Z_icmp_ge (tgt := 11) dX11_clue_2 (by decide) (v_b25fa51a85 q1) v_d64efa60f9 (fun h1 => ?_) (fun h1 => ?_)
  · refine J_aload_n dX11_clue_11 rfl rfl ?_
    refine J_get (v := .ref 51) dX11_clue_12 fl_X11_27 hk0 rfl ?_
    refine J_iload_n dX11_clue_15 rfl rfl ?_
    refine J_callV (st := []) dX11_clue_16 cv_X11_135 (g_has x many places q0 q25 q26 hk51) hk51 rfl rfl (Nat.le_of_ble_eq_true rfl) ⟨(Nat.le_of_ble_eq_true rfl), (Nat.le_of_ble_eq_true rfl)⟩ ⟨(Nat.le_of_ble_eq_true rfl), (Nat.le_of_ble_eq_true rfl)⟩ (fun r h9 hp => ?_)
    rcases hp with ⟨rfl, rfl, h2, h3⟩ | ⟨rfl, rfl, h4⟩ | ⟨rfl, rfl, h5⟩
    · refine J_nf (nh2 := nh) (ck2 := 0) (sk2 := 0) (st2 := [.int (zI 1)]) rfl rfl rfl rfl ?_
      refine Z_if_ne (tgt := 29) dX11_clue_19 (by decide) v_4dcc24baa7 (fun h6 => ?_) (fun h6 => absurd h6 v_3a47bfd896)
      refine J_aload_n dX11_clue_29 rfl rfl ?_
      refine J_get (v := .ref 1) dX11_clue_30 fl_X11_10 hk0 rfl ?_
      refine J_get (v := .int (zI cc)) dX11_clue_33 fl_X11_286 hk1 rfl ?_
      refine Z_bipush (n := 6) dX11_clue_36 (by decide +kernel) ?_
      refine Z_icmp_lt (tgt := 48) dX11_clue_38 (by decide) (v_5fd3895a24 q11 q12) v_8f5ecbc95e (fun h7 => ?_) (fun h7 => ?_)
      · refine J_aload_n dX11_clue_48 rfl rfl ?_
        refine J_get (v := .ref 1) dX11_clue_49 fl_X11_10 hk0 rfl ?_
        refine J_iload_n dX11_clue_52 rfl rfl ?_
        refine J_iload_n dX11_clue_53 rfl rfl ?_
        refine J_callV (st := []) dX11_clue_54 cv_X11_289 (s_addClue x y many lc fo wc cc sc ca cb q0 q1 h2 h3 q26 q5 q6 q7 q8 q9 q10 q11 q12 q13 q14 q18 (by have e := q29; rw [e]; exact q19) q20 hk1 hk13 hk14) hk1 rfl rfl (Nat.le_of_ble_eq_true rfl) ⟨(Nat.le_of_ble_eq_true rfl), (Nat.le_of_ble_eq_true rfl)⟩ ⟨(Nat.le_of_ble_eq_true rfl), (Nat.le_of_ble_eq_true rfl)⟩ (fun r h9 hp => ?_)
        rcases hp with ⟨f8, f9, rfl, rfl, h10, h11, h12, h13, h14, h15⟩ | ⟨rfl, rfl, h16⟩
        · refine J_nf (nh2 := nh) (ck2 := 0) (sk2 := 0) (st2 := []) rfl rfl rfl rfl ?_
          refine J_app (L3 := [(1, .inr (8, [.ref 2, .ref 3, .ref 4, .int (zI lc), .int (zI fo), .ref 11, .ref 12, .int (zI wc), .ref 13, .ref 14, .int (zI (cc + 1)), .ref 15, .ref 16, .int (zI sc)])), (13, .inl (0, 6, .inl (zA f8))), (14, .inl (0, 6, .inl (zA f9)))]) rfl ?_
          refine J_aload_n dX11_clue_57 rfl rfl ?_
          refine J_get (v := .ref 88) dX11_clue_58 fl_X11_82 hk0 rfl ?_
          refine J_callV (st := []) dX11_clue_61 cv_X11_292 (q_change rm fv be wrs av hk88) hk88 rfl rfl (Nat.le_of_ble_eq_true rfl) ⟨(Nat.le_of_ble_eq_true rfl), (Nat.le_of_ble_eq_true rfl)⟩ ⟨(Nat.le_of_ble_eq_true rfl), (Nat.le_of_ble_eq_true rfl)⟩ (fun r h9 hp => ?_)
          obtain ⟨rfl, rfl⟩ := hp
          refine J_nf (nh2 := nh) (ck2 := 0) (sk2 := 0) (st2 := []) rfl rfl rfl rfl ?_
          refine J_app (L3 := [(88, .inr (6, [.ref 1, .ref 51, .ref 57, .ref 65, .ref 89, .ref 90, .int (zI rm), .int (zI (-1)), .ref 91, .ref 92, .int (zI be), .int (zI wrs), .int (zI (-1))])), (1, .inr (8, [.ref 2, .ref 3, .ref 4, .int (zI lc), .int (zI fo), .ref 11, .ref 12, .int (zI wc), .ref 13, .ref 14, .int (zI (cc + 1)), .ref 15, .ref 16, .int (zI sc)])), (13, .inl (0, 6, .inl (zA f8))), (14, .inl (0, 6, .inl (zA f9)))]) rfl ?_
          refine J_aload_n dX11_clue_64 rfl rfl ?_
          refine J_aload_n dX11_clue_65 rfl rfl ?_
          refine J_get (v := .ref 1) dX11_clue_66 fl_X11_10 hk0 rfl ?_
          refine J_get (v := .int (zI (cc + 1))) dX11_clue_69 fl_X11_286 rfl rfl ?_
          refine J_callV (st := []) dX11_clue_72 cv_X11_129 (b_accept (cc + 1) cst cfa cdk hk0) hk0 rfl rfl (Nat.le_of_ble_eq_true rfl) ⟨(Nat.le_of_ble_eq_true rfl), (Nat.le_of_ble_eq_true rfl)⟩ ⟨(Nat.le_of_ble_eq_true rfl), (Nat.le_of_ble_eq_true rfl)⟩ (fun r h9 hp => ?_)
          obtain ⟨rfl, rfl⟩ := hp
          refine J_nf (nh2 := nh) (ck2 := 0) (sk2 := 0) (st2 := [.int (zI (cc + 1))]) rfl rfl rfl rfl ?_
          refine J_app (L3 := [(0, .inr (11, [.ref 1, .ref 17, .ref 50, .ref 51, .ref 54, .ref 57, .ref 65, .ref 75, .ref 81, .ref 85, .ref 88, .ref 93, .ref 96, .int (zI 0), .int (zI cfa), .ref 97, .int (zI cdk)])), (88, .inr (6, [.ref 1, .ref 51, .ref 57, .ref 65, .ref 89, .ref 90, .int (zI rm), .int (zI (-1)), .ref 91, .ref 92, .int (zI be), .int (zI wrs), .int (zI (-1))])), (1, .inr (8, [.ref 2, .ref 3, .ref 4, .int (zI lc), .int (zI fo), .ref 11, .ref 12, .int (zI wc), .ref 13, .ref 14, .int (zI (cc + 1)), .ref 15, .ref 16, .int (zI sc)])), (13, .inl (0, 6, .inl (zA f8))), (14, .inl (0, 6, .inl (zA f9)))]) rfl ?_
          exact J_iret dX11_clue_75 rfl rfl (Nat.le_of_ble_eq_true rfl) (Nat.le_of_ble_eq_true rfl) (Or.inr (Or.inr (Or.inr ⟨(-1), (-1), f8, f9, rfl, rfl, h1, (⟨(v_2b02420001 h2), (v_d7c2909a09 q29 h3)⟩), h10, h11, (by have e := q29; rw [← e]; exact h12), h13, v_d64efa60f9, v_d64efa60f9, h14, h15⟩)))
        · exact False.elim (v_6bee6ad1ef h7 h16)
      · refine J_aload_n dX11_clue_41 rfl rfl ?_
        refine Z_bipush (n := -5) dX11_clue_42 (by decide +kernel) ?_
        refine J_callV (st := []) dX11_clue_44 cv_X11_118 (b_refuse (-5) cst cfa cdk rfs v_23c38dd6f5 v_711bb4d976 hk0 hk96) hk0 rfl rfl (Nat.le_of_ble_eq_true rfl) ⟨(Nat.le_of_ble_eq_true rfl), (Nat.le_of_ble_eq_true rfl)⟩ ⟨(Nat.le_of_ble_eq_true rfl), (Nat.le_of_ble_eq_true rfl)⟩ (fun r h9 hp => ?_)
        obtain ⟨f17, rfl, rfl⟩ := hp
        refine J_nf (nh2 := nh) (ck2 := 0) (sk2 := 0) (st2 := [.int (zI (-5))]) rfl rfl rfl rfl ?_
        refine J_app (L3 := [(0, .inr (11, [.ref 1, .ref 17, .ref 50, .ref 51, .ref 54, .ref 57, .ref 65, .ref 75, .ref 81, .ref 85, .ref 88, .ref 93, .ref 96, .int (zI (-5)), .int (zI cfa), .ref 97, .int (zI cdk)])), (96, .inl (0, 5, .inl (zA f17)))]) rfl ?_
        exact J_iret dX11_clue_47 rfl rfl (Nat.le_of_ble_eq_true rfl) (Nat.le_of_ble_eq_true rfl) (Or.inr (Or.inr (Or.inl ⟨f17, rfl, rfl, h1, (⟨(v_2b02420001 h2), (v_d7c2909a09 q29 h3)⟩), (v_7fd5f98511 h7)⟩)))
    · refine J_nf (nh2 := nh) (ck2 := 0) (sk2 := 0) (st2 := [.int (zI 0)]) rfl rfl rfl rfl ?_
      refine Z_if_ne (tgt := 29) dX11_clue_19 (by decide) v_b17331891f (fun h18 => absurd h18 (fun q => q v_2ca2bbca1f)) (fun h18 => ?_)
      refine J_aload_n dX11_clue_22 rfl rfl ?_
      refine Z_bipush (n := -2) dX11_clue_23 (by decide +kernel) ?_
      refine J_callV (st := []) dX11_clue_25 cv_X11_118 (b_refuse (-2) cst cfa cdk rfs v_c15e852b74 v_e7867eeafa hk0 hk96) hk0 rfl rfl (Nat.le_of_ble_eq_true rfl) ⟨(Nat.le_of_ble_eq_true rfl), (Nat.le_of_ble_eq_true rfl)⟩ ⟨(Nat.le_of_ble_eq_true rfl), (Nat.le_of_ble_eq_true rfl)⟩ (fun r h9 hp => ?_)
      obtain ⟨f19, rfl, rfl⟩ := hp
      refine J_nf (nh2 := nh) (ck2 := 0) (sk2 := 0) (st2 := [.int (zI (-2))]) rfl rfl rfl rfl ?_
      refine J_app (L3 := [(0, .inr (11, [.ref 1, .ref 17, .ref 50, .ref 51, .ref 54, .ref 57, .ref 65, .ref 75, .ref 81, .ref 85, .ref 88, .ref 93, .ref 96, .int (zI (-2)), .int (zI cfa), .ref 97, .int (zI cdk)])), (96, .inl (0, 5, .inl (zA f19)))]) rfl ?_
      exact J_iret dX11_clue_28 rfl rfl (Nat.le_of_ble_eq_true rfl) (Nat.le_of_ble_eq_true rfl) (Or.inr (Or.inl ⟨f19, rfl, rfl, h1, (fun q => absurd q.1 (v_dccefa8cdf h4))⟩))
    · refine J_nf (nh2 := nh) (ck2 := 0) (sk2 := 0) (st2 := [.int (zI 0)]) rfl rfl rfl rfl ?_
      refine Z_if_ne (tgt := 29) dX11_clue_19 (by decide) v_b17331891f (fun h20 => absurd h20 (fun q => q v_2ca2bbca1f)) (fun h20 => ?_)
      refine J_aload_n dX11_clue_22 rfl rfl ?_
      refine Z_bipush (n := -2) dX11_clue_23 (by decide +kernel) ?_
      refine J_callV (st := []) dX11_clue_25 cv_X11_118 (b_refuse (-2) cst cfa cdk rfs v_c15e852b74 v_e7867eeafa hk0 hk96) hk0 rfl rfl (Nat.le_of_ble_eq_true rfl) ⟨(Nat.le_of_ble_eq_true rfl), (Nat.le_of_ble_eq_true rfl)⟩ ⟨(Nat.le_of_ble_eq_true rfl), (Nat.le_of_ble_eq_true rfl)⟩ (fun r h9 hp => ?_)
      obtain ⟨f21, rfl, rfl⟩ := hp
      refine J_nf (nh2 := nh) (ck2 := 0) (sk2 := 0) (st2 := [.int (zI (-2))]) rfl rfl rfl rfl ?_
      refine J_app (L3 := [(0, .inr (11, [.ref 1, .ref 17, .ref 50, .ref 51, .ref 54, .ref 57, .ref 65, .ref 75, .ref 81, .ref 85, .ref 88, .ref 93, .ref 96, .int (zI (-2)), .int (zI cfa), .ref 97, .int (zI cdk)])), (96, .inl (0, 5, .inl (zA f21)))]) rfl ?_
      exact J_iret dX11_clue_28 rfl rfl (Nat.le_of_ble_eq_true rfl) (Nat.le_of_ble_eq_true rfl) (Or.inr (Or.inl ⟨f21, rfl, rfl, h1, (fun q => absurd q.2 (v_f9e33a7fad q29 h5))⟩))
  · refine J_aload_n dX11_clue_5 rfl rfl ?_
    refine Z_iconst (n := -1) dX11_clue_6 ?_
    refine J_callV (st := []) dX11_clue_7 cv_X11_118 (b_refuse (-1) cst cfa cdk rfs v_ef59c9c3d8 v_646fb950f3 hk0 hk96) hk0 rfl rfl (Nat.le_of_ble_eq_true rfl) ⟨(Nat.le_of_ble_eq_true rfl), (Nat.le_of_ble_eq_true rfl)⟩ ⟨(Nat.le_of_ble_eq_true rfl), (Nat.le_of_ble_eq_true rfl)⟩ (fun r h9 hp => ?_)
    obtain ⟨f22, rfl, rfl⟩ := hp
    refine J_nf (nh2 := nh) (ck2 := 0) (sk2 := 0) (st2 := [.int (zI (-1))]) rfl rfl rfl rfl ?_
    refine J_app (L3 := [(0, .inr (11, [.ref 1, .ref 17, .ref 50, .ref 51, .ref 54, .ref 57, .ref 65, .ref 75, .ref 81, .ref 85, .ref 88, .ref 93, .ref 96, .int (zI (-1)), .int (zI cfa), .ref 97, .int (zI cdk)])), (96, .inl (0, 5, .inl (zA f22)))]) rfl ?_
    exact J_iret dX11_clue_10 rfl rfl (Nat.le_of_ble_eq_true rfl) (Nat.le_of_ble_eq_true rfl) (Or.inl ⟨f22, rfl, rfl, (v_ca1e8193e3 h1)⟩)
set_option maxHeartbeats 4000000 in
set_option maxRecDepth 100000 in
theorem b_forget {l : Launch} {G : jG} {nh : Nat} {fh : Nat → Option va_E} (cst : Int) (cfa : Int) (cdk : Int) (ff : Int → Int) (tf : Int → Int) (lf : Nat → Option Nat) (wa : Int → Int) (wb : Int → Int) (ca : Int → Int) (cb : Int → Int) (sa : Int → Int) (sb : Int → Int) (lc : Int) (fo : Int) (wc : Int) (cc : Int) (sc : Int) (rm : Int) (fv : Int) (be : Int) (wrs : Int) (av : Int) (qbt : Int → Int) (qft : Int → Int) (qsb : Int → Int) (qoo : Int → Int) (q0 : 0 ≤ cdk) (q1 : cdk ≤ 1) (q2 : okF ff) (q3 : 0 ≤ lc) (q4 : lc ≤ 6) (q5 : -1 ≤ fo) (q6 : fo < lc) (q7 : 0 ≤ wc) (q8 : wc ≤ 8) (q9 : 0 ≤ cc) (q10 : cc ≤ 6) (q11 : 0 ≤ sc) (q12 : sc ≤ 12) (q13 : Rg tf 2 (-2147483648) 2147483647) (q14 : Rg wa 8 (-2147483648) 2147483647) (q15 : Rg wb 8 (-2147483648) 2147483647) (q16 : Rg ca 6 (-2147483648) 2147483647) (q17 : Rg ca cc 0 (Hi ff - 1)) (q18 : Rg cb 6 (-2147483648) 2147483647) (q19 : Rg sa 12 0 6) (q20 : Rg sb 12 0 6) (q21 : Rg ff 5 (-2147483648) 2147483647) (q22 : LawsIn fh lf) (q23 : zr fv) (q24 : 0 ≤ rm) (q25 : rm ≤ 1260) (q26 : Rg qbt 1260 0 1) (q27 : zr av) (q28 : zr wrs) (hk0 : fh 0 = some (.inr (11, [.ref 1, .ref 17, .ref 50, .ref 51, .ref 54, .ref 57, .ref 65, .ref 75, .ref 81, .ref 85, .ref 88, .ref 93, .ref 96, .int (zI cst), .int (zI cfa), .ref 97, .int (zI cdk)]))) (hk1 : fh 1 = some (.inr (8, [.ref 2, .ref 3, .ref 4, .int (zI lc), .int (zI fo), .ref 11, .ref 12, .int (zI wc), .ref 13, .ref 14, .int (zI cc), .ref 15, .ref 16, .int (zI sc)]))) (hk2 : fh 2 = some (.inl (0, 5, .inl (zA ff)))) (hk3 : fh 3 = some (.inl (0, 2, .inl (zA tf)))) (hk4 : fh 4 = some (.inl (5, 6, .inr (.inr (.inr (.inr lf)))))) (hk11 : fh 11 = some (.inl (0, 8, .inl (zA wa)))) (hk12 : fh 12 = some (.inl (0, 8, .inl (zA wb)))) (hk13 : fh 13 = some (.inl (0, 6, .inl (zA ca)))) (hk14 : fh 14 = some (.inl (0, 6, .inl (zA cb)))) (hk15 : fh 15 = some (.inl (0, 12, .inl (zA sa)))) (hk16 : fh 16 = some (.inl (0, 12, .inl (zA sb)))) (hk88 : fh 88 = some (.inr (6, [.ref 1, .ref 51, .ref 57, .ref 65, .ref 89, .ref 90, .int (zI rm), .int (zI fv), .ref 91, .ref 92, .int (zI be), .int (zI wrs), .int (zI av)]))) (hk89 : fh 89 = some (.inl (2, 1260, .inl (zA qbt)))) (hk90 : fh 90 = some (.inl (0, 1260, .inl (zA qft)))) (hk91 : fh 91 = some (.inl (0, 1260, .inl (zA qsb)))) (hk92 : fh 92 = some (.inl (0, 1260, .inl (zA qoo)))) : JM l G yX11_forget MX11_forget { frames := 1, cells := 0, slots := 0, locals := 20 } [.ref 0] (nh, fh) (fun rr h9 => ∃ fv2 : Int, ∃ av2 : Int, rr = some (.int (zI cc)) ∧ h9 = (nh, hc fh [(88, .inr (6, [.ref 1, .ref 51, .ref 57, .ref 65, .ref 89, .ref 90, .int (zI rm), .int (zI fv2), .ref 91, .ref 92, .int (zI be), .int (zI wrs), .int (zI av2)])), (1, .inr (8, [.ref 2, .ref 3, .ref 4, .int (zI lc), .int (zI fo), .ref 11, .ref 12, .int (zI wc), .ref 13, .ref 14, .int (zI 0), .ref 15, .ref 16, .int (zI sc)]))]) ∧ (zr fv2) ∧ (zr av2)) := by
  refine JM.of (by decide) rfl (fun h => by cases h) (Nat.le_of_ble_eq_true rfl) ⟨1, rfl⟩ ?_
  refine J_hc0 (J_ls (ls2 := [some (.ref 0), none]) rfl ?_)
  refine J_aload_n dX11_forget_0 rfl rfl ?_
  refine J_get (v := .ref 1) dX11_forget_1 fl_X11_10 hk0 rfl ?_
  refine J_get (v := .int (zI cc)) dX11_forget_4 fl_X11_286 hk1 rfl ?_
  refine J_istore_n dX11_forget_7 rfl (Nat.le_of_ble_eq_true rfl) rfl ?_
  refine J_ls (ls2 := [some (.ref 0), some (.int (zI cc))]) rfl ?_
  refine J_aload_n dX11_forget_8 rfl rfl ?_
  refine J_get (v := .ref 1) dX11_forget_9 fl_X11_10 hk0 rfl ?_
  refine Z_iconst (n := 0) dX11_forget_12 ?_
  refine K_put (fs2 := [.ref 2, .ref 3, .ref 4, .int (zI lc), .int (zI fo), .ref 11, .ref 12, .int (zI wc), .ref 13, .ref 14, .int (zI 0), .ref 15, .ref 16, .int (zI sc)]) dX11_forget_13 fw_X11_286 hk1 (Nat.le_of_ble_eq_true rfl) (fun _ => ⟨rfl, rfl⟩) rfl ?_
  refine J_aload_n dX11_forget_16 rfl rfl ?_
  refine J_get (v := .ref 88) dX11_forget_17 fl_X11_82 hk0 rfl ?_
  refine J_callV (st := []) dX11_forget_20 cv_X11_292 (q_change rm fv be wrs av hk88) hk88 rfl rfl (Nat.le_of_ble_eq_true rfl) ⟨(Nat.le_of_ble_eq_true rfl), (Nat.le_of_ble_eq_true rfl)⟩ ⟨(Nat.le_of_ble_eq_true rfl), (Nat.le_of_ble_eq_true rfl)⟩ (fun r h9 hp => ?_)
  obtain ⟨rfl, rfl⟩ := hp
  refine J_nf (nh2 := nh) (ck2 := 0) (sk2 := 0) (st2 := []) rfl rfl rfl rfl ?_
  refine J_app (L3 := [(88, .inr (6, [.ref 1, .ref 51, .ref 57, .ref 65, .ref 89, .ref 90, .int (zI rm), .int (zI (-1)), .ref 91, .ref 92, .int (zI be), .int (zI wrs), .int (zI (-1))])), (1, .inr (8, [.ref 2, .ref 3, .ref 4, .int (zI lc), .int (zI fo), .ref 11, .ref 12, .int (zI wc), .ref 13, .ref 14, .int (zI 0), .ref 15, .ref 16, .int (zI sc)]))]) rfl ?_
  refine J_iload_n dX11_forget_23 rfl rfl ?_
  exact J_iret dX11_forget_24 rfl rfl (Nat.le_of_ble_eq_true rfl) (Nat.le_of_ble_eq_true rfl) ⟨(-1), (-1), rfl, rfl, v_d64efa60f9, v_d64efa60f9⟩
set_option maxHeartbeats 4000000 in
set_option maxRecDepth 100000 in
theorem b_sorts {l : Launch} {G : jG} {nh : Nat} {fh : Nat → Option va_E} (x : Int) (cst : Int) (cfa : Int) (cdk : Int) (ff : Int → Int) (tf : Int → Int) (lf : Nat → Option Nat) (wa : Int → Int) (wb : Int → Int) (ca : Int → Int) (cb : Int → Int) (sa : Int → Int) (sb : Int → Int) (lc : Int) (fo : Int) (wc : Int) (cc : Int) (sc : Int) (many : Int) (places : Int) (rf : Int → Int) (bf : Int → Int) (gla : Int → Int) (gra : Int → Int) (q0 : zr x) (q1 : SwV sa sb sc places) (q2 : 0 ≤ cdk) (q3 : cdk ≤ 1) (q4 : okF ff) (q5 : 0 ≤ lc) (q6 : lc ≤ 6) (q7 : -1 ≤ fo) (q8 : fo < lc) (q9 : 0 ≤ wc) (q10 : wc ≤ 8) (q11 : 0 ≤ cc) (q12 : cc ≤ 6) (q13 : 0 ≤ sc) (q14 : sc ≤ 12) (q15 : Rg tf 2 (-2147483648) 2147483647) (q16 : Rg wa 8 (-2147483648) 2147483647) (q17 : Rg wb 8 (-2147483648) 2147483647) (q18 : Rg ca 6 (-2147483648) 2147483647) (q19 : Rg ca cc 0 (Hi ff - 1)) (q20 : Rg cb 6 (-2147483648) 2147483647) (q21 : Rg sa 12 0 6) (q22 : Rg sb 12 0 6) (q23 : Rg ff 5 (-2147483648) 2147483647) (q24 : LawsIn fh lf) (q25 : 1 ≤ many) (q26 : many ≤ 1260) (q27 : 0 ≤ places) (q28 : places ≤ 7) (q29 : many = Hi ff) (q30 : places = bsum ff) (q31 : RowsTo rf ff many) (q32 : Rg rf 1260 (-2147483648) 2147483647) (q33 : Rg bf 7 0 4) (q34 : Rg gla 12 (-2147483648) 2147483647) (q35 : Rg gra 12 (-2147483648) 2147483647) (hk0 : fh 0 = some (.inr (11, [.ref 1, .ref 17, .ref 50, .ref 51, .ref 54, .ref 57, .ref 65, .ref 75, .ref 81, .ref 85, .ref 88, .ref 93, .ref 96, .int (zI cst), .int (zI cfa), .ref 97, .int (zI cdk)]))) (hk1 : fh 1 = some (.inr (8, [.ref 2, .ref 3, .ref 4, .int (zI lc), .int (zI fo), .ref 11, .ref 12, .int (zI wc), .ref 13, .ref 14, .int (zI cc), .ref 15, .ref 16, .int (zI sc)]))) (hk2 : fh 2 = some (.inl (0, 5, .inl (zA ff)))) (hk3 : fh 3 = some (.inl (0, 2, .inl (zA tf)))) (hk4 : fh 4 = some (.inl (5, 6, .inr (.inr (.inr (.inr lf)))))) (hk11 : fh 11 = some (.inl (0, 8, .inl (zA wa)))) (hk12 : fh 12 = some (.inl (0, 8, .inl (zA wb)))) (hk13 : fh 13 = some (.inl (0, 6, .inl (zA ca)))) (hk14 : fh 14 = some (.inl (0, 6, .inl (zA cb)))) (hk15 : fh 15 = some (.inl (0, 12, .inl (zA sa)))) (hk16 : fh 16 = some (.inl (0, 12, .inl (zA sb)))) (hk51 : fh 51 = some (.inr (0, [.ref 52, .ref 53, .int (zI many), .int (zI places)]))) (hk52 : fh 52 = some (.inl (0, 1260, .inl (zA rf)))) (hk53 : fh 53 = some (.inl (0, 7, .inl (zA bf)))) (hk85 : fh 85 = some (.inr (2, [.ref 1, .ref 51, .ref 86, .ref 87]))) (hk86 : fh 86 = some (.inl (0, 12, .inl (zA gla)))) (hk87 : fh 87 = some (.inl (0, 12, .inl (zA gra)))) : JM l G yX11_sorts MX11_sorts { frames := 6, cells := 0, slots := 0, locals := 139 } [.ref 0, .int (zI x)] (nh, fh) (fun rr h9 => (∃ r : Int, ∃ gla2 : Int → Int, ∃ gra2 : Int → Int, rr = some (.int (zI r)) ∧ h9 = (nh, hc fh [(86, .inl (0, 12, .inl (zA gla2))), (87, .inl (0, 12, .inl (zA gra2)))]) ∧ (Rg gla2 12 (-2147483648) 2147483647) ∧ (Rg gra2 12 (-2147483648) 2147483647) ∧ (x = 0) ∧ (r = soN (SoH ff sa sb (-1) sc) (many).toNat)) ∨ (∃ r : Int, ∃ gla2 : Int → Int, ∃ gra2 : Int → Int, rr = some (.int (zI r)) ∧ h9 = (nh, hc fh [(86, .inl (0, 12, .inl (zA gla2))), (87, .inl (0, 12, .inl (zA gra2)))]) ∧ (Rg gla2 12 (-2147483648) 2147483647) ∧ (Rg gra2 12 (-2147483648) 2147483647) ∧ (x = 1) ∧ (FuR (SoH ff sa sb (-1) sc) many r)) ∨ (∃ r : Int, ∃ gla2 : Int → Int, ∃ gra2 : Int → Int, rr = some (.int (zI r)) ∧ h9 = (nh, hc fh [(86, .inl (0, 12, .inl (zA gla2))), (87, .inl (0, 12, .inl (zA gra2)))]) ∧ (Rg gla2 12 (-2147483648) 2147483647) ∧ (Rg gra2 12 (-2147483648) 2147483647) ∧ (x = 2) ∧ (r = ndB (fun k => soN (SoH ff sa sb (-1) sc) (many).toNat ≤ soN (SoH ff sa sb k sc) (many).toNat) (sc).toNat)) ∨ (∃ r : Int, ∃ gla2 : Int → Int, ∃ gra2 : Int → Int, rr = some (.int (zI r)) ∧ h9 = (nh, hc fh [(86, .inl (0, 12, .inl (zA gla2))), (87, .inl (0, 12, .inl (zA gra2)))]) ∧ (Rg gla2 12 (-2147483648) 2147483647) ∧ (Rg gra2 12 (-2147483648) 2147483647) ∧ (x = 3) ∧ (r ≤ sc) ∧ (LeR (fun k => soN (SoH ff sa sb (-1) k) (many).toNat) (soN (SoH ff sa sb (-1) sc) (many).toNat) r)) ∨ (∃ gla2 : Int → Int, ∃ gra2 : Int → Int, rr = some (.int (zI (-1))) ∧ h9 = (nh, hc fh [(86, .inl (0, 12, .inl (zA gla2))), (87, .inl (0, 12, .inl (zA gra2)))]) ∧ (Rg gla2 12 (-2147483648) 2147483647) ∧ (Rg gra2 12 (-2147483648) 2147483647) ∧ (¬ x = 0) ∧ (¬ x = 1) ∧ (¬ x = 2) ∧ (¬ x = 3))) := by
  refine JM.of (by decide) rfl (fun h => by cases h) (Nat.le_of_ble_eq_true rfl) ⟨0, rfl⟩ ?_
  refine J_hc0 (J_ls (ls2 := [some (.ref 0), some (.int (zI x))]) rfl ?_)
  refine J_aload_n dX11_sorts_0 rfl rfl ?_
  refine J_get (v := .ref 85) dX11_sorts_1 fl_X11_73 hk0 rfl ?_
  refine J_callV (st := []) dX11_sorts_4 cv_X11_270 (m_prepare many places lc fo wc cc sc gla gra sa sb q25 q26 q27 q28 q5 q6 q7 q8 q9 q10 q11 q12 q13 q14 q34 q35 q21 q22 hk85 hk51 hk1 hk86 hk87 hk15 hk16) hk85 rfl rfl (Nat.le_of_ble_eq_true rfl) ⟨(Nat.le_of_ble_eq_true rfl), (Nat.le_of_ble_eq_true rfl)⟩ ⟨(Nat.le_of_ble_eq_true rfl), (Nat.le_of_ble_eq_true rfl)⟩ (fun r h9 hp => ?_)
  obtain ⟨f1, f2, rfl, rfl, h3, h4, h5, h6⟩ := hp
  refine J_nf (nh2 := nh) (ck2 := 0) (sk2 := 0) (st2 := []) rfl rfl rfl rfl ?_
  refine J_app (L3 := [(86, .inl (0, 12, .inl (zA f1))), (87, .inl (0, 12, .inl (zA f2)))]) rfl ?_
  refine J_iload_n dX11_sorts_7 rfl rfl ?_
  by_cases h7 : x = 0
  · refine Z_tableIn (tgt := 40) (off := 32) 0 dX11_sorts_8 (v_b25fa51a85 q0) (v_2b2aa55e09 h7) (by decide) (by decide) (by decide) (by decide) ?_
    refine J_aload_n dX11_sorts_40 rfl rfl ?_
    refine J_get (v := .ref 85) dX11_sorts_41 fl_X11_73 hk0 rfl ?_
    refine J_callV (st := []) dX11_sorts_44 cv_X11_271 (m_sortedAll many places rf lc fo wc cc sc f1 f2 ff sa sb q25 q26 q27 q28 q32 q5 q6 q7 q8 q9 q10 q11 q12 q13 q14 h3 h4 q4 q29 q30 q31 q1 h5 h6 hk85 hk51 hk52 hk1 rfl rfl) hk85 rfl rfl (Nat.le_of_ble_eq_true rfl) ⟨(Nat.le_of_ble_eq_true rfl), (Nat.le_of_ble_eq_true rfl)⟩ ⟨(Nat.le_of_ble_eq_true rfl), (Nat.le_of_ble_eq_true rfl)⟩ (fun r h9 hp => ?_)
    obtain ⟨z8, rfl, rfl, h9, h10, h11⟩ := hp
    refine J_nf (nh2 := nh) (ck2 := 0) (sk2 := 0) (st2 := [.int (zI z8)]) rfl rfl rfl rfl ?_
    exact J_iret dX11_sorts_47 rfl rfl (Nat.le_of_ble_eq_true rfl) (Nat.le_of_ble_eq_true rfl) (Or.inl ⟨z8, f1, f2, rfl, rfl, h3, h4, h7, h11⟩)
  by_cases h12 : x = 1
  · refine Z_tableIn (tgt := 48) (off := 40) 1 dX11_sorts_8 (v_b25fa51a85 q0) (v_b757d97f93 h12) (by decide) (by decide) (by decide) (by decide) ?_
    refine J_aload_n dX11_sorts_48 rfl rfl ?_
    refine J_get (v := .ref 85) dX11_sorts_49 fl_X11_73 hk0 rfl ?_
    refine J_callV (st := []) dX11_sorts_52 cv_X11_274 (m_firstUnsorted many places rf lc fo wc cc sc f1 f2 ff sa sb q25 q26 q27 q28 q32 q5 q6 q7 q8 q9 q10 q11 q12 q13 q14 h3 h4 q4 q29 q30 q31 q1 h5 h6 hk85 hk51 hk52 hk1 rfl rfl) hk85 rfl rfl (Nat.le_of_ble_eq_true rfl) ⟨(Nat.le_of_ble_eq_true rfl), (Nat.le_of_ble_eq_true rfl)⟩ ⟨(Nat.le_of_ble_eq_true rfl), (Nat.le_of_ble_eq_true rfl)⟩ (fun r h9 hp => ?_)
    obtain ⟨z13, rfl, rfl, h14, h15, h16⟩ := hp
    refine J_nf (nh2 := nh) (ck2 := 0) (sk2 := 0) (st2 := [.int (zI z13)]) rfl rfl rfl rfl ?_
    exact J_iret dX11_sorts_55 rfl rfl (Nat.le_of_ble_eq_true rfl) (Nat.le_of_ble_eq_true rfl) (Or.inr (Or.inl ⟨z13, f1, f2, rfl, rfl, h3, h4, h12, h16⟩))
  by_cases h17 : x = 2
  · refine Z_tableIn (tgt := 56) (off := 48) 2 dX11_sorts_8 (v_b25fa51a85 q0) (v_b7ed5c1d53 h17) (by decide) (by decide) (by decide) (by decide) ?_
    refine J_aload_n dX11_sorts_56 rfl rfl ?_
    refine J_get (v := .ref 85) dX11_sorts_57 fl_X11_73 hk0 rfl ?_
    refine J_callV (st := []) dX11_sorts_60 cv_X11_277 (m_needless many places rf lc fo wc cc sc f1 f2 ff sa sb q25 q26 q27 q28 q32 q5 q6 q7 q8 q9 q10 q11 q12 q13 q14 h3 h4 q4 q29 q30 q31 q1 h5 h6 hk85 hk51 hk52 hk1 rfl rfl) hk85 rfl rfl (Nat.le_of_ble_eq_true rfl) ⟨(Nat.le_of_ble_eq_true rfl), (Nat.le_of_ble_eq_true rfl)⟩ ⟨(Nat.le_of_ble_eq_true rfl), (Nat.le_of_ble_eq_true rfl)⟩ (fun r h9 hp => ?_)
    obtain ⟨z18, rfl, rfl, h19⟩ := hp
    refine J_nf (nh2 := nh) (ck2 := 0) (sk2 := 0) (st2 := [.int (zI z18)]) rfl rfl rfl rfl ?_
    exact J_iret dX11_sorts_63 rfl rfl (Nat.le_of_ble_eq_true rfl) (Nat.le_of_ble_eq_true rfl) (Or.inr (Or.inr (Or.inl ⟨z18, f1, f2, rfl, rfl, h3, h4, h17, h19⟩)))
  by_cases h20 : x = 3
  · refine Z_tableIn (tgt := 64) (off := 56) 3 dX11_sorts_8 (v_b25fa51a85 q0) (v_24d6576c2f h20) (by decide) (by decide) (by decide) (by decide) ?_
    refine J_aload_n dX11_sorts_64 rfl rfl ?_
    refine J_get (v := .ref 85) dX11_sorts_65 fl_X11_73 hk0 rfl ?_
    refine J_callV (st := []) dX11_sorts_68 cv_X11_280 (m_fewestFirst many places rf lc fo wc cc sc f1 f2 ff sa sb q25 q26 q27 q28 q32 q5 q6 q7 q8 q9 q10 q11 q12 q13 q14 h3 h4 q4 q29 q30 q31 q1 h5 h6 hk85 hk51 hk52 hk1 rfl rfl) hk85 rfl rfl (Nat.le_of_ble_eq_true rfl) ⟨(Nat.le_of_ble_eq_true rfl), (Nat.le_of_ble_eq_true rfl)⟩ ⟨(Nat.le_of_ble_eq_true rfl), (Nat.le_of_ble_eq_true rfl)⟩ (fun r h9 hp => ?_)
    obtain ⟨z21, rfl, rfl, h22, h23, h24⟩ := hp
    refine J_nf (nh2 := nh) (ck2 := 0) (sk2 := 0) (st2 := [.int (zI z21)]) rfl rfl rfl rfl ?_
    exact J_iret dX11_sorts_71 rfl rfl (Nat.le_of_ble_eq_true rfl) (Nat.le_of_ble_eq_true rfl) (Or.inr (Or.inr (Or.inr (Or.inl ⟨z21, f1, f2, rfl, rfl, h3, h4, h20, h23, h24⟩))))
  refine Z_tableOut (tgt := 72) dX11_sorts_8 (v_b25fa51a85 q0) (by omega) (by decide) ?_
  refine Z_iconst (n := -1) dX11_sorts_72 ?_
  exact J_iret dX11_sorts_73 rfl rfl (Nat.le_of_ble_eq_true rfl) (Nat.le_of_ble_eq_true rfl) (Or.inr (Or.inr (Or.inr (Or.inr ⟨f1, f2, rfl, rfl, h3, h4, h7, h12, h17, h20⟩))))
set_option maxHeartbeats 4000000 in
set_option maxRecDepth 100000 in
theorem b_sorted {l : Launch} {G : jG} {nh : Nat} {fh : Nat → Option va_E} (x : Int) (cst : Int) (cfa : Int) (cdk : Int) (ff : Int → Int) (tf : Int → Int) (lf : Nat → Option Nat) (wa : Int → Int) (wb : Int → Int) (ca : Int → Int) (cb : Int → Int) (sa : Int → Int) (sb : Int → Int) (lc : Int) (fo : Int) (wc : Int) (cc : Int) (sc : Int) (many : Int) (places : Int) (rf : Int → Int) (bf : Int → Int) (gla : Int → Int) (gra : Int → Int) (q0 : zr x) (q1 : SwV sa sb sc places) (q2 : 0 ≤ cdk) (q3 : cdk ≤ 1) (q4 : okF ff) (q5 : 0 ≤ lc) (q6 : lc ≤ 6) (q7 : -1 ≤ fo) (q8 : fo < lc) (q9 : 0 ≤ wc) (q10 : wc ≤ 8) (q11 : 0 ≤ cc) (q12 : cc ≤ 6) (q13 : 0 ≤ sc) (q14 : sc ≤ 12) (q15 : Rg tf 2 (-2147483648) 2147483647) (q16 : Rg wa 8 (-2147483648) 2147483647) (q17 : Rg wb 8 (-2147483648) 2147483647) (q18 : Rg ca 6 (-2147483648) 2147483647) (q19 : Rg ca cc 0 (Hi ff - 1)) (q20 : Rg cb 6 (-2147483648) 2147483647) (q21 : Rg sa 12 0 6) (q22 : Rg sb 12 0 6) (q23 : Rg ff 5 (-2147483648) 2147483647) (q24 : LawsIn fh lf) (q25 : 1 ≤ many) (q26 : many ≤ 1260) (q27 : 0 ≤ places) (q28 : places ≤ 7) (q29 : many = Hi ff) (q30 : places = bsum ff) (q31 : RowsTo rf ff many) (q32 : Rg rf 1260 (-2147483648) 2147483647) (q33 : Rg bf 7 0 4) (q34 : Rg gla 12 (-2147483648) 2147483647) (q35 : Rg gra 12 (-2147483648) 2147483647) (hk0 : fh 0 = some (.inr (11, [.ref 1, .ref 17, .ref 50, .ref 51, .ref 54, .ref 57, .ref 65, .ref 75, .ref 81, .ref 85, .ref 88, .ref 93, .ref 96, .int (zI cst), .int (zI cfa), .ref 97, .int (zI cdk)]))) (hk1 : fh 1 = some (.inr (8, [.ref 2, .ref 3, .ref 4, .int (zI lc), .int (zI fo), .ref 11, .ref 12, .int (zI wc), .ref 13, .ref 14, .int (zI cc), .ref 15, .ref 16, .int (zI sc)]))) (hk2 : fh 2 = some (.inl (0, 5, .inl (zA ff)))) (hk3 : fh 3 = some (.inl (0, 2, .inl (zA tf)))) (hk4 : fh 4 = some (.inl (5, 6, .inr (.inr (.inr (.inr lf)))))) (hk11 : fh 11 = some (.inl (0, 8, .inl (zA wa)))) (hk12 : fh 12 = some (.inl (0, 8, .inl (zA wb)))) (hk13 : fh 13 = some (.inl (0, 6, .inl (zA ca)))) (hk14 : fh 14 = some (.inl (0, 6, .inl (zA cb)))) (hk15 : fh 15 = some (.inl (0, 12, .inl (zA sa)))) (hk16 : fh 16 = some (.inl (0, 12, .inl (zA sb)))) (hk51 : fh 51 = some (.inr (0, [.ref 52, .ref 53, .int (zI many), .int (zI places)]))) (hk52 : fh 52 = some (.inl (0, 1260, .inl (zA rf)))) (hk53 : fh 53 = some (.inl (0, 7, .inl (zA bf)))) (hk85 : fh 85 = some (.inr (2, [.ref 1, .ref 51, .ref 86, .ref 87]))) (hk86 : fh 86 = some (.inl (0, 12, .inl (zA gla)))) (hk87 : fh 87 = some (.inl (0, 12, .inl (zA gra)))) : JM l G yX11_sorted MX11_sorted { frames := 4, cells := 0, slots := 0, locals := 92 } [.ref 0, .int (zI x)] (nh, fh) (fun rr h9 => (rr = some (.int (zI (-1))) ∧ h9 = (nh, fh) ∧ (¬ isA x (Hi ff))) ∨ (∃ r : Int, ∃ gla2 : Int → Int, ∃ gra2 : Int → Int, rr = some (.int (zI r)) ∧ h9 = (nh, hc fh [(86, .inl (0, 12, .inl (zA gla2))), (87, .inl (0, 12, .inl (zA gra2)))]) ∧ (Rg gla2 12 (-2147483648) 2147483647) ∧ (Rg gra2 12 (-2147483648) 2147483647) ∧ (isA x (Hi ff)) ∧ (OrR ff (thC sa sb (-1) (itB ff (x).toNat) (sc).toNat) r))) := by
  refine JM.of (by decide) rfl (fun h => by cases h) (Nat.le_of_ble_eq_true rfl) ⟨0, rfl⟩ ?_
  refine J_hc0 (J_ls (ls2 := [some (.ref 0), some (.int (zI x))]) rfl ?_)
  refine J_aload_n dX11_sorted_0 rfl rfl ?_
  refine J_get (v := .ref 51) dX11_sorted_1 fl_X11_27 hk0 rfl ?_
  refine J_iload_n dX11_sorted_4 rfl rfl ?_
  refine J_callV (st := []) dX11_sorted_5 cv_X11_135 (g_has x many places q0 q25 q26 hk51) hk51 rfl rfl (Nat.le_of_ble_eq_true rfl) ⟨(Nat.le_of_ble_eq_true rfl), (Nat.le_of_ble_eq_true rfl)⟩ ⟨(Nat.le_of_ble_eq_true rfl), (Nat.le_of_ble_eq_true rfl)⟩ (fun r h9 hp => ?_)
  rcases hp with ⟨rfl, rfl, h1, h2⟩ | ⟨rfl, rfl, h3⟩ | ⟨rfl, rfl, h4⟩
  · refine J_nf (nh2 := nh) (ck2 := 0) (sk2 := 0) (st2 := [.int (zI 1)]) rfl rfl rfl rfl ?_
    refine Z_if_ne (tgt := 13) dX11_sorted_8 (by decide) v_4dcc24baa7 (fun h5 => ?_) (fun h5 => absurd h5 v_3a47bfd896)
    refine J_aload_n dX11_sorted_13 rfl rfl ?_
    refine J_get (v := .ref 85) dX11_sorted_14 fl_X11_73 hk0 rfl ?_
    refine J_callV (st := []) dX11_sorted_17 cv_X11_270 (m_prepare many places lc fo wc cc sc gla gra sa sb q25 q26 q27 q28 q5 q6 q7 q8 q9 q10 q11 q12 q13 q14 q34 q35 q21 q22 hk85 hk51 hk1 hk86 hk87 hk15 hk16) hk85 rfl rfl (Nat.le_of_ble_eq_true rfl) ⟨(Nat.le_of_ble_eq_true rfl), (Nat.le_of_ble_eq_true rfl)⟩ ⟨(Nat.le_of_ble_eq_true rfl), (Nat.le_of_ble_eq_true rfl)⟩ (fun r h9 hp => ?_)
    obtain ⟨f6, f7, rfl, rfl, h8, h9, h10, h11⟩ := hp
    refine J_nf (nh2 := nh) (ck2 := 0) (sk2 := 0) (st2 := []) rfl rfl rfl rfl ?_
    refine J_app (L3 := [(86, .inl (0, 12, .inl (zA f6))), (87, .inl (0, 12, .inl (zA f7)))]) rfl ?_
    refine J_aload_n dX11_sorted_20 rfl rfl ?_
    refine J_get (v := .ref 85) dX11_sorted_21 fl_X11_73 hk0 rfl ?_
    refine J_iload_n dX11_sorted_24 rfl rfl ?_
    refine J_callV (st := []) dX11_sorted_25 cv_X11_283 (m_result x many places rf lc fo wc cc sc f6 f7 ff sa sb h1 h2 q25 q26 q27 q28 q32 q5 q6 q7 q8 q9 q10 q11 q12 q13 q14 h8 h9 q4 q29 q30 q31 q1 h10 h11 hk85 hk51 hk52 hk1 rfl rfl) hk85 rfl rfl (Nat.le_of_ble_eq_true rfl) ⟨(Nat.le_of_ble_eq_true rfl), (Nat.le_of_ble_eq_true rfl)⟩ ⟨(Nat.le_of_ble_eq_true rfl), (Nat.le_of_ble_eq_true rfl)⟩ (fun r h9 hp => ?_)
    obtain ⟨z12, rfl, rfl, h13, h14, h15⟩ := hp
    refine J_nf (nh2 := nh) (ck2 := 0) (sk2 := 0) (st2 := [.int (zI z12)]) rfl rfl rfl rfl ?_
    exact J_iret dX11_sorted_28 rfl rfl (Nat.le_of_ble_eq_true rfl) (Nat.le_of_ble_eq_true rfl) (Or.inr ⟨z12, f6, f7, rfl, rfl, h8, h9, (⟨(v_2b02420001 h1), (v_d7c2909a09 q29 h2)⟩), h15⟩)
  · refine J_nf (nh2 := nh) (ck2 := 0) (sk2 := 0) (st2 := [.int (zI 0)]) rfl rfl rfl rfl ?_
    refine Z_if_ne (tgt := 13) dX11_sorted_8 (by decide) v_b17331891f (fun h16 => absurd h16 (fun q => q v_2ca2bbca1f)) (fun h16 => ?_)
    refine Z_iconst (n := -1) dX11_sorted_11 ?_
    exact J_iret dX11_sorted_12 rfl rfl (Nat.le_of_ble_eq_true rfl) (Nat.le_of_ble_eq_true rfl) (Or.inl ⟨rfl, rfl, (fun q => absurd q.1 (v_dccefa8cdf h3))⟩)
  · refine J_nf (nh2 := nh) (ck2 := 0) (sk2 := 0) (st2 := [.int (zI 0)]) rfl rfl rfl rfl ?_
    refine Z_if_ne (tgt := 13) dX11_sorted_8 (by decide) v_b17331891f (fun h17 => absurd h17 (fun q => q v_2ca2bbca1f)) (fun h17 => ?_)
    refine Z_iconst (n := -1) dX11_sorted_11 ?_
    exact J_iret dX11_sorted_12 rfl rfl (Nat.le_of_ble_eq_true rfl) (Nat.le_of_ble_eq_true rfl) (Or.inl ⟨rfl, rfl, (fun q => absurd q.2 (v_f9e33a7fad q29 h4))⟩)
