/-! links -/
abbrev MX0_many : jM := (RX0, cX0_many, 1, some .int, false)
set_option maxRecDepth 20000 in
theorem iX0_at : ∀ k : Nat, k < 4 → u_lay RX0 TX0 k ∈ jtb
  | 0, _ => jt1 110 rfl rfl
  | 1, _ => jt1 112 rfl rfl
  | 2, _ => jt1 114 rfl rfl
  | 3, _ => jt1 116 rfl rfl
  | (n + 4), h => absurd h (by omega)
theorem iX0 : ∀ w ∈ u_ws RX0 TX0 4, w ∈ jtb := fun w hw => by
  obtain ⟨k, hk, rfl⟩ := List.mem_map.mp hw
  exact iX0_at k (List.mem_range.mp hk)
theorem fl_X0_18 : jFL RX0 18 0 2 := ⟨_, _, _, rfl, iX0, by decide, Or.inl (jt1 108 rfl rfl)⟩
abbrev MX0_places : jM := (RX0, cX0_places, 1, some .int, false)
theorem fl_X0_22 : jFL RX0 22 0 3 := ⟨_, _, _, rfl, iX0, by decide, Or.inl (jt1 109 rfl rfl)⟩
abbrev MX0_has : jM := (RX0, cX0_has, 2, some .boolean, false)
abbrev MX0_rowOf : jM := (RX0, cX0_rowOf, 2, some .int, false)
theorem cv_X0_41 : jCV RX0 41 0 yX0_has MX0_has 1 := ⟨_, _, rfl, (jt3 76 rfl rfl), (jt3 74 rfl rfl), (jt3 75 rfl rfl), (jt1 3 rfl rfl), ⟨by decide, by decide, by decide +kernel⟩, Or.inl (jt3 85 rfl rfl)⟩
theorem fl_X0_9 : jFL RX0 9 0 0 := ⟨_, _, _, rfl, iX0, by decide, Or.inl (jt1 106 rfl rfl)⟩
abbrev MX0_shiftOf : jM := (RX0, cX0_shiftOf, 2, some .int, false)
abbrev MX0_colourAt : jM := (RX0, cX0_colourAt, 2, some .int, false)
abbrev MX0_behind : jM := (RX0, cX0_behind, 2, some .int, false)
abbrev MX0_changeBeads : jM := (RX0, cX0_changeBeads, 4, none, false)
theorem fl_X0_15 : jFL RX0 15 0 1 := ⟨_, _, _, rfl, iX0, by decide, Or.inl (jt1 107 rfl rfl)⟩
abbrev MX0_find : jM := (RX0, cX0_find, 5, some .int, false)
abbrev MX0_packed : jM := (RX0, cX0_packed, 3, some .int, false)
theorem cs_X0_33 : jCS RX0 33 yX0_behind MX0_behind 2 := ⟨(jt2 201 rfl rfl), (jt2 200 rfl rfl), (jt1 3 rfl rfl), ⟨by decide, by decide, by decide +kernel⟩, Or.inl (jt2 199 rfl rfl)⟩
abbrev MX0_nextOrder : jM := (RX0, cX0_nextOrder, 5, some .boolean, false)
theorem cv_X0_37 : jCV RX0 37 0 yX0_changeBeads MX0_changeBeads 2 := ⟨_, _, rfl, (jt2 209 rfl rfl), (jt2 208 rfl rfl), (jtp (q := (⟨"BeanStreet$Houses", "changeBeads", "(II)V"⟩, 4)) (List.mem_of_getElem? (i := 2) rfl)), (jt1 3 rfl rfl), ⟨by decide, by decide, by decide +kernel⟩, Or.inl (jt2 206 rfl rfl)⟩
abbrev MX0_settle : jM := (RX0, cX0_settle, 4, none, false)
theorem fw_X0_22 : jFW RX0 22 0 3 (.int) false := ⟨_, _, _, tyX0, rfl, iX0, tyX0_ok, nmX0, by decide, rfl, rfl, (fun h => by cases h), Or.inl (jt1 109 rfl rfl)⟩
theorem fw_X0_18 : jFW RX0 18 0 2 (.int) false := ⟨_, _, _, tyX0, rfl, iX0, tyX0_ok, nmX0, by decide, rfl, rfl, (fun h => by cases h), Or.inl (jt1 108 rfl rfl)⟩
theorem cv_X0_25 : jCV RX0 25 0 yX0_packed MX0_packed 0 := ⟨_, _, rfl, (jt2 198 rfl rfl), (jt2 197 rfl rfl), (jtp (q := (⟨"BeanStreet$Houses", "packed", "()I"⟩, 4)) (List.mem_of_getElem? (i := 0) rfl)), (jt1 3 rfl rfl), ⟨by decide, by decide, by decide +kernel⟩, Or.inl (jt2 195 rfl rfl)⟩
theorem cv_X0_29 : jCV RX0 29 0 yX0_nextOrder MX0_nextOrder 0 := ⟨_, _, rfl, (jt2 205 rfl rfl), (jt2 204 rfl rfl), (jtp (q := (⟨"BeanStreet$Houses", "nextOrder", "()Z"⟩, 4)) (List.mem_of_getElem? (i := 1) rfl)), (jt1 3 rfl rfl), ⟨by decide, by decide, by decide +kernel⟩, Or.inl (jt2 202 rfl rfl)⟩
