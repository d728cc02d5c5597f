abbrev MX8_lawful : jM := (RX8, cX8_lawful, 1, some .boolean, false)
set_option maxRecDepth 20000 in
theorem iX8_at : ∀ k : Nat, k < 14 → u_lay RX8 TX8 k ∈ jtb
  | 0, _ => jt1 69 rfl rfl
  | 1, _ => jt1 71 rfl rfl
  | 2, _ => jt1 73 rfl rfl
  | 3, _ => jt1 75 rfl rfl
  | 4, _ => jt1 77 rfl rfl
  | 5, _ => jt1 79 rfl rfl
  | 6, _ => jt1 81 rfl rfl
  | 7, _ => jt1 83 rfl rfl
  | 8, _ => jt1 85 rfl rfl
  | 9, _ => jt1 87 rfl rfl
  | 10, _ => jt1 89 rfl rfl
  | 11, _ => jt1 91 rfl rfl
  | 12, _ => jt1 93 rfl rfl
  | 13, _ => jt1 95 rfl rfl
  | (n + 14), h => absurd h (by omega)
theorem iX8 : ∀ w ∈ u_ws RX8 TX8 14, w ∈ jtb := fun w hw => by
  obtain ⟨k, hk, rfl⟩ := List.mem_map.mp hw
  exact iX8_at k (List.mem_range.mp hk)
theorem fl_X8_27 : jFL RX8 27 8 4 := ⟨_, _, _, rfl, iX8, by decide, Or.inl (jt1 48 rfl rfl)⟩
theorem fl_X8_23 : jFL RX8 23 8 3 := ⟨_, _, _, rfl, iX8, by decide, Or.inl (jt1 46 rfl rfl)⟩
abbrev MX8_wallBetween : jM := (RX8, cX8_wallBetween, 5, some .int, false)
theorem fl_X8_36 : jFL RX8 36 8 7 := ⟨_, _, _, rfl, iX8, by decide, Or.inl (jt1 53 rfl rfl)⟩
theorem fl_X8_30 : jFL RX8 30 8 5 := ⟨_, _, _, rfl, iX8, by decide, Or.inl (jt1 51 rfl rfl)⟩
theorem fl_X8_33 : jFL RX8 33 8 6 := ⟨_, _, _, rfl, iX8, by decide, Or.inl (jt1 52 rfl rfl)⟩
abbrev MX8_addWall : jM := (RX8, cX8_addWall, 3, none, false)
theorem fw_X8_36 : jFW RX8 36 8 7 (.int) false := ⟨_, _, _, tyX8, rfl, iX8, tyX8_ok, nmX8, by decide, rfl, rfl, (fun h => by cases h), Or.inl (jt1 53 rfl rfl)⟩
abbrev MX8_dropWall : jM := (RX8, cX8_dropWall, 2, none, false)
abbrev MX8_addClue : jM := (RX8, cX8_addClue, 3, none, false)
theorem fl_X8_45 : jFL RX8 45 8 10 := ⟨_, _, _, rfl, iX8, by decide, Or.inl (jt1 59 rfl rfl)⟩
theorem fl_X8_39 : jFL RX8 39 8 8 := ⟨_, _, _, rfl, iX8, by decide, Or.inl (jt1 55 rfl rfl)⟩
theorem fl_X8_42 : jFL RX8 42 8 9 := ⟨_, _, _, rfl, iX8, by decide, Or.inl (jt1 57 rfl rfl)⟩
theorem fw_X8_45 : jFW RX8 45 8 10 (.int) false := ⟨_, _, _, tyX8, rfl, iX8, tyX8_ok, nmX8, by decide, rfl, rfl, (fun h => by cases h), Or.inl (jt1 59 rfl rfl)⟩
abbrev MX8_addSwap : jM := (RX8, cX8_addSwap, 3, none, false)
theorem fl_X8_54 : jFL RX8 54 8 13 := ⟨_, _, _, rfl, iX8, by decide, Or.inl (jt1 66 rfl rfl)⟩
theorem fl_X8_48 : jFL RX8 48 8 11 := ⟨_, _, _, rfl, iX8, by decide, Or.inl (jt1 62 rfl rfl)⟩
theorem fl_X8_51 : jFL RX8 51 8 12 := ⟨_, _, _, rfl, iX8, by decide, Or.inl (jt1 64 rfl rfl)⟩
theorem fw_X8_54 : jFW RX8 54 8 13 (.int) false := ⟨_, _, _, tyX8, rfl, iX8, tyX8_ok, nmX8, by decide, rfl, rfl, (fun h => by cases h), Or.inl (jt1 66 rfl rfl)⟩
abbrev MX8_dropSwapsBeyond : jM := (RX8, cX8_dropSwapsBeyond, 4, none, false)
theorem cv_X8_63 : jCV RX8 63 8 yX8_addSwap MX8_addSwap 2 := ⟨_, _, rfl, (jt3 48 rfl rfl), (jt3 46 rfl rfl), (jt3 47 rfl rfl), (jt1 2 rfl rfl), ⟨by decide, by decide, by decide +kernel⟩, Or.inl (jt3 45 rfl rfl)⟩
theorem dX8_lawful_0 : decode cX8_lawful 0 = .ok (.aload_n 0, 1) := by decide +kernel
theorem dX8_lawful_1 : decode cX8_lawful 1 = .ok (.getfield 27, 3) := by decide +kernel
theorem dX8_lawful_4 : decode cX8_lawful 4 = .ok (.ifCond .lt 18, 3) := by decide +kernel
theorem dX8_lawful_22 : decode cX8_lawful 22 = .ok (.iconst 0, 1) := by decide +kernel
theorem dX8_lawful_23 : decode cX8_lawful 23 = .ok (.ireturn, 1) := by decide +kernel
theorem dX8_lawful_7 : decode cX8_lawful 7 = .ok (.aload_n 0, 1) := by decide +kernel
theorem dX8_lawful_8 : decode cX8_lawful 8 = .ok (.getfield 27, 3) := by decide +kernel
theorem dX8_lawful_11 : decode cX8_lawful 11 = .ok (.aload_n 0, 1) := by decide +kernel
theorem dX8_lawful_12 : decode cX8_lawful 12 = .ok (.getfield 23, 3) := by decide +kernel
theorem dX8_lawful_15 : decode cX8_lawful 15 = .ok (.if_icmp .ge 7, 3) := by decide +kernel
theorem dX8_lawful_18 : decode cX8_lawful 18 = .ok (.iconst 1, 1) := by decide +kernel
theorem dX8_lawful_19 : decode cX8_lawful 19 = .ok (.goto 4, 3) := by decide +kernel
theorem dX8_wallBetween_0 : decode cX8_wallBetween 0 = .ok (.iconst 0, 1) := by decide +kernel
theorem dX8_wallBetween_1 : decode cX8_wallBetween 1 = .ok (.istore_n 3, 1) := by decide +kernel
theorem dX8_wallBetween_2 : decode cX8_wallBetween 2 = .ok (.iload_n 3, 1) := by decide +kernel
theorem dX8_wallBetween_3 : decode cX8_wallBetween 3 = .ok (.aload_n 0, 1) := by decide +kernel
theorem dX8_wallBetween_4 : decode cX8_wallBetween 4 = .ok (.getfield 36, 3) := by decide +kernel
theorem dX8_wallBetween_7 : decode cX8_wallBetween 7 = .ok (.if_icmp .ge 63, 3) := by decide +kernel
theorem dX8_wallBetween_70 : decode cX8_wallBetween 70 = .ok (.iconst (-1), 1) := by decide +kernel
theorem dX8_wallBetween_71 : decode cX8_wallBetween 71 = .ok (.ireturn, 1) := by decide +kernel
theorem dX8_wallBetween_10 : decode cX8_wallBetween 10 = .ok (.aload_n 0, 1) := by decide +kernel
theorem dX8_wallBetween_11 : decode cX8_wallBetween 11 = .ok (.getfield 30, 3) := by decide +kernel
theorem dX8_wallBetween_14 : decode cX8_wallBetween 14 = .ok (.iload_n 3, 1) := by decide +kernel
theorem dX8_wallBetween_15 : decode cX8_wallBetween 15 = .ok (.iaload, 1) := by decide +kernel
theorem dX8_wallBetween_16 : decode cX8_wallBetween 16 = .ok (.iload_n 1, 1) := by decide +kernel
theorem dX8_wallBetween_17 : decode cX8_wallBetween 17 = .ok (.if_icmp .ne 17, 3) := by decide +kernel
theorem dX8_wallBetween_34 : decode cX8_wallBetween 34 = .ok (.iconst 0, 1) := by decide +kernel
theorem dX8_wallBetween_35 : decode cX8_wallBetween 35 = .ok (.istore 4, 2) := by decide +kernel
theorem dX8_wallBetween_37 : decode cX8_wallBetween 37 = .ok (.iload 4, 2) := by decide +kernel
theorem dX8_wallBetween_39 : decode cX8_wallBetween 39 = .ok (.ifCond .ne 23, 3) := by decide +kernel
theorem dX8_wallBetween_42 : decode cX8_wallBetween 42 = .ok (.aload_n 0, 1) := by decide +kernel
theorem dX8_wallBetween_43 : decode cX8_wallBetween 43 = .ok (.getfield 30, 3) := by decide +kernel
theorem dX8_wallBetween_46 : decode cX8_wallBetween 46 = .ok (.iload_n 3, 1) := by decide +kernel
theorem dX8_wallBetween_47 : decode cX8_wallBetween 47 = .ok (.iaload, 1) := by decide +kernel
theorem dX8_wallBetween_48 : decode cX8_wallBetween 48 = .ok (.iload_n 2, 1) := by decide +kernel
theorem dX8_wallBetween_49 : decode cX8_wallBetween 49 = .ok (.if_icmp .ne 15, 3) := by decide +kernel
theorem dX8_wallBetween_64 : decode cX8_wallBetween 64 = .ok (.iinc 3 1, 3) := by decide +kernel
theorem dX8_wallBetween_67 : decode cX8_wallBetween 67 = .ok (.goto (-65), 3) := by decide +kernel
theorem dX8_wallBetween_52 : decode cX8_wallBetween 52 = .ok (.aload_n 0, 1) := by decide +kernel
theorem dX8_wallBetween_53 : decode cX8_wallBetween 53 = .ok (.getfield 33, 3) := by decide +kernel
theorem dX8_wallBetween_56 : decode cX8_wallBetween 56 = .ok (.iload_n 3, 1) := by decide +kernel
theorem dX8_wallBetween_57 : decode cX8_wallBetween 57 = .ok (.iaload, 1) := by decide +kernel
theorem dX8_wallBetween_58 : decode cX8_wallBetween 58 = .ok (.iload_n 1, 1) := by decide +kernel
theorem dX8_wallBetween_59 : decode cX8_wallBetween 59 = .ok (.if_icmp .ne 5, 3) := by decide +kernel
theorem dX8_wallBetween_62 : decode cX8_wallBetween 62 = .ok (.iload_n 3, 1) := by decide +kernel
theorem dX8_wallBetween_63 : decode cX8_wallBetween 63 = .ok (.ireturn, 1) := by decide +kernel
theorem dX8_wallBetween_20 : decode cX8_wallBetween 20 = .ok (.aload_n 0, 1) := by decide +kernel
theorem dX8_wallBetween_21 : decode cX8_wallBetween 21 = .ok (.getfield 33, 3) := by decide +kernel
theorem dX8_wallBetween_24 : decode cX8_wallBetween 24 = .ok (.iload_n 3, 1) := by decide +kernel
theorem dX8_wallBetween_25 : decode cX8_wallBetween 25 = .ok (.iaload, 1) := by decide +kernel
theorem dX8_wallBetween_26 : decode cX8_wallBetween 26 = .ok (.iload_n 2, 1) := by decide +kernel
theorem dX8_wallBetween_27 : decode cX8_wallBetween 27 = .ok (.if_icmp .ne 7, 3) := by decide +kernel
theorem dX8_wallBetween_30 : decode cX8_wallBetween 30 = .ok (.iconst 1, 1) := by decide +kernel
theorem dX8_wallBetween_31 : decode cX8_wallBetween 31 = .ok (.goto 4, 3) := by decide +kernel
theorem dX8_addWall_0 : decode cX8_addWall 0 = .ok (.aload_n 0, 1) := by decide +kernel
theorem dX8_addWall_1 : decode cX8_addWall 1 = .ok (.getfield 36, 3) := by decide +kernel
theorem dX8_addWall_4 : decode cX8_addWall 4 = .ok (.bipush 8, 2) := by decide +kernel
theorem dX8_addWall_6 : decode cX8_addWall 6 = .ok (.if_icmp .ge 33, 3) := by decide +kernel
theorem dX8_addWall_39 : decode cX8_addWall 39 = .ok (.return_, 1) := by decide +kernel
theorem dX8_addWall_9 : decode cX8_addWall 9 = .ok (.aload_n 0, 1) := by decide +kernel
theorem dX8_addWall_10 : decode cX8_addWall 10 = .ok (.getfield 30, 3) := by decide +kernel
theorem dX8_addWall_13 : decode cX8_addWall 13 = .ok (.aload_n 0, 1) := by decide +kernel
theorem dX8_addWall_14 : decode cX8_addWall 14 = .ok (.getfield 36, 3) := by decide +kernel
theorem dX8_addWall_17 : decode cX8_addWall 17 = .ok (.iload_n 1, 1) := by decide +kernel
theorem dX8_addWall_18 : decode cX8_addWall 18 = .ok (.iastore, 1) := by decide +kernel
theorem dX8_addWall_19 : decode cX8_addWall 19 = .ok (.aload_n 0, 1) := by decide +kernel
theorem dX8_addWall_20 : decode cX8_addWall 20 = .ok (.getfield 33, 3) := by decide +kernel
theorem dX8_addWall_23 : decode cX8_addWall 23 = .ok (.aload_n 0, 1) := by decide +kernel
theorem dX8_addWall_24 : decode cX8_addWall 24 = .ok (.getfield 36, 3) := by decide +kernel
theorem dX8_addWall_27 : decode cX8_addWall 27 = .ok (.iload_n 2, 1) := by decide +kernel
theorem dX8_addWall_28 : decode cX8_addWall 28 = .ok (.iastore, 1) := by decide +kernel
theorem dX8_addWall_29 : decode cX8_addWall 29 = .ok (.aload_n 0, 1) := by decide +kernel
theorem dX8_addWall_30 : decode cX8_addWall 30 = .ok (.dup, 1) := by decide +kernel
theorem dX8_addWall_31 : decode cX8_addWall 31 = .ok (.getfield 36, 3) := by decide +kernel
theorem dX8_addWall_34 : decode cX8_addWall 34 = .ok (.iconst 1, 1) := by decide +kernel
theorem dX8_addWall_35 : decode cX8_addWall 35 = .ok (.iadd, 1) := by decide +kernel
theorem dX8_addWall_36 : decode cX8_addWall 36 = .ok (.putfield 36, 3) := by decide +kernel
theorem dX8_dropWall_0 : decode cX8_dropWall 0 = .ok (.iload_n 1, 1) := by decide +kernel
theorem dX8_dropWall_1 : decode cX8_dropWall 1 = .ok (.ifCond .lt 51, 3) := by decide +kernel
theorem dX8_dropWall_4 : decode cX8_dropWall 4 = .ok (.iload_n 1, 1) := by decide +kernel
theorem dX8_dropWall_5 : decode cX8_dropWall 5 = .ok (.aload_n 0, 1) := by decide +kernel
theorem dX8_dropWall_6 : decode cX8_dropWall 6 = .ok (.getfield 36, 3) := by decide +kernel
theorem dX8_dropWall_9 : decode cX8_dropWall 9 = .ok (.if_icmp .ge 43, 3) := by decide +kernel
theorem dX8_dropWall_12 : decode cX8_dropWall 12 = .ok (.aload_n 0, 1) := by decide +kernel
theorem dX8_dropWall_13 : decode cX8_dropWall 13 = .ok (.dup, 1) := by decide +kernel
theorem dX8_dropWall_14 : decode cX8_dropWall 14 = .ok (.getfield 36, 3) := by decide +kernel
theorem dX8_dropWall_17 : decode cX8_dropWall 17 = .ok (.iconst 1, 1) := by decide +kernel
theorem dX8_dropWall_18 : decode cX8_dropWall 18 = .ok (.isub, 1) := by decide +kernel
theorem dX8_dropWall_19 : decode cX8_dropWall 19 = .ok (.putfield 36, 3) := by decide +kernel
theorem dX8_dropWall_22 : decode cX8_dropWall 22 = .ok (.aload_n 0, 1) := by decide +kernel
theorem dX8_dropWall_23 : decode cX8_dropWall 23 = .ok (.getfield 30, 3) := by decide +kernel
theorem dX8_dropWall_26 : decode cX8_dropWall 26 = .ok (.iload_n 1, 1) := by decide +kernel
theorem dX8_dropWall_27 : decode cX8_dropWall 27 = .ok (.aload_n 0, 1) := by decide +kernel
theorem dX8_dropWall_28 : decode cX8_dropWall 28 = .ok (.getfield 30, 3) := by decide +kernel
theorem dX8_dropWall_31 : decode cX8_dropWall 31 = .ok (.aload_n 0, 1) := by decide +kernel
theorem dX8_dropWall_32 : decode cX8_dropWall 32 = .ok (.getfield 36, 3) := by decide +kernel
theorem dX8_dropWall_35 : decode cX8_dropWall 35 = .ok (.iaload, 1) := by decide +kernel
theorem dX8_dropWall_36 : decode cX8_dropWall 36 = .ok (.iastore, 1) := by decide +kernel
theorem dX8_dropWall_37 : decode cX8_dropWall 37 = .ok (.aload_n 0, 1) := by decide +kernel
theorem dX8_dropWall_38 : decode cX8_dropWall 38 = .ok (.getfield 33, 3) := by decide +kernel
theorem dX8_dropWall_41 : decode cX8_dropWall 41 = .ok (.iload_n 1, 1) := by decide +kernel
theorem dX8_dropWall_42 : decode cX8_dropWall 42 = .ok (.aload_n 0, 1) := by decide +kernel
theorem dX8_dropWall_43 : decode cX8_dropWall 43 = .ok (.getfield 33, 3) := by decide +kernel
theorem dX8_dropWall_46 : decode cX8_dropWall 46 = .ok (.aload_n 0, 1) := by decide +kernel
theorem dX8_dropWall_47 : decode cX8_dropWall 47 = .ok (.getfield 36, 3) := by decide +kernel
theorem dX8_dropWall_50 : decode cX8_dropWall 50 = .ok (.iaload, 1) := by decide +kernel
theorem dX8_dropWall_51 : decode cX8_dropWall 51 = .ok (.iastore, 1) := by decide +kernel
theorem dX8_dropWall_52 : decode cX8_dropWall 52 = .ok (.return_, 1) := by decide +kernel
theorem dX8_addClue_0 : decode cX8_addClue 0 = .ok (.aload_n 0, 1) := by decide +kernel
theorem dX8_addClue_1 : decode cX8_addClue 1 = .ok (.getfield 45, 3) := by decide +kernel
theorem dX8_addClue_4 : decode cX8_addClue 4 = .ok (.bipush 6, 2) := by decide +kernel
theorem dX8_addClue_6 : decode cX8_addClue 6 = .ok (.if_icmp .ge 33, 3) := by decide +kernel
theorem dX8_addClue_39 : decode cX8_addClue 39 = .ok (.return_, 1) := by decide +kernel
theorem dX8_addClue_9 : decode cX8_addClue 9 = .ok (.aload_n 0, 1) := by decide +kernel
theorem dX8_addClue_10 : decode cX8_addClue 10 = .ok (.getfield 39, 3) := by decide +kernel
theorem dX8_addClue_13 : decode cX8_addClue 13 = .ok (.aload_n 0, 1) := by decide +kernel
theorem dX8_addClue_14 : decode cX8_addClue 14 = .ok (.getfield 45, 3) := by decide +kernel
theorem dX8_addClue_17 : decode cX8_addClue 17 = .ok (.iload_n 1, 1) := by decide +kernel
theorem dX8_addClue_18 : decode cX8_addClue 18 = .ok (.iastore, 1) := by decide +kernel
theorem dX8_addClue_19 : decode cX8_addClue 19 = .ok (.aload_n 0, 1) := by decide +kernel
theorem dX8_addClue_20 : decode cX8_addClue 20 = .ok (.getfield 42, 3) := by decide +kernel
theorem dX8_addClue_23 : decode cX8_addClue 23 = .ok (.aload_n 0, 1) := by decide +kernel
theorem dX8_addClue_24 : decode cX8_addClue 24 = .ok (.getfield 45, 3) := by decide +kernel
theorem dX8_addClue_27 : decode cX8_addClue 27 = .ok (.iload_n 2, 1) := by decide +kernel
theorem dX8_addClue_28 : decode cX8_addClue 28 = .ok (.iastore, 1) := by decide +kernel
theorem dX8_addClue_29 : decode cX8_addClue 29 = .ok (.aload_n 0, 1) := by decide +kernel
theorem dX8_addClue_30 : decode cX8_addClue 30 = .ok (.dup, 1) := by decide +kernel
theorem dX8_addClue_31 : decode cX8_addClue 31 = .ok (.getfield 45, 3) := by decide +kernel
theorem dX8_addClue_34 : decode cX8_addClue 34 = .ok (.iconst 1, 1) := by decide +kernel
theorem dX8_addClue_35 : decode cX8_addClue 35 = .ok (.iadd, 1) := by decide +kernel
theorem dX8_addClue_36 : decode cX8_addClue 36 = .ok (.putfield 45, 3) := by decide +kernel
theorem dX8_addSwap_0 : decode cX8_addSwap 0 = .ok (.aload_n 0, 1) := by decide +kernel
theorem dX8_addSwap_1 : decode cX8_addSwap 1 = .ok (.getfield 54, 3) := by decide +kernel
theorem dX8_addSwap_4 : decode cX8_addSwap 4 = .ok (.bipush 12, 2) := by decide +kernel
theorem dX8_addSwap_6 : decode cX8_addSwap 6 = .ok (.if_icmp .ge 33, 3) := by decide +kernel
theorem dX8_addSwap_39 : decode cX8_addSwap 39 = .ok (.return_, 1) := by decide +kernel
theorem dX8_addSwap_9 : decode cX8_addSwap 9 = .ok (.aload_n 0, 1) := by decide +kernel
theorem dX8_addSwap_10 : decode cX8_addSwap 10 = .ok (.getfield 48, 3) := by decide +kernel
theorem dX8_addSwap_13 : decode cX8_addSwap 13 = .ok (.aload_n 0, 1) := by decide +kernel
theorem dX8_addSwap_14 : decode cX8_addSwap 14 = .ok (.getfield 54, 3) := by decide +kernel
theorem dX8_addSwap_17 : decode cX8_addSwap 17 = .ok (.iload_n 1, 1) := by decide +kernel
theorem dX8_addSwap_18 : decode cX8_addSwap 18 = .ok (.iastore, 1) := by decide +kernel
theorem dX8_addSwap_19 : decode cX8_addSwap 19 = .ok (.aload_n 0, 1) := by decide +kernel
theorem dX8_addSwap_20 : decode cX8_addSwap 20 = .ok (.getfield 51, 3) := by decide +kernel
theorem dX8_addSwap_23 : decode cX8_addSwap 23 = .ok (.aload_n 0, 1) := by decide +kernel
theorem dX8_addSwap_24 : decode cX8_addSwap 24 = .ok (.getfield 54, 3) := by decide +kernel
theorem dX8_addSwap_27 : decode cX8_addSwap 27 = .ok (.iload_n 2, 1) := by decide +kernel
theorem dX8_addSwap_28 : decode cX8_addSwap 28 = .ok (.iastore, 1) := by decide +kernel
theorem dX8_addSwap_29 : decode cX8_addSwap 29 = .ok (.aload_n 0, 1) := by decide +kernel
theorem dX8_addSwap_30 : decode cX8_addSwap 30 = .ok (.dup, 1) := by decide +kernel
theorem dX8_addSwap_31 : decode cX8_addSwap 31 = .ok (.getfield 54, 3) := by decide +kernel
theorem dX8_addSwap_34 : decode cX8_addSwap 34 = .ok (.iconst 1, 1) := by decide +kernel
theorem dX8_addSwap_35 : decode cX8_addSwap 35 = .ok (.iadd, 1) := by decide +kernel
theorem dX8_addSwap_36 : decode cX8_addSwap 36 = .ok (.putfield 54, 3) := by decide +kernel
theorem dX8_dropSwapsBeyond_0 : decode cX8_dropSwapsBeyond 0 = .ok (.aload_n 0, 1) := by decide +kernel
theorem dX8_dropSwapsBeyond_1 : decode cX8_dropSwapsBeyond 1 = .ok (.getfield 54, 3) := by decide +kernel
theorem dX8_dropSwapsBeyond_4 : decode cX8_dropSwapsBeyond 4 = .ok (.istore_n 2, 1) := by decide +kernel
theorem dX8_dropSwapsBeyond_5 : decode cX8_dropSwapsBeyond 5 = .ok (.aload_n 0, 1) := by decide +kernel
theorem dX8_dropSwapsBeyond_6 : decode cX8_dropSwapsBeyond 6 = .ok (.iconst 0, 1) := by decide +kernel
theorem dX8_dropSwapsBeyond_7 : decode cX8_dropSwapsBeyond 7 = .ok (.putfield 54, 3) := by decide +kernel
theorem dX8_dropSwapsBeyond_10 : decode cX8_dropSwapsBeyond 10 = .ok (.iconst 0, 1) := by decide +kernel
theorem dX8_dropSwapsBeyond_11 : decode cX8_dropSwapsBeyond 11 = .ok (.istore_n 3, 1) := by decide +kernel
theorem dX8_dropSwapsBeyond_12 : decode cX8_dropSwapsBeyond 12 = .ok (.iload_n 3, 1) := by decide +kernel
theorem dX8_dropSwapsBeyond_13 : decode cX8_dropSwapsBeyond 13 = .ok (.iload_n 2, 1) := by decide +kernel
theorem dX8_dropSwapsBeyond_14 : decode cX8_dropSwapsBeyond 14 = .ok (.if_icmp .ge 35, 3) := by decide +kernel
theorem dX8_dropSwapsBeyond_49 : decode cX8_dropSwapsBeyond 49 = .ok (.return_, 1) := by decide +kernel
theorem dX8_dropSwapsBeyond_17 : decode cX8_dropSwapsBeyond 17 = .ok (.aload_n 0, 1) := by decide +kernel
theorem dX8_dropSwapsBeyond_18 : decode cX8_dropSwapsBeyond 18 = .ok (.getfield 51, 3) := by decide +kernel
theorem dX8_dropSwapsBeyond_21 : decode cX8_dropSwapsBeyond 21 = .ok (.iload_n 3, 1) := by decide +kernel
theorem dX8_dropSwapsBeyond_22 : decode cX8_dropSwapsBeyond 22 = .ok (.iaload, 1) := by decide +kernel
theorem dX8_dropSwapsBeyond_23 : decode cX8_dropSwapsBeyond 23 = .ok (.iload_n 1, 1) := by decide +kernel
theorem dX8_dropSwapsBeyond_24 : decode cX8_dropSwapsBeyond 24 = .ok (.if_icmp .ge 19, 3) := by decide +kernel
theorem dX8_dropSwapsBeyond_43 : decode cX8_dropSwapsBeyond 43 = .ok (.iinc 3 1, 3) := by decide +kernel
theorem dX8_dropSwapsBeyond_46 : decode cX8_dropSwapsBeyond 46 = .ok (.goto (-34), 3) := by decide +kernel
theorem dX8_dropSwapsBeyond_27 : decode cX8_dropSwapsBeyond 27 = .ok (.aload_n 0, 1) := by decide +kernel
theorem dX8_dropSwapsBeyond_28 : decode cX8_dropSwapsBeyond 28 = .ok (.aload_n 0, 1) := by decide +kernel
theorem dX8_dropSwapsBeyond_29 : decode cX8_dropSwapsBeyond 29 = .ok (.getfield 48, 3) := by decide +kernel
theorem dX8_dropSwapsBeyond_32 : decode cX8_dropSwapsBeyond 32 = .ok (.iload_n 3, 1) := by decide +kernel
theorem dX8_dropSwapsBeyond_33 : decode cX8_dropSwapsBeyond 33 = .ok (.iaload, 1) := by decide +kernel
theorem dX8_dropSwapsBeyond_34 : decode cX8_dropSwapsBeyond 34 = .ok (.aload_n 0, 1) := by decide +kernel
theorem dX8_dropSwapsBeyond_35 : decode cX8_dropSwapsBeyond 35 = .ok (.getfield 51, 3) := by decide +kernel
theorem dX8_dropSwapsBeyond_38 : decode cX8_dropSwapsBeyond 38 = .ok (.iload_n 3, 1) := by decide +kernel
theorem dX8_dropSwapsBeyond_39 : decode cX8_dropSwapsBeyond 39 = .ok (.iaload, 1) := by decide +kernel
theorem dX8_dropSwapsBeyond_40 : decode cX8_dropSwapsBeyond 40 = .ok (.invokevirtual 63, 3) := by decide +kernel
theorem v_929777dfeb {a0 a1 : Int} (h0 : a0 ≤ 6) (h1 : -1 ≤ a1) (h2 : a1 < a0) : zr a1 := by omega
theorem v_3f97f26667 {a0 : Int} (h0 : -1 ≤ a0) (h1 : a0 < 0) : a0 = -1 := by omega
theorem v_9ec424b8ff {a0 a1 : Int} (h0 : a0 ≤ 6) (h1 : a1 < a0) (h2 : ¬ a1 < 0) : zr a1 := by omega
theorem v_5fd3895a24 {a0 : Int} (h0 : 0 ≤ a0) (h1 : a0 ≤ 6) : zr a0 := by omega
theorem v_986f57815b {a0 a1 : Int} (h0 : a0 < a1) : ¬ a1 ≤ a0 := by omega
theorem v_5a546eabe2 {a0 a1 : Int} (h0 : a0 ≤ 8) (h1 : 0 ≤ a1) (h2 : a1 ≤ a0) : zr a1 := by omega
theorem v_9b2fd7ca71 {a0 : Int} (h0 : 0 ≤ a0) (h1 : a0 ≤ 8) : zr a0 := by omega
theorem v_d464d4c634 {a0 a1 : Int} (h0 : a0 ≤ a1) : a0 ≤ a1 := by omega
theorem v_bcbcd5a537 {a0 a1 : Int} (h0 : a0 ≤ 8) (h1 : ¬ a0 ≤ a1) : a1 < 8 := by omega
theorem v_b25b5bac89 {a0 a1 a2 a3 : Int} (h0 : a0 = a1) (h1 : ¬ a2 = a3) (h2 : a0 = a3) : ¬ a2 = a1 := by omega
theorem v_665891e294 : zr 8 := by omega
theorem v_ac000772f3 {a0 : Int} (h0 : ¬ 8 ≤ a0) : a0 < 8 := by omega
theorem v_f21373184d {a0 a1 : Int} (h0 : 0 ≤ a0) (h1 : a0 < a1) (h2 : a1 ≤ 8) : zr a0 := by omega
theorem v_0681977acf {a0 : Int} (h0 : 0 ≤ a0) : ¬ a0 < 0 := by omega
theorem v_1f6cc204e9 {a0 a1 : Int} (h0 : 0 ≤ a0) (h1 : a0 < a1) : 0 ≤ a1 - 1 := by omega
theorem v_4372543f49 {a0 : Int} (h0 : a0 ≤ 8) : a0 - 1 < 8 := by omega
theorem v_d743e2fb81 {a0 a1 : Int} (h0 : a0 < a1) (h1 : a1 ≤ 8) : a0 < 8 := by omega
theorem v_d88ddc6924 {a0 : Int} (h0 : -2147483648 ≤ a0) : -2147483648 ≤ a0 := by omega
theorem v_1b64565166 {a0 : Int} (h0 : a0 ≤ 2147483647) : a0 ≤ 2147483647 := by omega
theorem v_8f5ecbc95e : zr 6 := by omega
theorem v_abec2aeab4 {a0 : Int} (h0 : ¬ 6 ≤ a0) : a0 < 6 := by omega
theorem v_c11e42827f {a0 : Int} (h0 : 0 ≤ a0) : -2147483648 ≤ a0 := by omega
theorem v_a0572702c4 {a0 : Int} : a0 = a0 := by omega
theorem v_e828b09c4d {a0 : Int} : (a0 + 1) = a0 + 1 := by omega
theorem v_d1bccf29d4 {a0 a1 : Int} (h0 : a0 < a1) : a0 ≤ a1 - 1 := by omega
theorem v_00eb067ff8 {a0 : Int} (h0 : 0 ≤ a0) (h1 : a0 ≤ 12) : zr a0 := by omega
theorem v_1288359c70 : zr 12 := by omega
theorem v_ee754d70b9 {a0 : Int} (h0 : ¬ 12 ≤ a0) : a0 < 12 := by omega
theorem v_61f36a8678 {a0 : Int} (h0 : a0 ≤ 6) : a0 ≤ 6 := by omega
theorem v_d7c76a7f82 {a0 a1 : Int} (h0 : a0 ≤ 12) (h1 : 0 ≤ a1) (h2 : a1 ≤ a0) : zr a1 := by omega
theorem v_68b17b388f {a0 a1 a2 : Int} (h0 : a0 ≤ 12) (h1 : a1 ≤ a0) (h2 : a2 ≤ a1) : a2 ≤ 12 := by omega
theorem v_9f7d34bcbb {a0 a1 : Int} (h0 : a0 ≤ 12) (h1 : ¬ a0 ≤ a1) : a1 < 12 := by omega
theorem v_d50281bace {a0 a1 : Int} (h0 : a0 ≤ a1) : a0 ≤ (a1 + 1) := by omega
theorem v_fccc12f786 {a0 a1 a2 : Int} (h0 : a0 ≤ 12) (h1 : a1 ≤ a2) (h2 : ¬ a0 ≤ a2) : a1 ≤ 12 := by omega
theorem v_14fc63d1f2 {a0 a1 : Int} (h0 : a0 ≤ a1) : (a0 + 1) ≤ (a1 + 1) := by omega
theorem v_417807d788 {a0 a1 a2 : Int} (h0 : a0 ≤ 12) (h1 : a1 ≤ a2) (h2 : ¬ a0 ≤ a2) (h3 : 12 ≤ a1) : False := by omega
set_option maxHeartbeats 4000000 in
set_option maxRecDepth 100000 in
theorem s_lawful {l : Launch} {G : jG} {nh : Nat} {fh : Nat → Option va_E} (lc : Int) (fo : Int) (wc : Int) (cc : Int) (sc : Int) (q0 : 0 ≤ lc) (q1 : lc ≤ 6) (q2 : -1 ≤ fo) (q3 : fo < lc) (hk1 : fh 1 = some (.inr (8, [.ref 2, .ref 3, .ref 4, .int (zI lc), .int (zI fo), .ref 11, .ref 12, .int (zI wc), .ref 13, .ref 14, .int (zI cc), .ref 15, .ref 16, .int (zI sc)]))) : JM l G yX8_lawful MX8_lawful { frames := 0, cells := 0, slots := 0, locals := 0 } [.ref 1] (nh, fh) (fun rr h9 => (rr = some (.int (zI 1)) ∧ h9 = (nh, fh) ∧ (0 ≤ fo)) ∨ (rr = some (.int (zI 0)) ∧ h9 = (nh, fh) ∧ (fo = -1))) := by
  refine JM.of (by decide) rfl (fun h => by cases h) (Nat.le_of_ble_eq_true rfl) ⟨0, rfl⟩ ?_
  refine J_hc0 (J_ls (ls2 := [some (.ref 1)]) rfl ?_)
  refine J_aload_n dX8_lawful_0 rfl rfl ?_
  refine J_get (v := .int (zI fo)) dX8_lawful_1 fl_X8_27 hk1 rfl ?_
  refine Z_if_lt (tgt := 22) dX8_lawful_4 (by decide) (v_929777dfeb q1 q2 q3) (fun h1 => ?_) (fun h1 => ?_)
  · refine Z_iconst (n := 0) dX8_lawful_22 ?_
    exact J_iret dX8_lawful_23 rfl (jbn v_939070ca3f v_316afd7d0b) (Nat.le_of_ble_eq_true rfl) (Nat.le_of_ble_eq_true rfl) (Or.inr ⟨rfl, rfl, (v_3f97f26667 q2 h1)⟩)
  · refine J_aload_n dX8_lawful_7 rfl rfl ?_
    refine J_get (v := .int (zI fo)) dX8_lawful_8 fl_X8_27 hk1 rfl ?_
    refine J_aload_n dX8_lawful_11 rfl rfl ?_
    refine J_get (v := .int (zI lc)) dX8_lawful_12 fl_X8_23 hk1 rfl ?_
    refine Z_icmp_ge (tgt := 22) dX8_lawful_15 (by decide) (v_9ec424b8ff q1 q3 h1) (v_5fd3895a24 q0 q1) (fun h2 => absurd h2 (v_986f57815b q3)) (fun h2 => ?_)
    refine Z_iconst (n := 1) dX8_lawful_18 ?_
    refine J_goto (tgt := 23) dX8_lawful_19 (by decide) ?_
    exact J_iret dX8_lawful_23 rfl (jbn v_316afd7d0b v_bbcfac9b7d) (Nat.le_of_ble_eq_true rfl) (Nat.le_of_ble_eq_true rfl) (Or.inl ⟨rfl, rfl, (v_b2d8922659 h1)⟩)
set_option maxHeartbeats 4000000 in
set_option maxRecDepth 100000 in
theorem s_wallBetween {l : Launch} {G : jG} {nh : Nat} {fh : Nat → Option va_E} (x : Int) (y : Int) (lc : Int) (fo : Int) (wc : Int) (cc : Int) (sc : Int) (wa : Int → Int) (wb : Int → Int) (q0 : zr x) (q1 : zr y) (q2 : 0 ≤ lc) (q3 : lc ≤ 6) (q4 : -1 ≤ fo) (q5 : fo < lc) (q6 : 0 ≤ wc) (q7 : wc ≤ 8) (q8 : 0 ≤ cc) (q9 : cc ≤ 6) (q10 : 0 ≤ sc) (q11 : sc ≤ 12) (q12 : Rg wa 8 (-2147483648) 2147483647) (q13 : Rg wb 8 (-2147483648) 2147483647) (hk1 : fh 1 = some (.inr (8, [.ref 2, .ref 3, .ref 4, .int (zI lc), .int (zI fo), .ref 11, .ref 12, .int (zI wc), .ref 13, .ref 14, .int (zI cc), .ref 15, .ref 16, .int (zI sc)]))) (hk11 : fh 11 = some (.inl (0, 8, .inl (zA wa)))) (hk12 : fh 12 = some (.inl (0, 8, .inl (zA wb)))) : JM l G yX8_wallBetween MX8_wallBetween { frames := 0, cells := 0, slots := 0, locals := 0 } [.ref 1, .int (zI x), .int (zI y)] (nh, fh) (fun rr h9 => (∃ r : Int, rr = some (.int (zI r)) ∧ h9 = (nh, fh) ∧ (0 ≤ r) ∧ (r < wc) ∧ (WM wa wb r x y)) ∨ (rr = some (.int (zI (-1))) ∧ h9 = (nh, fh) ∧ (WNo wa wb wc x y))) := by
  refine JM.of (by decide) rfl (fun h => by cases h) (Nat.le_of_ble_eq_true rfl) ⟨2, rfl⟩ ?_
  refine J_hc0 (J_ls (ls2 := [some (.ref 1), some (.int (zI x)), some (.int (zI y)), none, none]) rfl ?_)
  refine Z_iconst (n := 0) dX8_wallBetween_0 ?_
  refine J_istore_n dX8_wallBetween_1 rfl (Nat.le_of_ble_eq_true rfl) rfl ?_
  refine J_ls (ls2 := [some (.ref 1), some (.int (zI x)), some (.int (zI y)), some (.int (zI 0)), none]) rfl ?_
  have lp2 : ∀ (N2 : Nat) (i_2 : Int), (0 ≤ i_2) → (i_2 ≤ wc) → (WNo wa wb i_2 x y) → (wc - i_2).toNat < N2 → J l G MX8_wallBetween { frames := 0, cells := 0, slots := 0, locals := 0 } jE (jMQ G { frames := 0, cells := 0, slots := 0, locals := 0 } (fun rr h9 => (∃ r : Int, rr = some (.int (zI r)) ∧ h9 = (nh, fh) ∧ (0 ≤ r) ∧ (r < wc) ∧ (WM wa wb r x y)) ∨ (rr = some (.int (zI (-1))) ∧ h9 = (nh, fh) ∧ (WNo wa wb wc x y)))) (nh, hc fh []) 0 0 2 [some (.ref 1), some (.int (zI x)), some (.int (zI y)), some (.int (zI i_2)), none] [] := by
    intro N2
    induction N2 with
    | zero => intro i_2 i2_0 i2_1 i2_2 hm; exact absurd hm (Nat.not_lt_zero _)
    | succ N2 ih2 =>
      intro i_2 i2_0 i2_1 i2_2 hm2
      refine J_iload_n dX8_wallBetween_2 rfl rfl ?_
      refine J_aload_n dX8_wallBetween_3 rfl rfl ?_
      refine J_get (v := .int (zI wc)) dX8_wallBetween_4 fl_X8_36 hk1 rfl ?_
      refine Z_icmp_ge (tgt := 70) dX8_wallBetween_7 (by decide) (v_5a546eabe2 q7 i2_0 i2_1) (v_9b2fd7ca71 q6 q7) (fun h1 => ?_) (fun h1 => ?_)
      · refine Z_iconst (n := -1) dX8_wallBetween_70 ?_
        exact J_iret dX8_wallBetween_71 rfl rfl (Nat.le_of_ble_eq_true rfl) (Nat.le_of_ble_eq_true rfl) (Or.inr ⟨rfl, rfl, (WNo.end i2_2 (v_d464d4c634 h1))⟩)
      · refine J_aload_n dX8_wallBetween_10 rfl rfl ?_
        refine J_get (v := .ref 11) dX8_wallBetween_11 fl_X8_30 hk1 rfl ?_
        refine J_iload_n dX8_wallBetween_14 rfl rfl ?_
        obtain ⟨z2, ez2⟩ : ∃ z : Int, wa i_2 = z := ⟨_, rfl⟩
        have h3 := Rg.at q12 (v_2b02420001 i2_0) (v_bcbcd5a537 q7 h1) ez2
        refine Y_iald (z := z2) 8 dX8_wallBetween_15 hk11 rfl (by decide) (v_2b02420001 i2_0) (v_bcbcd5a537 q7 h1) ez2 ?_
        refine J_iload_n dX8_wallBetween_16 rfl rfl ?_
        refine Z_icmp_ne (tgt := 34) dX8_wallBetween_17 (by decide) (v_f306e1cdb8 h3.1 h3.2) (v_b25fa51a85 q0) (fun h4 => ?_) (fun h4 => ?_)
        · refine Z_iconst (n := 0) dX8_wallBetween_34 ?_
          refine J_istore dX8_wallBetween_35 (Nat.le_of_ble_eq_true rfl) rfl ?_
          refine J_ls (ls2 := [some (.ref 1), some (.int (zI x)), some (.int (zI y)), some (.int (zI i_2)), some (.int (zI 0))]) rfl ?_
          refine J_iload dX8_wallBetween_37 rfl ?_
          refine Z_if_ne (tgt := 62) dX8_wallBetween_39 (by decide) v_b17331891f (fun h5 => absurd h5 (fun q => q v_2ca2bbca1f)) (fun h5 => ?_)
          refine J_aload_n dX8_wallBetween_42 rfl rfl ?_
          refine J_get (v := .ref 11) dX8_wallBetween_43 fl_X8_30 hk1 rfl ?_
          refine J_iload_n dX8_wallBetween_46 rfl rfl ?_
          refine Y_iald (z := z2) 8 dX8_wallBetween_47 hk11 rfl (by decide) (v_2b02420001 i2_0) (v_bcbcd5a537 q7 h1) ez2 ?_
          refine J_iload_n dX8_wallBetween_48 rfl rfl ?_
          refine Z_icmp_ne (tgt := 64) dX8_wallBetween_49 (by decide) (v_f306e1cdb8 h3.1 h3.2) (v_b25fa51a85 q1) (fun h6 => ?_) (fun h6 => ?_)
          · refine Z_iinc (c := i_2 + 1) (ls2 := [some (.ref 1), some (.int (zI x)), some (.int (zI y)), some (.int (zI (i_2 + 1))), some (.int (zI 0))]) dX8_wallBetween_64 rfl (Nat.le_of_ble_eq_true rfl) rfl rfl rfl ?_
            refine J_goto (tgt := 2) dX8_wallBetween_67 (by decide) ?_
            refine J_drop (ls2 := [some (.ref 1), some (.int (zI x)), some (.int (zI y)), some (.int (zI (i_2 + 1))), none]) [true, true, true, true, false] rfl ?_
            exact ih2 (i_2 + 1) (v_da458fa48a i2_0) (v_e390a36114 h1) (WNo.step i2_2 (by omega)) (meas_lt v_90eacd6fd4 (v_8b7dd7d486 h1) hm2)
          · refine J_aload_n dX8_wallBetween_52 rfl rfl ?_
            refine J_get (v := .ref 12) dX8_wallBetween_53 fl_X8_33 hk1 rfl ?_
            refine J_iload_n dX8_wallBetween_56 rfl rfl ?_
            obtain ⟨z7, ez7⟩ : ∃ z : Int, wb i_2 = z := ⟨_, rfl⟩
            have h8 := Rg.at q13 (v_2b02420001 i2_0) (v_bcbcd5a537 q7 h1) ez7
            refine Y_iald (z := z7) 8 dX8_wallBetween_57 hk12 rfl (by decide) (v_2b02420001 i2_0) (v_bcbcd5a537 q7 h1) ez7 ?_
            refine J_iload_n dX8_wallBetween_58 rfl rfl ?_
            refine Z_icmp_ne (tgt := 64) dX8_wallBetween_59 (by decide) (v_f306e1cdb8 h8.1 h8.2) (v_b25fa51a85 q0) (fun h9 => ?_) (fun h9 => ?_)
            · refine Z_iinc (c := i_2 + 1) (ls2 := [some (.ref 1), some (.int (zI x)), some (.int (zI y)), some (.int (zI (i_2 + 1))), some (.int (zI 0))]) dX8_wallBetween_64 rfl (Nat.le_of_ble_eq_true rfl) rfl rfl rfl ?_
              refine J_goto (tgt := 2) dX8_wallBetween_67 (by decide) ?_
              refine J_drop (ls2 := [some (.ref 1), some (.int (zI x)), some (.int (zI y)), some (.int (zI (i_2 + 1))), none]) [true, true, true, true, false] rfl ?_
              exact ih2 (i_2 + 1) (v_da458fa48a i2_0) (v_e390a36114 h1) (WNo.step i2_2 (by omega)) (meas_lt v_90eacd6fd4 (v_8b7dd7d486 h1) hm2)
            · refine J_iload_n dX8_wallBetween_62 rfl rfl ?_
              exact J_iret dX8_wallBetween_63 rfl rfl (Nat.le_of_ble_eq_true rfl) (Nat.le_of_ble_eq_true rfl) (Or.inl ⟨i_2, rfl, rfl, i2_0, (v_fe9ea41faa h1), (by show WP (wa i_2) (wb i_2) x y; omega)⟩)
        · refine J_aload_n dX8_wallBetween_20 rfl rfl ?_
          refine J_get (v := .ref 12) dX8_wallBetween_21 fl_X8_33 hk1 rfl ?_
          refine J_iload_n dX8_wallBetween_24 rfl rfl ?_
          obtain ⟨z10, ez10⟩ : ∃ z : Int, wb i_2 = z := ⟨_, rfl⟩
          have h11 := Rg.at q13 (v_2b02420001 i2_0) (v_bcbcd5a537 q7 h1) ez10
          refine Y_iald (z := z10) 8 dX8_wallBetween_25 hk12 rfl (by decide) (v_2b02420001 i2_0) (v_bcbcd5a537 q7 h1) ez10 ?_
          refine J_iload_n dX8_wallBetween_26 rfl rfl ?_
          refine Z_icmp_ne (tgt := 34) dX8_wallBetween_27 (by decide) (v_f306e1cdb8 h11.1 h11.2) (v_b25fa51a85 q1) (fun h12 => ?_) (fun h12 => ?_)
          · refine Z_iconst (n := 0) dX8_wallBetween_34 ?_
            refine J_istore dX8_wallBetween_35 (Nat.le_of_ble_eq_true rfl) rfl ?_
            refine J_ls (ls2 := [some (.ref 1), some (.int (zI x)), some (.int (zI y)), some (.int (zI i_2)), some (.int (zI 0))]) rfl ?_
            refine J_iload dX8_wallBetween_37 rfl ?_
            refine Z_if_ne (tgt := 62) dX8_wallBetween_39 (by decide) v_b17331891f (fun h13 => absurd h13 (fun q => q v_2ca2bbca1f)) (fun h13 => ?_)
            refine J_aload_n dX8_wallBetween_42 rfl rfl ?_
            refine J_get (v := .ref 11) dX8_wallBetween_43 fl_X8_30 hk1 rfl ?_
            refine J_iload_n dX8_wallBetween_46 rfl rfl ?_
            refine Y_iald (z := z2) 8 dX8_wallBetween_47 hk11 rfl (by decide) (v_2b02420001 i2_0) (v_bcbcd5a537 q7 h1) ez2 ?_
            refine J_iload_n dX8_wallBetween_48 rfl rfl ?_
            refine Z_icmp_ne (tgt := 64) dX8_wallBetween_49 (by decide) (v_f306e1cdb8 h3.1 h3.2) (v_b25fa51a85 q1) (fun h14 => ?_) (fun h14 => ?_)
            · refine Z_iinc (c := i_2 + 1) (ls2 := [some (.ref 1), some (.int (zI x)), some (.int (zI y)), some (.int (zI (i_2 + 1))), some (.int (zI 0))]) dX8_wallBetween_64 rfl (Nat.le_of_ble_eq_true rfl) rfl rfl rfl ?_
              refine J_goto (tgt := 2) dX8_wallBetween_67 (by decide) ?_
              refine J_drop (ls2 := [some (.ref 1), some (.int (zI x)), some (.int (zI y)), some (.int (zI (i_2 + 1))), none]) [true, true, true, true, false] rfl ?_
              exact ih2 (i_2 + 1) (v_da458fa48a i2_0) (v_e390a36114 h1) (WNo.step i2_2 (by omega)) (meas_lt v_90eacd6fd4 (v_8b7dd7d486 h1) hm2)
            · refine J_aload_n dX8_wallBetween_52 rfl rfl ?_
              refine J_get (v := .ref 12) dX8_wallBetween_53 fl_X8_33 hk1 rfl ?_
              refine J_iload_n dX8_wallBetween_56 rfl rfl ?_
              refine Y_iald (z := z10) 8 dX8_wallBetween_57 hk12 rfl (by decide) (v_2b02420001 i2_0) (v_bcbcd5a537 q7 h1) ez10 ?_
              refine J_iload_n dX8_wallBetween_58 rfl rfl ?_
              refine Z_icmp_ne (tgt := 64) dX8_wallBetween_59 (by decide) (v_f306e1cdb8 h11.1 h11.2) (v_b25fa51a85 q0) (fun h15 => ?_) (fun h15 => absurd h15 (v_b25b5bac89 h4 h12 h14))
              refine Z_iinc (c := i_2 + 1) (ls2 := [some (.ref 1), some (.int (zI x)), some (.int (zI y)), some (.int (zI (i_2 + 1))), some (.int (zI 0))]) dX8_wallBetween_64 rfl (Nat.le_of_ble_eq_true rfl) rfl rfl rfl ?_
              refine J_goto (tgt := 2) dX8_wallBetween_67 (by decide) ?_
              refine J_drop (ls2 := [some (.ref 1), some (.int (zI x)), some (.int (zI y)), some (.int (zI (i_2 + 1))), none]) [true, true, true, true, false] rfl ?_
              exact ih2 (i_2 + 1) (v_da458fa48a i2_0) (v_e390a36114 h1) (WNo.step i2_2 (by omega)) (meas_lt v_90eacd6fd4 (v_8b7dd7d486 h1) hm2)
          · refine Z_iconst (n := 1) dX8_wallBetween_30 ?_
            refine J_goto (tgt := 35) dX8_wallBetween_31 (by decide) ?_
            refine J_istore dX8_wallBetween_35 (Nat.le_of_ble_eq_true rfl) rfl ?_
            refine J_ls (ls2 := [some (.ref 1), some (.int (zI x)), some (.int (zI y)), some (.int (zI i_2)), some (.int (zI 1))]) rfl ?_
            refine J_iload dX8_wallBetween_37 rfl ?_
            refine Z_if_ne (tgt := 62) dX8_wallBetween_39 (by decide) v_4dcc24baa7 (fun h16 => ?_) (fun h16 => absurd h16 v_3a47bfd896)
            refine J_iload_n dX8_wallBetween_62 rfl rfl ?_
            exact J_iret dX8_wallBetween_63 rfl rfl (Nat.le_of_ble_eq_true rfl) (Nat.le_of_ble_eq_true rfl) (Or.inl ⟨i_2, rfl, rfl, i2_0, (v_fe9ea41faa h1), (by show WP (wa i_2) (wb i_2) x y; omega)⟩)
  exact lp2 _ 0 v_939070ca3f q6 (WNo_0) (Nat.lt_succ_self _)
set_option maxHeartbeats 4000000 in
set_option maxRecDepth 100000 in
theorem s_addWall {l : Launch} {G : jG} {nh : Nat} {fh : Nat → Option va_E} (x : Int) (y : Int) (lc : Int) (fo : Int) (wc : Int) (cc : Int) (sc : Int) (wa : Int → Int) (wb : Int → Int) (q0 : zr x) (q1 : zr y) (q2 : 0 ≤ lc) (q3 : lc ≤ 6) (q4 : -1 ≤ fo) (q5 : fo < lc) (q6 : 0 ≤ wc) (q7 : wc ≤ 8) (q8 : 0 ≤ cc) (q9 : cc ≤ 6) (q10 : 0 ≤ sc) (q11 : sc ≤ 12) (q12 : Rg wa 8 (-2147483648) 2147483647) (q13 : Rg wb 8 (-2147483648) 2147483647) (hk1 : fh 1 = some (.inr (8, [.ref 2, .ref 3, .ref 4, .int (zI lc), .int (zI fo), .ref 11, .ref 12, .int (zI wc), .ref 13, .ref 14, .int (zI cc), .ref 15, .ref 16, .int (zI sc)]))) (hk11 : fh 11 = some (.inl (0, 8, .inl (zA wa)))) (hk12 : fh 12 = some (.inl (0, 8, .inl (zA wb)))) : JM l G yX8_addWall MX8_addWall { frames := 0, cells := 0, slots := 0, locals := 0 } [.ref 1, .int (zI x), .int (zI y)] (nh, fh) (fun rr h9 => (∃ wa2 : Int → Int, ∃ wb2 : Int → Int, rr = none ∧ h9 = (nh, hc fh [(1, .inr (8, [.ref 2, .ref 3, .ref 4, .int (zI lc), .int (zI fo), .ref 11, .ref 12, .int (zI (wc + 1)), .ref 13, .ref 14, .int (zI cc), .ref 15, .ref 16, .int (zI sc)])), (11, .inl (0, 8, .inl (zA wa2))), (12, .inl (0, 8, .inl (zA wb2)))]) ∧ (wc < 8) ∧ (Rg wa2 8 (-2147483648) 2147483647) ∧ (Rg wb2 8 (-2147483648) 2147483647) ∧ ((wa2 = up wa wc x)) ∧ ((wb2 = up wb wc y))) ∨ (rr = none ∧ h9 = (nh, fh) ∧ (8 ≤ wc))) := by
  refine JM.of (by decide) rfl (fun h => by cases h) (Nat.le_of_ble_eq_true rfl) ⟨0, rfl⟩ ?_
  refine J_hc0 (J_ls (ls2 := [some (.ref 1), some (.int (zI x)), some (.int (zI y))]) rfl ?_)
  refine J_aload_n dX8_addWall_0 rfl rfl ?_
  refine J_get (v := .int (zI wc)) dX8_addWall_1 fl_X8_36 hk1 rfl ?_
  refine Z_bipush (n := 8) dX8_addWall_4 (by decide +kernel) ?_
  refine Z_icmp_ge (tgt := 39) dX8_addWall_6 (by decide) (v_9b2fd7ca71 q6 q7) v_665891e294 (fun h1 => ?_) (fun h1 => ?_)
  · exact J_vret dX8_addWall_39 rfl (Nat.le_of_ble_eq_true rfl) (Nat.le_of_ble_eq_true rfl) (Or.inr ⟨rfl, rfl, h1⟩)
  · refine J_aload_n dX8_addWall_9 rfl rfl ?_
    refine J_get (v := .ref 11) dX8_addWall_10 fl_X8_30 hk1 rfl ?_
    refine J_aload_n dX8_addWall_13 rfl rfl ?_
    refine J_get (v := .int (zI wc)) dX8_addWall_14 fl_X8_36 hk1 rfl ?_
    refine J_iload_n dX8_addWall_17 rfl rfl ?_
    refine Y_iast (v := x) 8 dX8_addWall_18 hk11 rfl (by decide) (v_2b02420001 q6) (v_ac000772f3 h1) (fun f2 ef2 => ?_)
    have h3 : Rg f2 8 (-2147483648) 2147483647 := Rg.ups q12 ef2 (v_9c631c66d9 q0) (v_602fda786b q0)
    refine J_aload_n dX8_addWall_19 rfl rfl ?_
    refine J_get (v := .ref 12) dX8_addWall_20 fl_X8_33 hk1 rfl ?_
    refine J_aload_n dX8_addWall_23 rfl rfl ?_
    refine J_get (v := .int (zI wc)) dX8_addWall_24 fl_X8_36 hk1 rfl ?_
    refine J_iload_n dX8_addWall_27 rfl rfl ?_
    refine Y_iast (v := y) 8 dX8_addWall_28 hk12 rfl (by decide) (v_2b02420001 q6) (v_ac000772f3 h1) (fun f4 ef4 => ?_)
    have h5 : Rg f4 8 (-2147483648) 2147483647 := Rg.ups q13 ef4 (v_9c631c66d9 q1) (v_602fda786b q1)
    refine J_aload_n dX8_addWall_29 rfl rfl ?_
    refine J_dup dX8_addWall_30 rfl ?_
    refine J_get (v := .int (zI wc)) dX8_addWall_31 fl_X8_36 hk1 rfl ?_
    refine Z_iconst (n := 1) dX8_addWall_34 ?_
    refine Z_iadd (c := wc + 1) dX8_addWall_35 rfl ?_
    refine K_put (fs2 := [.ref 2, .ref 3, .ref 4, .int (zI lc), .int (zI fo), .ref 11, .ref 12, .int (zI (wc + 1)), .ref 13, .ref 14, .int (zI cc), .ref 15, .ref 16, .int (zI sc)]) dX8_addWall_36 fw_X8_36 hk1 (Nat.le_of_ble_eq_true rfl) (fun _ => ⟨rfl, rfl⟩) rfl ?_
    refine J_touch (k := 12) (e := .inl (0, 8, .inl (zA f4))) rfl ?_
    refine J_touch (k := 11) (e := .inl (0, 8, .inl (zA f2))) rfl ?_
    refine J_touch (k := 1) (e := .inr (8, [.ref 2, .ref 3, .ref 4, .int (zI lc), .int (zI fo), .ref 11, .ref 12, .int (zI (wc + 1)), .ref 13, .ref 14, .int (zI cc), .ref 15, .ref 16, .int (zI sc)])) rfl ?_
    refine J_mask (L2 := [(1, .inr (8, [.ref 2, .ref 3, .ref 4, .int (zI lc), .int (zI fo), .ref 11, .ref 12, .int (zI (wc + 1)), .ref 13, .ref 14, .int (zI cc), .ref 15, .ref 16, .int (zI sc)])), (11, .inl (0, 8, .inl (zA f2))), (12, .inl (0, 8, .inl (zA f4)))]) (ks := [1, 11, 12, 1, 12, 11]) [true, true, true, false, false, false] rfl (by decide +kernel) rfl ?_
    exact J_vret dX8_addWall_39 rfl (Nat.le_of_ble_eq_true rfl) (Nat.le_of_ble_eq_true rfl) (Or.inl ⟨f2, f4, rfl, rfl, (v_ac000772f3 h1), h3, h5, ef2, ef4⟩)
set_option maxHeartbeats 4000000 in
set_option maxRecDepth 100000 in
theorem s_dropWall {l : Launch} {G : jG} {nh : Nat} {fh : Nat → Option va_E} (x : Int) (lc : Int) (fo : Int) (wc : Int) (cc : Int) (sc : Int) (wa : Int → Int) (wb : Int → Int) (q0 : 0 ≤ x) (q1 : x < wc) (q2 : 0 ≤ lc) (q3 : lc ≤ 6) (q4 : -1 ≤ fo) (q5 : fo < lc) (q6 : 0 ≤ wc) (q7 : wc ≤ 8) (q8 : 0 ≤ cc) (q9 : cc ≤ 6) (q10 : 0 ≤ sc) (q11 : sc ≤ 12) (q12 : Rg wa 8 (-2147483648) 2147483647) (q13 : Rg wb 8 (-2147483648) 2147483647) (hk1 : fh 1 = some (.inr (8, [.ref 2, .ref 3, .ref 4, .int (zI lc), .int (zI fo), .ref 11, .ref 12, .int (zI wc), .ref 13, .ref 14, .int (zI cc), .ref 15, .ref 16, .int (zI sc)]))) (hk11 : fh 11 = some (.inl (0, 8, .inl (zA wa)))) (hk12 : fh 12 = some (.inl (0, 8, .inl (zA wb)))) : JM l G yX8_dropWall MX8_dropWall { frames := 0, cells := 0, slots := 0, locals := 0 } [.ref 1, .int (zI x)] (nh, fh) (fun rr h9 => ∃ wa2 : Int → Int, ∃ wb2 : Int → Int, rr = none ∧ h9 = (nh, hc fh [(1, .inr (8, [.ref 2, .ref 3, .ref 4, .int (zI lc), .int (zI fo), .ref 11, .ref 12, .int (zI (wc - 1)), .ref 13, .ref 14, .int (zI cc), .ref 15, .ref 16, .int (zI sc)])), (11, .inl (0, 8, .inl (zA wa2))), (12, .inl (0, 8, .inl (zA wb2)))]) ∧ (Rg wa2 8 (-2147483648) 2147483647) ∧ (Rg wb2 8 (-2147483648) 2147483647) ∧ ((wa2 = up wa x (wa (wc - 1)))) ∧ ((wb2 = up wb x (wb (wc - 1))))) := by
  refine JM.of (by decide) rfl (fun h => by cases h) (Nat.le_of_ble_eq_true rfl) ⟨0, rfl⟩ ?_
  refine J_hc0 (J_ls (ls2 := [some (.ref 1), some (.int (zI x))]) rfl ?_)
  refine J_iload_n dX8_dropWall_0 rfl rfl ?_
  refine Z_if_lt (tgt := 52) dX8_dropWall_1 (by decide) (v_f21373184d q0 q1 q7) (fun h1 => absurd h1 (v_0681977acf q0)) (fun h1 => ?_)
  refine J_iload_n dX8_dropWall_4 rfl rfl ?_
  refine J_aload_n dX8_dropWall_5 rfl rfl ?_
  refine J_get (v := .int (zI wc)) dX8_dropWall_6 fl_X8_36 hk1 rfl ?_
  refine Z_icmp_ge (tgt := 52) dX8_dropWall_9 (by decide) (v_f21373184d q0 q1 q7) (v_9b2fd7ca71 q6 q7) (fun h2 => absurd h2 (v_986f57815b q1)) (fun h2 => ?_)
  refine J_aload_n dX8_dropWall_12 rfl rfl ?_
  refine J_dup dX8_dropWall_13 rfl ?_
  refine J_get (v := .int (zI wc)) dX8_dropWall_14 fl_X8_36 hk1 rfl ?_
  refine Z_iconst (n := 1) dX8_dropWall_17 ?_
  refine Z_isub (c := wc - 1) dX8_dropWall_18 rfl ?_
  refine K_put (fs2 := [.ref 2, .ref 3, .ref 4, .int (zI lc), .int (zI fo), .ref 11, .ref 12, .int (zI (wc - 1)), .ref 13, .ref 14, .int (zI cc), .ref 15, .ref 16, .int (zI sc)]) dX8_dropWall_19 fw_X8_36 hk1 (Nat.le_of_ble_eq_true rfl) (fun _ => ⟨rfl, rfl⟩) rfl ?_
  refine J_aload_n dX8_dropWall_22 rfl rfl ?_
  refine J_get (v := .ref 11) dX8_dropWall_23 fl_X8_30 rfl rfl ?_
  refine J_iload_n dX8_dropWall_26 rfl rfl ?_
  refine J_aload_n dX8_dropWall_27 rfl rfl ?_
  refine J_get (v := .ref 11) dX8_dropWall_28 fl_X8_30 rfl rfl ?_
  refine J_aload_n dX8_dropWall_31 rfl rfl ?_
  refine J_get (v := .int (zI (wc - 1))) dX8_dropWall_32 fl_X8_36 rfl rfl ?_
  obtain ⟨z3, ez3⟩ : ∃ z : Int, wa (wc - 1) = z := ⟨_, rfl⟩
  have h4 := Rg.at q12 (v_1f6cc204e9 q0 q1) (v_4372543f49 q7) ez3
  refine Y_iald (z := z3) 8 dX8_dropWall_35 hk11 rfl (by decide) (v_1f6cc204e9 q0 q1) (v_4372543f49 q7) ez3 ?_
  refine Y_iast (v := z3) 8 dX8_dropWall_36 hk11 rfl (by decide) (v_2b02420001 q0) (v_d743e2fb81 q1 q7) (fun f5 ef5 => ?_)
  have h6 : Rg f5 8 (-2147483648) 2147483647 := Rg.ups q12 ef5 (v_d88ddc6924 h4.1) (v_1b64565166 h4.2)
  refine J_aload_n dX8_dropWall_37 rfl rfl ?_
  refine J_get (v := .ref 12) dX8_dropWall_38 fl_X8_33 rfl rfl ?_
  refine J_iload_n dX8_dropWall_41 rfl rfl ?_
  refine J_aload_n dX8_dropWall_42 rfl rfl ?_
  refine J_get (v := .ref 12) dX8_dropWall_43 fl_X8_33 rfl rfl ?_
  refine J_aload_n dX8_dropWall_46 rfl rfl ?_
  refine J_get (v := .int (zI (wc - 1))) dX8_dropWall_47 fl_X8_36 rfl rfl ?_
  obtain ⟨z7, ez7⟩ : ∃ z : Int, wb (wc - 1) = z := ⟨_, rfl⟩
  have h8 := Rg.at q13 (v_1f6cc204e9 q0 q1) (v_4372543f49 q7) ez7
  refine Y_iald (z := z7) 8 dX8_dropWall_50 hk12 rfl (by decide) (v_1f6cc204e9 q0 q1) (v_4372543f49 q7) ez7 ?_
  refine Y_iast (v := z7) 8 dX8_dropWall_51 hk12 rfl (by decide) (v_2b02420001 q0) (v_d743e2fb81 q1 q7) (fun f9 ef9 => ?_)
  have h10 : Rg f9 8 (-2147483648) 2147483647 := Rg.ups q13 ef9 (v_d88ddc6924 h8.1) (v_1b64565166 h8.2)
  refine J_touch (k := 12) (e := .inl (0, 8, .inl (zA f9))) rfl ?_
  refine J_touch (k := 11) (e := .inl (0, 8, .inl (zA f5))) rfl ?_
  refine J_touch (k := 1) (e := .inr (8, [.ref 2, .ref 3, .ref 4, .int (zI lc), .int (zI fo), .ref 11, .ref 12, .int (zI (wc - 1)), .ref 13, .ref 14, .int (zI cc), .ref 15, .ref 16, .int (zI sc)])) rfl ?_
  refine J_mask (L2 := [(1, .inr (8, [.ref 2, .ref 3, .ref 4, .int (zI lc), .int (zI fo), .ref 11, .ref 12, .int (zI (wc - 1)), .ref 13, .ref 14, .int (zI cc), .ref 15, .ref 16, .int (zI sc)])), (11, .inl (0, 8, .inl (zA f5))), (12, .inl (0, 8, .inl (zA f9)))]) (ks := [1, 11, 12, 12, 11, 1]) [true, true, true, false, false, false] rfl (by decide +kernel) rfl ?_
  exact J_vret dX8_dropWall_52 rfl (Nat.le_of_ble_eq_true rfl) (Nat.le_of_ble_eq_true rfl) ⟨f5, f9, rfl, rfl, h6, h10, (by rw [ez3]; exact ef5), (by rw [ez7]; exact ef9)⟩
set_option maxHeartbeats 4000000 in
set_option maxRecDepth 100000 in
theorem s_addClue {l : Launch} {G : jG} {nh : Nat} {fh : Nat → Option va_E} (x : Int) (y : Int) (many : Int) (lc : Int) (fo : Int) (wc : Int) (cc : Int) (sc : Int) (ca : Int → Int) (cb : Int → Int) (q0 : zr x) (q1 : zr y) (q2 : 0 ≤ x) (q3 : x < many) (q4 : many ≤ 1260) (q5 : 0 ≤ lc) (q6 : lc ≤ 6) (q7 : -1 ≤ fo) (q8 : fo < lc) (q9 : 0 ≤ wc) (q10 : wc ≤ 8) (q11 : 0 ≤ cc) (q12 : cc ≤ 6) (q13 : 0 ≤ sc) (q14 : sc ≤ 12) (q15 : Rg ca 6 (-2147483648) 2147483647) (q16 : Rg ca cc 0 (many - 1)) (q17 : Rg cb 6 (-2147483648) 2147483647) (hk1 : fh 1 = some (.inr (8, [.ref 2, .ref 3, .ref 4, .int (zI lc), .int (zI fo), .ref 11, .ref 12, .int (zI wc), .ref 13, .ref 14, .int (zI cc), .ref 15, .ref 16, .int (zI sc)]))) (hk13 : fh 13 = some (.inl (0, 6, .inl (zA ca)))) (hk14 : fh 14 = some (.inl (0, 6, .inl (zA cb)))) : JM l G yX8_addClue MX8_addClue { frames := 0, cells := 0, slots := 0, locals := 0 } [.ref 1, .int (zI x), .int (zI y)] (nh, fh) (fun rr h9 => (∃ ca2 : Int → Int, ∃ cb2 : Int → Int, rr = none ∧ h9 = (nh, hc fh [(1, .inr (8, [.ref 2, .ref 3, .ref 4, .int (zI lc), .int (zI fo), .ref 11, .ref 12, .int (zI wc), .ref 13, .ref 14, .int (zI (cc + 1)), .ref 15, .ref 16, .int (zI sc)])), (13, .inl (0, 6, .inl (zA ca2))), (14, .inl (0, 6, .inl (zA cb2)))]) ∧ (cc < 6) ∧ (Rg ca2 6 (-2147483648) 2147483647) ∧ (Rg ca2 (cc + 1) 0 (many - 1)) ∧ (Rg cb2 6 (-2147483648) 2147483647) ∧ ((ca2 = up ca cc x)) ∧ ((cb2 = up cb cc y))) ∨ (rr = none ∧ h9 = (nh, fh) ∧ (6 ≤ cc))) := by
  refine JM.of (by decide) rfl (fun h => by cases h) (Nat.le_of_ble_eq_true rfl) ⟨0, rfl⟩ ?_
  refine J_hc0 (J_ls (ls2 := [some (.ref 1), some (.int (zI x)), some (.int (zI y))]) rfl ?_)
  refine J_aload_n dX8_addClue_0 rfl rfl ?_
  refine J_get (v := .int (zI cc)) dX8_addClue_1 fl_X8_45 hk1 rfl ?_
  refine Z_bipush (n := 6) dX8_addClue_4 (by decide +kernel) ?_
  refine Z_icmp_ge (tgt := 39) dX8_addClue_6 (by decide) (v_5fd3895a24 q11 q12) v_8f5ecbc95e (fun h1 => ?_) (fun h1 => ?_)
  · exact J_vret dX8_addClue_39 rfl (Nat.le_of_ble_eq_true rfl) (Nat.le_of_ble_eq_true rfl) (Or.inr ⟨rfl, rfl, h1⟩)
  · refine J_aload_n dX8_addClue_9 rfl rfl ?_
    refine J_get (v := .ref 13) dX8_addClue_10 fl_X8_39 hk1 rfl ?_
    refine J_aload_n dX8_addClue_13 rfl rfl ?_
    refine J_get (v := .int (zI cc)) dX8_addClue_14 fl_X8_45 hk1 rfl ?_
    refine J_iload_n dX8_addClue_17 rfl rfl ?_
    refine Y_iast (v := x) 6 dX8_addClue_18 hk13 rfl (by decide) (v_2b02420001 q11) (v_abec2aeab4 h1) (fun f2 ef2 => ?_)
    have h3 : Rg f2 6 (-2147483648) 2147483647 := Rg.ups q15 ef2 (v_c11e42827f q2) (v_602fda786b q0)
    have h4 : Rg f2 (cc + 1) 0 (many - 1) := Rg.push q16 ef2 v_a0572702c4 v_e828b09c4d (v_2b02420001 q2) (v_d1bccf29d4 q3)
    refine J_aload_n dX8_addClue_19 rfl rfl ?_
    refine J_get (v := .ref 14) dX8_addClue_20 fl_X8_42 hk1 rfl ?_
    refine J_aload_n dX8_addClue_23 rfl rfl ?_
    refine J_get (v := .int (zI cc)) dX8_addClue_24 fl_X8_45 hk1 rfl ?_
    refine J_iload_n dX8_addClue_27 rfl rfl ?_
    refine Y_iast (v := y) 6 dX8_addClue_28 hk14 rfl (by decide) (v_2b02420001 q11) (v_abec2aeab4 h1) (fun f5 ef5 => ?_)
    have h6 : Rg f5 6 (-2147483648) 2147483647 := Rg.ups q17 ef5 (v_9c631c66d9 q1) (v_602fda786b q1)
    refine J_aload_n dX8_addClue_29 rfl rfl ?_
    refine J_dup dX8_addClue_30 rfl ?_
    refine J_get (v := .int (zI cc)) dX8_addClue_31 fl_X8_45 hk1 rfl ?_
    refine Z_iconst (n := 1) dX8_addClue_34 ?_
    refine Z_iadd (c := cc + 1) dX8_addClue_35 rfl ?_
    refine K_put (fs2 := [.ref 2, .ref 3, .ref 4, .int (zI lc), .int (zI fo), .ref 11, .ref 12, .int (zI wc), .ref 13, .ref 14, .int (zI (cc + 1)), .ref 15, .ref 16, .int (zI sc)]) dX8_addClue_36 fw_X8_45 hk1 (Nat.le_of_ble_eq_true rfl) (fun _ => ⟨rfl, rfl⟩) rfl ?_
    refine J_touch (k := 14) (e := .inl (0, 6, .inl (zA f5))) rfl ?_
    refine J_touch (k := 13) (e := .inl (0, 6, .inl (zA f2))) rfl ?_
    refine J_touch (k := 1) (e := .inr (8, [.ref 2, .ref 3, .ref 4, .int (zI lc), .int (zI fo), .ref 11, .ref 12, .int (zI wc), .ref 13, .ref 14, .int (zI (cc + 1)), .ref 15, .ref 16, .int (zI sc)])) rfl ?_
    refine J_mask (L2 := [(1, .inr (8, [.ref 2, .ref 3, .ref 4, .int (zI lc), .int (zI fo), .ref 11, .ref 12, .int (zI wc), .ref 13, .ref 14, .int (zI (cc + 1)), .ref 15, .ref 16, .int (zI sc)])), (13, .inl (0, 6, .inl (zA f2))), (14, .inl (0, 6, .inl (zA f5)))]) (ks := [1, 13, 14, 1, 14, 13]) [true, true, true, false, false, false] rfl (by decide +kernel) rfl ?_
    exact J_vret dX8_addClue_39 rfl (Nat.le_of_ble_eq_true rfl) (Nat.le_of_ble_eq_true rfl) (Or.inl ⟨f2, f5, rfl, rfl, (v_abec2aeab4 h1), h3, h4, h6, ef2, ef5⟩)
set_option maxHeartbeats 4000000 in
set_option maxRecDepth 100000 in
theorem s_addSwap {l : Launch} {G : jG} {nh : Nat} {fh : Nat → Option va_E} (x : Int) (y : Int) (lc : Int) (fo : Int) (wc : Int) (cc : Int) (sc : Int) (sa : Int → Int) (sb : Int → Int) (q0 : 0 ≤ x) (q1 : x ≤ 6) (q2 : 0 ≤ y) (q3 : y ≤ 6) (q4 : 0 ≤ lc) (q5 : lc ≤ 6) (q6 : -1 ≤ fo) (q7 : fo < lc) (q8 : 0 ≤ wc) (q9 : wc ≤ 8) (q10 : 0 ≤ cc) (q11 : cc ≤ 6) (q12 : 0 ≤ sc) (q13 : sc ≤ 12) (q14 : Rg sa 12 0 6) (q15 : Rg sb 12 0 6) (hk1 : fh 1 = some (.inr (8, [.ref 2, .ref 3, .ref 4, .int (zI lc), .int (zI fo), .ref 11, .ref 12, .int (zI wc), .ref 13, .ref 14, .int (zI cc), .ref 15, .ref 16, .int (zI sc)]))) (hk15 : fh 15 = some (.inl (0, 12, .inl (zA sa)))) (hk16 : fh 16 = some (.inl (0, 12, .inl (zA sb)))) : JM l G yX8_addSwap MX8_addSwap { frames := 0, cells := 0, slots := 0, locals := 0 } [.ref 1, .int (zI x), .int (zI y)] (nh, fh) (fun rr h9 => (∃ sa2 : Int → Int, ∃ sb2 : Int → Int, rr = none ∧ h9 = (nh, hc fh [(1, .inr (8, [.ref 2, .ref 3, .ref 4, .int (zI lc), .int (zI fo), .ref 11, .ref 12, .int (zI wc), .ref 13, .ref 14, .int (zI cc), .ref 15, .ref 16, .int (zI (sc + 1))])), (15, .inl (0, 12, .inl (zA sa2))), (16, .inl (0, 12, .inl (zA sb2)))]) ∧ (sc < 12) ∧ (Rg sa2 12 0 6) ∧ (Rg sb2 12 0 6) ∧ ((sa2 = up sa sc x)) ∧ ((sb2 = up sb sc y))) ∨ (rr = none ∧ h9 = (nh, fh) ∧ (12 ≤ sc))) := by
  refine JM.of (by decide) rfl (fun h => by cases h) (Nat.le_of_ble_eq_true rfl) ⟨0, rfl⟩ ?_
  refine J_hc0 (J_ls (ls2 := [some (.ref 1), some (.int (zI x)), some (.int (zI y))]) rfl ?_)
  refine J_aload_n dX8_addSwap_0 rfl rfl ?_
  refine J_get (v := .int (zI sc)) dX8_addSwap_1 fl_X8_54 hk1 rfl ?_
  refine Z_bipush (n := 12) dX8_addSwap_4 (by decide +kernel) ?_
  refine Z_icmp_ge (tgt := 39) dX8_addSwap_6 (by decide) (v_00eb067ff8 q12 q13) v_1288359c70 (fun h1 => ?_) (fun h1 => ?_)
  · exact J_vret dX8_addSwap_39 rfl (Nat.le_of_ble_eq_true rfl) (Nat.le_of_ble_eq_true rfl) (Or.inr ⟨rfl, rfl, h1⟩)
  · refine J_aload_n dX8_addSwap_9 rfl rfl ?_
    refine J_get (v := .ref 15) dX8_addSwap_10 fl_X8_48 hk1 rfl ?_
    refine J_aload_n dX8_addSwap_13 rfl rfl ?_
    refine J_get (v := .int (zI sc)) dX8_addSwap_14 fl_X8_54 hk1 rfl ?_
    refine J_iload_n dX8_addSwap_17 rfl rfl ?_
    refine Y_iast (v := x) 12 dX8_addSwap_18 hk15 rfl (by decide) (v_2b02420001 q12) (v_ee754d70b9 h1) (fun f2 ef2 => ?_)
    have h3 : Rg f2 12 0 6 := Rg.ups q14 ef2 (v_2b02420001 q0) (v_61f36a8678 q1)
    refine J_aload_n dX8_addSwap_19 rfl rfl ?_
    refine J_get (v := .ref 16) dX8_addSwap_20 fl_X8_51 hk1 rfl ?_
    refine J_aload_n dX8_addSwap_23 rfl rfl ?_
    refine J_get (v := .int (zI sc)) dX8_addSwap_24 fl_X8_54 hk1 rfl ?_
    refine J_iload_n dX8_addSwap_27 rfl rfl ?_
    refine Y_iast (v := y) 12 dX8_addSwap_28 hk16 rfl (by decide) (v_2b02420001 q12) (v_ee754d70b9 h1) (fun f4 ef4 => ?_)
    have h5 : Rg f4 12 0 6 := Rg.ups q15 ef4 (v_2b02420001 q2) (v_61f36a8678 q3)
    refine J_aload_n dX8_addSwap_29 rfl rfl ?_
    refine J_dup dX8_addSwap_30 rfl ?_
    refine J_get (v := .int (zI sc)) dX8_addSwap_31 fl_X8_54 hk1 rfl ?_
    refine Z_iconst (n := 1) dX8_addSwap_34 ?_
    refine Z_iadd (c := sc + 1) dX8_addSwap_35 rfl ?_
    refine K_put (fs2 := [.ref 2, .ref 3, .ref 4, .int (zI lc), .int (zI fo), .ref 11, .ref 12, .int (zI wc), .ref 13, .ref 14, .int (zI cc), .ref 15, .ref 16, .int (zI (sc + 1))]) dX8_addSwap_36 fw_X8_54 hk1 (Nat.le_of_ble_eq_true rfl) (fun _ => ⟨rfl, rfl⟩) rfl ?_
    refine J_touch (k := 16) (e := .inl (0, 12, .inl (zA f4))) rfl ?_
    refine J_touch (k := 15) (e := .inl (0, 12, .inl (zA f2))) rfl ?_
    refine J_touch (k := 1) (e := .inr (8, [.ref 2, .ref 3, .ref 4, .int (zI lc), .int (zI fo), .ref 11, .ref 12, .int (zI wc), .ref 13, .ref 14, .int (zI cc), .ref 15, .ref 16, .int (zI (sc + 1))])) rfl ?_
    refine J_mask (L2 := [(1, .inr (8, [.ref 2, .ref 3, .ref 4, .int (zI lc), .int (zI fo), .ref 11, .ref 12, .int (zI wc), .ref 13, .ref 14, .int (zI cc), .ref 15, .ref 16, .int (zI (sc + 1))])), (15, .inl (0, 12, .inl (zA f2))), (16, .inl (0, 12, .inl (zA f4)))]) (ks := [1, 15, 16, 1, 16, 15]) [true, true, true, false, false, false] rfl (by decide +kernel) rfl ?_
    exact J_vret dX8_addSwap_39 rfl (Nat.le_of_ble_eq_true rfl) (Nat.le_of_ble_eq_true rfl) (Or.inl ⟨f2, f4, rfl, rfl, (v_ee754d70b9 h1), h3, h5, ef2, ef4⟩)
set_option maxHeartbeats 4000000 in
set_option maxRecDepth 100000 in
theorem s_dropSwapsBeyond {l : Launch} {G : jG} {nh : Nat} {fh : Nat → Option va_E} (p : Int) (lc : Int) (fo : Int) (wc : Int) (cc : Int) (sc : Int) (sa : Int → Int) (sb : Int → Int) (q0 : zr p) (q1 : 0 ≤ lc) (q2 : lc ≤ 6) (q3 : -1 ≤ fo) (q4 : fo < lc) (q5 : 0 ≤ wc) (q6 : wc ≤ 8) (q7 : 0 ≤ cc) (q8 : cc ≤ 6) (q9 : 0 ≤ sc) (q10 : sc ≤ 12) (q11 : Rg sa 12 0 6) (q12 : Rg sb 12 0 6) (hk1 : fh 1 = some (.inr (8, [.ref 2, .ref 3, .ref 4, .int (zI lc), .int (zI fo), .ref 11, .ref 12, .int (zI wc), .ref 13, .ref 14, .int (zI cc), .ref 15, .ref 16, .int (zI sc)]))) (hk15 : fh 15 = some (.inl (0, 12, .inl (zA sa)))) (hk16 : fh 16 = some (.inl (0, 12, .inl (zA sb)))) : JM l G yX8_dropSwapsBeyond MX8_dropSwapsBeyond { frames := 1, cells := 0, slots := 0, locals := 22 } [.ref 1, .int (zI p)] (nh, fh) (fun rr h9 => ∃ sc2 : Int, ∃ sa2 : Int → Int, ∃ sb2 : Int → Int, rr = none ∧ h9 = (nh, hc fh [(1, .inr (8, [.ref 2, .ref 3, .ref 4, .int (zI lc), .int (zI fo), .ref 11, .ref 12, .int (zI wc), .ref 13, .ref 14, .int (zI cc), .ref 15, .ref 16, .int (zI sc2)])), (15, .inl (0, 12, .inl (zA sa2))), (16, .inl (0, 12, .inl (zA sb2)))]) ∧ (0 ≤ sc2) ∧ (sc2 ≤ 12) ∧ (Rg sa2 12 0 6) ∧ (Rg sb2 12 0 6) ∧ (dwL sa sb p (sc).toNat = (sa2, sb2, sc2))) := by
  refine JM.of (by decide) rfl (fun h => by cases h) (Nat.le_of_ble_eq_true rfl) ⟨2, rfl⟩ ?_
  refine J_hc0 (J_ls (ls2 := [some (.ref 1), some (.int (zI p)), none, none]) rfl ?_)
  refine J_aload_n dX8_dropSwapsBeyond_0 rfl rfl ?_
  refine J_get (v := .int (zI sc)) dX8_dropSwapsBeyond_1 fl_X8_54 hk1 rfl ?_
  refine J_istore_n dX8_dropSwapsBeyond_4 rfl (Nat.le_of_ble_eq_true rfl) rfl ?_
  refine J_ls (ls2 := [some (.ref 1), some (.int (zI p)), some (.int (zI sc)), none]) rfl ?_
  refine J_aload_n dX8_dropSwapsBeyond_5 rfl rfl ?_
  refine Z_iconst (n := 0) dX8_dropSwapsBeyond_6 ?_
  refine K_put (fs2 := [.ref 2, .ref 3, .ref 4, .int (zI lc), .int (zI fo), .ref 11, .ref 12, .int (zI wc), .ref 13, .ref 14, .int (zI cc), .ref 15, .ref 16, .int (zI 0)]) dX8_dropSwapsBeyond_7 fw_X8_54 hk1 (Nat.le_of_ble_eq_true rfl) (fun _ => ⟨rfl, rfl⟩) rfl ?_
  refine Z_iconst (n := 0) dX8_dropSwapsBeyond_10 ?_
  refine J_istore_n dX8_dropSwapsBeyond_11 rfl (Nat.le_of_ble_eq_true rfl) rfl ?_
  refine J_ls (ls2 := [some (.ref 1), some (.int (zI p)), some (.int (zI sc)), some (.int (zI 0))]) rfl ?_
  refine J_touch (k := 15) (e := .inl (0, 12, .inl (zA sa))) hk15 ?_
  refine J_touch (k := 16) (e := .inl (0, 12, .inl (zA sb))) hk16 ?_
  have lp12 : ∀ (N12 : Nat) (i_12 : Int) (n_12 : Int) (a_12 : Int → Int) (b_12 : Int → Int), (0 ≤ i_12) → (i_12 ≤ sc) → (0 ≤ n_12) → (n_12 ≤ i_12) → (Rg a_12 12 0 6) → (Rg b_12 12 0 6) → (dwL sa sb p (i_12).toNat = (a_12, b_12, n_12)) → (sc - i_12).toNat < N12 → J l G MX8_dropSwapsBeyond { frames := 1, cells := 0, slots := 0, locals := 22 } jE (jMQ G { frames := 1, cells := 0, slots := 0, locals := 22 } (fun rr h9 => ∃ sc2 : Int, ∃ sa2 : Int → Int, ∃ sb2 : Int → Int, rr = none ∧ h9 = (nh, hc fh [(1, .inr (8, [.ref 2, .ref 3, .ref 4, .int (zI lc), .int (zI fo), .ref 11, .ref 12, .int (zI wc), .ref 13, .ref 14, .int (zI cc), .ref 15, .ref 16, .int (zI sc2)])), (15, .inl (0, 12, .inl (zA sa2))), (16, .inl (0, 12, .inl (zA sb2)))]) ∧ (0 ≤ sc2) ∧ (sc2 ≤ 12) ∧ (Rg sa2 12 0 6) ∧ (Rg sb2 12 0 6) ∧ (dwL sa sb p (sc).toNat = (sa2, sb2, sc2)))) (nh, hc fh [(16, .inl (0, 12, .inl (zA b_12))), (15, .inl (0, 12, .inl (zA a_12))), (1, .inr (8, [.ref 2, .ref 3, .ref 4, .int (zI lc), .int (zI fo), .ref 11, .ref 12, .int (zI wc), .ref 13, .ref 14, .int (zI cc), .ref 15, .ref 16, .int (zI n_12)]))]) 0 0 12 [some (.ref 1), some (.int (zI p)), some (.int (zI sc)), some (.int (zI i_12))] [] := by
    intro N12
    induction N12 with
    | zero => intro i_12 n_12 a_12 b_12 i12_0 i12_1 i12_2 i12_3 i12_4 i12_5 i12_6 hm; exact absurd hm (Nat.not_lt_zero _)
    | succ N12 ih12 =>
      intro i_12 n_12 a_12 b_12 i12_0 i12_1 i12_2 i12_3 i12_4 i12_5 i12_6 hm12
      refine J_iload_n dX8_dropSwapsBeyond_12 rfl rfl ?_
      refine J_iload_n dX8_dropSwapsBeyond_13 rfl rfl ?_
      refine Z_icmp_ge (tgt := 49) dX8_dropSwapsBeyond_14 (by decide) (v_d7c76a7f82 q10 i12_0 i12_1) (v_00eb067ff8 q9 q10) (fun h1 => ?_) (fun h1 => ?_)
      · refine J_touch (k := 16) (e := .inl (0, 12, .inl (zA b_12))) rfl ?_
        refine J_touch (k := 15) (e := .inl (0, 12, .inl (zA a_12))) rfl ?_
        refine J_touch (k := 1) (e := .inr (8, [.ref 2, .ref 3, .ref 4, .int (zI lc), .int (zI fo), .ref 11, .ref 12, .int (zI wc), .ref 13, .ref 14, .int (zI cc), .ref 15, .ref 16, .int (zI n_12)])) rfl ?_
        refine J_mask (L2 := [(1, .inr (8, [.ref 2, .ref 3, .ref 4, .int (zI lc), .int (zI fo), .ref 11, .ref 12, .int (zI wc), .ref 13, .ref 14, .int (zI cc), .ref 15, .ref 16, .int (zI n_12)])), (15, .inl (0, 12, .inl (zA a_12))), (16, .inl (0, 12, .inl (zA b_12)))]) (ks := [1, 15, 16, 16, 15, 1]) [true, true, true, false, false, false] rfl (by decide +kernel) rfl ?_
        exact J_vret dX8_dropSwapsBeyond_49 rfl (Nat.le_of_ble_eq_true rfl) (Nat.le_of_ble_eq_true rfl) ⟨n_12, a_12, b_12, rfl, rfl, i12_2, (v_68b17b388f q10 i12_1 i12_3), i12_4, i12_5, (by have e : i_12 = sc := (v_9b8f42b01e i12_1 h1); have h := i12_6; rw [e] at h; exact h)⟩
      · refine J_aload_n dX8_dropSwapsBeyond_17 rfl rfl ?_
        refine J_get (v := .ref 16) dX8_dropSwapsBeyond_18 fl_X8_51 rfl rfl ?_
        refine J_iload_n dX8_dropSwapsBeyond_21 rfl rfl ?_
        obtain ⟨z2, ez2⟩ : ∃ z : Int, b_12 i_12 = z := ⟨_, rfl⟩
        have h3 := Rg.at i12_5 (v_2b02420001 i12_0) (v_9f7d34bcbb q10 h1) ez2
        refine Y_iald (z := z2) 12 dX8_dropSwapsBeyond_22 rfl rfl (by decide) (v_2b02420001 i12_0) (v_9f7d34bcbb q10 h1) ez2 ?_
        refine J_iload_n dX8_dropSwapsBeyond_23 rfl rfl ?_
        refine Z_icmp_ge (tgt := 43) dX8_dropSwapsBeyond_24 (by decide) (v_5fd3895a24 h3.1 h3.2) (v_b25fa51a85 q0) (fun h4 => ?_) (fun h4 => ?_)
        · refine Z_iinc (c := i_12 + 1) (ls2 := [some (.ref 1), some (.int (zI p)), some (.int (zI sc)), some (.int (zI (i_12 + 1)))]) dX8_dropSwapsBeyond_43 rfl (Nat.le_of_ble_eq_true rfl) rfl rfl rfl ?_
          refine J_goto (tgt := 12) dX8_dropSwapsBeyond_46 (by decide) ?_
          exact ih12 (i_12 + 1) n_12 a_12 b_12 (v_da458fa48a i12_0) (v_e390a36114 h1) i12_2 (v_d50281bace i12_3) i12_4 i12_5 (dwL_no i12_6 i12_0 ez2 (v_b598cf8bfa h4)) (meas_lt v_90eacd6fd4 (v_8b7dd7d486 h1) hm12)
        · refine J_aload_n dX8_dropSwapsBeyond_27 rfl rfl ?_
          refine J_aload_n dX8_dropSwapsBeyond_28 rfl rfl ?_
          refine J_get (v := .ref 15) dX8_dropSwapsBeyond_29 fl_X8_48 rfl rfl ?_
          refine J_iload_n dX8_dropSwapsBeyond_32 rfl rfl ?_
          obtain ⟨z5, ez5⟩ : ∃ z : Int, a_12 i_12 = z := ⟨_, rfl⟩
          have h6 := Rg.at i12_4 (v_2b02420001 i12_0) (v_9f7d34bcbb q10 h1) ez5
          refine Y_iald (z := z5) 12 dX8_dropSwapsBeyond_33 rfl rfl (by decide) (v_2b02420001 i12_0) (v_9f7d34bcbb q10 h1) ez5 ?_
          refine J_aload_n dX8_dropSwapsBeyond_34 rfl rfl ?_
          refine J_get (v := .ref 16) dX8_dropSwapsBeyond_35 fl_X8_51 rfl rfl ?_
          refine J_iload_n dX8_dropSwapsBeyond_38 rfl rfl ?_
          refine Y_iald (z := z2) 12 dX8_dropSwapsBeyond_39 rfl rfl (by decide) (v_2b02420001 i12_0) (v_9f7d34bcbb q10 h1) ez2 ?_
          refine J_callV (st := []) dX8_dropSwapsBeyond_40 cv_X8_63 (s_addSwap z5 z2 lc fo wc cc n_12 a_12 b_12 h6.1 h6.2 h3.1 h3.2 q1 q2 q3 q4 q5 q6 q7 q8 i12_2 (v_fccc12f786 q10 i12_3 h1) i12_4 i12_5 rfl rfl rfl) rfl rfl rfl (Nat.le_of_ble_eq_true rfl) ⟨(Nat.le_of_ble_eq_true rfl), (Nat.le_of_ble_eq_true rfl)⟩ ⟨(Nat.le_of_ble_eq_true rfl), (Nat.le_of_ble_eq_true rfl)⟩ (fun r h9 hp => ?_)
          rcases hp with ⟨f7, f8, rfl, rfl, h9, h10, h11, h12, h13⟩ | ⟨rfl, rfl, h14⟩
          · refine J_nf (nh2 := nh) (ck2 := 0) (sk2 := 0) (st2 := []) rfl rfl rfl rfl ?_
            refine J_app (L3 := [(1, .inr (8, [.ref 2, .ref 3, .ref 4, .int (zI lc), .int (zI fo), .ref 11, .ref 12, .int (zI wc), .ref 13, .ref 14, .int (zI cc), .ref 15, .ref 16, .int (zI (n_12 + 1))])), (15, .inl (0, 12, .inl (zA f7))), (16, .inl (0, 12, .inl (zA f8))), (16, .inl (0, 12, .inl (zA b_12))), (15, .inl (0, 12, .inl (zA a_12))), (1, .inr (8, [.ref 2, .ref 3, .ref 4, .int (zI lc), .int (zI fo), .ref 11, .ref 12, .int (zI wc), .ref 13, .ref 14, .int (zI cc), .ref 15, .ref 16, .int (zI n_12)]))]) rfl ?_
            refine J_mask (L2 := [(1, .inr (8, [.ref 2, .ref 3, .ref 4, .int (zI lc), .int (zI fo), .ref 11, .ref 12, .int (zI wc), .ref 13, .ref 14, .int (zI cc), .ref 15, .ref 16, .int (zI (n_12 + 1))])), (15, .inl (0, 12, .inl (zA f7))), (16, .inl (0, 12, .inl (zA f8)))]) (ks := [1, 15, 16, 16, 15, 1]) [true, true, true, false, false, false] rfl (by decide +kernel) rfl ?_
            refine Z_iinc (c := i_12 + 1) (ls2 := [some (.ref 1), some (.int (zI p)), some (.int (zI sc)), some (.int (zI (i_12 + 1)))]) dX8_dropSwapsBeyond_43 rfl (Nat.le_of_ble_eq_true rfl) rfl rfl rfl ?_
            refine J_goto (tgt := 12) dX8_dropSwapsBeyond_46 (by decide) ?_
            refine J_touch (k := 1) (e := .inr (8, [.ref 2, .ref 3, .ref 4, .int (zI lc), .int (zI fo), .ref 11, .ref 12, .int (zI wc), .ref 13, .ref 14, .int (zI cc), .ref 15, .ref 16, .int (zI (n_12 + 1))])) rfl ?_
            refine J_touch (k := 15) (e := .inl (0, 12, .inl (zA f7))) rfl ?_
            refine J_touch (k := 16) (e := .inl (0, 12, .inl (zA f8))) rfl ?_
            refine J_mask (L2 := [(16, .inl (0, 12, .inl (zA f8))), (15, .inl (0, 12, .inl (zA f7))), (1, .inr (8, [.ref 2, .ref 3, .ref 4, .int (zI lc), .int (zI fo), .ref 11, .ref 12, .int (zI wc), .ref 13, .ref 14, .int (zI cc), .ref 15, .ref 16, .int (zI (n_12 + 1))]))]) (ks := [16, 15, 1, 1, 15, 16]) [true, true, true, false, false, false] rfl (by decide +kernel) rfl ?_
            exact ih12 (i_12 + 1) (n_12 + 1) f7 f8 (v_da458fa48a i12_0) (v_e390a36114 h1) (v_da458fa48a i12_2) (v_14fc63d1f2 i12_3) h10 h11 (dwL_yes i12_6 i12_0 ez2 ez5 (v_fe9ea41faa h4) h12 h13 rfl) (meas_lt v_90eacd6fd4 (v_8b7dd7d486 h1) hm12)
          · exact False.elim (v_417807d788 q10 i12_3 h1 h14)
  exact lp12 _ 0 0 sa sb v_939070ca3f q9 v_939070ca3f v_939070ca3f q11 q12 (rfl) (Nat.lt_succ_self _)
