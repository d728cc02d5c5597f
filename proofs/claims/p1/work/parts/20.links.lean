/-! links, methods, constants: written by wip/tools/law.py -/
theorem kc_m1 : ((-1) : Int32).toInt = (-1) := by decide +kernel
theorem kc_0 : (0 : Int32).toInt = 0 := by decide +kernel
theorem kc_1 : (1 : Int32).toInt = 1 := by decide +kernel
theorem kc_2 : (2 : Int32).toInt = 2 := by decide +kernel
theorem kc_3 : (3 : Int32).toInt = 3 := by decide +kernel
theorem kc_4 : (4 : Int32).toInt = 4 := by decide +kernel
theorem kc_5 : (5 : Int32).toInt = 5 := by decide +kernel
theorem kc_6 : (6 : Int32).toInt = 6 := by decide +kernel
theorem kc_7 : (7 : Int32).toInt = 7 := by decide +kernel
theorem kc_8 : (8 : Int32).toInt = 8 := by decide +kernel
theorem kc_9 : (9 : Int32).toInt = 9 := by decide +kernel
theorem kc_10 : (10 : Int32).toInt = 10 := by decide +kernel
theorem kc_11 : (11 : Int32).toInt = 11 := by decide +kernel
theorem kc_12 : (12 : Int32).toInt = 12 := by decide +kernel
theorem kc_13 : (13 : Int32).toInt = 13 := by decide +kernel
theorem kc_14 : (14 : Int32).toInt = 14 := by decide +kernel
theorem kc_15 : (15 : Int32).toInt = 15 := by decide +kernel
theorem kc_16 : (16 : Int32).toInt = 16 := by decide +kernel
theorem kc_17 : (17 : Int32).toInt = 17 := by decide +kernel
theorem kc_18 : (18 : Int32).toInt = 18 := by decide +kernel
theorem kc_99 : (99 : Int32).toInt = 99 := by decide +kernel
theorem kc_500 : (500 : Int32).toInt = 500 := by decide +kernel
theorem kc_1000000 : (1000000 : Int32).toInt = 1000000 := by decide +kernel
abbrev ML_law : jM := (RL, cL_law, 4, some .boolean, false)
abbrev MJ7_fill_53178 : jM := (RJ7, cJ7_fill_53178, 4, none, false)
set_option maxRecDepth 20000 in
theorem iX11_at : ∀ k : Nat, k < 17 → u_lay RX11 TX11 k ∈ jtb
  | 0, _ => jt2 227 rfl rfl
  | 1, _ => jt2 229 rfl rfl
  | 2, _ => jt2 231 rfl rfl
  | 3, _ => jt2 233 rfl rfl
  | 4, _ => jt2 235 rfl rfl
  | 5, _ => jt2 237 rfl rfl
  | 6, _ => jt2 239 rfl rfl
  | 7, _ => jt3 1 rfl rfl
  | 8, _ => jt3 3 rfl rfl
  | 9, _ => jt3 5 rfl rfl
  | 10, _ => jt3 7 rfl rfl
  | 11, _ => jt3 9 rfl rfl
  | 12, _ => jt3 11 rfl rfl
  | 13, _ => jt3 13 rfl rfl
  | 14, _ => jt3 15 rfl rfl
  | 15, _ => jt3 17 rfl rfl
  | 16, _ => jt3 19 rfl rfl
  | (n + 17), h => absurd h (by omega)
theorem iX11 : ∀ w ∈ u_ws RX11 TX11 17, w ∈ jtb := fun w hw => by
  obtain ⟨k, hk, rfl⟩ := List.mem_map.mp hw
  exact iX11_at k (List.mem_range.mp hk)
theorem nd_L_7 : ∀ j : Nat, j < 17 → defaultValue (tyX11 j) = vp_V [.null, .null, .null, .null, .null, .null, .null, .null, .null, .null, .null, .null, .null, .int 0, .int 0, .null, .int 0] j
  | 0, _ => rfl
  | 1, _ => rfl
  | 2, _ => rfl
  | 3, _ => rfl
  | 4, _ => rfl
  | 5, _ => rfl
  | 6, _ => rfl
  | 7, _ => rfl
  | 8, _ => rfl
  | 9, _ => rfl
  | 10, _ => rfl
  | 11, _ => rfl
  | 12, _ => rfl
  | 13, _ => rfl
  | 14, _ => rfl
  | 15, _ => rfl
  | 16, _ => rfl
  | (n + 17), h => absurd h (by omega)
theorem nw_L_7 : jNW RL 7 11 17 [.null, .null, .null, .null, .null, .null, .null, .null, .null, .null, .null, .null, .null, .int 0, .int 0, .null, .int 0] := ⟨_, _, tyX11, rfl, iX11, tyX11_ok, (jt1 21 rfl rfl), (jt1 22 rfl rfl), (jt1 1 rfl rfl), nd_L_7⟩
abbrev MX11_init : jM := (RX11, cX11_init, 1, none, true)
theorem ci_L_9 : jCI RL 9 yX11_init MX11_init 0 := ⟨(jt1 25 rfl rfl), rfl, (jt1 24 rfl rfl), (jt1 1 rfl rfl), rfl, ⟨by decide, by decide, by decide +kernel⟩, Or.inl (jt1 23 rfl rfl)⟩
set_option maxRecDepth 20000 in
theorem iX8_at : ∀ k : Nat, k < 14 → u_lay RX8 TX8 k ∈ jtb
  | 0, _ => jt1 69 rfl rfl
  | 1, _ => jt1 71 rfl rfl
  | 2, _ => jt1 73 rfl rfl
  | 3, _ => jt1 75 rfl rfl
  | 4, _ => jt1 77 rfl rfl
  | 5, _ => jt1 79 rfl rfl
  | 6, _ => jt1 81 rfl rfl
  | 7, _ => jt1 83 rfl rfl
  | 8, _ => jt1 85 rfl rfl
  | 9, _ => jt1 87 rfl rfl
  | 10, _ => jt1 89 rfl rfl
  | 11, _ => jt1 91 rfl rfl
  | 12, _ => jt1 93 rfl rfl
  | 13, _ => jt1 95 rfl rfl
  | (n + 14), h => absurd h (by omega)
theorem iX8 : ∀ w ∈ u_ws RX8 TX8 14, w ∈ jtb := fun w hw => by
  obtain ⟨k, hk, rfl⟩ := List.mem_map.mp hw
  exact iX8_at k (List.mem_range.mp hk)
theorem nd_X11_7 : ∀ j : Nat, j < 14 → defaultValue (tyX8 j) = vp_V [.null, .null, .null, .int 0, .int 0, .null, .null, .int 0, .null, .null, .int 0, .null, .null, .int 0] j
  | 0, _ => rfl
  | 1, _ => rfl
  | 2, _ => rfl
  | 3, _ => rfl
  | 4, _ => rfl
  | 5, _ => rfl
  | 6, _ => rfl
  | 7, _ => rfl
  | 8, _ => rfl
  | 9, _ => rfl
  | 10, _ => rfl
  | 11, _ => rfl
  | 12, _ => rfl
  | 13, _ => rfl
  | (n + 14), h => absurd h (by omega)
theorem nw_X11_7 : jNW RX11 7 8 14 [.null, .null, .null, .int 0, .int 0, .null, .null, .int 0, .null, .null, .int 0, .null, .null, .int 0] := ⟨_, _, tyX8, rfl, iX8, tyX8_ok, (jt1 29 rfl rfl), (jt1 30 rfl rfl), (jt1 2 rfl rfl), nd_X11_7⟩
abbrev MX8_init : jM := (RX8, cX8_init, 1, none, true)
theorem ci_X11_9 : jCI RX11 9 yX8_init MX8_init 0 := ⟨(jt1 33 rfl rfl), rfl, (jt1 32 rfl rfl), (jt1 2 rfl rfl), rfl, ⟨by decide, by decide, by decide +kernel⟩, Or.inr ⟨"BeanStreet", (jn1 31 rfl rfl)⟩⟩
theorem fw_X8_9 : jFW RX8 9 8 0 (.array .int) true := ⟨_, _, _, tyX8, rfl, iX8, tyX8_ok, nmX8, by decide, rfl, rfl, (fun _ => ⟨rfl, (jt1 37 rfl rfl)⟩), Or.inl (jt1 37 rfl rfl)⟩
theorem fw_X8_15 : jFW RX8 15 8 1 (.array .int) true := ⟨_, _, _, tyX8, rfl, iX8, tyX8_ok, nmX8, by decide, rfl, rfl, (fun _ => ⟨rfl, (jt1 40 rfl rfl)⟩), Or.inl (jt1 40 rfl rfl)⟩
theorem fw_X8_20 : jFW RX8 20 8 2 (.array (.array .int)) true := ⟨_, _, _, tyX8, rfl, iX8, tyX8_ok, nmX8, by decide, rfl, rfl, (fun _ => ⟨rfl, (jt1 43 rfl rfl)⟩), Or.inl (jt1 43 rfl rfl)⟩
theorem fw_X8_23 : jFW RX8 23 8 3 (.int) false := ⟨_, _, _, tyX8, rfl, iX8, tyX8_ok, nmX8, by decide, rfl, rfl, (fun h => by cases h), Or.inl (jt1 46 rfl rfl)⟩
theorem fw_X8_27 : jFW RX8 27 8 4 (.int) false := ⟨_, _, _, tyX8, rfl, iX8, tyX8_ok, nmX8, by decide, rfl, rfl, (fun h => by cases h), Or.inl (jt1 48 rfl rfl)⟩
theorem fw_X8_30 : jFW RX8 30 8 5 (.array .int) true := ⟨_, _, _, tyX8, rfl, iX8, tyX8_ok, nmX8, by decide, rfl, rfl, (fun _ => ⟨rfl, (jt1 51 rfl rfl)⟩), Or.inl (jt1 51 rfl rfl)⟩
theorem fw_X8_33 : jFW RX8 33 8 6 (.array .int) true := ⟨_, _, _, tyX8, rfl, iX8, tyX8_ok, nmX8, by decide, rfl, rfl, (fun _ => ⟨rfl, (jt1 52 rfl rfl)⟩), Or.inl (jt1 52 rfl rfl)⟩
theorem fw_X8_36 : jFW RX8 36 8 7 (.int) false := ⟨_, _, _, tyX8, rfl, iX8, tyX8_ok, nmX8, by decide, rfl, rfl, (fun h => by cases h), Or.inl (jt1 53 rfl rfl)⟩
theorem fw_X8_39 : jFW RX8 39 8 8 (.array .int) true := ⟨_, _, _, tyX8, rfl, iX8, tyX8_ok, nmX8, by decide, rfl, rfl, (fun _ => ⟨rfl, (jt1 55 rfl rfl)⟩), Or.inl (jt1 55 rfl rfl)⟩
theorem fw_X8_42 : jFW RX8 42 8 9 (.array .int) true := ⟨_, _, _, tyX8, rfl, iX8, tyX8_ok, nmX8, by decide, rfl, rfl, (fun _ => ⟨rfl, (jt1 57 rfl rfl)⟩), Or.inl (jt1 57 rfl rfl)⟩
theorem fw_X8_45 : jFW RX8 45 8 10 (.int) false := ⟨_, _, _, tyX8, rfl, iX8, tyX8_ok, nmX8, by decide, rfl, rfl, (fun h => by cases h), Or.inl (jt1 59 rfl rfl)⟩
theorem fw_X8_48 : jFW RX8 48 8 11 (.array .int) true := ⟨_, _, _, tyX8, rfl, iX8, tyX8_ok, nmX8, by decide, rfl, rfl, (fun _ => ⟨rfl, (jt1 62 rfl rfl)⟩), Or.inl (jt1 62 rfl rfl)⟩
theorem fw_X8_51 : jFW RX8 51 8 12 (.array .int) true := ⟨_, _, _, tyX8, rfl, iX8, tyX8_ok, nmX8, by decide, rfl, rfl, (fun _ => ⟨rfl, (jt1 64 rfl rfl)⟩), Or.inl (jt1 64 rfl rfl)⟩
theorem fw_X8_54 : jFW RX8 54 8 13 (.int) false := ⟨_, _, _, tyX8, rfl, iX8, tyX8_ok, nmX8, by decide, rfl, rfl, (fun h => by cases h), Or.inl (jt1 66 rfl rfl)⟩
theorem fw_X11_10 : jFW RX11 10 11 0 (.object "BeanStreet$State") true := ⟨_, _, _, tyX11, rfl, iX11, tyX11_ok, nmX11, by decide, rfl, rfl, (fun _ => ⟨rfl, (jt2 210 rfl rfl)⟩), Or.inl (jt2 210 rfl rfl)⟩
theorem fw_X11_16 : jFW RX11 16 11 1 (.array (.object "BeanStreet$State")) true := ⟨_, _, _, tyX11, rfl, iX11, tyX11_ok, nmX11, by decide, rfl, rfl, (fun _ => ⟨rfl, (jt2 211 rfl rfl)⟩), Or.inl (jt2 211 rfl rfl)⟩
theorem fw_X11_20 : jFW RX11 20 11 2 (.array .boolean) true := ⟨_, _, _, tyX11, rfl, iX11, tyX11_ok, nmX11, by decide, rfl, rfl, (fun _ => ⟨rfl, (jt2 212 rfl rfl)⟩), Or.inl (jt2 212 rfl rfl)⟩
set_option maxRecDepth 20000 in
theorem iX0_at : ∀ k : Nat, k < 4 → u_lay RX0 TX0 k ∈ jtb
  | 0, _ => jt1 110 rfl rfl
  | 1, _ => jt1 112 rfl rfl
  | 2, _ => jt1 114 rfl rfl
  | 3, _ => jt1 116 rfl rfl
  | (n + 4), h => absurd h (by omega)
theorem iX0 : ∀ w ∈ u_ws RX0 TX0 4, w ∈ jtb := fun w hw => by
  obtain ⟨k, hk, rfl⟩ := List.mem_map.mp hw
  exact iX0_at k (List.mem_range.mp hk)
theorem nd_X11_24 : ∀ j : Nat, j < 4 → defaultValue (tyX0 j) = vp_V [.null, .null, .int 0, .int 0] j
  | 0, _ => rfl
  | 1, _ => rfl
  | 2, _ => rfl
  | 3, _ => rfl
  | (n + 4), h => absurd h (by omega)
theorem nw_X11_24 : jNW RX11 24 0 4 [.null, .null, .int 0, .int 0] := ⟨_, _, tyX0, rfl, iX0, tyX0_ok, (jt1 100 rfl rfl), (jt1 101 rfl rfl), (jt1 3 rfl rfl), nd_X11_24⟩
abbrev MX0_init : jM := (RX0, cX0_init, 1, none, true)
theorem ci_X11_26 : jCI RX11 26 yX0_init MX0_init 0 := ⟨(jt1 104 rfl rfl), rfl, (jt1 103 rfl rfl), (jt1 3 rfl rfl), rfl, ⟨by decide, by decide, by decide +kernel⟩, Or.inr ⟨"BeanStreet", (jn1 102 rfl rfl)⟩⟩
theorem fw_X0_9 : jFW RX0 9 0 0 (.array .int) true := ⟨_, _, _, tyX0, rfl, iX0, tyX0_ok, nmX0, by decide, rfl, rfl, (fun _ => ⟨rfl, (jt1 106 rfl rfl)⟩), Or.inl (jt1 106 rfl rfl)⟩
theorem fw_X0_15 : jFW RX0 15 0 1 (.array .int) true := ⟨_, _, _, tyX0, rfl, iX0, tyX0_ok, nmX0, by decide, rfl, rfl, (fun _ => ⟨rfl, (jt1 107 rfl rfl)⟩), Or.inl (jt1 107 rfl rfl)⟩
theorem fw_X0_18 : jFW RX0 18 0 2 (.int) false := ⟨_, _, _, tyX0, rfl, iX0, tyX0_ok, nmX0, by decide, rfl, rfl, (fun h => by cases h), Or.inl (jt1 108 rfl rfl)⟩
theorem fw_X0_22 : jFW RX0 22 0 3 (.int) false := ⟨_, _, _, tyX0, rfl, iX0, tyX0_ok, nmX0, by decide, rfl, rfl, (fun h => by cases h), Or.inl (jt1 109 rfl rfl)⟩
theorem fw_X11_27 : jFW RX11 27 11 3 (.object "BeanStreet$Houses") true := ⟨_, _, _, tyX11, rfl, iX11, tyX11_ok, nmX11, by decide, rfl, rfl, (fun _ => ⟨rfl, (jt2 213 rfl rfl)⟩), Or.inl (jt2 213 rfl rfl)⟩
set_option maxRecDepth 20000 in
theorem iX5_at : ∀ k : Nat, k < 10 → u_lay RX5 TX5 k ∈ jtb
  | 0, _ => jt1 136 rfl rfl
  | 1, _ => jt1 138 rfl rfl
  | 2, _ => jt1 140 rfl rfl
  | 3, _ => jt1 142 rfl rfl
  | 4, _ => jt1 144 rfl rfl
  | 5, _ => jt1 146 rfl rfl
  | 6, _ => jt1 148 rfl rfl
  | 7, _ => jt1 150 rfl rfl
  | 8, _ => jt1 152 rfl rfl
  | 9, _ => jt1 154 rfl rfl
  | (n + 10), h => absurd h (by omega)
theorem iX5 : ∀ w ∈ u_ws RX5 TX5 10, w ∈ jtb := fun w hw => by
  obtain ⟨k, hk, rfl⟩ := List.mem_map.mp hw
  exact iX5_at k (List.mem_range.mp hk)
theorem nd_X11_31 : ∀ j : Nat, j < 10 → defaultValue (tyX5 j) = vp_V [.null, .int 0, .int 0, .int 0, .int 0, .int 0, .int 0, .int 0, .null, .int 0] j
  | 0, _ => rfl
  | 1, _ => rfl
  | 2, _ => rfl
  | 3, _ => rfl
  | 4, _ => rfl
  | 5, _ => rfl
  | 6, _ => rfl
  | 7, _ => rfl
  | 8, _ => rfl
  | 9, _ => rfl
  | (n + 10), h => absurd h (by omega)
theorem nw_X11_31 : jNW RX11 31 5 10 [.null, .int 0, .int 0, .int 0, .int 0, .int 0, .int 0, .int 0, .null, .int 0] := ⟨_, _, tyX5, rfl, iX5, tyX5_ok, (jt1 120 rfl rfl), (jt1 121 rfl rfl), (jt1 4 rfl rfl), nd_X11_31⟩
abbrev MX5_init : jM := (RX5, cX5_init, 1, none, true)
theorem ci_X11_33 : jCI RX11 33 yX5_init MX5_init 0 := ⟨(jt1 124 rfl rfl), rfl, (jt1 123 rfl rfl), (jt1 4 rfl rfl), rfl, ⟨by decide, by decide, by decide +kernel⟩, Or.inr ⟨"BeanStreet", (jn1 122 rfl rfl)⟩⟩
theorem fw_X5_11 : jFW RX5 11 5 0 (.array .int) true := ⟨_, _, _, tyX5, rfl, iX5, tyX5_ok, nmX5, by decide, rfl, rfl, (fun _ => ⟨rfl, (jt1 126 rfl rfl)⟩), Or.inl (jt1 126 rfl rfl)⟩
theorem fw_X5_15 : jFW RX5 15 5 1 (.int) false := ⟨_, _, _, tyX5, rfl, iX5, tyX5_ok, nmX5, by decide, rfl, rfl, (fun h => by cases h), Or.inl (jt1 127 rfl rfl)⟩
theorem fw_X5_19 : jFW RX5 19 5 2 (.int) false := ⟨_, _, _, tyX5, rfl, iX5, tyX5_ok, nmX5, by decide, rfl, rfl, (fun h => by cases h), Or.inl (jt1 128 rfl rfl)⟩
theorem fw_X5_22 : jFW RX5 22 5 3 (.int) false := ⟨_, _, _, tyX5, rfl, iX5, tyX5_ok, nmX5, by decide, rfl, rfl, (fun h => by cases h), Or.inl (jt1 129 rfl rfl)⟩
theorem fw_X5_25 : jFW RX5 25 5 4 (.int) false := ⟨_, _, _, tyX5, rfl, iX5, tyX5_ok, nmX5, by decide, rfl, rfl, (fun h => by cases h), Or.inl (jt1 130 rfl rfl)⟩
theorem fw_X5_28 : jFW RX5 28 5 5 (.int) false := ⟨_, _, _, tyX5, rfl, iX5, tyX5_ok, nmX5, by decide, rfl, rfl, (fun h => by cases h), Or.inl (jt1 131 rfl rfl)⟩
theorem fw_X5_31 : jFW RX5 31 5 6 (.int) false := ⟨_, _, _, tyX5, rfl, iX5, tyX5_ok, nmX5, by decide, rfl, rfl, (fun h => by cases h), Or.inl (jt1 132 rfl rfl)⟩
theorem fw_X5_34 : jFW RX5 34 5 7 (.int) false := ⟨_, _, _, tyX5, rfl, iX5, tyX5_ok, nmX5, by decide, rfl, rfl, (fun h => by cases h), Or.inl (jt1 133 rfl rfl)⟩
theorem fw_X5_37 : jFW RX5 37 5 8 (.array .int) true := ⟨_, _, _, tyX5, rfl, iX5, tyX5_ok, nmX5, by decide, rfl, rfl, (fun _ => ⟨rfl, (jt1 134 rfl rfl)⟩), Or.inl (jt1 134 rfl rfl)⟩
theorem fw_X5_40 : jFW RX5 40 5 9 (.int) false := ⟨_, _, _, tyX5, rfl, iX5, tyX5_ok, nmX5, by decide, rfl, rfl, (fun h => by cases h), Or.inl (jt1 135 rfl rfl)⟩
theorem fw_X11_34 : jFW RX11 34 11 4 (.object "BeanStreet$Reader") true := ⟨_, _, _, tyX11, rfl, iX11, tyX11_ok, nmX11, by decide, rfl, rfl, (fun _ => ⟨rfl, (jt2 214 rfl rfl)⟩), Or.inl (jt2 214 rfl rfl)⟩
set_option maxRecDepth 20000 in
theorem iX9_at : ∀ k : Nat, k < 10 → u_lay RX9 TX9 k ∈ jtb
  | 0, _ => jt1 205 rfl rfl
  | 1, _ => jt1 207 rfl rfl
  | 2, _ => jt1 209 rfl rfl
  | 3, _ => jt1 211 rfl rfl
  | 4, _ => jt1 213 rfl rfl
  | 5, _ => jt1 215 rfl rfl
  | 6, _ => jt1 217 rfl rfl
  | 7, _ => jt1 219 rfl rfl
  | 8, _ => jt1 221 rfl rfl
  | 9, _ => jt1 223 rfl rfl
  | (n + 10), h => absurd h (by omega)
theorem iX9 : ∀ w ∈ u_ws RX9 TX9 10, w ∈ jtb := fun w hw => by
  obtain ⟨k, hk, rfl⟩ := List.mem_map.mp hw
  exact iX9_at k (List.mem_range.mp hk)
theorem nd_X11_38 : ∀ j : Nat, j < 10 → defaultValue (tyX9 j) = vp_V [.null, .null, .null, .null, .null, .null, .null, .int 0, .int 0, .int 0] j
  | 0, _ => rfl
  | 1, _ => rfl
  | 2, _ => rfl
  | 3, _ => rfl
  | 4, _ => rfl
  | 5, _ => rfl
  | 6, _ => rfl
  | 7, _ => rfl
  | 8, _ => rfl
  | 9, _ => rfl
  | (n + 10), h => absurd h (by omega)
theorem nw_X11_38 : jNW RX11 38 9 10 [.null, .null, .null, .null, .null, .null, .null, .int 0, .int 0, .int 0] := ⟨_, _, tyX9, rfl, iX9, tyX9_ok, (jt1 157 rfl rfl), (jt1 158 rfl rfl), (jt1 5 rfl rfl), nd_X11_38⟩
theorem fl_X11_10 : jFL RX11 10 11 0 := ⟨_, _, _, rfl, iX11, by decide, Or.inl (jt2 210 rfl rfl)⟩
theorem fl_X11_27 : jFL RX11 27 11 3 := ⟨_, _, _, rfl, iX11, by decide, Or.inl (jt2 213 rfl rfl)⟩
abbrev MX9_init : jM := (RX9, cX9_init, 3, none, true)
theorem ci_X11_40 : jCI RX11 40 yX9_init MX9_init 2 := ⟨(jt1 161 rfl rfl), rfl, (jt1 160 rfl rfl), (jt1 5 rfl rfl), rfl, ⟨by decide, by decide, by decide +kernel⟩, Or.inl (jt1 159 rfl rfl)⟩
set_option maxRecDepth 20000 in
theorem iX1_at : ∀ k : Nat, k < 8 → u_lay RX1 TX1 k ∈ jtb
  | 0, _ => jt1 177 rfl rfl
  | 1, _ => jt1 179 rfl rfl
  | 2, _ => jt1 181 rfl rfl
  | 3, _ => jt1 183 rfl rfl
  | 4, _ => jt1 185 rfl rfl
  | 5, _ => jt1 187 rfl rfl
  | 6, _ => jt1 189 rfl rfl
  | 7, _ => jt1 191 rfl rfl
  | (n + 8), h => absurd h (by omega)
theorem iX1 : ∀ w ∈ u_ws RX1 TX1 8, w ∈ jtb := fun w hw => by
  obtain ⟨k, hk, rfl⟩ := List.mem_map.mp hw
  exact iX1_at k (List.mem_range.mp hk)
theorem nd_X9_9 : ∀ j : Nat, j < 8 → defaultValue (tyX1 j) = vp_V [.null, .null, .int 0, .int 0, .int 0, .int 0, .int 0, .int 0] j
  | 0, _ => rfl
  | 1, _ => rfl
  | 2, _ => rfl
  | 3, _ => rfl
  | 4, _ => rfl
  | 5, _ => rfl
  | 6, _ => rfl
  | 7, _ => rfl
  | (n + 8), h => absurd h (by omega)
theorem nw_X9_9 : jNW RX9 9 1 8 [.null, .null, .int 0, .int 0, .int 0, .int 0, .int 0, .int 0] := ⟨_, _, tyX1, rfl, iX1, tyX1_ok, (jt1 163 rfl rfl), (jt1 164 rfl rfl), (jt1 6 rfl rfl), nd_X9_9⟩
abbrev MX1_init : jM := (RX1, cX1_init, 1, none, true)
theorem ci_X9_11 : jCI RX9 11 yX1_init MX1_init 0 := ⟨(jt1 167 rfl rfl), rfl, (jt1 166 rfl rfl), (jt1 6 rfl rfl), rfl, ⟨by decide, by decide, by decide +kernel⟩, Or.inr ⟨"BeanStreet", (jn1 165 rfl rfl)⟩⟩
theorem fw_X1_9 : jFW RX1 9 1 0 (.array .int) true := ⟨_, _, _, tyX1, rfl, iX1, tyX1_ok, nmX1, by decide, rfl, rfl, (fun _ => ⟨rfl, (jt1 169 rfl rfl)⟩), Or.inl (jt1 169 rfl rfl)⟩
theorem fw_X1_13 : jFW RX1 13 1 1 (.array .long) true := ⟨_, _, _, tyX1, rfl, iX1, tyX1_ok, nmX1, by decide, rfl, rfl, (fun _ => ⟨rfl, (jt1 170 rfl rfl)⟩), Or.inl (jt1 170 rfl rfl)⟩
theorem fw_X1_17 : jFW RX1 17 1 2 (.int) false := ⟨_, _, _, tyX1, rfl, iX1, tyX1_ok, nmX1, by decide, rfl, rfl, (fun h => by cases h), Or.inl (jt1 171 rfl rfl)⟩
theorem fw_X1_21 : jFW RX1 21 1 3 (.boolean) false := ⟨_, _, _, tyX1, rfl, iX1, tyX1_ok, nmX1, by decide, rfl, rfl, (fun h => by cases h), Or.inl (jt1 172 rfl rfl)⟩
theorem fw_X1_25 : jFW RX1 25 1 4 (.boolean) false := ⟨_, _, _, tyX1, rfl, iX1, tyX1_ok, nmX1, by decide, rfl, rfl, (fun h => by cases h), Or.inl (jt1 173 rfl rfl)⟩
theorem fw_X1_28 : jFW RX1 28 1 5 (.boolean) false := ⟨_, _, _, tyX1, rfl, iX1, tyX1_ok, nmX1, by decide, rfl, rfl, (fun h => by cases h), Or.inl (jt1 174 rfl rfl)⟩
theorem fw_X1_31 : jFW RX1 31 1 6 (.boolean) false := ⟨_, _, _, tyX1, rfl, iX1, tyX1_ok, nmX1, by decide, rfl, rfl, (fun h => by cases h), Or.inl (jt1 175 rfl rfl)⟩
theorem fw_X1_34 : jFW RX1 34 1 7 (.int) false := ⟨_, _, _, tyX1, rfl, iX1, tyX1_ok, nmX1, by decide, rfl, rfl, (fun h => by cases h), Or.inl (jt1 176 rfl rfl)⟩
theorem fw_X9_12 : jFW RX9 12 9 2 (.object "BeanStreet$Judge") true := ⟨_, _, _, tyX9, rfl, iX9, tyX9_ok, nmX9, by decide, rfl, rfl, (fun _ => ⟨rfl, (jt1 197 rfl rfl)⟩), Or.inl (jt1 197 rfl rfl)⟩
theorem fw_X9_18 : jFW RX9 18 9 3 (.array .int) true := ⟨_, _, _, tyX9, rfl, iX9, tyX9_ok, nmX9, by decide, rfl, rfl, (fun _ => ⟨rfl, (jt1 198 rfl rfl)⟩), Or.inl (jt1 198 rfl rfl)⟩
theorem fw_X9_22 : jFW RX9 22 9 4 (.array .int) true := ⟨_, _, _, tyX9, rfl, iX9, tyX9_ok, nmX9, by decide, rfl, rfl, (fun _ => ⟨rfl, (jt1 199 rfl rfl)⟩), Or.inl (jt1 199 rfl rfl)⟩
theorem fw_X9_25 : jFW RX9 25 9 5 (.array .int) false := ⟨_, _, _, tyX9, rfl, iX9, tyX9_ok, nmX9, by decide, rfl, rfl, (fun h => by cases h), Or.inl (jt1 200 rfl rfl)⟩
theorem fw_X9_28 : jFW RX9 28 9 6 (.array .int) true := ⟨_, _, _, tyX9, rfl, iX9, tyX9_ok, nmX9, by decide, rfl, rfl, (fun _ => ⟨rfl, (jt1 201 rfl rfl)⟩), Or.inl (jt1 201 rfl rfl)⟩
theorem fw_X9_31 : jFW RX9 31 9 7 (.int) false := ⟨_, _, _, tyX9, rfl, iX9, tyX9_ok, nmX9, by decide, rfl, rfl, (fun h => by cases h), Or.inl (jt1 202 rfl rfl)⟩
theorem fw_X9_35 : jFW RX9 35 9 8 (.boolean) false := ⟨_, _, _, tyX9, rfl, iX9, tyX9_ok, nmX9, by decide, rfl, rfl, (fun h => by cases h), Or.inl (jt1 203 rfl rfl)⟩
theorem fw_X9_39 : jFW RX9 39 9 9 (.boolean) false := ⟨_, _, _, tyX9, rfl, iX9, tyX9_ok, nmX9, by decide, rfl, rfl, (fun h => by cases h), Or.inl (jt1 204 rfl rfl)⟩
theorem fw_X9_42 : jFW RX9 42 9 0 (.object "BeanStreet$State") true := ⟨_, _, _, tyX9, rfl, iX9, tyX9_ok, nmX9, by decide, rfl, rfl, (fun _ => ⟨rfl, (jt1 195 rfl rfl)⟩), Or.inl (jt1 195 rfl rfl)⟩
theorem fw_X9_46 : jFW RX9 46 9 1 (.object "BeanStreet$Houses") true := ⟨_, _, _, tyX9, rfl, iX9, tyX9_ok, nmX9, by decide, rfl, rfl, (fun _ => ⟨rfl, (jt1 196 rfl rfl)⟩), Or.inl (jt1 196 rfl rfl)⟩
theorem fw_X11_43 : jFW RX11 43 11 5 (.object "BeanStreet$Streets") true := ⟨_, _, _, tyX11, rfl, iX11, tyX11_ok, nmX11, by decide, rfl, rfl, (fun _ => ⟨rfl, (jt2 215 rfl rfl)⟩), Or.inl (jt2 215 rfl rfl)⟩
set_option maxRecDepth 20000 in
theorem iX10_at : ∀ k : Nat, k < 17 → u_lay RX10 TX10 k ∈ jtb
  | 0, _ => jt2 10 rfl rfl
  | 1, _ => jt2 12 rfl rfl
  | 2, _ => jt2 14 rfl rfl
  | 3, _ => jt2 16 rfl rfl
  | 4, _ => jt2 18 rfl rfl
  | 5, _ => jt2 20 rfl rfl
  | 6, _ => jt2 22 rfl rfl
  | 7, _ => jt2 24 rfl rfl
  | 8, _ => jt2 26 rfl rfl
  | 9, _ => jt2 28 rfl rfl
  | 10, _ => jt2 30 rfl rfl
  | 11, _ => jt2 32 rfl rfl
  | 12, _ => jt2 34 rfl rfl
  | 13, _ => jt2 36 rfl rfl
  | 14, _ => jt2 38 rfl rfl
  | 15, _ => jt2 40 rfl rfl
  | 16, _ => jt2 42 rfl rfl
  | (n + 17), h => absurd h (by omega)
theorem iX10 : ∀ w ∈ u_ws RX10 TX10 17, w ∈ jtb := fun w hw => by
  obtain ⟨k, hk, rfl⟩ := List.mem_map.mp hw
  exact iX10_at k (List.mem_range.mp hk)
theorem nd_X11_47 : ∀ j : Nat, j < 17 → defaultValue (tyX10 j) = vp_V [.null, .null, .null, .null, .null, .int 0, .int 0, .int 0, .null, .null, .null, .null, .int 0, .int 0, .int 0, .null, .null] j
  | 0, _ => rfl
  | 1, _ => rfl
  | 2, _ => rfl
  | 3, _ => rfl
  | 4, _ => rfl
  | 5, _ => rfl
  | 6, _ => rfl
  | 7, _ => rfl
  | 8, _ => rfl
  | 9, _ => rfl
  | 10, _ => rfl
  | 11, _ => rfl
  | 12, _ => rfl
  | 13, _ => rfl
  | 14, _ => rfl
  | 15, _ => rfl
  | 16, _ => rfl
  | (n + 17), h => absurd h (by omega)
theorem nw_X11_47 : jNW RX11 47 10 17 [.null, .null, .null, .null, .null, .int 0, .int 0, .int 0, .null, .null, .null, .null, .int 0, .int 0, .int 0, .null, .null] := ⟨_, _, tyX10, rfl, iX10, tyX10_ok, (jt1 226 rfl rfl), (jt1 227 rfl rfl), (jt1 7 rfl rfl), nd_X11_47⟩
theorem fl_X11_43 : jFL RX11 43 11 5 := ⟨_, _, _, rfl, iX11, by decide, Or.inl (jt2 215 rfl rfl)⟩
abbrev MX10_init : jM := (RX10, cX10_init, 3, none, true)
theorem ci_X11_49 : jCI RX11 49 yX10_init MX10_init 2 := ⟨(jt1 230 rfl rfl), rfl, (jt1 229 rfl rfl), (jt1 7 rfl rfl), rfl, ⟨by decide, by decide, by decide +kernel⟩, Or.inl (jt1 228 rfl rfl)⟩
theorem fw_X10_9 : jFW RX10 9 10 2 (.array .int) true := ⟨_, _, _, tyX10, rfl, iX10, tyX10_ok, nmX10, by decide, rfl, rfl, (fun _ => ⟨rfl, (jt1 234 rfl rfl)⟩), Or.inl (jt1 234 rfl rfl)⟩
theorem fw_X10_15 : jFW RX10 15 10 3 (.array .int) true := ⟨_, _, _, tyX10, rfl, iX10, tyX10_ok, nmX10, by decide, rfl, rfl, (fun _ => ⟨rfl, (jt1 236 rfl rfl)⟩), Or.inl (jt1 236 rfl rfl)⟩
theorem fw_X10_18 : jFW RX10 18 10 4 (.array .int) true := ⟨_, _, _, tyX10, rfl, iX10, tyX10_ok, nmX10, by decide, rfl, rfl, (fun _ => ⟨rfl, (jt1 237 rfl rfl)⟩), Or.inl (jt1 237 rfl rfl)⟩
theorem fw_X10_21 : jFW RX10 21 10 5 (.int) false := ⟨_, _, _, tyX10, rfl, iX10, tyX10_ok, nmX10, by decide, rfl, rfl, (fun h => by cases h), Or.inl (jt1 238 rfl rfl)⟩
theorem fw_X10_25 : jFW RX10 25 10 6 (.int) false := ⟨_, _, _, tyX10, rfl, iX10, tyX10_ok, nmX10, by decide, rfl, rfl, (fun h => by cases h), Or.inl (jt1 239 rfl rfl)⟩
theorem fw_X10_28 : jFW RX10 28 10 7 (.int) false := ⟨_, _, _, tyX10, rfl, iX10, tyX10_ok, nmX10, by decide, rfl, rfl, (fun h => by cases h), Or.inl (jt2 0 rfl rfl)⟩
theorem fw_X10_31 : jFW RX10 31 10 8 (.array .int) true := ⟨_, _, _, tyX10, rfl, iX10, tyX10_ok, nmX10, by decide, rfl, rfl, (fun _ => ⟨rfl, (jt2 1 rfl rfl)⟩), Or.inl (jt2 1 rfl rfl)⟩
theorem fw_X10_34 : jFW RX10 34 10 9 (.array .int) true := ⟨_, _, _, tyX10, rfl, iX10, tyX10_ok, nmX10, by decide, rfl, rfl, (fun _ => ⟨rfl, (jt2 2 rfl rfl)⟩), Or.inl (jt2 2 rfl rfl)⟩
theorem fw_X10_37 : jFW RX10 37 10 10 (.array .int) true := ⟨_, _, _, tyX10, rfl, iX10, tyX10_ok, nmX10, by decide, rfl, rfl, (fun _ => ⟨rfl, (jt2 3 rfl rfl)⟩), Or.inl (jt2 3 rfl rfl)⟩
theorem fw_X10_40 : jFW RX10 40 10 11 (.array .int) true := ⟨_, _, _, tyX10, rfl, iX10, tyX10_ok, nmX10, by decide, rfl, rfl, (fun _ => ⟨rfl, (jt2 4 rfl rfl)⟩), Or.inl (jt2 4 rfl rfl)⟩
theorem fw_X10_43 : jFW RX10 43 10 12 (.int) false := ⟨_, _, _, tyX10, rfl, iX10, tyX10_ok, nmX10, by decide, rfl, rfl, (fun h => by cases h), Or.inl (jt2 5 rfl rfl)⟩
theorem fw_X10_46 : jFW RX10 46 10 13 (.int) false := ⟨_, _, _, tyX10, rfl, iX10, tyX10_ok, nmX10, by decide, rfl, rfl, (fun h => by cases h), Or.inl (jt2 6 rfl rfl)⟩
theorem fw_X10_49 : jFW RX10 49 10 14 (.int) false := ⟨_, _, _, tyX10, rfl, iX10, tyX10_ok, nmX10, by decide, rfl, rfl, (fun h => by cases h), Or.inl (jt2 7 rfl rfl)⟩
theorem fw_X10_52 : jFW RX10 52 10 15 (.array .long) false := ⟨_, _, _, tyX10, rfl, iX10, tyX10_ok, nmX10, by decide, rfl, rfl, (fun h => by cases h), Or.inl (jt2 8 rfl rfl)⟩
theorem fw_X10_56 : jFW RX10 56 10 16 (.array .long) false := ⟨_, _, _, tyX10, rfl, iX10, tyX10_ok, nmX10, by decide, rfl, rfl, (fun h => by cases h), Or.inl (jt2 9 rfl rfl)⟩
theorem fw_X10_59 : jFW RX10 59 10 0 (.object "BeanStreet$Houses") true := ⟨_, _, _, tyX10, rfl, iX10, tyX10_ok, nmX10, by decide, rfl, rfl, (fun _ => ⟨rfl, (jt1 232 rfl rfl)⟩), Or.inl (jt1 232 rfl rfl)⟩
theorem fw_X10_63 : jFW RX10 63 10 1 (.object "BeanStreet$Streets") true := ⟨_, _, _, tyX10, rfl, iX10, tyX10_ok, nmX10, by decide, rfl, rfl, (fun _ => ⟨rfl, (jt1 233 rfl rfl)⟩), Or.inl (jt1 233 rfl rfl)⟩
theorem fw_X11_52 : jFW RX11 52 11 6 (.object "BeanStreet$Walks") true := ⟨_, _, _, tyX11, rfl, iX11, tyX11_ok, nmX11, by decide, rfl, rfl, (fun _ => ⟨rfl, (jt2 216 rfl rfl)⟩), Or.inl (jt2 216 rfl rfl)⟩
set_option maxRecDepth 20000 in
theorem iX3_at : ∀ k : Nat, k < 8 → u_lay RX3 TX3 k ∈ jtb
  | 0, _ => jt2 59 rfl rfl
  | 1, _ => jt2 61 rfl rfl
  | 2, _ => jt2 63 rfl rfl
  | 3, _ => jt2 65 rfl rfl
  | 4, _ => jt2 67 rfl rfl
  | 5, _ => jt2 69 rfl rfl
  | 6, _ => jt2 71 rfl rfl
  | 7, _ => jt2 73 rfl rfl
  | (n + 8), h => absurd h (by omega)
theorem iX3 : ∀ w ∈ u_ws RX3 TX3 8, w ∈ jtb := fun w hw => by
  obtain ⟨k, hk, rfl⟩ := List.mem_map.mp hw
  exact iX3_at k (List.mem_range.mp hk)
theorem nd_X11_56 : ∀ j : Nat, j < 8 → defaultValue (tyX3 j) = vp_V [.null, .null, .null, .null, .null, .null, .null, .int 0] j
  | 0, _ => rfl
  | 1, _ => rfl
  | 2, _ => rfl
  | 3, _ => rfl
  | 4, _ => rfl
  | 5, _ => rfl
  | 6, _ => rfl
  | 7, _ => rfl
  | (n + 8), h => absurd h (by omega)
theorem nw_X11_56 : jNW RX11 56 3 8 [.null, .null, .null, .null, .null, .null, .null, .int 0] := ⟨_, _, tyX3, rfl, iX3, tyX3_ok, (jt2 45 rfl rfl), (jt2 46 rfl rfl), (jt1 8 rfl rfl), nd_X11_56⟩
abbrev MX3_init : jM := (RX3, cX3_init, 3, none, true)
theorem ci_X11_58 : jCI RX11 58 yX3_init MX3_init 2 := ⟨(jt2 49 rfl rfl), rfl, (jt2 48 rfl rfl), (jt1 8 rfl rfl), rfl, ⟨by decide, by decide, by decide +kernel⟩, Or.inl (jt2 47 rfl rfl)⟩
theorem fw_X3_11 : jFW RX3 11 3 2 (.array .int) false := ⟨_, _, _, tyX3, rfl, iX3, tyX3_ok, nmX3, by decide, rfl, rfl, (fun h => by cases h), Or.inl (jt2 53 rfl rfl)⟩
theorem fw_X3_17 : jFW RX3 17 3 3 (.array .int) false := ⟨_, _, _, tyX3, rfl, iX3, tyX3_ok, nmX3, by decide, rfl, rfl, (fun h => by cases h), Or.inl (jt2 54 rfl rfl)⟩
theorem fw_X3_20 : jFW RX3 20 3 4 (.array .int) true := ⟨_, _, _, tyX3, rfl, iX3, tyX3_ok, nmX3, by decide, rfl, rfl, (fun _ => ⟨rfl, (jt2 55 rfl rfl)⟩), Or.inl (jt2 55 rfl rfl)⟩
theorem fw_X3_23 : jFW RX3 23 3 5 (.array .int) true := ⟨_, _, _, tyX3, rfl, iX3, tyX3_ok, nmX3, by decide, rfl, rfl, (fun _ => ⟨rfl, (jt2 56 rfl rfl)⟩), Or.inl (jt2 56 rfl rfl)⟩
theorem fw_X3_26 : jFW RX3 26 3 6 (.array .int) true := ⟨_, _, _, tyX3, rfl, iX3, tyX3_ok, nmX3, by decide, rfl, rfl, (fun _ => ⟨rfl, (jt2 57 rfl rfl)⟩), Or.inl (jt2 57 rfl rfl)⟩
theorem fw_X3_29 : jFW RX3 29 3 7 (.int) false := ⟨_, _, _, tyX3, rfl, iX3, tyX3_ok, nmX3, by decide, rfl, rfl, (fun h => by cases h), Or.inl (jt2 58 rfl rfl)⟩
theorem fw_X3_33 : jFW RX3 33 3 0 (.object "BeanStreet$Houses") true := ⟨_, _, _, tyX3, rfl, iX3, tyX3_ok, nmX3, by decide, rfl, rfl, (fun _ => ⟨rfl, (jt2 51 rfl rfl)⟩), Or.inl (jt2 51 rfl rfl)⟩
theorem fw_X3_37 : jFW RX3 37 3 1 (.object "BeanStreet$Streets") true := ⟨_, _, _, tyX3, rfl, iX3, tyX3_ok, nmX3, by decide, rfl, rfl, (fun _ => ⟨rfl, (jt2 52 rfl rfl)⟩), Or.inl (jt2 52 rfl rfl)⟩
theorem fw_X11_59 : jFW RX11 59 11 7 (.object "BeanStreet$Parting") true := ⟨_, _, _, tyX11, rfl, iX11, tyX11_ok, nmX11, by decide, rfl, rfl, (fun _ => ⟨rfl, (jt2 217 rfl rfl)⟩), Or.inl (jt2 217 rfl rfl)⟩
set_option maxRecDepth 20000 in
theorem iX7_at : ∀ k : Nat, k < 7 → u_lay RX7 TX7 k ∈ jtb
  | 0, _ => jt2 89 rfl rfl
  | 1, _ => jt2 91 rfl rfl
  | 2, _ => jt2 93 rfl rfl
  | 3, _ => jt2 95 rfl rfl
  | 4, _ => jt2 97 rfl rfl
  | 5, _ => jt2 99 rfl rfl
  | 6, _ => jt2 101 rfl rfl
  | (n + 7), h => absurd h (by omega)
theorem iX7 : ∀ w ∈ u_ws RX7 TX7 7, w ∈ jtb := fun w hw => by
  obtain ⟨k, hk, rfl⟩ := List.mem_map.mp hw
  exact iX7_at k (List.mem_range.mp hk)
theorem nd_X11_63 : ∀ j : Nat, j < 7 → defaultValue (tyX7 j) = vp_V [.null, .null, .null, .null, .null, .int 0, .int 0] j
  | 0, _ => rfl
  | 1, _ => rfl
  | 2, _ => rfl
  | 3, _ => rfl
  | 4, _ => rfl
  | 5, _ => rfl
  | 6, _ => rfl
  | (n + 7), h => absurd h (by omega)
theorem nw_X11_63 : jNW RX11 63 7 7 [.null, .null, .null, .null, .null, .int 0, .int 0] := ⟨_, _, tyX7, rfl, iX7, tyX7_ok, (jt2 76 rfl rfl), (jt2 77 rfl rfl), (jt1 9 rfl rfl), nd_X11_63⟩
abbrev MX7_init : jM := (RX7, cX7_init, 3, none, true)
theorem ci_X11_65 : jCI RX11 65 yX7_init MX7_init 2 := ⟨(jt2 80 rfl rfl), rfl, (jt2 79 rfl rfl), (jt1 9 rfl rfl), rfl, ⟨by decide, by decide, by decide +kernel⟩, Or.inl (jt2 78 rfl rfl)⟩
theorem fw_X7_11 : jFW RX7 11 7 2 (.array .int) true := ⟨_, _, _, tyX7, rfl, iX7, tyX7_ok, nmX7, by decide, rfl, rfl, (fun _ => ⟨rfl, (jt2 84 rfl rfl)⟩), Or.inl (jt2 84 rfl rfl)⟩
theorem fw_X7_15 : jFW RX7 15 7 3 (.array .int) true := ⟨_, _, _, tyX7, rfl, iX7, tyX7_ok, nmX7, by decide, rfl, rfl, (fun _ => ⟨rfl, (jt2 85 rfl rfl)⟩), Or.inl (jt2 85 rfl rfl)⟩
theorem fw_X7_18 : jFW RX7 18 7 4 (.array .int) false := ⟨_, _, _, tyX7, rfl, iX7, tyX7_ok, nmX7, by decide, rfl, rfl, (fun h => by cases h), Or.inl (jt2 86 rfl rfl)⟩
theorem fw_X7_21 : jFW RX7 21 7 5 (.boolean) false := ⟨_, _, _, tyX7, rfl, iX7, tyX7_ok, nmX7, by decide, rfl, rfl, (fun h => by cases h), Or.inl (jt2 87 rfl rfl)⟩
theorem fw_X7_25 : jFW RX7 25 7 6 (.int) false := ⟨_, _, _, tyX7, rfl, iX7, tyX7_ok, nmX7, by decide, rfl, rfl, (fun h => by cases h), Or.inl (jt2 88 rfl rfl)⟩
theorem fw_X7_29 : jFW RX7 29 7 0 (.object "BeanStreet$Houses") true := ⟨_, _, _, tyX7, rfl, iX7, tyX7_ok, nmX7, by decide, rfl, rfl, (fun _ => ⟨rfl, (jt2 82 rfl rfl)⟩), Or.inl (jt2 82 rfl rfl)⟩
theorem fw_X7_33 : jFW RX7 33 7 1 (.object "BeanStreet$Streets") true := ⟨_, _, _, tyX7, rfl, iX7, tyX7_ok, nmX7, by decide, rfl, rfl, (fun _ => ⟨rfl, (jt2 83 rfl rfl)⟩), Or.inl (jt2 83 rfl rfl)⟩
theorem fw_X11_66 : jFW RX11 66 11 8 (.object "BeanStreet$Rounds") true := ⟨_, _, _, tyX11, rfl, iX11, tyX11_ok, nmX11, by decide, rfl, rfl, (fun _ => ⟨rfl, (jt2 218 rfl rfl)⟩), Or.inl (jt2 218 rfl rfl)⟩
set_option maxRecDepth 20000 in
theorem iX2_at : ∀ k : Nat, k < 4 → u_lay RX2 TX2 k ∈ jtb
  | 0, _ => jt2 114 rfl rfl
  | 1, _ => jt2 116 rfl rfl
  | 2, _ => jt2 118 rfl rfl
  | 3, _ => jt2 120 rfl rfl
  | (n + 4), h => absurd h (by omega)
theorem iX2 : ∀ w ∈ u_ws RX2 TX2 4, w ∈ jtb := fun w hw => by
  obtain ⟨k, hk, rfl⟩ := List.mem_map.mp hw
  exact iX2_at k (List.mem_range.mp hk)
theorem nd_X11_70 : ∀ j : Nat, j < 4 → defaultValue (tyX2 j) = vp_V [.null, .null, .null, .null] j
  | 0, _ => rfl
  | 1, _ => rfl
  | 2, _ => rfl
  | 3, _ => rfl
  | (n + 4), h => absurd h (by omega)
theorem nw_X11_70 : jNW RX11 70 2 4 [.null, .null, .null, .null] := ⟨_, _, tyX2, rfl, iX2, tyX2_ok, (jt2 104 rfl rfl), (jt2 105 rfl rfl), (jt1 10 rfl rfl), nd_X11_70⟩
abbrev MX2_init : jM := (RX2, cX2_init, 3, none, true)
theorem ci_X11_72 : jCI RX11 72 yX2_init MX2_init 2 := ⟨(jt2 108 rfl rfl), rfl, (jt2 107 rfl rfl), (jt1 10 rfl rfl), rfl, ⟨by decide, by decide, by decide +kernel⟩, Or.inl (jt2 106 rfl rfl)⟩
theorem fw_X2_9 : jFW RX2 9 2 2 (.array .int) true := ⟨_, _, _, tyX2, rfl, iX2, tyX2_ok, nmX2, by decide, rfl, rfl, (fun _ => ⟨rfl, (jt2 112 rfl rfl)⟩), Or.inl (jt2 112 rfl rfl)⟩
theorem fw_X2_15 : jFW RX2 15 2 3 (.array .int) true := ⟨_, _, _, tyX2, rfl, iX2, tyX2_ok, nmX2, by decide, rfl, rfl, (fun _ => ⟨rfl, (jt2 113 rfl rfl)⟩), Or.inl (jt2 113 rfl rfl)⟩
theorem fw_X2_18 : jFW RX2 18 2 0 (.object "BeanStreet$State") true := ⟨_, _, _, tyX2, rfl, iX2, tyX2_ok, nmX2, by decide, rfl, rfl, (fun _ => ⟨rfl, (jt2 110 rfl rfl)⟩), Or.inl (jt2 110 rfl rfl)⟩
theorem fw_X2_22 : jFW RX2 22 2 1 (.object "BeanStreet$Houses") true := ⟨_, _, _, tyX2, rfl, iX2, tyX2_ok, nmX2, by decide, rfl, rfl, (fun _ => ⟨rfl, (jt2 111 rfl rfl)⟩), Or.inl (jt2 111 rfl rfl)⟩
theorem fw_X11_73 : jFW RX11 73 11 9 (.object "BeanStreet$Machine") true := ⟨_, _, _, tyX11, rfl, iX11, tyX11_ok, nmX11, by decide, rfl, rfl, (fun _ => ⟨rfl, (jt2 219 rfl rfl)⟩), Or.inl (jt2 219 rfl rfl)⟩
set_option maxRecDepth 20000 in
theorem iX6_at : ∀ k : Nat, k < 13 → u_lay RX6 TX6 k ∈ jtb
  | 0, _ => jt2 142 rfl rfl
  | 1, _ => jt2 144 rfl rfl
  | 2, _ => jt2 146 rfl rfl
  | 3, _ => jt2 148 rfl rfl
  | 4, _ => jt2 150 rfl rfl
  | 5, _ => jt2 152 rfl rfl
  | 6, _ => jt2 154 rfl rfl
  | 7, _ => jt2 156 rfl rfl
  | 8, _ => jt2 158 rfl rfl
  | 9, _ => jt2 160 rfl rfl
  | 10, _ => jt2 162 rfl rfl
  | 11, _ => jt2 164 rfl rfl
  | 12, _ => jt2 166 rfl rfl
  | (n + 13), h => absurd h (by omega)
theorem iX6 : ∀ w ∈ u_ws RX6 TX6 13, w ∈ jtb := fun w hw => by
  obtain ⟨k, hk, rfl⟩ := List.mem_map.mp hw
  exact iX6_at k (List.mem_range.mp hk)
theorem nd_X11_77 : ∀ j : Nat, j < 13 → defaultValue (tyX6 j) = vp_V [.null, .null, .null, .null, .null, .null, .int 0, .int 0, .null, .null, .int 0, .int 0, .int 0] j
  | 0, _ => rfl
  | 1, _ => rfl
  | 2, _ => rfl
  | 3, _ => rfl
  | 4, _ => rfl
  | 5, _ => rfl
  | 6, _ => rfl
  | 7, _ => rfl
  | 8, _ => rfl
  | 9, _ => rfl
  | 10, _ => rfl
  | 11, _ => rfl
  | 12, _ => rfl
  | (n + 13), h => absurd h (by omega)
theorem nw_X11_77 : jNW RX11 77 6 13 [.null, .null, .null, .null, .null, .null, .int 0, .int 0, .null, .null, .int 0, .int 0, .int 0] := ⟨_, _, tyX6, rfl, iX6, tyX6_ok, (jt2 123 rfl rfl), (jt2 124 rfl rfl), (jt1 11 rfl rfl), nd_X11_77⟩
theorem fl_X11_52 : jFL RX11 52 11 6 := ⟨_, _, _, rfl, iX11, by decide, Or.inl (jt2 216 rfl rfl)⟩
abbrev MX6_init : jM := (RX6, cX6_init, 5, none, true)
theorem ci_X11_79 : jCI RX11 79 yX6_init MX6_init 4 := ⟨(jt2 127 rfl rfl), rfl, (jt2 126 rfl rfl), (jt1 11 rfl rfl), rfl, ⟨by decide, by decide, by decide +kernel⟩, Or.inl (jt2 125 rfl rfl)⟩
theorem fw_X6_9 : jFW RX6 9 6 4 (.array .boolean) true := ⟨_, _, _, tyX6, rfl, iX6, tyX6_ok, nmX6, by decide, rfl, rfl, (fun _ => ⟨rfl, (jt2 133 rfl rfl)⟩), Or.inl (jt2 133 rfl rfl)⟩
theorem fw_X6_15 : jFW RX6 15 6 5 (.array .int) true := ⟨_, _, _, tyX6, rfl, iX6, tyX6_ok, nmX6, by decide, rfl, rfl, (fun _ => ⟨rfl, (jt2 134 rfl rfl)⟩), Or.inl (jt2 134 rfl rfl)⟩
theorem fw_X6_19 : jFW RX6 19 6 6 (.int) false := ⟨_, _, _, tyX6, rfl, iX6, tyX6_ok, nmX6, by decide, rfl, rfl, (fun h => by cases h), Or.inl (jt2 135 rfl rfl)⟩
theorem fw_X6_23 : jFW RX6 23 6 7 (.int) false := ⟨_, _, _, tyX6, rfl, iX6, tyX6_ok, nmX6, by decide, rfl, rfl, (fun h => by cases h), Or.inl (jt2 136 rfl rfl)⟩
theorem fw_X6_26 : jFW RX6 26 6 8 (.array .int) true := ⟨_, _, _, tyX6, rfl, iX6, tyX6_ok, nmX6, by decide, rfl, rfl, (fun _ => ⟨rfl, (jt2 137 rfl rfl)⟩), Or.inl (jt2 137 rfl rfl)⟩
theorem fw_X6_29 : jFW RX6 29 6 9 (.array .int) true := ⟨_, _, _, tyX6, rfl, iX6, tyX6_ok, nmX6, by decide, rfl, rfl, (fun _ => ⟨rfl, (jt2 138 rfl rfl)⟩), Or.inl (jt2 138 rfl rfl)⟩
theorem fw_X6_32 : jFW RX6 32 6 10 (.int) false := ⟨_, _, _, tyX6, rfl, iX6, tyX6_ok, nmX6, by decide, rfl, rfl, (fun h => by cases h), Or.inl (jt2 139 rfl rfl)⟩
theorem fw_X6_35 : jFW RX6 35 6 11 (.int) false := ⟨_, _, _, tyX6, rfl, iX6, tyX6_ok, nmX6, by decide, rfl, rfl, (fun h => by cases h), Or.inl (jt2 140 rfl rfl)⟩
theorem fw_X6_38 : jFW RX6 38 6 12 (.int) false := ⟨_, _, _, tyX6, rfl, iX6, tyX6_ok, nmX6, by decide, rfl, rfl, (fun h => by cases h), Or.inl (jt2 141 rfl rfl)⟩
theorem fw_X6_41 : jFW RX6 41 6 0 (.object "BeanStreet$State") true := ⟨_, _, _, tyX6, rfl, iX6, tyX6_ok, nmX6, by decide, rfl, rfl, (fun _ => ⟨rfl, (jt2 129 rfl rfl)⟩), Or.inl (jt2 129 rfl rfl)⟩
theorem fw_X6_45 : jFW RX6 45 6 1 (.object "BeanStreet$Houses") true := ⟨_, _, _, tyX6, rfl, iX6, tyX6_ok, nmX6, by decide, rfl, rfl, (fun _ => ⟨rfl, (jt2 130 rfl rfl)⟩), Or.inl (jt2 130 rfl rfl)⟩
theorem fw_X6_49 : jFW RX6 49 6 2 (.object "BeanStreet$Streets") true := ⟨_, _, _, tyX6, rfl, iX6, tyX6_ok, nmX6, by decide, rfl, rfl, (fun _ => ⟨rfl, (jt2 131 rfl rfl)⟩), Or.inl (jt2 131 rfl rfl)⟩
theorem fw_X6_53 : jFW RX6 53 6 3 (.object "BeanStreet$Walks") true := ⟨_, _, _, tyX6, rfl, iX6, tyX6_ok, nmX6, by decide, rfl, rfl, (fun _ => ⟨rfl, (jt2 132 rfl rfl)⟩), Or.inl (jt2 132 rfl rfl)⟩
theorem fw_X11_82 : jFW RX11 82 11 10 (.object "BeanStreet$Riddle") true := ⟨_, _, _, tyX11, rfl, iX11, tyX11_ok, nmX11, by decide, rfl, rfl, (fun _ => ⟨rfl, (jt2 220 rfl rfl)⟩), Or.inl (jt2 220 rfl rfl)⟩
set_option maxRecDepth 20000 in
theorem iX4_at : ∀ k : Nat, k < 5 → u_lay RX4 TX4 k ∈ jtb
  | 0, _ => jt2 180 rfl rfl
  | 1, _ => jt2 182 rfl rfl
  | 2, _ => jt2 184 rfl rfl
  | 3, _ => jt2 186 rfl rfl
  | 4, _ => jt2 188 rfl rfl
  | (n + 5), h => absurd h (by omega)
theorem iX4 : ∀ w ∈ u_ws RX4 TX4 5, w ∈ jtb := fun w hw => by
  obtain ⟨k, hk, rfl⟩ := List.mem_map.mp hw
  exact iX4_at k (List.mem_range.mp hk)
theorem nd_X11_86 : ∀ j : Nat, j < 5 → defaultValue (tyX4 j) = vp_V [.null, .null, .null, .null, .int 0] j
  | 0, _ => rfl
  | 1, _ => rfl
  | 2, _ => rfl
  | 3, _ => rfl
  | 4, _ => rfl
  | (n + 5), h => absurd h (by omega)
theorem nw_X11_86 : jNW RX11 86 4 5 [.null, .null, .null, .null, .int 0] := ⟨_, _, tyX4, rfl, iX4, tyX4_ok, (jt2 169 rfl rfl), (jt2 170 rfl rfl), (jt1 12 rfl rfl), nd_X11_86⟩
abbrev MX4_init : jM := (RX4, cX4_init, 3, none, true)
theorem ci_X11_88 : jCI RX11 88 yX4_init MX4_init 2 := ⟨(jt2 173 rfl rfl), rfl, (jt2 172 rfl rfl), (jt1 12 rfl rfl), rfl, ⟨by decide, by decide, by decide +kernel⟩, Or.inl (jt2 171 rfl rfl)⟩
theorem fw_X4_9 : jFW RX4 9 4 2 (.array .int) false := ⟨_, _, _, tyX4, rfl, iX4, tyX4_ok, nmX4, by decide, rfl, rfl, (fun h => by cases h), Or.inl (jt2 177 rfl rfl)⟩
theorem fw_X4_15 : jFW RX4 15 4 3 (.array .int) false := ⟨_, _, _, tyX4, rfl, iX4, tyX4_ok, nmX4, by decide, rfl, rfl, (fun h => by cases h), Or.inl (jt2 178 rfl rfl)⟩
theorem fw_X4_18 : jFW RX4 18 4 4 (.int) false := ⟨_, _, _, tyX4, rfl, iX4, tyX4_ok, nmX4, by decide, rfl, rfl, (fun h => by cases h), Or.inl (jt2 179 rfl rfl)⟩
theorem fw_X4_22 : jFW RX4 22 4 0 (.object "BeanStreet$Houses") true := ⟨_, _, _, tyX4, rfl, iX4, tyX4_ok, nmX4, by decide, rfl, rfl, (fun _ => ⟨rfl, (jt2 175 rfl rfl)⟩), Or.inl (jt2 175 rfl rfl)⟩
theorem fw_X4_26 : jFW RX4 26 4 1 (.object "BeanStreet$Streets") true := ⟨_, _, _, tyX4, rfl, iX4, tyX4_ok, nmX4, by decide, rfl, rfl, (fun _ => ⟨rfl, (jt2 176 rfl rfl)⟩), Or.inl (jt2 176 rfl rfl)⟩
theorem fw_X11_89 : jFW RX11 89 11 11 (.object "BeanStreet$Postmen") true := ⟨_, _, _, tyX11, rfl, iX11, tyX11_ok, nmX11, by decide, rfl, rfl, (fun _ => ⟨rfl, (jt2 221 rfl rfl)⟩), Or.inl (jt2 221 rfl rfl)⟩
theorem fw_X11_93 : jFW RX11 93 11 12 (.array .int) true := ⟨_, _, _, tyX11, rfl, iX11, tyX11_ok, nmX11, by decide, rfl, rfl, (fun _ => ⟨rfl, (jt2 222 rfl rfl)⟩), Or.inl (jt2 222 rfl rfl)⟩
theorem fw_X11_97 : jFW RX11 97 11 13 (.int) false := ⟨_, _, _, tyX11, rfl, iX11, tyX11_ok, nmX11, by decide, rfl, rfl, (fun h => by cases h), Or.inl (jt2 223 rfl rfl)⟩
theorem fw_X11_101 : jFW RX11 101 11 14 (.int) false := ⟨_, _, _, tyX11, rfl, iX11, tyX11_ok, nmX11, by decide, rfl, rfl, (fun h => by cases h), Or.inl (jt2 224 rfl rfl)⟩
theorem fw_X11_104 : jFW RX11 104 11 15 (.array .int) true := ⟨_, _, _, tyX11, rfl, iX11, tyX11_ok, nmX11, by decide, rfl, rfl, (fun _ => ⟨rfl, (jt2 225 rfl rfl)⟩), Or.inl (jt2 225 rfl rfl)⟩
theorem fw_X11_107 : jFW RX11 107 11 16 (.boolean) false := ⟨_, _, _, tyX11, rfl, iX11, tyX11_ok, nmX11, by decide, rfl, rfl, (fun h => by cases h), Or.inl (jt2 226 rfl rfl)⟩
theorem fl_X11_111 : jFL RX11 111 8 0 := ⟨_, _, _, rfl, iX8, by decide, Or.inr ⟨"BeanStreet", (jn1 38 rfl rfl)⟩⟩
abbrev MX0_settle : jM := (RX0, cX0_settle, 4, none, false)
theorem cv_X11_114 : jCV RX11 114 0 yX0_settle MX0_settle 1 := ⟨_, _, rfl, (jt2 194 rfl rfl), (jt2 192 rfl rfl), (jt2 193 rfl rfl), (jt1 3 rfl rfl), ⟨by decide, by decide, by decide +kernel⟩, Or.inl (jt2 191 rfl rfl)⟩
theorem fl_X0_9 : jFL RX0 9 0 0 := ⟨_, _, _, rfl, iX0, by decide, Or.inl (jt1 106 rfl rfl)⟩
theorem fl_X0_18 : jFL RX0 18 0 2 := ⟨_, _, _, rfl, iX0, by decide, Or.inl (jt1 108 rfl rfl)⟩
abbrev MX0_packed : jM := (RX0, cX0_packed, 3, some .int, false)
theorem cv_X0_25 : jCV RX0 25 0 yX0_packed MX0_packed 0 := ⟨_, _, rfl, (jt2 198 rfl rfl), (jt2 197 rfl rfl), (jtp (q := (⟨"BeanStreet$Houses", "packed", "()I"⟩, 4)) (List.mem_of_getElem? (i := 0) rfl)), (jt1 3 rfl rfl), ⟨by decide, by decide, by decide +kernel⟩, Or.inl (jt2 195 rfl rfl)⟩
theorem fl_X0_22 : jFL RX0 22 0 3 := ⟨_, _, _, rfl, iX0, by decide, Or.inl (jt1 109 rfl rfl)⟩
abbrev MX0_nextOrder : jM := (RX0, cX0_nextOrder, 5, some .boolean, false)
theorem cv_X0_29 : jCV RX0 29 0 yX0_nextOrder MX0_nextOrder 0 := ⟨_, _, rfl, (jt2 205 rfl rfl), (jt2 204 rfl rfl), (jtp (q := (⟨"BeanStreet$Houses", "nextOrder", "()Z"⟩, 4)) (List.mem_of_getElem? (i := 1) rfl)), (jt1 3 rfl rfl), ⟨by decide, by decide, by decide +kernel⟩, Or.inl (jt2 202 rfl rfl)⟩
set_option maxRecDepth 20000 in
theorem iX12_at : ∀ k : Nat, k < 56 → u_lay RX12 TX12 k ∈ jtb
  | 0, _ => jt6 130 rfl rfl
  | 1, _ => jt6 132 rfl rfl
  | 2, _ => jt6 134 rfl rfl
  | 3, _ => jt6 136 rfl rfl
  | 4, _ => jt6 138 rfl rfl
  | 5, _ => jt6 140 rfl rfl
  | 6, _ => jt6 142 rfl rfl
  | 7, _ => jt6 144 rfl rfl
  | 8, _ => jt6 146 rfl rfl
  | 9, _ => jt6 148 rfl rfl
  | 10, _ => jt6 150 rfl rfl
  | 11, _ => jt6 152 rfl rfl
  | 12, _ => jt6 154 rfl rfl
  | 13, _ => jt6 156 rfl rfl
  | 14, _ => jt6 158 rfl rfl
  | 15, _ => jt6 160 rfl rfl
  | 16, _ => jt6 162 rfl rfl
  | 17, _ => jt6 164 rfl rfl
  | 18, _ => jt6 166 rfl rfl
  | 19, _ => jt6 168 rfl rfl
  | 20, _ => jt6 170 rfl rfl
  | 21, _ => jt6 172 rfl rfl
  | 22, _ => jt6 174 rfl rfl
  | 23, _ => jt6 176 rfl rfl
  | 24, _ => jt6 178 rfl rfl
  | 25, _ => jt6 180 rfl rfl
  | 26, _ => jt6 182 rfl rfl
  | 27, _ => jt6 184 rfl rfl
  | 28, _ => jt6 186 rfl rfl
  | 29, _ => jt6 188 rfl rfl
  | 30, _ => jt6 190 rfl rfl
  | 31, _ => jt6 192 rfl rfl
  | 32, _ => jt6 194 rfl rfl
  | 33, _ => jt6 196 rfl rfl
  | 34, _ => jt6 198 rfl rfl
  | 35, _ => jt6 200 rfl rfl
  | 36, _ => jt6 202 rfl rfl
  | 37, _ => jt6 204 rfl rfl
  | 38, _ => jt6 206 rfl rfl
  | 39, _ => jt6 208 rfl rfl
  | 40, _ => jt6 210 rfl rfl
  | 41, _ => jt6 212 rfl rfl
  | 42, _ => jt6 214 rfl rfl
  | 43, _ => jt6 216 rfl rfl
  | 44, _ => jt6 218 rfl rfl
  | 45, _ => jt6 220 rfl rfl
  | 46, _ => jt6 222 rfl rfl
  | 47, _ => jt6 224 rfl rfl
  | 48, _ => jt6 226 rfl rfl
  | 49, _ => jt6 228 rfl rfl
  | 50, _ => jt6 230 rfl rfl
  | 51, _ => jt6 232 rfl rfl
  | 52, _ => jt6 234 rfl rfl
  | 53, _ => jt6 236 rfl rfl
  | 54, _ => jt6 238 rfl rfl
  | 55, _ => jt7 0 rfl rfl
  | (n + 56), h => absurd h (by omega)
theorem iX12 : ∀ w ∈ u_ws RX12 TX12 56, w ∈ jtb := fun w hw => by
  obtain ⟨k, hk, rfl⟩ := List.mem_map.mp hw
  exact iX12_at k (List.mem_range.mp hk)
theorem nd_L_10 : ∀ j : Nat, j < 56 → defaultValue (tyX12 j) = vp_V [.int 0, .int 0, .null, .null, .null, .null, .null, .null, .null, .int 0, .int 0, .null, .null, .null, .int 0, .int 0, .int 0, .int 0, .int 0, .int 0, .int 0, .null, .int 0, .int 0, .null, .null, .null, .null, .null, .null, .null, .null, .int 0, .int 0, .int 0, .int 0, .null, .null, .null, .null, .null, .null, .null, .null, .null, .null, .null, .null, .int 0, .null, .null, .null, .null, .null, .int 0, .int 0] j
  | 0, _ => rfl
  | 1, _ => rfl
  | 2, _ => rfl
  | 3, _ => rfl
  | 4, _ => rfl
  | 5, _ => rfl
  | 6, _ => rfl
  | 7, _ => rfl
  | 8, _ => rfl
  | 9, _ => rfl
  | 10, _ => rfl
  | 11, _ => rfl
  | 12, _ => rfl
  | 13, _ => rfl
  | 14, _ => rfl
  | 15, _ => rfl
  | 16, _ => rfl
  | 17, _ => rfl
  | 18, _ => rfl
  | 19, _ => rfl
  | 20, _ => rfl
  | 21, _ => rfl
  | 22, _ => rfl
  | 23, _ => rfl
  | 24, _ => rfl
  | 25, _ => rfl
  | 26, _ => rfl
  | 27, _ => rfl
  | 28, _ => rfl
  | 29, _ => rfl
  | 30, _ => rfl
  | 31, _ => rfl
  | 32, _ => rfl
  | 33, _ => rfl
  | 34, _ => rfl
  | 35, _ => rfl
  | 36, _ => rfl
  | 37, _ => rfl
  | 38, _ => rfl
  | 39, _ => rfl
  | 40, _ => rfl
  | 41, _ => rfl
  | 42, _ => rfl
  | 43, _ => rfl
  | 44, _ => rfl
  | 45, _ => rfl
  | 46, _ => rfl
  | 47, _ => rfl
  | 48, _ => rfl
  | 49, _ => rfl
  | 50, _ => rfl
  | 51, _ => rfl
  | 52, _ => rfl
  | 53, _ => rfl
  | 54, _ => rfl
  | 55, _ => rfl
  | (n + 56), h => absurd h (by omega)
theorem nw_L_10 : jNW RL 10 12 56 [.int 0, .int 0, .null, .null, .null, .null, .null, .null, .null, .int 0, .int 0, .null, .null, .null, .int 0, .int 0, .int 0, .int 0, .int 0, .int 0, .int 0, .null, .int 0, .int 0, .null, .null, .null, .null, .null, .null, .null, .null, .int 0, .int 0, .int 0, .int 0, .null, .null, .null, .null, .null, .null, .null, .null, .null, .null, .null, .null, .int 0, .null, .null, .null, .null, .null, .int 0, .int 0] := ⟨_, _, tyX12, rfl, iX12, tyX12_ok, (jt6 67 rfl rfl), (jt6 68 rfl rfl), (jt1 13 rfl rfl), nd_L_10⟩
abbrev MX12_init : jM := (RX12, cX12_init, 1, none, true)
theorem ci_L_12 : jCI RL 12 yX12_init MX12_init 0 := ⟨(jt6 71 rfl rfl), rfl, (jt6 70 rfl rfl), (jt1 13 rfl rfl), rfl, ⟨by decide, by decide, by decide +kernel⟩, Or.inl (jt6 69 rfl rfl)⟩
theorem fw_X12_7 : jFW RX12 7 12 2 (.array .int) true := ⟨_, _, _, tyX12, rfl, iX12, tyX12_ok, nmX12, by decide, rfl, rfl, (fun _ => ⟨rfl, (jt6 76 rfl rfl)⟩), Or.inl (jt6 76 rfl rfl)⟩
theorem fw_X12_20 : jFW RX12 20 12 3 (.array .int) true := ⟨_, _, _, tyX12, rfl, iX12, tyX12_ok, nmX12, by decide, rfl, rfl, (fun _ => ⟨rfl, (jt6 77 rfl rfl)⟩), Or.inl (jt6 77 rfl rfl)⟩
theorem fw_X12_23 : jFW RX12 23 12 4 (.array .int) true := ⟨_, _, _, tyX12, rfl, iX12, tyX12_ok, nmX12, by decide, rfl, rfl, (fun _ => ⟨rfl, (jt6 78 rfl rfl)⟩), Or.inl (jt6 78 rfl rfl)⟩
theorem fw_X12_26 : jFW RX12 26 12 5 (.array .boolean) true := ⟨_, _, _, tyX12, rfl, iX12, tyX12_ok, nmX12, by decide, rfl, rfl, (fun _ => ⟨rfl, (jt6 79 rfl rfl)⟩), Or.inl (jt6 79 rfl rfl)⟩
theorem fw_X12_30 : jFW RX12 30 12 6 (.array .byte) true := ⟨_, _, _, tyX12, rfl, iX12, tyX12_ok, nmX12, by decide, rfl, rfl, (fun _ => ⟨rfl, (jt6 80 rfl rfl)⟩), Or.inl (jt6 80 rfl rfl)⟩
theorem fw_X12_34 : jFW RX12 34 12 7 (.array .byte) true := ⟨_, _, _, tyX12, rfl, iX12, tyX12_ok, nmX12, by decide, rfl, rfl, (fun _ => ⟨rfl, (jt6 81 rfl rfl)⟩), Or.inl (jt6 81 rfl rfl)⟩
theorem fw_X12_37 : jFW RX12 37 12 8 (.array .int) true := ⟨_, _, _, tyX12, rfl, iX12, tyX12_ok, nmX12, by decide, rfl, rfl, (fun _ => ⟨rfl, (jt6 82 rfl rfl)⟩), Or.inl (jt6 82 rfl rfl)⟩
theorem fw_X12_40 : jFW RX12 40 12 10 (.int) false := ⟨_, _, _, tyX12, rfl, iX12, tyX12_ok, nmX12, by decide, rfl, rfl, (fun h => by cases h), Or.inl (jt6 84 rfl rfl)⟩
theorem fw_X12_43 : jFW RX12 43 12 11 (.array .int) true := ⟨_, _, _, tyX12, rfl, iX12, tyX12_ok, nmX12, by decide, rfl, rfl, (fun _ => ⟨rfl, (jt6 85 rfl rfl)⟩), Or.inl (jt6 85 rfl rfl)⟩
theorem fw_X12_46 : jFW RX12 46 12 12 (.array .int) true := ⟨_, _, _, tyX12, rfl, iX12, tyX12_ok, nmX12, by decide, rfl, rfl, (fun _ => ⟨rfl, (jt6 86 rfl rfl)⟩), Or.inl (jt6 86 rfl rfl)⟩
theorem fw_X12_49 : jFW RX12 49 12 13 (.array .int) true := ⟨_, _, _, tyX12, rfl, iX12, tyX12_ok, nmX12, by decide, rfl, rfl, (fun _ => ⟨rfl, (jt6 87 rfl rfl)⟩), Or.inl (jt6 87 rfl rfl)⟩
theorem fw_X12_52 : jFW RX12 52 12 21 (.array .int) true := ⟨_, _, _, tyX12, rfl, iX12, tyX12_ok, nmX12, by decide, rfl, rfl, (fun _ => ⟨rfl, (jt6 95 rfl rfl)⟩), Or.inl (jt6 95 rfl rfl)⟩
theorem fw_X12_55 : jFW RX12 55 12 24 (.array .int) true := ⟨_, _, _, tyX12, rfl, iX12, tyX12_ok, nmX12, by decide, rfl, rfl, (fun _ => ⟨rfl, (jt6 98 rfl rfl)⟩), Or.inl (jt6 98 rfl rfl)⟩
theorem fw_X12_58 : jFW RX12 58 12 25 (.array .int) true := ⟨_, _, _, tyX12, rfl, iX12, tyX12_ok, nmX12, by decide, rfl, rfl, (fun _ => ⟨rfl, (jt6 99 rfl rfl)⟩), Or.inl (jt6 99 rfl rfl)⟩
theorem fw_X12_61 : jFW RX12 61 12 26 (.array .int) true := ⟨_, _, _, tyX12, rfl, iX12, tyX12_ok, nmX12, by decide, rfl, rfl, (fun _ => ⟨rfl, (jt6 100 rfl rfl)⟩), Or.inl (jt6 100 rfl rfl)⟩
theorem fw_X12_64 : jFW RX12 64 12 27 (.array .int) true := ⟨_, _, _, tyX12, rfl, iX12, tyX12_ok, nmX12, by decide, rfl, rfl, (fun _ => ⟨rfl, (jt6 101 rfl rfl)⟩), Or.inl (jt6 101 rfl rfl)⟩
theorem fw_X12_67 : jFW RX12 67 12 28 (.array .int) true := ⟨_, _, _, tyX12, rfl, iX12, tyX12_ok, nmX12, by decide, rfl, rfl, (fun _ => ⟨rfl, (jt6 102 rfl rfl)⟩), Or.inl (jt6 102 rfl rfl)⟩
theorem fw_X12_70 : jFW RX12 70 12 29 (.array .int) true := ⟨_, _, _, tyX12, rfl, iX12, tyX12_ok, nmX12, by decide, rfl, rfl, (fun _ => ⟨rfl, (jt6 103 rfl rfl)⟩), Or.inl (jt6 103 rfl rfl)⟩
theorem fw_X12_73 : jFW RX12 73 12 30 (.array .int) true := ⟨_, _, _, tyX12, rfl, iX12, tyX12_ok, nmX12, by decide, rfl, rfl, (fun _ => ⟨rfl, (jt6 104 rfl rfl)⟩), Or.inl (jt6 104 rfl rfl)⟩
theorem fw_X12_76 : jFW RX12 76 12 31 (.array .int) true := ⟨_, _, _, tyX12, rfl, iX12, tyX12_ok, nmX12, by decide, rfl, rfl, (fun _ => ⟨rfl, (jt6 105 rfl rfl)⟩), Or.inl (jt6 105 rfl rfl)⟩
theorem fw_X12_79 : jFW RX12 79 12 34 (.int) false := ⟨_, _, _, tyX12, rfl, iX12, tyX12_ok, nmX12, by decide, rfl, rfl, (fun h => by cases h), Or.inl (jt6 108 rfl rfl)⟩
theorem fw_X12_82 : jFW RX12 82 12 35 (.int) false := ⟨_, _, _, tyX12, rfl, iX12, tyX12_ok, nmX12, by decide, rfl, rfl, (fun h => by cases h), Or.inl (jt6 109 rfl rfl)⟩
theorem fw_X12_85 : jFW RX12 85 12 36 (.array .int) true := ⟨_, _, _, tyX12, rfl, iX12, tyX12_ok, nmX12, by decide, rfl, rfl, (fun _ => ⟨rfl, (jt6 110 rfl rfl)⟩), Or.inl (jt6 110 rfl rfl)⟩
theorem fw_X12_88 : jFW RX12 88 12 37 (.array .long) true := ⟨_, _, _, tyX12, rfl, iX12, tyX12_ok, nmX12, by decide, rfl, rfl, (fun _ => ⟨rfl, (jt6 111 rfl rfl)⟩), Or.inl (jt6 111 rfl rfl)⟩
theorem fw_X12_92 : jFW RX12 92 12 38 (.array .int) true := ⟨_, _, _, tyX12, rfl, iX12, tyX12_ok, nmX12, by decide, rfl, rfl, (fun _ => ⟨rfl, (jt6 112 rfl rfl)⟩), Or.inl (jt6 112 rfl rfl)⟩
theorem fw_X12_95 : jFW RX12 95 12 39 (.array .int) true := ⟨_, _, _, tyX12, rfl, iX12, tyX12_ok, nmX12, by decide, rfl, rfl, (fun _ => ⟨rfl, (jt6 113 rfl rfl)⟩), Or.inl (jt6 113 rfl rfl)⟩
theorem fw_X12_98 : jFW RX12 98 12 40 (.array .boolean) true := ⟨_, _, _, tyX12, rfl, iX12, tyX12_ok, nmX12, by decide, rfl, rfl, (fun _ => ⟨rfl, (jt6 114 rfl rfl)⟩), Or.inl (jt6 114 rfl rfl)⟩
theorem fw_X12_101 : jFW RX12 101 12 41 (.array .int) true := ⟨_, _, _, tyX12, rfl, iX12, tyX12_ok, nmX12, by decide, rfl, rfl, (fun _ => ⟨rfl, (jt6 115 rfl rfl)⟩), Or.inl (jt6 115 rfl rfl)⟩
theorem fw_X12_104 : jFW RX12 104 12 42 (.array .boolean) true := ⟨_, _, _, tyX12, rfl, iX12, tyX12_ok, nmX12, by decide, rfl, rfl, (fun _ => ⟨rfl, (jt6 116 rfl rfl)⟩), Or.inl (jt6 116 rfl rfl)⟩
theorem fw_X12_107 : jFW RX12 107 12 43 (.array .int) true := ⟨_, _, _, tyX12, rfl, iX12, tyX12_ok, nmX12, by decide, rfl, rfl, (fun _ => ⟨rfl, (jt6 117 rfl rfl)⟩), Or.inl (jt6 117 rfl rfl)⟩
theorem fw_X12_110 : jFW RX12 110 12 44 (.array .int) true := ⟨_, _, _, tyX12, rfl, iX12, tyX12_ok, nmX12, by decide, rfl, rfl, (fun _ => ⟨rfl, (jt6 118 rfl rfl)⟩), Or.inl (jt6 118 rfl rfl)⟩
theorem fw_X12_113 : jFW RX12 113 12 45 (.array .long) true := ⟨_, _, _, tyX12, rfl, iX12, tyX12_ok, nmX12, by decide, rfl, rfl, (fun _ => ⟨rfl, (jt6 119 rfl rfl)⟩), Or.inl (jt6 119 rfl rfl)⟩
theorem fw_X12_116 : jFW RX12 116 12 46 (.array .long) true := ⟨_, _, _, tyX12, rfl, iX12, tyX12_ok, nmX12, by decide, rfl, rfl, (fun _ => ⟨rfl, (jt6 120 rfl rfl)⟩), Or.inl (jt6 120 rfl rfl)⟩
theorem fw_X12_120 : jFW RX12 120 12 47 (.array .boolean) true := ⟨_, _, _, tyX12, rfl, iX12, tyX12_ok, nmX12, by decide, rfl, rfl, (fun _ => ⟨rfl, (jt6 121 rfl rfl)⟩), Or.inl (jt6 121 rfl rfl)⟩
theorem fw_X12_123 : jFW RX12 123 12 49 (.array .boolean) true := ⟨_, _, _, tyX12, rfl, iX12, tyX12_ok, nmX12, by decide, rfl, rfl, (fun _ => ⟨rfl, (jt6 123 rfl rfl)⟩), Or.inl (jt6 123 rfl rfl)⟩
theorem fw_X12_126 : jFW RX12 126 12 50 (.array .int) true := ⟨_, _, _, tyX12, rfl, iX12, tyX12_ok, nmX12, by decide, rfl, rfl, (fun _ => ⟨rfl, (jt6 124 rfl rfl)⟩), Or.inl (jt6 124 rfl rfl)⟩
theorem fw_X12_129 : jFW RX12 129 12 51 (.array .int) true := ⟨_, _, _, tyX12, rfl, iX12, tyX12_ok, nmX12, by decide, rfl, rfl, (fun _ => ⟨rfl, (jt6 125 rfl rfl)⟩), Or.inl (jt6 125 rfl rfl)⟩
theorem fw_X12_132 : jFW RX12 132 12 52 (.array .int) true := ⟨_, _, _, tyX12, rfl, iX12, tyX12_ok, nmX12, by decide, rfl, rfl, (fun _ => ⟨rfl, (jt6 126 rfl rfl)⟩), Or.inl (jt6 126 rfl rfl)⟩
theorem fw_X12_135 : jFW RX12 135 12 53 (.array .int) true := ⟨_, _, _, tyX12, rfl, iX12, tyX12_ok, nmX12, by decide, rfl, rfl, (fun _ => ⟨rfl, (jt6 127 rfl rfl)⟩), Or.inl (jt6 127 rfl rfl)⟩
theorem fl_X12_20 : jFL RX12 20 12 3 := ⟨_, _, _, rfl, iX12, by decide, Or.inl (jt6 77 rfl rfl)⟩
abbrev MX11_beans : jM := (RX11, cX11_beans, 4, some .int, false)
theorem cv_L_13 : jCV RL 13 11 yX11_beans MX11_beans 2 := ⟨_, _, rfl, (jt3 25 rfl rfl), (jt3 23 rfl rfl), (jt3 24 rfl rfl), (jt1 1 rfl rfl), ⟨by decide, by decide, by decide +kernel⟩, Or.inl (jt3 22 rfl rfl)⟩
abbrev MX11_refuse : jM := (RX11, cX11_refuse, 2, some .int, false)
theorem cv_X11_118 : jCV RX11 118 11 yX11_refuse MX11_refuse 1 := ⟨_, _, rfl, (jt3 29 rfl rfl), (jt3 28 rfl rfl), (jtp (q := (⟨"BeanStreet", "refuse", "(I)I"⟩, 17)) (List.mem_of_getElem? (i := 3) rfl)), (jt1 1 rfl rfl), ⟨by decide, by decide, by decide +kernel⟩, Or.inl (jt3 26 rfl rfl)⟩
theorem fl_X11_93 : jFL RX11 93 11 12 := ⟨_, _, _, rfl, iX11, by decide, Or.inl (jt2 222 rfl rfl)⟩
abbrev MX11_refusalPlace : jM := (RX11, cX11_refusalPlace, 1, some .int, false)
theorem cs_X11_318 : jCS RX11 318 yX11_refusalPlace MX11_refusalPlace 1 := ⟨(jt3 32 rfl rfl), (jt3 31 rfl rfl), (jt1 1 rfl rfl), ⟨by decide, by decide, by decide +kernel⟩, Or.inl (jt3 30 rfl rfl)⟩
abbrev MX12_beans : jM := (RX12, cX12_beans, 4, some .int, false)
theorem cv_L_17 : jCV RL 17 12 yX12_beans MX12_beans 2 := ⟨_, _, rfl, (jt7 25 rfl rfl), (jt7 23 rfl rfl), (jt7 24 rfl rfl), (jt1 13 rfl rfl), ⟨by decide, by decide, by decide +kernel⟩, Or.inl (jt7 22 rfl rfl)⟩
abbrev MX12_lies : jM := (RX12, cX12_lies, 3, some .boolean, false)
theorem cs_X12_138 : jCS RX12 138 yX12_lies MX12_lies 3 := ⟨(jt7 9 rfl rfl), (jt7 8 rfl rfl), (jt1 13 rfl rfl), ⟨by decide, by decide, by decide +kernel⟩, Or.inl (jt7 7 rfl rfl)⟩
abbrev MX12_refuses : jM := (RX12, cX12_refuses, 2, some .int, false)
theorem cv_X12_142 : jCV RX12 142 12 yX12_refuses MX12_refuses 1 := ⟨_, _, rfl, (jt7 13 rfl rfl), (jt7 12 rfl rfl), (jtp (q := (⟨"BeanStreetModel", "refuses", "(I)I"⟩, 56)) (List.mem_of_getElem? (i := 54) rfl)), (jt1 13 rfl rfl), ⟨by decide, by decide, by decide +kernel⟩, Or.inl (jt7 10 rfl rfl)⟩
theorem fw_X12_3 : jFW RX12 3 12 0 (.int) false := ⟨_, _, _, tyX12, rfl, iX12, tyX12_ok, nmX12, by decide, rfl, rfl, (fun h => by cases h), Or.inl (jt6 74 rfl rfl)⟩
theorem fl_X12_7 : jFL RX12 7 12 2 := ⟨_, _, _, rfl, iX12, by decide, Or.inl (jt6 76 rfl rfl)⟩
abbrev MX0_places : jM := (RX0, cX0_places, 1, some .int, false)
theorem cv_X11_122 : jCV RX11 122 0 yX0_places MX0_places 0 := ⟨_, _, rfl, (jt3 36 rfl rfl), (jt3 34 rfl rfl), (jt3 35 rfl rfl), (jt1 3 rfl rfl), ⟨by decide, by decide, by decide +kernel⟩, Or.inl (jt3 33 rfl rfl)⟩
abbrev MX11_resettle : jM := (RX11, cX11_resettle, 1, none, false)
theorem cv_X11_126 : jCV RX11 126 11 yX11_resettle MX11_resettle 0 := ⟨_, _, rfl, (jt3 40 rfl rfl), (jt3 39 rfl rfl), (jtp (q := (⟨"BeanStreet", "resettle", "()V"⟩, 17)) (List.mem_of_getElem? (i := 4) rfl)), (jt1 1 rfl rfl), ⟨by decide, by decide, by decide +kernel⟩, Or.inl (jt3 37 rfl rfl)⟩
theorem fw_X11_204 : jFW RX11 204 8 7 (.int) false := ⟨_, _, _, tyX8, rfl, iX8, tyX8_ok, nmX8, by decide, rfl, rfl, (fun h => by cases h), Or.inr ⟨"BeanStreet", (jn1 54 rfl rfl)⟩⟩
theorem fw_X11_286 : jFW RX11 286 8 10 (.int) false := ⟨_, _, _, tyX8, rfl, iX8, tyX8_ok, nmX8, by decide, rfl, rfl, (fun h => by cases h), Or.inr ⟨"BeanStreet", (jn1 61 rfl rfl)⟩⟩
abbrev MX8_dropSwapsBeyond : jM := (RX8, cX8_dropSwapsBeyond, 4, none, false)
theorem cv_X11_321 : jCV RX11 321 8 yX8_dropSwapsBeyond MX8_dropSwapsBeyond 1 := ⟨_, _, rfl, (jt3 44 rfl rfl), (jt3 42 rfl rfl), (jt3 43 rfl rfl), (jt1 2 rfl rfl), ⟨by decide, by decide, by decide +kernel⟩, Or.inl (jt3 41 rfl rfl)⟩
theorem fl_X8_54 : jFL RX8 54 8 13 := ⟨_, _, _, rfl, iX8, by decide, Or.inl (jt1 66 rfl rfl)⟩
abbrev MX9_changeAll : jM := (RX9, cX9_changeAll, 1, none, false)
theorem cv_X11_148 : jCV RX11 148 9 yX9_changeAll MX9_changeAll 0 := ⟨_, _, rfl, (jt3 52 rfl rfl), (jt3 50 rfl rfl), (jt3 51 rfl rfl), (jt1 5 rfl rfl), ⟨by decide, by decide, by decide +kernel⟩, Or.inl (jt3 49 rfl rfl)⟩
abbrev MX9_changeWalls : jM := (RX9, cX9_changeWalls, 1, none, false)
theorem cv_X9_50 : jCV RX9 50 9 yX9_changeWalls MX9_changeWalls 0 := ⟨_, _, rfl, (jt3 56 rfl rfl), (jt3 54 rfl rfl), (jt3 55 rfl rfl), (jt1 5 rfl rfl), ⟨by decide, by decide, by decide +kernel⟩, Or.inl (jt3 53 rfl rfl)⟩
theorem fl_X9_31 : jFL RX9 31 9 7 := ⟨_, _, _, rfl, iX9, by decide, Or.inl (jt1 202 rfl rfl)⟩
abbrev MX11_accept : jM := (RX11, cX11_accept, 2, some .int, false)
theorem cv_X11_129 : jCV RX11 129 11 yX11_accept MX11_accept 1 := ⟨_, _, rfl, (jt3 60 rfl rfl), (jt3 59 rfl rfl), (jtp (q := (⟨"BeanStreet", "accept", "(I)I"⟩, 17)) (List.mem_of_getElem? (i := 5) rfl)), (jt1 1 rfl rfl), ⟨by decide, by decide, by decide +kernel⟩, Or.inl (jt3 57 rfl rfl)⟩
abbrev MX12_places : jM := (RX12, cX12_places, 3, some .int, false)
theorem cv_X12_149 : jCV RX12 149 12 yX12_places MX12_places 0 := ⟨_, _, rfl, (jt7 29 rfl rfl), (jt7 28 rfl rfl), (jtp (q := (⟨"BeanStreetModel", "places", "()I"⟩, 56)) (List.mem_of_getElem? (i := 56) rfl)), (jt1 13 rfl rfl), ⟨by decide, by decide, by decide +kernel⟩, Or.inl (jt7 26 rfl rfl)⟩
abbrev MX12_newBeans : jM := (RX12, cX12_newBeans, 3, none, false)
theorem cv_X12_153 : jCV RX12 153 12 yX12_newBeans MX12_newBeans 0 := ⟨_, _, rfl, (jt7 33 rfl rfl), (jt7 32 rfl rfl), (jtp (q := (⟨"BeanStreetModel", "newBeans", "()V"⟩, 56)) (List.mem_of_getElem? (i := 57) rfl)), (jt1 13 rfl rfl), ⟨by decide, by decide, by decide +kernel⟩, Or.inl (jt7 30 rfl rfl)⟩
abbrev MX12_good : jM := (RX12, cX12_good, 2, some .int, false)
theorem cv_X12_146 : jCV RX12 146 12 yX12_good MX12_good 1 := ⟨_, _, rfl, (jt7 17 rfl rfl), (jt7 16 rfl rfl), (jtp (q := (⟨"BeanStreetModel", "good", "(I)I"⟩, 56)) (List.mem_of_getElem? (i := 55) rfl)), (jt1 13 rfl rfl), ⟨by decide, by decide, by decide +kernel⟩, Or.inl (jt7 14 rfl rfl)⟩
theorem fl_X12_11 : jFL RX12 11 12 1 := ⟨_, _, _, rfl, iX12, by decide, Or.inl (jt6 75 rfl rfl)⟩
theorem fw_X12_11 : jFW RX12 11 12 1 (.int) false := ⟨_, _, _, tyX12, rfl, iX12, tyX12_ok, nmX12, by decide, rfl, rfl, (fun h => by cases h), Or.inl (jt6 75 rfl rfl)⟩
theorem fl_X0_15 : jFL RX0 15 0 1 := ⟨_, _, _, rfl, iX0, by decide, Or.inl (jt1 107 rfl rfl)⟩
abbrev MX0_behind : jM := (RX0, cX0_behind, 2, some .int, false)
theorem cs_X0_33 : jCS RX0 33 yX0_behind MX0_behind 2 := ⟨(jt2 201 rfl rfl), (jt2 200 rfl rfl), (jt1 3 rfl rfl), ⟨by decide, by decide, by decide +kernel⟩, Or.inl (jt2 199 rfl rfl)⟩
abbrev MX11_houses : jM := (RX11, cX11_houses, 1, some .int, false)
theorem cv_L_18 : jCV RL 18 11 yX11_houses MX11_houses 0 := ⟨_, _, rfl, (jt3 64 rfl rfl), (jt3 62 rfl rfl), (jt3 63 rfl rfl), (jt1 1 rfl rfl), ⟨by decide, by decide, by decide +kernel⟩, Or.inl (jt3 61 rfl rfl)⟩
abbrev MX0_many : jM := (RX0, cX0_many, 1, some .int, false)
theorem cv_X11_132 : jCV RX11 132 0 yX0_many MX0_many 0 := ⟨_, _, rfl, (jt3 68 rfl rfl), (jt3 66 rfl rfl), (jt3 67 rfl rfl), (jt1 3 rfl rfl), ⟨by decide, by decide, by decide +kernel⟩, Or.inl (jt3 65 rfl rfl)⟩
abbrev MX12_houses : jM := (RX12, cX12_houses, 1, some .int, false)
theorem cv_L_22 : jCV RL 22 12 yX12_houses MX12_houses 0 := ⟨_, _, rfl, (jt7 151 rfl rfl), (jt7 149 rfl rfl), (jt7 150 rfl rfl), (jt1 13 rfl rfl), ⟨by decide, by decide, by decide +kernel⟩, Or.inl (jt7 148 rfl rfl)⟩
abbrev MX12_laysHouses : jM := (RX12, cX12_laysHouses, 5, none, false)
theorem cv_X12_159 : jCV RX12 159 12 yX12_laysHouses MX12_laysHouses 0 := ⟨_, _, rfl, (jt7 45 rfl rfl), (jt7 44 rfl rfl), (jtp (q := (⟨"BeanStreetModel", "laysHouses", "()V"⟩, 56)) (List.mem_of_getElem? (i := 58) rfl)), (jt1 13 rfl rfl), ⟨by decide, by decide, by decide +kernel⟩, Or.inl (jt7 42 rfl rfl)⟩
theorem fl_X12_79 : jFL RX12 79 12 34 := ⟨_, _, _, rfl, iX12, by decide, Or.inl (jt6 108 rfl rfl)⟩
theorem fw_X12_293 : jFW RX12 293 12 33 (.int) false := ⟨_, _, _, tyX12, rfl, iX12, tyX12_ok, nmX12, by decide, rfl, rfl, (fun h => by cases h), Or.inl (jt6 107 rfl rfl)⟩
theorem fw_X12_298 : jFW RX12 298 12 32 (.int) false := ⟨_, _, _, tyX12, rfl, iX12, tyX12_ok, nmX12, by decide, rfl, rfl, (fun h => by cases h), Or.inl (jt6 106 rfl rfl)⟩
theorem fl_X12_293 : jFL RX12 293 12 33 := ⟨_, _, _, rfl, iX12, by decide, Or.inl (jt6 107 rfl rfl)⟩
theorem fl_X12_58 : jFL RX12 58 12 25 := ⟨_, _, _, rfl, iX12, by decide, Or.inl (jt6 99 rfl rfl)⟩
theorem fl_X12_298 : jFL RX12 298 12 32 := ⟨_, _, _, rfl, iX12, by decide, Or.inl (jt6 106 rfl rfl)⟩
abbrev MX12_nextOrder : jM := (RX12, cX12_nextOrder, 5, some .boolean, false)
theorem cv_X12_301 : jCV RX12 301 12 yX12_nextOrder MX12_nextOrder 0 := ⟨_, _, rfl, (jt7 49 rfl rfl), (jt7 48 rfl rfl), (jtp (q := (⟨"BeanStreetModel", "nextOrder", "()Z"⟩, 56)) (List.mem_of_getElem? (i := 59) rfl)), (jt1 13 rfl rfl), ⟨by decide, by decide, by decide +kernel⟩, Or.inl (jt7 46 rfl rfl)⟩
abbrev MX11_code : jM := (RX11, cX11_code, 2, some .int, false)
theorem cv_L_23 : jCV RL 23 11 yX11_code MX11_code 1 := ⟨_, _, rfl, (jt3 72 rfl rfl), (jt3 70 rfl rfl), (jt3 71 rfl rfl), (jt1 1 rfl rfl), ⟨by decide, by decide, by decide +kernel⟩, Or.inl (jt3 69 rfl rfl)⟩
abbrev MX0_has : jM := (RX0, cX0_has, 2, some .boolean, false)
theorem cv_X11_135 : jCV RX11 135 0 yX0_has MX0_has 1 := ⟨_, _, rfl, (jt3 76 rfl rfl), (jt3 74 rfl rfl), (jt3 75 rfl rfl), (jt1 3 rfl rfl), ⟨by decide, by decide, by decide +kernel⟩, Or.inl (jt3 73 rfl rfl)⟩
abbrev MX12_code : jM := (RX12, cX12_code, 2, some .int, false)
theorem cv_L_27 : jCV RL 27 12 yX12_code MX12_code 1 := ⟨_, _, rfl, (jt7 155 rfl rfl), (jt7 153 rfl rfl), (jt7 154 rfl rfl), (jt1 13 rfl rfl), ⟨by decide, by decide, by decide +kernel⟩, Or.inl (jt7 152 rfl rfl)⟩
abbrev MX12_isHouse : jM := (RX12, cX12_isHouse, 2, some .boolean, false)
theorem cv_X12_325 : jCV RX12 325 12 yX12_isHouse MX12_isHouse 1 := ⟨_, _, rfl, (jt7 159 rfl rfl), (jt7 158 rfl rfl), (jtp (q := (⟨"BeanStreetModel", "isHouse", "(I)Z"⟩, 56)) (List.mem_of_getElem? (i := 77) rfl)), (jt1 13 rfl rfl), ⟨by decide, by decide, by decide +kernel⟩, Or.inl (jt7 156 rfl rfl)⟩
abbrev MX0_codeOf : jM := (RX0, cX0_codeOf, 4, some .int, false)
theorem cv_X11_139 : jCV RX11 139 0 yX0_codeOf MX0_codeOf 1 := ⟨_, _, rfl, (jt3 80 rfl rfl), (jt3 78 rfl rfl), (jt3 79 rfl rfl), (jt1 3 rfl rfl), ⟨by decide, by decide, by decide +kernel⟩, Or.inl (jt3 77 rfl rfl)⟩
abbrev MX11_house : jM := (RX11, cX11_house, 2, some .int, false)
theorem cv_L_28 : jCV RL 28 11 yX11_house MX11_house 1 := ⟨_, _, rfl, (jt3 96 rfl rfl), (jt3 94 rfl rfl), (jt3 95 rfl rfl), (jt1 1 rfl rfl), ⟨by decide, by decide, by decide +kernel⟩, Or.inl (jt3 93 rfl rfl)⟩
abbrev MX0_withCode : jM := (RX0, cX0_withCode, 5, some .int, false)
theorem cv_X11_142 : jCV RX11 142 0 yX0_withCode MX0_withCode 1 := ⟨_, _, rfl, (jt3 100 rfl rfl), (jt3 98 rfl rfl), (jt3 99 rfl rfl), (jt1 3 rfl rfl), ⟨by decide, by decide, by decide +kernel⟩, Or.inl (jt3 97 rfl rfl)⟩
abbrev MX12_house : jM := (RX12, cX12_house, 2, some .int, false)
theorem cv_L_31 : jCV RL 31 12 yX12_house MX12_house 1 := ⟨_, _, rfl, (jt7 163 rfl rfl), (jt7 161 rfl rfl), (jt7 162 rfl rfl), (jt1 13 rfl rfl), ⟨by decide, by decide, by decide +kernel⟩, Or.inl (jt7 160 rfl rfl)⟩
abbrev MX12_houseOf : jM := (RX12, cX12_houseOf, 5, some .int, false)
theorem cv_X12_162 : jCV RX12 162 12 yX12_houseOf MX12_houseOf 1 := ⟨_, _, rfl, (jt7 57 rfl rfl), (jt7 56 rfl rfl), (jtp (q := (⟨"BeanStreetModel", "houseOf", "(I)I"⟩, 56)) (List.mem_of_getElem? (i := 61) rfl)), (jt1 13 rfl rfl), ⟨by decide, by decide, by decide +kernel⟩, Or.inl (jt7 54 rfl rfl)⟩
abbrev MX0_find : jM := (RX0, cX0_find, 5, some .int, false)
theorem cv_X0_55 : jCV RX0 55 0 yX0_find MX0_find 1 := ⟨_, _, rfl, (jt3 104 rfl rfl), (jt3 102 rfl rfl), (jt3 103 rfl rfl), (jt1 3 rfl rfl), ⟨by decide, by decide, by decide +kernel⟩, Or.inl (jt3 101 rfl rfl)⟩
abbrev MX11_terms : jM := (RX11, cX11_terms, 5, some .int, false)
theorem cv_L_32 : jCV RL 32 11 yX11_terms MX11_terms 2 := ⟨_, _, rfl, (jt3 108 rfl rfl), (jt3 106 rfl rfl), (jt3 107 rfl rfl), (jt1 1 rfl rfl), ⟨by decide, by decide, by decide +kernel⟩, Or.inl (jt3 105 rfl rfl)⟩
abbrev MX12_terms : jM := (RX12, cX12_terms, 4, some .int, false)
theorem cv_L_35 : jCV RL 35 12 yX12_terms MX12_terms 2 := ⟨_, _, rfl, (jt7 37 rfl rfl), (jt7 35 rfl rfl), (jt7 36 rfl rfl), (jt1 13 rfl rfl), ⟨by decide, by decide, by decide +kernel⟩, Or.inl (jt7 34 rfl rfl)⟩
theorem fl_X11_145 : jFL RX11 145 8 1 := ⟨_, _, _, rfl, iX8, by decide, Or.inr ⟨"BeanStreet", (jn1 41 rfl rfl)⟩⟩
abbrev MX11_feed : jM := (RX11, cX11_feed, 6, some .int, false)
theorem cv_L_36 : jCV RL 36 11 yX11_feed MX11_feed 5 := ⟨_, _, rfl, (jt3 112 rfl rfl), (jt3 110 rfl rfl), (jt3 111 rfl rfl), (jt1 1 rfl rfl), ⟨by decide, by decide, by decide +kernel⟩, Or.inl (jt3 109 rfl rfl)⟩
theorem fl_X11_34 : jFL RX11 34 11 4 := ⟨_, _, _, rfl, iX11, by decide, Or.inl (jt2 214 rfl rfl)⟩
abbrev MX5_hasRoom : jM := (RX5, cX5_hasRoom, 2, some .boolean, false)
theorem cv_X11_151 : jCV RX11 151 5 yX5_hasRoom MX5_hasRoom 1 := ⟨_, _, rfl, (jt3 116 rfl rfl), (jt3 114 rfl rfl), (jt3 115 rfl rfl), (jt1 4 rfl rfl), ⟨by decide, by decide, by decide +kernel⟩, Or.inl (jt3 113 rfl rfl)⟩
theorem fl_X5_15 : jFL RX5 15 5 1 := ⟨_, _, _, rfl, iX5, by decide, Or.inl (jt1 127 rfl rfl)⟩
abbrev MX5_take : jM := (RX5, cX5_take, 3, none, false)
theorem cv_X11_154 : jCV RX11 154 5 yX5_take MX5_take 1 := ⟨_, _, rfl, (jt3 120 rfl rfl), (jt3 118 rfl rfl), (jt3 119 rfl rfl), (jt1 4 rfl rfl), ⟨by decide, by decide, by decide +kernel⟩, Or.inl (jt3 117 rfl rfl)⟩
theorem fl_X5_11 : jFL RX5 11 5 0 := ⟨_, _, _, rfl, iX5, by decide, Or.inl (jt1 126 rfl rfl)⟩
abbrev MX5_length : jM := (RX5, cX5_length, 1, some .int, false)
theorem cv_X11_158 : jCV RX11 158 5 yX5_length MX5_length 0 := ⟨_, _, rfl, (jt3 124 rfl rfl), (jt3 122 rfl rfl), (jt3 123 rfl rfl), (jt1 4 rfl rfl), ⟨by decide, by decide, by decide +kernel⟩, Or.inl (jt3 121 rfl rfl)⟩
abbrev MX12_feed : jM := (RX12, cX12_feed, 7, some .int, false)
theorem cv_L_40 : jCV RL 40 12 yX12_feed MX12_feed 5 := ⟨_, _, rfl, (jt7 61 rfl rfl), (jt7 59 rfl rfl), (jt7 60 rfl rfl), (jt1 13 rfl rfl), ⟨by decide, by decide, by decide +kernel⟩, Or.inl (jt7 58 rfl rfl)⟩
theorem fl_X12_156 : jFL RX12 156 12 9 := ⟨_, _, _, rfl, iX12, by decide, Or.inl (jt6 83 rfl rfl)⟩
theorem fl_X12_37 : jFL RX12 37 12 8 := ⟨_, _, _, rfl, iX12, by decide, Or.inl (jt6 82 rfl rfl)⟩
theorem fl_X12_34 : jFL RX12 34 12 7 := ⟨_, _, _, rfl, iX12, by decide, Or.inl (jt6 81 rfl rfl)⟩
theorem fw_X12_156 : jFW RX12 156 12 9 (.int) false := ⟨_, _, _, tyX12, rfl, iX12, tyX12_ok, nmX12, by decide, rfl, rfl, (fun h => by cases h), Or.inl (jt6 83 rfl rfl)⟩
abbrev MX11_end : jM := (RX11, cX11_end, 2, some .int, false)
theorem cv_L_41 : jCV RL 41 11 yX11_end MX11_end 1 := ⟨_, _, rfl, (jt3 128 rfl rfl), (jt3 126 rfl rfl), (jt3 127 rfl rfl), (jt1 1 rfl rfl), ⟨by decide, by decide, by decide +kernel⟩, Or.inl (jt3 125 rfl rfl)⟩
abbrev MX5_cut : jM := (RX5, cX5_cut, 2, some .boolean, false)
theorem cv_X11_161 : jCV RX11 161 5 yX5_cut MX5_cut 1 := ⟨_, _, rfl, (jt3 132 rfl rfl), (jt3 130 rfl rfl), (jt3 131 rfl rfl), (jt1 4 rfl rfl), ⟨by decide, by decide, by decide +kernel⟩, Or.inl (jt3 129 rfl rfl)⟩
abbrev MX12_end : jM := (RX12, cX12_end, 2, some .int, false)
theorem cv_L_44 : jCV RL 44 12 yX12_end MX12_end 1 := ⟨_, _, rfl, (jt7 65 rfl rfl), (jt7 63 rfl rfl), (jt7 64 rfl rfl), (jt1 13 rfl rfl), ⟨by decide, by decide, by decide +kernel⟩, Or.inl (jt7 62 rfl rfl)⟩
abbrev MX11_row : jM := (RX11, cX11_row, 5, some .int, false)
theorem cv_L_45 : jCV RL 45 11 yX11_row MX11_row 0 := ⟨_, _, rfl, (jt3 136 rfl rfl), (jt3 134 rfl rfl), (jt3 135 rfl rfl), (jt1 1 rfl rfl), ⟨by decide, by decide, by decide +kernel⟩, Or.inl (jt3 133 rfl rfl)⟩
abbrev MX5_holdsColours : jM := (RX5, cX5_holdsColours, 2, some .boolean, false)
theorem cv_X11_164 : jCV RX11 164 5 yX5_holdsColours MX5_holdsColours 0 := ⟨_, _, rfl, (jt3 140 rfl rfl), (jt3 138 rfl rfl), (jt3 139 rfl rfl), (jt1 4 rfl rfl), ⟨by decide, by decide, by decide +kernel⟩, Or.inl (jt3 137 rfl rfl)⟩
abbrev MX12_row : jM := (RX12, cX12_row, 5, some .int, false)
theorem cv_L_48 : jCV RL 48 12 yX12_row MX12_row 0 := ⟨_, _, rfl, (jt7 41 rfl rfl), (jt7 39 rfl rfl), (jt7 40 rfl rfl), (jt1 13 rfl rfl), ⟨by decide, by decide, by decide +kernel⟩, Or.inl (jt7 38 rfl rfl)⟩
abbrev MX11_law : jM := (RX11, cX11_law, 1, some .int, false)
theorem cv_L_49 : jCV RL 49 11 yX11_law MX11_law 0 := ⟨_, _, rfl, (jt3 153 rfl rfl), (jt3 151 rfl rfl), (jt3 152 rfl rfl), (jt1 1 rfl rfl), ⟨by decide, by decide, by decide +kernel⟩, Or.inl (jt3 150 rfl rfl)⟩
theorem fl_X11_184 : jFL RX11 184 8 3 := ⟨_, _, _, rfl, iX8, by decide, Or.inr ⟨"BeanStreet", (jn1 47 rfl rfl)⟩⟩
abbrev MX5_compile : jM := (RX5, cX5_compile, 3, some .int, false)
theorem cv_X11_187 : jCV RX11 187 5 yX5_compile MX5_compile 0 := ⟨_, _, rfl, (jt3 157 rfl rfl), (jt3 155 rfl rfl), (jt3 156 rfl rfl), (jt1 4 rfl rfl), ⟨by decide, by decide, by decide +kernel⟩, Or.inl (jt3 154 rfl rfl)⟩
abbrev MX5_advance : jM := (RX5, cX5_advance, 1, none, false)
theorem cv_X5_43 : jCV RX5 43 5 yX5_advance MX5_advance 0 := ⟨_, _, rfl, (jt3 161 rfl rfl), (jt3 160 rfl rfl), (jtp (q := (⟨"BeanStreet$Reader", "advance", "()V"⟩, 10)) (List.mem_of_getElem? (i := 6) rfl)), (jt1 4 rfl rfl), ⟨by decide, by decide, by decide +kernel⟩, Or.inl (jt3 158 rfl rfl)⟩
theorem fl_X5_25 : jFL RX5 25 5 4 := ⟨_, _, _, rfl, iX5, by decide, Or.inl (jt1 130 rfl rfl)⟩
theorem fl_X5_22 : jFL RX5 22 5 3 := ⟨_, _, _, rfl, iX5, by decide, Or.inl (jt1 129 rfl rfl)⟩
abbrev MX5_clause : jM := (RX5, cX5_clause, 2, some .boolean, false)
theorem cv_X5_46 : jCV RX5 46 5 yX5_clause MX5_clause 0 := ⟨_, _, rfl, (jt3 227 rfl rfl), (jt3 226 rfl rfl), (jtp (q := (⟨"BeanStreet$Reader", "clause", "()Z"⟩, 10)) (List.mem_of_getElem? (i := 8) rfl)), (jt1 4 rfl rfl), ⟨by decide, by decide, by decide +kernel⟩, Or.inl (jt3 224 rfl rfl)⟩
theorem fl_X5_19 : jFL RX5 19 5 2 := ⟨_, _, _, rfl, iX5, by decide, Or.inl (jt1 128 rfl rfl)⟩
abbrev MX5_wrong : jM := (RX5, cX5_wrong, 1, some .boolean, false)
theorem cv_X5_54 : jCV RX5 54 5 yX5_wrong MX5_wrong 0 := ⟨_, _, rfl, (jt3 231 rfl rfl), (jt3 230 rfl rfl), (jtp (q := (⟨"BeanStreet$Reader", "wrong", "()Z"⟩, 10)) (List.mem_of_getElem? (i := 9) rfl)), (jt1 4 rfl rfl), ⟨by decide, by decide, by decide +kernel⟩, Or.inl (jt3 228 rfl rfl)⟩
theorem fl_X5_34 : jFL RX5 34 5 7 := ⟨_, _, _, rfl, iX5, by decide, Or.inl (jt1 133 rfl rfl)⟩
theorem fl_X11_101 : jFL RX11 101 11 14 := ⟨_, _, _, rfl, iX11, by decide, Or.inl (jt2 224 rfl rfl)⟩
abbrev MX12_law : jM := (RX12, cX12_law, 3, some .int, false)
theorem cv_L_52 : jCV RL 52 12 yX12_law MX12_law 0 := ⟨_, _, rfl, (jt7 69 rfl rfl), (jt7 67 rfl rfl), (jt7 68 rfl rfl), (jt1 13 rfl rfl), ⟨by decide, by decide, by decide +kernel⟩, Or.inl (jt7 66 rfl rfl)⟩
abbrev MX12_reads : jM := (RX12, cX12_reads, 2, some .boolean, false)
theorem cv_X12_234 : jCV RX12 234 12 yX12_reads MX12_reads 0 := ⟨_, _, rfl, (jt7 73 rfl rfl), (jt7 72 rfl rfl), (jtp (q := (⟨"BeanStreetModel", "reads", "()Z"⟩, 56)) (List.mem_of_getElem? (i := 62) rfl)), (jt1 13 rfl rfl), ⟨by decide, by decide, by decide +kernel⟩, Or.inl (jt7 70 rfl rfl)⟩
abbrev MX12_splits : jM := (RX12, cX12_splits, 6, none, false)
theorem cv_X12_228 : jCV RX12 228 12 yX12_splits MX12_splits 1 := ⟨_, _, rfl, (jt7 77 rfl rfl), (jt7 76 rfl rfl), (jtp (q := (⟨"BeanStreetModel", "splits", "(I)V"⟩, 56)) (List.mem_of_getElem? (i := 63) rfl)), (jt1 13 rfl rfl), ⟨by decide, by decide, by decide +kernel⟩, Or.inl (jt7 74 rfl rfl)⟩
theorem fw_X12_165 : jFW RX12 165 12 14 (.int) false := ⟨_, _, _, tyX12, rfl, iX12, tyX12_ok, nmX12, by decide, rfl, rfl, (fun h => by cases h), Or.inl (jt6 88 rfl rfl)⟩
theorem fl_X12_49 : jFL RX12 49 12 13 := ⟨_, _, _, rfl, iX12, by decide, Or.inl (jt6 87 rfl rfl)⟩
theorem fl_X12_165 : jFL RX12 165 12 14 := ⟨_, _, _, rfl, iX12, by decide, Or.inl (jt6 88 rfl rfl)⟩
theorem fl_X12_43 : jFL RX12 43 12 11 := ⟨_, _, _, rfl, iX12, by decide, Or.inl (jt6 85 rfl rfl)⟩
theorem fl_X12_46 : jFL RX12 46 12 12 := ⟨_, _, _, rfl, iX12, by decide, Or.inl (jt6 86 rfl rfl)⟩
theorem fw_X12_187 : jFW RX12 187 12 15 (.int) false := ⟨_, _, _, tyX12, rfl, iX12, tyX12_ok, nmX12, by decide, rfl, rfl, (fun h => by cases h), Or.inl (jt6 89 rfl rfl)⟩
theorem fw_X12_196 : jFW RX12 196 12 16 (.int) false := ⟨_, _, _, tyX12, rfl, iX12, tyX12_ok, nmX12, by decide, rfl, rfl, (fun h => by cases h), Or.inl (jt6 90 rfl rfl)⟩
theorem fw_X12_180 : jFW RX12 180 12 17 (.int) false := ⟨_, _, _, tyX12, rfl, iX12, tyX12_ok, nmX12, by decide, rfl, rfl, (fun h => by cases h), Or.inl (jt6 91 rfl rfl)⟩
abbrev MX12_readClause : jM := (RX12, cX12_readClause, 1, none, false)
theorem cv_X12_231 : jCV RX12 231 12 yX12_readClause MX12_readClause 0 := ⟨_, _, rfl, (jt7 92 rfl rfl), (jt7 91 rfl rfl), (jtp (q := (⟨"BeanStreetModel", "readClause", "()V"⟩, 56)) (List.mem_of_getElem? (i := 65) rfl)), (jt1 13 rfl rfl), ⟨by decide, by decide, by decide +kernel⟩, Or.inl (jt7 89 rfl rfl)⟩
abbrev MX12_takes0 : jM := (RX12, cX12_takes0, 3, some .boolean, false)
theorem cv_X12_190 : jCV RX12 190 12 yX12_takes0 MX12_takes0 1 := ⟨_, _, rfl, (jt7 96 rfl rfl), (jt7 95 rfl rfl), (jtp (q := (⟨"BeanStreetModel", "takes0", "(I)Z"⟩, 56)) (List.mem_of_getElem? (i := 66) rfl)), (jt1 13 rfl rfl), ⟨by decide, by decide, by decide +kernel⟩, Or.inl (jt7 93 rfl rfl)⟩
abbrev MX12_fine : jM := (RX12, cX12_fine, 1, some .boolean, false)
theorem cv_X12_183 : jCV RX12 183 12 yX12_fine MX12_fine 0 := ⟨_, _, rfl, (jt7 100 rfl rfl), (jt7 99 rfl rfl), (jtp (q := (⟨"BeanStreetModel", "fine", "()Z"⟩, 56)) (List.mem_of_getElem? (i := 67) rfl)), (jt1 13 rfl rfl), ⟨by decide, by decide, by decide +kernel⟩, Or.inl (jt7 97 rfl rfl)⟩
theorem fl_X12_180 : jFL RX12 180 12 17 := ⟨_, _, _, rfl, iX12, by decide, Or.inl (jt6 91 rfl rfl)⟩
theorem fl_X12_187 : jFL RX12 187 12 15 := ⟨_, _, _, rfl, iX12, by decide, Or.inl (jt6 89 rfl rfl)⟩
abbrev MX12_must : jM := (RX12, cX12_must, 2, none, false)
theorem cv_X12_203 : jCV RX12 203 12 yX12_must MX12_must 1 := ⟨_, _, rfl, (jt7 123 rfl rfl), (jt7 122 rfl rfl), (jtp (q := (⟨"BeanStreetModel", "must", "(I)V"⟩, 56)) (List.mem_of_getElem? (i := 72) rfl)), (jt1 13 rfl rfl), ⟨by decide, by decide, by decide +kernel⟩, Or.inl (jt7 120 rfl rfl)⟩
abbrev MX12_faults : jM := (RX12, cX12_faults, 1, none, false)
theorem cv_X12_193 : jCV RX12 193 12 yX12_faults MX12_faults 0 := ⟨_, _, rfl, (jt7 119 rfl rfl), (jt7 118 rfl rfl), (jtp (q := (⟨"BeanStreetModel", "faults", "()V"⟩, 56)) (List.mem_of_getElem? (i := 71) rfl)), (jt1 13 rfl rfl), ⟨by decide, by decide, by decide +kernel⟩, Or.inl (jt7 116 rfl rfl)⟩
abbrev MX12_sign : jM := (RX12, cX12_sign, 1, some .int, false)
theorem cs_X12_215 : jCS RX12 215 yX12_sign MX12_sign 1 := ⟨(jt7 115 rfl rfl), (jt7 114 rfl rfl), (jt1 13 rfl rfl), ⟨by decide, by decide, by decide +kernel⟩, Or.inl (jt7 113 rfl rfl)⟩
abbrev MX11_fault : jM := (RX11, cX11_fault, 1, some .int, false)
theorem cv_L_53 : jCV RL 53 11 yX11_fault MX11_fault 0 := ⟨_, _, rfl, (jt4 58 rfl rfl), (jt4 56 rfl rfl), (jt4 57 rfl rfl), (jt1 1 rfl rfl), ⟨by decide, by decide, by decide +kernel⟩, Or.inl (jt4 55 rfl rfl)⟩
abbrev MX12_fault : jM := (RX12, cX12_fault, 1, some .int, false)
theorem cv_L_56 : jCV RL 56 12 yX12_fault MX12_fault 0 := ⟨_, _, rfl, (jt7 143 rfl rfl), (jt7 141 rfl rfl), (jt7 142 rfl rfl), (jt1 13 rfl rfl), ⟨by decide, by decide, by decide +kernel⟩, Or.inl (jt7 140 rfl rfl)⟩
theorem fl_X12_40 : jFL RX12 40 12 10 := ⟨_, _, _, rfl, iX12, by decide, Or.inl (jt6 84 rfl rfl)⟩
abbrev MX11_force : jM := (RX11, cX11_force, 3, some .int, false)
theorem cv_L_57 : jCV RL 57 11 yX11_force MX11_force 1 := ⟨_, _, rfl, (jt4 62 rfl rfl), (jt4 60 rfl rfl), (jt4 61 rfl rfl), (jt1 1 rfl rfl), ⟨by decide, by decide, by decide +kernel⟩, Or.inl (jt4 59 rfl rfl)⟩
abbrev MX12_force : jM := (RX12, cX12_force, 3, some .int, false)
theorem cv_L_60 : jCV RL 60 12 yX12_force MX12_force 1 := ⟨_, _, rfl, (jt7 147 rfl rfl), (jt7 145 rfl rfl), (jt7 146 rfl rfl), (jt1 13 rfl rfl), ⟨by decide, by decide, by decide +kernel⟩, Or.inl (jt7 144 rfl rfl)⟩
theorem fl_X11_198 : jFL RX11 198 8 4 := ⟨_, _, _, rfl, iX8, by decide, Or.inr ⟨"BeanStreet", (jn1 50 rfl rfl)⟩⟩
theorem fw_X11_198 : jFW RX11 198 8 4 (.int) false := ⟨_, _, _, tyX8, rfl, iX8, tyX8_ok, nmX8, by decide, rfl, rfl, (fun h => by cases h), Or.inr ⟨"BeanStreet", (jn1 50 rfl rfl)⟩⟩
abbrev MX11_wall : jM := (RX11, cX11_wall, 3, some .int, false)
theorem cv_L_61 : jCV RL 61 11 yX11_wall MX11_wall 2 := ⟨_, _, rfl, (jt4 66 rfl rfl), (jt4 64 rfl rfl), (jt4 65 rfl rfl), (jt1 1 rfl rfl), ⟨by decide, by decide, by decide +kernel⟩, Or.inl (jt4 63 rfl rfl)⟩
abbrev MX12_wall : jM := (RX12, cX12_wall, 4, some .int, false)
theorem cv_L_64 : jCV RL 64 12 yX12_wall MX12_wall 2 := ⟨_, _, rfl, (jt7 167 rfl rfl), (jt7 165 rfl rfl), (jt7 166 rfl rfl), (jt1 13 rfl rfl), ⟨by decide, by decide, by decide +kernel⟩, Or.inl (jt7 164 rfl rfl)⟩
abbrev MX11_breach : jM := (RX11, cX11_breach, 4, some .int, false)
theorem cv_L_65 : jCV RL 65 11 yX11_breach MX11_breach 2 := ⟨_, _, rfl, (jt4 79 rfl rfl), (jt4 77 rfl rfl), (jt4 78 rfl rfl), (jt1 1 rfl rfl), ⟨by decide, by decide, by decide +kernel⟩, Or.inl (jt4 76 rfl rfl)⟩
abbrev MX12_breach : jM := (RX12, cX12_breach, 7, some .int, false)
theorem cv_L_68 : jCV RL 68 12 yX12_breach MX12_breach 2 := ⟨_, _, rfl, (jt7 175 rfl rfl), (jt7 173 rfl rfl), (jt7 174 rfl rfl), (jt1 13 rfl rfl), ⟨by decide, by decide, by decide +kernel⟩, Or.inl (jt7 172 rfl rfl)⟩
abbrev MX8_wallBetween : jM := (RX8, cX8_wallBetween, 5, some .int, false)
theorem cv_X11_201 : jCV RX11 201 8 yX8_wallBetween MX8_wallBetween 2 := ⟨_, _, rfl, (jt4 70 rfl rfl), (jt4 68 rfl rfl), (jt4 69 rfl rfl), (jt1 2 rfl rfl), ⟨by decide, by decide, by decide +kernel⟩, Or.inl (jt4 67 rfl rfl)⟩
theorem fl_X8_36 : jFL RX8 36 8 7 := ⟨_, _, _, rfl, iX8, by decide, Or.inl (jt1 53 rfl rfl)⟩
abbrev MX11_step : jM := (RX11, cX11_step, 5, some .int, false)
theorem cv_L_69 : jCV RL 69 11 yX11_step MX11_step 3 := ⟨_, _, rfl, (jt4 87 rfl rfl), (jt4 85 rfl rfl), (jt4 86 rfl rfl), (jt1 1 rfl rfl), ⟨by decide, by decide, by decide +kernel⟩, Or.inl (jt4 84 rfl rfl)⟩
abbrev MX12_step : jM := (RX12, cX12_step, 4, some .int, false)
theorem cv_L_73 : jCV RL 73 12 yX12_step MX12_step 3 := ⟨_, _, rfl, (jt7 179 rfl rfl), (jt7 177 rfl rfl), (jt7 178 rfl rfl), (jt1 13 rfl rfl), ⟨by decide, by decide, by decide +kernel⟩, Or.inl (jt7 176 rfl rfl)⟩
abbrev MX9_prepare : jM := (RX9, cX9_prepare, 2, none, false)
theorem cv_X11_217 : jCV RX11 217 9 yX9_prepare MX9_prepare 0 := ⟨_, _, rfl, (jt4 91 rfl rfl), (jt4 89 rfl rfl), (jt4 90 rfl rfl), (jt1 5 rfl rfl), ⟨by decide, by decide, by decide +kernel⟩, Or.inl (jt4 88 rfl rfl)⟩
theorem fl_X9_39 : jFL RX9 39 9 9 := ⟨_, _, _, rfl, iX9, by decide, Or.inl (jt1 204 rfl rfl)⟩
abbrev MX9_judgeAll : jM := (RX9, cX9_judgeAll, 4, none, false)
theorem cv_X9_53 : jCV RX9 53 9 yX9_judgeAll MX9_judgeAll 0 := ⟨_, _, rfl, (jt4 95 rfl rfl), (jt4 94 rfl rfl), (jtp (q := (⟨"BeanStreet$Streets", "judgeAll", "()V"⟩, 10)) (List.mem_of_getElem? (i := 21) rfl)), (jt1 5 rfl rfl), ⟨by decide, by decide, by decide +kernel⟩, Or.inl (jt4 92 rfl rfl)⟩
theorem fl_X9_12 : jFL RX9 12 9 2 := ⟨_, _, _, rfl, iX9, by decide, Or.inl (jt1 197 rfl rfl)⟩
theorem fl_X9_46 : jFL RX9 46 9 1 := ⟨_, _, _, rfl, iX9, by decide, Or.inl (jt1 196 rfl rfl)⟩
theorem cv_X9_76 : jCV RX9 76 0 yX0_places MX0_places 0 := ⟨_, _, rfl, (jt3 36 rfl rfl), (jt3 34 rfl rfl), (jt3 35 rfl rfl), (jt1 3 rfl rfl), ⟨by decide, by decide, by decide +kernel⟩, Or.inl (jt4 96 rfl rfl)⟩
theorem fl_X9_42 : jFL RX9 42 9 0 := ⟨_, _, _, rfl, iX9, by decide, Or.inl (jt1 195 rfl rfl)⟩
theorem fl_X9_79 : jFL RX9 79 8 1 := ⟨_, _, _, rfl, iX8, by decide, Or.inr ⟨"BeanStreet", (jn1 42 rfl rfl)⟩⟩
abbrev MX1_setTimes : jM := (RX1, cX1_setTimes, 3, none, false)
theorem cv_X9_84 : jCV RX9 84 1 yX1_setTimes MX1_setTimes 2 := ⟨_, _, rfl, (jt4 100 rfl rfl), (jt4 98 rfl rfl), (jt4 99 rfl rfl), (jt1 6 rfl rfl), ⟨by decide, by decide, by decide +kernel⟩, Or.inl (jt4 97 rfl rfl)⟩
theorem fl_X1_9 : jFL RX1 9 1 0 := ⟨_, _, _, rfl, iX1, by decide, Or.inl (jt1 169 rfl rfl)⟩
theorem fl_X9_35 : jFL RX9 35 9 8 := ⟨_, _, _, rfl, iX9, by decide, Or.inl (jt1 203 rfl rfl)⟩
theorem cv_X9_56 : jCV RX9 56 0 yX0_many MX0_many 0 := ⟨_, _, rfl, (jt3 68 rfl rfl), (jt3 66 rfl rfl), (jt3 67 rfl rfl), (jt1 3 rfl rfl), ⟨by decide, by decide, by decide +kernel⟩, Or.inl (jt4 168 rfl rfl)⟩
theorem fl_X9_25 : jFL RX9 25 9 5 := ⟨_, _, _, rfl, iX9, by decide, Or.inl (jt1 200 rfl rfl)⟩
abbrev MX11_grown : jM := (RX11, cX11_grown, 2, some (.array .int), false)
theorem cs_X9_62 : jCS RX9 62 yX11_grown MX11_grown 2 := ⟨(jt4 171 rfl rfl), (jt4 170 rfl rfl), (jt1 1 rfl rfl), ⟨by decide, by decide, by decide +kernel⟩, Or.inr ⟨"BeanStreet", (jn4 169 rfl rfl)⟩⟩
theorem fl_X9_22 : jFL RX9 22 9 4 := ⟨_, _, _, rfl, iX9, by decide, Or.inl (jt1 199 rfl rfl)⟩
abbrev MJ7_fill_fda19 : jM := (RJ7, cJ7_fill_fda19, 5, none, false)
theorem cs_X9_66 : jCS RX9 66 yJ7_fill_fda19 MJ7_fill_fda19 4 := ⟨(jt4 175 rfl rfl), (jt4 174 rfl rfl), (jt1 14 rfl rfl), ⟨by decide, by decide, by decide +kernel⟩, Or.inl (jt4 173 rfl rfl)⟩
abbrev MJ7_rangeCheck_23922 : jM := (RJ7, cJ7_rangeCheck_23922, 3, none, false)
theorem cs_J7_13 : jCS RJ7 13 yJ7_rangeCheck_23922 MJ7_rangeCheck_23922 3 := ⟨(jt4 178 rfl rfl), (jt4 177 rfl rfl), (jt1 14 rfl rfl), ⟨by decide, by decide, by decide +kernel⟩, Or.inl (jt4 176 rfl rfl)⟩
abbrev MX9_degree : jM := (RX9, cX9_degree, 2, some .int, false)
theorem cv_X11_220 : jCV RX11 220 9 yX9_degree MX9_degree 1 := ⟨_, _, rfl, (jt4 182 rfl rfl), (jt4 180 rfl rfl), (jt4 181 rfl rfl), (jt1 5 rfl rfl), ⟨by decide, by decide, by decide +kernel⟩, Or.inl (jt4 179 rfl rfl)⟩
abbrev MX9_findSteps : jM := (RX9, cX9_findSteps, 13, none, false)
theorem cv_X9_72 : jCV RX9 72 9 yX9_findSteps MX9_findSteps 1 := ⟨_, _, rfl, (jt4 186 rfl rfl), (jt4 185 rfl rfl), (jtp (q := (⟨"BeanStreet$Streets", "findSteps", "(I)V"⟩, 10)) (List.mem_of_getElem? (i := 31) rfl)), (jt1 5 rfl rfl), ⟨by decide, by decide, by decide +kernel⟩, Or.inl (jt4 183 rfl rfl)⟩
abbrev MX0_rowOf : jM := (RX0, cX0_rowOf, 2, some .int, false)
theorem cv_X9_121 : jCV RX9 121 0 yX0_rowOf MX0_rowOf 1 := ⟨_, _, rfl, (jt3 84 rfl rfl), (jt3 82 rfl rfl), (jt3 83 rfl rfl), (jt1 3 rfl rfl), ⟨by decide, by decide, by decide +kernel⟩, Or.inl (jt4 187 rfl rfl)⟩
theorem cv_X0_41 : jCV RX0 41 0 yX0_has MX0_has 1 := ⟨_, _, rfl, (jt3 76 rfl rfl), (jt3 74 rfl rfl), (jt3 75 rfl rfl), (jt1 3 rfl rfl), ⟨by decide, by decide, by decide +kernel⟩, Or.inl (jt3 85 rfl rfl)⟩
abbrev MX0_shiftOf : jM := (RX0, cX0_shiftOf, 2, some .int, false)
theorem cv_X9_125 : jCV RX9 125 0 yX0_shiftOf MX0_shiftOf 1 := ⟨_, _, rfl, (jt3 89 rfl rfl), (jt3 87 rfl rfl), (jt3 88 rfl rfl), (jt1 3 rfl rfl), ⟨by decide, by decide, by decide +kernel⟩, Or.inl (jt4 188 rfl rfl)⟩
abbrev MX0_colourAt : jM := (RX0, cX0_colourAt, 2, some .int, false)
theorem cs_X9_128 : jCS RX9 128 yX0_colourAt MX0_colourAt 2 := ⟨(jt3 92 rfl rfl), (jt3 91 rfl rfl), (jt1 3 rfl rfl), ⟨by decide, by decide, by decide +kernel⟩, Or.inl (jt4 189 rfl rfl)⟩
abbrev MX0_turned : jM := (RX0, cX0_turned, 4, some .int, false)
theorem cv_X9_142 : jCV RX9 142 0 yX0_turned MX0_turned 1 := ⟨_, _, rfl, (jt4 202 rfl rfl), (jt4 200 rfl rfl), (jt4 201 rfl rfl), (jt1 3 rfl rfl), ⟨by decide, by decide, by decide +kernel⟩, Or.inl (jt4 199 rfl rfl)⟩
abbrev MX12_looks : jM := (RX12, cX12_looks, 4, none, false)
theorem cv_X12_328 : jCV RX12 328 12 yX12_looks MX12_looks 0 := ⟨_, _, rfl, (jt7 183 rfl rfl), (jt7 182 rfl rfl), (jtp (q := (⟨"BeanStreetModel", "looks", "()V"⟩, 56)) (List.mem_of_getElem? (i := 79) rfl)), (jt1 13 rfl rfl), ⟨by decide, by decide, by decide +kernel⟩, Or.inl (jt7 180 rfl rfl)⟩
theorem fl_X12_82 : jFL RX12 82 12 35 := ⟨_, _, _, rfl, iX12, by decide, Or.inl (jt6 109 rfl rfl)⟩
theorem fl_X12_73 : jFL RX12 73 12 30 := ⟨_, _, _, rfl, iX12, by decide, Or.inl (jt6 104 rfl rfl)⟩
theorem fl_X12_67 : jFL RX12 67 12 28 := ⟨_, _, _, rfl, iX12, by decide, Or.inl (jt6 102 rfl rfl)⟩
abbrev MX11_far : jM := (RX11, cX11_far, 4, some .int, false)
theorem cv_L_74 : jCV RL 74 11 yX11_far MX11_far 3 := ⟨_, _, rfl, (jt4 214 rfl rfl), (jt4 212 rfl rfl), (jt4 213 rfl rfl), (jt1 1 rfl rfl), ⟨by decide, by decide, by decide +kernel⟩, Or.inl (jt4 211 rfl rfl)⟩
abbrev MX12_far : jM := (RX12, cX12_far, 4, some .int, false)
theorem cv_L_77 : jCV RL 77 12 yX12_far MX12_far 3 := ⟨_, _, rfl, (jt8 10 rfl rfl), (jt8 8 rfl rfl), (jt8 9 rfl rfl), (jt1 13 rfl rfl), ⟨by decide, by decide, by decide +kernel⟩, Or.inl (jt8 7 rfl rfl)⟩
abbrev MX10_farTo : jM := (RX10, cX10_farTo, 3, some .int, false)
theorem cv_X11_229 : jCV RX11 229 10 yX10_farTo MX10_farTo 2 := ⟨_, _, rfl, (jt4 218 rfl rfl), (jt4 216 rfl rfl), (jt4 217 rfl rfl), (jt1 7 rfl rfl), ⟨by decide, by decide, by decide +kernel⟩, Or.inl (jt4 215 rfl rfl)⟩
abbrev MX10_walkFrom : jM := (RX10, cX10_walkFrom, 3, none, false)
theorem cv_X10_67 : jCV RX10 67 10 yX10_walkFrom MX10_walkFrom 1 := ⟨_, _, rfl, (jt4 222 rfl rfl), (jt4 220 rfl rfl), (jt4 221 rfl rfl), (jt1 7 rfl rfl), ⟨by decide, by decide, by decide +kernel⟩, Or.inl (jt4 219 rfl rfl)⟩
theorem fl_X10_25 : jFL RX10 25 10 6 := ⟨_, _, _, rfl, iX10, by decide, Or.inl (jt1 239 rfl rfl)⟩
theorem fl_X10_63 : jFL RX10 63 10 1 := ⟨_, _, _, rfl, iX10, by decide, Or.inl (jt1 233 rfl rfl)⟩
abbrev MX9_version : jM := (RX9, cX9_version, 1, some .int, false)
theorem cv_X10_104 : jCV RX10 104 9 yX9_version MX9_version 0 := ⟨_, _, rfl, (jt4 226 rfl rfl), (jt4 224 rfl rfl), (jt4 225 rfl rfl), (jt1 5 rfl rfl), ⟨by decide, by decide, by decide +kernel⟩, Or.inl (jt4 223 rfl rfl)⟩
theorem fl_X10_9 : jFL RX10 9 10 2 := ⟨_, _, _, rfl, iX10, by decide, Or.inl (jt1 234 rfl rfl)⟩
theorem fl_X10_59 : jFL RX10 59 10 0 := ⟨_, _, _, rfl, iX10, by decide, Or.inl (jt1 232 rfl rfl)⟩
theorem cv_X10_83 : jCV RX10 83 0 yX0_many MX0_many 0 := ⟨_, _, rfl, (jt3 68 rfl rfl), (jt3 66 rfl rfl), (jt3 67 rfl rfl), (jt1 3 rfl rfl), ⟨by decide, by decide, by decide +kernel⟩, Or.inl (jt4 227 rfl rfl)⟩
theorem cs_X10_89 : jCS RX10 89 yJ7_fill_fda19 MJ7_fill_fda19 4 := ⟨(jt4 175 rfl rfl), (jt4 174 rfl rfl), (jt1 14 rfl rfl), ⟨by decide, by decide, by decide +kernel⟩, Or.inl (jt4 228 rfl rfl)⟩
theorem fl_X10_15 : jFL RX10 15 10 3 := ⟨_, _, _, rfl, iX10, by decide, Or.inl (jt1 236 rfl rfl)⟩
theorem fl_X10_18 : jFL RX10 18 10 4 := ⟨_, _, _, rfl, iX10, by decide, Or.inl (jt1 237 rfl rfl)⟩
theorem fl_X10_21 : jFL RX10 21 10 5 := ⟨_, _, _, rfl, iX10, by decide, Or.inl (jt1 238 rfl rfl)⟩
abbrev MX10_leave : jM := (RX10, cX10_leave, 6, none, false)
theorem cv_X10_106 : jCV RX10 106 10 yX10_leave MX10_leave 1 := ⟨_, _, rfl, (jt4 232 rfl rfl), (jt4 231 rfl rfl), (jtp (q := (⟨"BeanStreet$Walks", "leave", "(I)V"⟩, 17)) (List.mem_of_getElem? (i := 33) rfl)), (jt1 7 rfl rfl), ⟨by decide, by decide, by decide +kernel⟩, Or.inl (jt4 229 rfl rfl)⟩
theorem cv_X10_95 : jCV RX10 95 9 yX9_degree MX9_degree 1 := ⟨_, _, rfl, (jt4 182 rfl rfl), (jt4 180 rfl rfl), (jt4 181 rfl rfl), (jt1 5 rfl rfl), ⟨by decide, by decide, by decide +kernel⟩, Or.inl (jt4 233 rfl rfl)⟩
abbrev MX12_measures : jM := (RX12, cX12_measures, 7, some .int, false)
theorem cv_X12_334 : jCV RX12 334 12 yX12_measures MX12_measures 1 := ⟨_, _, rfl, (jt8 18 rfl rfl), (jt8 17 rfl rfl), (jtp (q := (⟨"BeanStreetModel", "measures", "(I)I"⟩, 56)) (List.mem_of_getElem? (i := 96) rfl)), (jt1 13 rfl rfl), ⟨by decide, by decide, by decide +kernel⟩, Or.inl (jt8 15 rfl rfl)⟩
theorem fl_X12_85 : jFL RX12 85 12 36 := ⟨_, _, _, rfl, iX12, by decide, Or.inl (jt6 110 rfl rfl)⟩
theorem fl_X12_88 : jFL RX12 88 12 37 := ⟨_, _, _, rfl, iX12, by decide, Or.inl (jt6 111 rfl rfl)⟩
theorem fl_X12_92 : jFL RX12 92 12 38 := ⟨_, _, _, rfl, iX12, by decide, Or.inl (jt6 112 rfl rfl)⟩
abbrev MX10_waysTo : jM := (RX10, cX10_waysTo, 3, some .int, false)
theorem cv_X11_232 : jCV RX11 232 10 yX10_waysTo MX10_waysTo 2 := ⟨_, _, rfl, (jt5 0 rfl rfl), (jt4 238 rfl rfl), (jt4 239 rfl rfl), (jt1 7 rfl rfl), ⟨by decide, by decide, by decide +kernel⟩, Or.inl (jt4 237 rfl rfl)⟩
abbrev MX10_leastTo : jM := (RX10, cX10_leastTo, 3, some .int, false)
theorem cv_X11_235 : jCV RX11 235 10 yX10_leastTo MX10_leastTo 2 := ⟨_, _, rfl, (jt5 4 rfl rfl), (jt5 2 rfl rfl), (jt5 3 rfl rfl), (jt1 7 rfl rfl), ⟨by decide, by decide, by decide +kernel⟩, Or.inl (jt5 1 rfl rfl)⟩
abbrev MX10_weighFrom : jM := (RX10, cX10_weighFrom, 7, none, false)
theorem cv_X10_71 : jCV RX10 71 10 yX10_weighFrom MX10_weighFrom 1 := ⟨_, _, rfl, (jt5 8 rfl rfl), (jt5 7 rfl rfl), (jtp (q := (⟨"BeanStreet$Walks", "weighFrom", "(I)V"⟩, 17)) (List.mem_of_getElem? (i := 34) rfl)), (jt1 7 rfl rfl), ⟨by decide, by decide, by decide +kernel⟩, Or.inl (jt5 5 rfl rfl)⟩
theorem fl_X10_46 : jFL RX10 46 10 13 := ⟨_, _, _, rfl, iX10, by decide, Or.inl (jt2 6 rfl rfl)⟩
theorem fl_X10_31 : jFL RX10 31 10 8 := ⟨_, _, _, rfl, iX10, by decide, Or.inl (jt2 1 rfl rfl)⟩
theorem fl_X10_34 : jFL RX10 34 10 9 := ⟨_, _, _, rfl, iX10, by decide, Or.inl (jt2 2 rfl rfl)⟩
theorem cs_X10_110 : jCS RX10 110 yJ7_fill_53178 MJ7_fill_53178 2 := ⟨(jt3 143 rfl rfl), (jt3 142 rfl rfl), (jt1 14 rfl rfl), ⟨by decide, by decide, by decide +kernel⟩, Or.inl (jt5 9 rfl rfl)⟩
abbrev MX10_enter : jM := (RX10, cX10_enter, 4, none, false)
theorem cv_X10_113 : jCV RX10 113 10 yX10_enter MX10_enter 2 := ⟨_, _, rfl, (jt5 13 rfl rfl), (jt5 12 rfl rfl), (jtp (q := (⟨"BeanStreet$Walks", "enter", "(II)V"⟩, 17)) (List.mem_of_getElem? (i := 35) rfl)), (jt1 7 rfl rfl), ⟨by decide, by decide, by decide +kernel⟩, Or.inl (jt5 10 rfl rfl)⟩
theorem fl_X10_40 : jFL RX10 40 10 11 := ⟨_, _, _, rfl, iX10, by decide, Or.inl (jt2 4 rfl rfl)⟩
theorem fl_X10_37 : jFL RX10 37 10 10 := ⟨_, _, _, rfl, iX10, by decide, Or.inl (jt2 3 rfl rfl)⟩
theorem fl_X10_43 : jFL RX10 43 10 12 := ⟨_, _, _, rfl, iX10, by decide, Or.inl (jt2 5 rfl rfl)⟩
abbrev MX10_remove : jM := (RX10, cX10_remove, 2, none, false)
theorem cv_X10_118 : jCV RX10 118 10 yX10_remove MX10_remove 1 := ⟨_, _, rfl, (jt5 18 rfl rfl), (jt5 17 rfl rfl), (jtp (q := (⟨"BeanStreet$Walks", "remove", "(I)V"⟩, 17)) (List.mem_of_getElem? (i := 36) rfl)), (jt1 7 rfl rfl), ⟨by decide, by decide, by decide +kernel⟩, Or.inl (jt5 15 rfl rfl)⟩
abbrev MX10_weighSteps : jM := (RX10, cX10_weighSteps, 6, none, false)
theorem cv_X10_121 : jCV RX10 121 10 yX10_weighSteps MX10_weighSteps 1 := ⟨_, _, rfl, (jt5 22 rfl rfl), (jt5 21 rfl rfl), (jtp (q := (⟨"BeanStreet$Walks", "weighSteps", "(I)V"⟩, 17)) (List.mem_of_getElem? (i := 37) rfl)), (jt1 7 rfl rfl), ⟨by decide, by decide, by decide +kernel⟩, Or.inl (jt5 19 rfl rfl)⟩
abbrev MX12_leastOf : jM := (RX12, cX12_leastOf, 7, some .int, false)
theorem cv_X12_331 : jCV RX12 331 12 yX12_leastOf MX12_leastOf 2 := ⟨_, _, rfl, (jt8 14 rfl rfl), (jt8 13 rfl rfl), (jtp (q := (⟨"BeanStreetModel", "leastOf", "(II)I"⟩, 56)) (List.mem_of_getElem? (i := 95) rfl)), (jt1 13 rfl rfl), ⟨by decide, by decide, by decide +kernel⟩, Or.inl (jt8 11 rfl rfl)⟩
theorem fl_X12_95 : jFL RX12 95 12 39 := ⟨_, _, _, rfl, iX12, by decide, Or.inl (jt6 113 rfl rfl)⟩
theorem fl_X12_98 : jFL RX12 98 12 40 := ⟨_, _, _, rfl, iX12, by decide, Or.inl (jt6 114 rfl rfl)⟩
abbrev MX11_way : jM := (RX11, cX11_way, 4, some .int, false)
theorem cv_L_78 : jCV RL 78 11 yX11_way MX11_way 3 := ⟨_, _, rfl, (jt5 27 rfl rfl), (jt5 25 rfl rfl), (jt5 26 rfl rfl), (jt1 1 rfl rfl), ⟨by decide, by decide, by decide +kernel⟩, Or.inl (jt5 24 rfl rfl)⟩
abbrev MX12_way : jM := (RX12, cX12_way, 9, some .int, false)
theorem cv_L_81 : jCV RL 81 12 yX12_way MX12_way 3 := ⟨_, _, rfl, (jt8 22 rfl rfl), (jt8 20 rfl rfl), (jt8 21 rfl rfl), (jt1 13 rfl rfl), ⟨by decide, by decide, by decide +kernel⟩, Or.inl (jt8 19 rfl rfl)⟩
abbrev MX10_onWay : jM := (RX10, cX10_onWay, 6, some .int, false)
theorem cv_X11_238 : jCV RX11 238 10 yX10_onWay MX10_onWay 3 := ⟨_, _, rfl, (jt5 31 rfl rfl), (jt5 29 rfl rfl), (jt5 30 rfl rfl), (jt1 7 rfl rfl), ⟨by decide, by decide, by decide +kernel⟩, Or.inl (jt5 28 rfl rfl)⟩
abbrev MX10_pointTo : jM := (RX10, cX10_pointTo, 8, none, false)
theorem cv_X10_80 : jCV RX10 80 10 yX10_pointTo MX10_pointTo 1 := ⟨_, _, rfl, (jt5 35 rfl rfl), (jt5 34 rfl rfl), (jtp (q := (⟨"BeanStreet$Walks", "pointTo", "(I)V"⟩, 17)) (List.mem_of_getElem? (i := 38) rfl)), (jt1 7 rfl rfl), ⟨by decide, by decide, by decide +kernel⟩, Or.inl (jt5 32 rfl rfl)⟩
abbrev MX12_measuresTo : jM := (RX12, cX12_measuresTo, 6, none, false)
theorem cv_X12_337 : jCV RX12 337 12 yX12_measuresTo MX12_measuresTo 1 := ⟨_, _, rfl, (jt8 26 rfl rfl), (jt8 25 rfl rfl), (jtp (q := (⟨"BeanStreetModel", "measuresTo", "(I)V"⟩, 56)) (List.mem_of_getElem? (i := 97) rfl)), (jt1 13 rfl rfl), ⟨by decide, by decide, by decide +kernel⟩, Or.inl (jt8 23 rfl rfl)⟩
theorem fl_X12_101 : jFL RX12 101 12 41 := ⟨_, _, _, rfl, iX12, by decide, Or.inl (jt6 115 rfl rfl)⟩
abbrev MX11_reach : jM := (RX11, cX11_reach, 3, some .int, false)
theorem cv_L_82 : jCV RL 82 11 yX11_reach MX11_reach 2 := ⟨_, _, rfl, (jt5 39 rfl rfl), (jt5 37 rfl rfl), (jt5 38 rfl rfl), (jt1 1 rfl rfl), ⟨by decide, by decide, by decide +kernel⟩, Or.inl (jt5 36 rfl rfl)⟩
abbrev MX12_reach : jM := (RX12, cX12_reach, 8, some .int, false)
theorem cv_L_85 : jCV RL 85 12 yX12_reach MX12_reach 2 := ⟨_, _, rfl, (jt8 30 rfl rfl), (jt8 28 rfl rfl), (jt8 29 rfl rfl), (jt1 13 rfl rfl), ⟨by decide, by decide, by decide +kernel⟩, Or.inl (jt8 27 rfl rfl)⟩
abbrev MX10_reachOf : jM := (RX10, cX10_reachOf, 7, some .int, false)
theorem cv_X11_242 : jCV RX11 242 10 yX10_reachOf MX10_reachOf 2 := ⟨_, _, rfl, (jt5 43 rfl rfl), (jt5 41 rfl rfl), (jt5 42 rfl rfl), (jt1 7 rfl rfl), ⟨by decide, by decide, by decide +kernel⟩, Or.inl (jt5 40 rfl rfl)⟩
abbrev MX11_read : jM := (RX11, cX11_read, 3, some .int, false)
theorem cv_L_86 : jCV RL 86 11 yX11_read MX11_read 2 := ⟨_, _, rfl, (jt5 47 rfl rfl), (jt5 45 rfl rfl), (jt5 46 rfl rfl), (jt1 1 rfl rfl), ⟨by decide, by decide, by decide +kernel⟩, Or.inl (jt5 44 rfl rfl)⟩
abbrev MX12_read : jM := (RX12, cX12_read, 6, some .int, false)
theorem cv_L_89 : jCV RL 89 12 yX12_read MX12_read 2 := ⟨_, _, rfl, (jt8 34 rfl rfl), (jt8 32 rfl rfl), (jt8 33 rfl rfl), (jt1 13 rfl rfl), ⟨by decide, by decide, by decide +kernel⟩, Or.inl (jt8 31 rfl rfl)⟩
abbrev MX0_backwardOf : jM := (RX0, cX0_backwardOf, 4, some .int, false)
theorem cv_X11_245 : jCV RX11 245 0 yX0_backwardOf MX0_backwardOf 1 := ⟨_, _, rfl, (jt5 51 rfl rfl), (jt5 49 rfl rfl), (jt5 50 rfl rfl), (jt1 3 rfl rfl), ⟨by decide, by decide, by decide +kernel⟩, Or.inl (jt5 48 rfl rfl)⟩
abbrev MX12_orderCode : jM := (RX12, cX12_orderCode, 3, some .int, false)
theorem cv_X12_319 : jCV RX12 319 12 yX12_orderCode MX12_orderCode 0 := ⟨_, _, rfl, (jt8 2 rfl rfl), (jt8 1 rfl rfl), (jtp (q := (⟨"BeanStreetModel", "orderCode", "()I"⟩, 56)) (List.mem_of_getElem? (i := 93) rfl)), (jt1 13 rfl rfl), ⟨by decide, by decide, by decide +kernel⟩, Or.inl (jt7 239 rfl rfl)⟩
abbrev MX0_inversionsOf : jM := (RX0, cX0_inversionsOf, 7, some .int, false)
theorem cv_X11_248 : jCV RX11 248 0 yX0_inversionsOf MX0_inversionsOf 1 := ⟨_, _, rfl, (jt5 55 rfl rfl), (jt5 53 rfl rfl), (jt5 54 rfl rfl), (jt1 3 rfl rfl), ⟨by decide, by decide, by decide +kernel⟩, Or.inl (jt5 52 rfl rfl)⟩
theorem cv_X0_52 : jCV RX0 52 0 yX0_rowOf MX0_rowOf 1 := ⟨_, _, rfl, (jt3 84 rfl rfl), (jt3 82 rfl rfl), (jt3 83 rfl rfl), (jt1 3 rfl rfl), ⟨by decide, by decide, by decide +kernel⟩, Or.inl (jt3 81 rfl rfl)⟩
abbrev MX11_parted : jM := (RX11, cX11_parted, 3, some .int, false)
theorem cv_L_90 : jCV RL 90 11 yX11_parted MX11_parted 2 := ⟨_, _, rfl, (jt5 59 rfl rfl), (jt5 57 rfl rfl), (jt5 58 rfl rfl), (jt1 1 rfl rfl), ⟨by decide, by decide, by decide +kernel⟩, Or.inl (jt5 56 rfl rfl)⟩
abbrev MX12_parted : jM := (RX12, cX12_parted, 4, some .int, false)
theorem cv_L_93 : jCV RL 93 12 yX12_parted MX12_parted 2 := ⟨_, _, rfl, (jt8 38 rfl rfl), (jt8 36 rfl rfl), (jt8 37 rfl rfl), (jt1 13 rfl rfl), ⟨by decide, by decide, by decide +kernel⟩, Or.inl (jt8 35 rfl rfl)⟩
abbrev MX11_rows : jM := (RX11, cX11_rows, 4, some .long, false)
theorem cv_L_94 : jCV RL 94 11 yX11_rows MX11_rows 3 := ⟨_, _, rfl, (jt5 92 rfl rfl), (jt5 90 rfl rfl), (jt5 91 rfl rfl), (jt1 1 rfl rfl), ⟨by decide, by decide, by decide +kernel⟩, Or.inl (jt5 89 rfl rfl)⟩
abbrev MX12_rows : jM := (RX12, cX12_rows, 7, some .long, false)
theorem cv_L_98 : jCV RL 98 12 yX12_rows MX12_rows 3 := ⟨_, _, rfl, (jt8 50 rfl rfl), (jt8 48 rfl rfl), (jt8 49 rfl rfl), (jt1 13 rfl rfl), ⟨by decide, by decide, by decide +kernel⟩, Or.inl (jt8 47 rfl rfl)⟩
abbrev MX10_rowsTo : jM := (RX10, cX10_rowsTo, 8, some .long, false)
theorem cv_X11_256 : jCV RX11 256 10 yX10_rowsTo MX10_rowsTo 3 := ⟨_, _, rfl, (jt5 97 rfl rfl), (jt5 95 rfl rfl), (jt5 96 rfl rfl), (jt1 7 rfl rfl), ⟨by decide, by decide, by decide +kernel⟩, Or.inl (jt5 94 rfl rfl)⟩
theorem fl_X10_52 : jFL RX10 52 10 15 := ⟨_, _, _, rfl, iX10, by decide, Or.inl (jt2 8 rfl rfl)⟩
abbrev MJ7_fill_bad5a : jM := (RJ7, cJ7_fill_bad5a, 6, none, false)
theorem cs_X10_127 : jCS RX10 127 yJ7_fill_bad5a MJ7_fill_bad5a 4 := ⟨(jt5 100 rfl rfl), (jt5 99 rfl rfl), (jt1 14 rfl rfl), ⟨by decide, by decide, by decide +kernel⟩, Or.inl (jt5 98 rfl rfl)⟩
theorem fl_X12_113 : jFL RX12 113 12 45 := ⟨_, _, _, rfl, iX12, by decide, Or.inl (jt6 119 rfl rfl)⟩
abbrev MX10_lengthenRows : jM := (RX10, cX10_lengthenRows, 5, none, false)
theorem cv_X10_130 : jCV RX10 130 10 yX10_lengthenRows MX10_lengthenRows 1 := ⟨_, _, rfl, (jt5 104 rfl rfl), (jt5 103 rfl rfl), (jtp (q := (⟨"BeanStreet$Walks", "lengthenRows", "(I)V"⟩, 17)) (List.mem_of_getElem? (i := 44) rfl)), (jt1 7 rfl rfl), ⟨by decide, by decide, by decide +kernel⟩, Or.inl (jt5 101 rfl rfl)⟩
theorem fl_X10_56 : jFL RX10 56 10 16 := ⟨_, _, _, rfl, iX10, by decide, Or.inl (jt2 9 rfl rfl)⟩
theorem fl_X12_116 : jFL RX12 116 12 46 := ⟨_, _, _, rfl, iX12, by decide, Or.inl (jt6 120 rfl rfl)⟩
abbrev MX11_round : jM := (RX11, cX11_round, 3, some .int, false)
theorem cv_L_99 : jCV RL 99 11 yX11_round MX11_round 1 := ⟨_, _, rfl, (jt5 108 rfl rfl), (jt5 106 rfl rfl), (jt5 107 rfl rfl), (jt1 1 rfl rfl), ⟨by decide, by decide, by decide +kernel⟩, Or.inl (jt5 105 rfl rfl)⟩
theorem fl_X11_66 : jFL RX11 66 11 8 := ⟨_, _, _, rfl, iX11, by decide, Or.inl (jt2 218 rfl rfl)⟩
abbrev MX7_exists : jM := (RX7, cX7_exists, 2, some .boolean, false)
theorem cv_X11_260 : jCV RX11 260 7 yX7_exists MX7_exists 0 := ⟨_, _, rfl, (jt5 112 rfl rfl), (jt5 110 rfl rfl), (jt5 111 rfl rfl), (jt1 9 rfl rfl), ⟨by decide, by decide, by decide +kernel⟩, Or.inl (jt5 109 rfl rfl)⟩
theorem fl_X7_25 : jFL RX7 25 7 6 := ⟨_, _, _, rfl, iX7, by decide, Or.inl (jt2 88 rfl rfl)⟩
theorem fl_X7_33 : jFL RX7 33 7 1 := ⟨_, _, _, rfl, iX7, by decide, Or.inl (jt2 83 rfl rfl)⟩
theorem cv_X7_43 : jCV RX7 43 9 yX9_version MX9_version 0 := ⟨_, _, rfl, (jt4 226 rfl rfl), (jt4 224 rfl rfl), (jt4 225 rfl rfl), (jt1 5 rfl rfl), ⟨by decide, by decide, by decide +kernel⟩, Or.inl (jt5 113 rfl rfl)⟩
theorem fl_X7_29 : jFL RX7 29 7 0 := ⟨_, _, _, rfl, iX7, by decide, Or.inl (jt2 82 rfl rfl)⟩
theorem cv_X7_37 : jCV RX7 37 0 yX0_many MX0_many 0 := ⟨_, _, rfl, (jt3 68 rfl rfl), (jt3 66 rfl rfl), (jt3 67 rfl rfl), (jt1 3 rfl rfl), ⟨by decide, by decide, by decide +kernel⟩, Or.inl (jt5 114 rfl rfl)⟩
theorem fl_X7_21 : jFL RX7 21 7 5 := ⟨_, _, _, rfl, iX7, by decide, Or.inl (jt2 87 rfl rfl)⟩
abbrev MX12_round : jM := (RX12, cX12_round, 7, some .int, false)
theorem cv_L_102 : jCV RL 102 12 yX12_round MX12_round 1 := ⟨_, _, rfl, (jt8 55 rfl rfl), (jt8 53 rfl rfl), (jt8 54 rfl rfl), (jt1 13 rfl rfl), ⟨by decide, by decide, by decide +kernel⟩, Or.inl (jt8 52 rfl rfl)⟩
abbrev MX12_findsRound : jM := (RX12, cX12_findsRound, 4, some .boolean, false)
theorem cv_X12_351 : jCV RX12 351 12 yX12_findsRound MX12_findsRound 0 := ⟨_, _, rfl, (jt8 59 rfl rfl), (jt8 58 rfl rfl), (jtp (q := (⟨"BeanStreetModel", "findsRound", "()Z"⟩, 56)) (List.mem_of_getElem? (i := 100) rfl)), (jt1 13 rfl rfl), ⟨by decide, by decide, by decide +kernel⟩, Or.inl (jt8 56 rfl rfl)⟩
theorem fl_X12_120 : jFL RX12 120 12 47 := ⟨_, _, _, rfl, iX12, by decide, Or.inl (jt6 121 rfl rfl)⟩
abbrev MX12_endsBy : jM := (RX12, cX12_endsBy, 6, some .boolean, false)
theorem cv_X12_348 : jCV RX12 348 12 yX12_endsBy MX12_endsBy 3 := ⟨_, _, rfl, (jt8 63 rfl rfl), (jt8 62 rfl rfl), (jtp (q := (⟨"BeanStreetModel", "endsBy", "(III)Z"⟩, 56)) (List.mem_of_getElem? (i := 101) rfl)), (jt1 13 rfl rfl), ⟨by decide, by decide, by decide +kernel⟩, Or.inl (jt8 60 rfl rfl)⟩
abbrev MX12_stepBetween : jM := (RX12, cX12_stepBetween, 4, some .int, false)
theorem cv_X12_340 : jCV RX12 340 12 yX12_stepBetween MX12_stepBetween 2 := ⟨_, _, rfl, (jt8 46 rfl rfl), (jt8 45 rfl rfl), (jtp (q := (⟨"BeanStreetModel", "stepBetween", "(II)I"⟩, 56)) (List.mem_of_getElem? (i := 99) rfl)), (jt1 13 rfl rfl), ⟨by decide, by decide, by decide +kernel⟩, Or.inl (jt8 43 rfl rfl)⟩
abbrev MX11_swapIf : jM := (RX11, cX11_swapIf, 3, some .int, false)
theorem cv_L_103 : jCV RL 103 11 yX11_swapIf MX11_swapIf 2 := ⟨_, _, rfl, (jt5 142 rfl rfl), (jt5 140 rfl rfl), (jt5 141 rfl rfl), (jt1 1 rfl rfl), ⟨by decide, by decide, by decide +kernel⟩, Or.inl (jt5 139 rfl rfl)⟩
abbrev MX12_swapIf : jM := (RX12, cX12_swapIf, 4, some .int, false)
theorem cv_L_106 : jCV RL 106 12 yX12_swapIf MX12_swapIf 2 := ⟨_, _, rfl, (jt8 67 rfl rfl), (jt8 65 rfl rfl), (jt8 66 rfl rfl), (jt1 13 rfl rfl), ⟨by decide, by decide, by decide +kernel⟩, Or.inl (jt8 64 rfl rfl)⟩
abbrev MX11_keep : jM := (RX11, cX11_keep, 3, some .int, false)
theorem cv_L_107 : jCV RL 107 11 yX11_keep MX11_keep 1 := ⟨_, _, rfl, (jt5 147 rfl rfl), (jt5 145 rfl rfl), (jt5 146 rfl rfl), (jt1 1 rfl rfl), ⟨by decide, by decide, by decide +kernel⟩, Or.inl (jt5 144 rfl rfl)⟩
abbrev MX12_keep : jM := (RX12, cX12_keep, 3, some .int, false)
theorem cv_L_110 : jCV RL 110 12 yX12_keep MX12_keep 1 := ⟨_, _, rfl, (jt8 71 rfl rfl), (jt8 69 rfl rfl), (jt8 70 rfl rfl), (jt1 13 rfl rfl), ⟨by decide, by decide, by decide +kernel⟩, Or.inl (jt8 68 rfl rfl)⟩
theorem fl_X11_264 : jFL RX11 264 8 13 := ⟨_, _, _, rfl, iX8, by decide, Or.inr ⟨"BeanStreet", (jn1 68 rfl rfl)⟩⟩
theorem fw_X11_264 : jFW RX11 264 8 13 (.int) false := ⟨_, _, _, tyX8, rfl, iX8, tyX8_ok, nmX8, by decide, rfl, rfl, (fun h => by cases h), Or.inr ⟨"BeanStreet", (jn1 68 rfl rfl)⟩⟩
abbrev MX11_sorts : jM := (RX11, cX11_sorts, 2, some .int, false)
theorem cv_L_111 : jCV RL 111 11 yX11_sorts MX11_sorts 1 := ⟨_, _, rfl, (jt5 151 rfl rfl), (jt5 149 rfl rfl), (jt5 150 rfl rfl), (jt1 1 rfl rfl), ⟨by decide, by decide, by decide +kernel⟩, Or.inl (jt5 148 rfl rfl)⟩
theorem fl_X11_73 : jFL RX11 73 11 9 := ⟨_, _, _, rfl, iX11, by decide, Or.inl (jt2 219 rfl rfl)⟩
abbrev MX2_prepare : jM := (RX2, cX2_prepare, 2, none, false)
theorem cv_X11_270 : jCV RX11 270 2 yX2_prepare MX2_prepare 0 := ⟨_, _, rfl, (jt5 155 rfl rfl), (jt5 153 rfl rfl), (jt5 154 rfl rfl), (jt1 10 rfl rfl), ⟨by decide, by decide, by decide +kernel⟩, Or.inl (jt5 152 rfl rfl)⟩
theorem fl_X2_18 : jFL RX2 18 2 0 := ⟨_, _, _, rfl, iX2, by decide, Or.inl (jt2 110 rfl rfl)⟩
theorem fl_X2_26 : jFL RX2 26 8 13 := ⟨_, _, _, rfl, iX8, by decide, Or.inr ⟨"BeanStreet", (jn1 67 rfl rfl)⟩⟩
abbrev MX12_sorts : jM := (RX12, cX12_sorts, 6, some .int, false)
theorem cv_L_114 : jCV RL 114 12 yX12_sorts MX12_sorts 1 := ⟨_, _, rfl, (jt8 75 rfl rfl), (jt8 73 rfl rfl), (jt8 74 rfl rfl), (jt1 13 rfl rfl), ⟨by decide, by decide, by decide +kernel⟩, Or.inl (jt8 72 rfl rfl)⟩
abbrev MX2_sortedAll : jM := (RX2, cX2_sortedAll, 1, some .int, false)
theorem cv_X11_271 : jCV RX11 271 2 yX2_sortedAll MX2_sortedAll 0 := ⟨_, _, rfl, (jt5 160 rfl rfl), (jt5 158 rfl rfl), (jt5 159 rfl rfl), (jt1 10 rfl rfl), ⟨by decide, by decide, by decide +kernel⟩, Or.inl (jt5 157 rfl rfl)⟩
abbrev MX2_tally : jM := (RX2, cX2_tally, 6, some .int, false)
theorem cv_X2_54 : jCV RX2 54 2 yX2_tally MX2_tally 2 := ⟨_, _, rfl, (jt5 164 rfl rfl), (jt5 163 rfl rfl), (jtp (q := (⟨"BeanStreet$Machine", "tally", "(II)I"⟩, 4)) (List.mem_of_getElem? (i := 49) rfl)), (jt1 10 rfl rfl), ⟨by decide, by decide, by decide +kernel⟩, Or.inl (jt5 161 rfl rfl)⟩
theorem fl_X2_22 : jFL RX2 22 2 1 := ⟨_, _, _, rfl, iX2, by decide, Or.inl (jt2 111 rfl rfl)⟩
theorem cv_X2_44 : jCV RX2 44 0 yX0_rowOf MX0_rowOf 1 := ⟨_, _, rfl, (jt3 84 rfl rfl), (jt3 82 rfl rfl), (jt3 83 rfl rfl), (jt1 3 rfl rfl), ⟨by decide, by decide, by decide +kernel⟩, Or.inl (jt5 165 rfl rfl)⟩
theorem cv_X2_58 : jCV RX2 58 0 yX0_many MX0_many 0 := ⟨_, _, rfl, (jt3 68 rfl rfl), (jt3 66 rfl rfl), (jt3 67 rfl rfl), (jt1 3 rfl rfl), ⟨by decide, by decide, by decide +kernel⟩, Or.inl (jt5 166 rfl rfl)⟩
abbrev MX2_run : jM := (RX2, cX2_run, 8, some .int, false)
theorem cv_X2_47 : jCV RX2 47 2 yX2_run MX2_run 3 := ⟨_, _, rfl, (jt5 170 rfl rfl), (jt5 169 rfl rfl), (jtp (q := (⟨"BeanStreet$Machine", "run", "(III)I"⟩, 4)) (List.mem_of_getElem? (i := 50) rfl)), (jt1 10 rfl rfl), ⟨by decide, by decide, by decide +kernel⟩, Or.inl (jt5 167 rfl rfl)⟩
abbrev MX12_sortedBy : jM := (RX12, cX12_sortedBy, 5, some .int, false)
theorem cv_X12_360 : jCV RX12 360 12 yX12_sortedBy MX12_sortedBy 2 := ⟨_, _, rfl, (jt8 79 rfl rfl), (jt8 78 rfl rfl), (jtp (q := (⟨"BeanStreetModel", "sortedBy", "(II)I"⟩, 56)) (List.mem_of_getElem? (i := 102) rfl)), (jt1 13 rfl rfl), ⟨by decide, by decide, by decide +kernel⟩, Or.inl (jt8 76 rfl rfl)⟩
theorem fw_X12_354 : jFW RX12 354 12 48 (.int) false := ⟨_, _, _, tyX12, rfl, iX12, tyX12_ok, nmX12, by decide, rfl, rfl, (fun h => by cases h), Or.inl (jt6 122 rfl rfl)⟩
abbrev MX12_goesThrough : jM := (RX12, cX12_goesThrough, 7, none, false)
theorem cv_X12_357 : jCV RX12 357 12 yX12_goesThrough MX12_goesThrough 3 := ⟨_, _, rfl, (jt8 83 rfl rfl), (jt8 82 rfl rfl), (jtp (q := (⟨"BeanStreetModel", "goesThrough", "(III)V"⟩, 56)) (List.mem_of_getElem? (i := 103) rfl)), (jt1 13 rfl rfl), ⟨by decide, by decide, by decide +kernel⟩, Or.inl (jt8 80 rfl rfl)⟩
abbrev MX12_takesOrder : jM := (RX12, cX12_takesOrder, 3, none, false)
theorem cv_X12_316 : jCV RX12 316 12 yX12_takesOrder MX12_takesOrder 1 := ⟨_, _, rfl, (jt7 238 rfl rfl), (jt7 237 rfl rfl), (jtp (q := (⟨"BeanStreetModel", "takesOrder", "(I)V"⟩, 56)) (List.mem_of_getElem? (i := 92) rfl)), (jt1 13 rfl rfl), ⟨by decide, by decide, by decide +kernel⟩, Or.inl (jt7 235 rfl rfl)⟩
abbrev MX2_firstUnsorted : jM := (RX2, cX2_firstUnsorted, 3, some .int, false)
theorem cv_X11_274 : jCV RX11 274 2 yX2_firstUnsorted MX2_firstUnsorted 0 := ⟨_, _, rfl, (jt5 176 rfl rfl), (jt5 174 rfl rfl), (jt5 175 rfl rfl), (jt1 10 rfl rfl), ⟨by decide, by decide, by decide +kernel⟩, Or.inl (jt5 173 rfl rfl)⟩
theorem fl_X12_354 : jFL RX12 354 12 48 := ⟨_, _, _, rfl, iX12, by decide, Or.inl (jt6 122 rfl rfl)⟩
abbrev MX2_needless : jM := (RX2, cX2_needless, 4, some .int, false)
theorem cv_X11_277 : jCV RX11 277 2 yX2_needless MX2_needless 0 := ⟨_, _, rfl, (jt5 180 rfl rfl), (jt5 178 rfl rfl), (jt5 179 rfl rfl), (jt1 10 rfl rfl), ⟨by decide, by decide, by decide +kernel⟩, Or.inl (jt5 177 rfl rfl)⟩
theorem cv_X2_62 : jCV RX2 62 2 yX2_sortedAll MX2_sortedAll 0 := ⟨_, _, rfl, (jt5 160 rfl rfl), (jt5 158 rfl rfl), (jt5 159 rfl rfl), (jt1 10 rfl rfl), ⟨by decide, by decide, by decide +kernel⟩, Or.inl (jt5 181 rfl rfl)⟩
abbrev MX2_fewestFirst : jM := (RX2, cX2_fewestFirst, 3, some .int, false)
theorem cv_X11_280 : jCV RX11 280 2 yX2_fewestFirst MX2_fewestFirst 0 := ⟨_, _, rfl, (jt5 185 rfl rfl), (jt5 183 rfl rfl), (jt5 184 rfl rfl), (jt1 10 rfl rfl), ⟨by decide, by decide, by decide +kernel⟩, Or.inl (jt5 182 rfl rfl)⟩
abbrev MX11_sorted : jM := (RX11, cX11_sorted, 2, some .int, false)
theorem cv_L_115 : jCV RL 115 11 yX11_sorted MX11_sorted 1 := ⟨_, _, rfl, (jt5 189 rfl rfl), (jt5 187 rfl rfl), (jt5 188 rfl rfl), (jt1 1 rfl rfl), ⟨by decide, by decide, by decide +kernel⟩, Or.inl (jt5 186 rfl rfl)⟩
abbrev MX12_sorted : jM := (RX12, cX12_sorted, 2, some .int, false)
theorem cv_L_118 : jCV RL 118 12 yX12_sorted MX12_sorted 1 := ⟨_, _, rfl, (jt8 87 rfl rfl), (jt8 85 rfl rfl), (jt8 86 rfl rfl), (jt1 13 rfl rfl), ⟨by decide, by decide, by decide +kernel⟩, Or.inl (jt8 84 rfl rfl)⟩
abbrev MX2_result : jM := (RX2, cX2_result, 2, some .int, false)
theorem cv_X11_283 : jCV RX11 283 2 yX2_result MX2_result 1 := ⟨_, _, rfl, (jt5 193 rfl rfl), (jt5 191 rfl rfl), (jt5 192 rfl rfl), (jt1 10 rfl rfl), ⟨by decide, by decide, by decide +kernel⟩, Or.inl (jt5 190 rfl rfl)⟩
theorem cv_X2_51 : jCV RX2 51 0 yX0_find MX0_find 1 := ⟨_, _, rfl, (jt3 104 rfl rfl), (jt3 102 rfl rfl), (jt3 103 rfl rfl), (jt1 3 rfl rfl), ⟨by decide, by decide, by decide +kernel⟩, Or.inl (jt5 194 rfl rfl)⟩
abbrev MX11_clue : jM := (RX11, cX11_clue, 3, some .int, false)
theorem cv_L_119 : jCV RL 119 11 yX11_clue MX11_clue 2 := ⟨_, _, rfl, (jt5 198 rfl rfl), (jt5 196 rfl rfl), (jt5 197 rfl rfl), (jt1 1 rfl rfl), ⟨by decide, by decide, by decide +kernel⟩, Or.inl (jt5 195 rfl rfl)⟩
abbrev MX12_clue : jM := (RX12, cX12_clue, 4, some .int, false)
theorem cv_L_122 : jCV RL 122 12 yX12_clue MX12_clue 2 := ⟨_, _, rfl, (jt8 91 rfl rfl), (jt8 89 rfl rfl), (jt8 90 rfl rfl), (jt1 13 rfl rfl), ⟨by decide, by decide, by decide +kernel⟩, Or.inl (jt8 88 rfl rfl)⟩
theorem fl_X11_286 : jFL RX11 286 8 10 := ⟨_, _, _, rfl, iX8, by decide, Or.inr ⟨"BeanStreet", (jn1 61 rfl rfl)⟩⟩
abbrev MX8_addClue : jM := (RX8, cX8_addClue, 3, none, false)
theorem cv_X11_289 : jCV RX11 289 8 yX8_addClue MX8_addClue 2 := ⟨_, _, rfl, (jt5 202 rfl rfl), (jt5 200 rfl rfl), (jt5 201 rfl rfl), (jt1 2 rfl rfl), ⟨by decide, by decide, by decide +kernel⟩, Or.inl (jt5 199 rfl rfl)⟩
theorem fl_X8_45 : jFL RX8 45 8 10 := ⟨_, _, _, rfl, iX8, by decide, Or.inl (jt1 59 rfl rfl)⟩
theorem fl_X8_39 : jFL RX8 39 8 8 := ⟨_, _, _, rfl, iX8, by decide, Or.inl (jt1 55 rfl rfl)⟩
theorem fl_X8_42 : jFL RX8 42 8 9 := ⟨_, _, _, rfl, iX8, by decide, Or.inl (jt1 57 rfl rfl)⟩
theorem fl_X11_82 : jFL RX11 82 11 10 := ⟨_, _, _, rfl, iX11, by decide, Or.inl (jt2 220 rfl rfl)⟩
abbrev MX6_change : jM := (RX6, cX6_change, 1, none, false)
theorem cv_X11_292 : jCV RX11 292 6 yX6_change MX6_change 0 := ⟨_, _, rfl, (jt5 206 rfl rfl), (jt5 204 rfl rfl), (jt5 205 rfl rfl), (jt1 11 rfl rfl), ⟨by decide, by decide, by decide +kernel⟩, Or.inl (jt5 203 rfl rfl)⟩
abbrev MX11_forget : jM := (RX11, cX11_forget, 2, some .int, false)
theorem cv_L_123 : jCV RL 123 11 yX11_forget MX11_forget 0 := ⟨_, _, rfl, (jt5 210 rfl rfl), (jt5 208 rfl rfl), (jt5 209 rfl rfl), (jt1 1 rfl rfl), ⟨by decide, by decide, by decide +kernel⟩, Or.inl (jt5 207 rfl rfl)⟩
abbrev MX12_forget : jM := (RX12, cX12_forget, 2, some .int, false)
theorem cv_L_126 : jCV RL 126 12 yX12_forget MX12_forget 0 := ⟨_, _, rfl, (jt8 95 rfl rfl), (jt8 93 rfl rfl), (jt8 94 rfl rfl), (jt1 13 rfl rfl), ⟨by decide, by decide, by decide +kernel⟩, Or.inl (jt8 92 rfl rfl)⟩
abbrev MX11_fits : jM := (RX11, cX11_fits, 2, some .int, false)
theorem cv_L_127 : jCV RL 127 11 yX11_fits MX11_fits 1 := ⟨_, _, rfl, (jt5 214 rfl rfl), (jt5 212 rfl rfl), (jt5 213 rfl rfl), (jt1 1 rfl rfl), ⟨by decide, by decide, by decide +kernel⟩, Or.inl (jt5 211 rfl rfl)⟩
abbrev MX6_refit : jM := (RX6, cX6_refit, 4, none, false)
theorem cv_X11_295 : jCV RX11 295 6 yX6_refit MX6_refit 0 := ⟨_, _, rfl, (jt5 218 rfl rfl), (jt5 216 rfl rfl), (jt5 217 rfl rfl), (jt1 11 rfl rfl), ⟨by decide, by decide, by decide +kernel⟩, Or.inl (jt5 215 rfl rfl)⟩
theorem fl_X6_23 : jFL RX6 23 6 7 := ⟨_, _, _, rfl, iX6, by decide, Or.inl (jt2 136 rfl rfl)⟩
theorem fl_X6_49 : jFL RX6 49 6 2 := ⟨_, _, _, rfl, iX6, by decide, Or.inl (jt2 131 rfl rfl)⟩
theorem cv_X6_57 : jCV RX6 57 9 yX9_version MX9_version 0 := ⟨_, _, rfl, (jt4 226 rfl rfl), (jt4 224 rfl rfl), (jt4 225 rfl rfl), (jt1 5 rfl rfl), ⟨by decide, by decide, by decide +kernel⟩, Or.inl (jt5 219 rfl rfl)⟩
theorem fl_X6_45 : jFL RX6 45 6 1 := ⟨_, _, _, rfl, iX6, by decide, Or.inl (jt2 130 rfl rfl)⟩
theorem cv_X6_63 : jCV RX6 63 0 yX0_many MX0_many 0 := ⟨_, _, rfl, (jt3 68 rfl rfl), (jt3 66 rfl rfl), (jt3 67 rfl rfl), (jt1 3 rfl rfl), ⟨by decide, by decide, by decide +kernel⟩, Or.inl (jt5 220 rfl rfl)⟩
theorem fl_X6_9 : jFL RX6 9 6 4 := ⟨_, _, _, rfl, iX6, by decide, Or.inl (jt2 133 rfl rfl)⟩
theorem fl_X6_41 : jFL RX6 41 6 0 := ⟨_, _, _, rfl, iX6, by decide, Or.inl (jt2 129 rfl rfl)⟩
theorem fl_X6_67 : jFL RX6 67 8 10 := ⟨_, _, _, rfl, iX8, by decide, Or.inr ⟨"BeanStreet", (jn1 60 rfl rfl)⟩⟩
theorem fl_X6_15 : jFL RX6 15 6 5 := ⟨_, _, _, rfl, iX6, by decide, Or.inl (jt2 134 rfl rfl)⟩
theorem fl_X6_19 : jFL RX6 19 6 6 := ⟨_, _, _, rfl, iX6, by decide, Or.inl (jt2 135 rfl rfl)⟩
abbrev MX6_at : jM := (RX6, cX6_at, 2, some .int, false)
theorem cv_X11_299 : jCV RX11 299 6 yX6_at MX6_at 1 := ⟨_, _, rfl, (jt5 229 rfl rfl), (jt5 227 rfl rfl), (jt5 228 rfl rfl), (jt1 11 rfl rfl), ⟨by decide, by decide, by decide +kernel⟩, Or.inl (jt5 226 rfl rfl)⟩
abbrev MX12_fits : jM := (RX12, cX12_fits, 5, some .int, false)
theorem cv_L_130 : jCV RL 130 12 yX12_fits MX12_fits 1 := ⟨_, _, rfl, (jt8 99 rfl rfl), (jt8 97 rfl rfl), (jt8 98 rfl rfl), (jt1 13 rfl rfl), ⟨by decide, by decide, by decide +kernel⟩, Or.inl (jt8 96 rfl rfl)⟩
abbrev MX12_findsFits : jM := (RX12, cX12_findsFits, 3, some .int, false)
theorem cv_X12_363 : jCV RX12 363 12 yX12_findsFits MX12_findsFits 0 := ⟨_, _, rfl, (jt8 103 rfl rfl), (jt8 102 rfl rfl), (jtp (q := (⟨"BeanStreetModel", "findsFits", "()I"⟩, 56)) (List.mem_of_getElem? (i := 104) rfl)), (jt1 13 rfl rfl), ⟨by decide, by decide, by decide +kernel⟩, Or.inl (jt8 100 rfl rfl)⟩
theorem fl_X12_123 : jFL RX12 123 12 49 := ⟨_, _, _, rfl, iX12, by decide, Or.inl (jt6 123 rfl rfl)⟩
abbrev MX6_many : jM := (RX6, cX6_many, 1, some .int, false)
theorem cv_X11_298 : jCV RX11 298 6 yX6_many MX6_many 0 := ⟨_, _, rfl, (jt5 225 rfl rfl), (jt5 223 rfl rfl), (jt5 224 rfl rfl), (jt1 11 rfl rfl), ⟨by decide, by decide, by decide +kernel⟩, Or.inl (jt5 222 rfl rfl)⟩
abbrev MX11_ask : jM := (RX11, cX11_ask, 2, some .int, false)
theorem cv_L_131 : jCV RL 131 11 yX11_ask MX11_ask 1 := ⟨_, _, rfl, (jt5 233 rfl rfl), (jt5 231 rfl rfl), (jt5 232 rfl rfl), (jt1 1 rfl rfl), ⟨by decide, by decide, by decide +kernel⟩, Or.inl (jt5 230 rfl rfl)⟩
abbrev MX12_ask : jM := (RX12, cX12_ask, 8, some .int, false)
theorem cv_L_134 : jCV RL 134 12 yX12_ask MX12_ask 1 := ⟨_, _, rfl, (jt8 107 rfl rfl), (jt8 105 rfl rfl), (jt8 106 rfl rfl), (jt1 13 rfl rfl), ⟨by decide, by decide, by decide +kernel⟩, Or.inl (jt8 104 rfl rfl)⟩
abbrev MX6_choose : jM := (RX6, cX6_choose, 4, none, false)
theorem cv_X11_300 : jCV RX11 300 6 yX6_choose MX6_choose 0 := ⟨_, _, rfl, (jt5 237 rfl rfl), (jt5 235 rfl rfl), (jt5 236 rfl rfl), (jt1 11 rfl rfl), ⟨by decide, by decide, by decide +kernel⟩, Or.inl (jt5 234 rfl rfl)⟩
theorem fl_X6_38 : jFL RX6 38 6 12 := ⟨_, _, _, rfl, iX6, by decide, Or.inl (jt2 141 rfl rfl)⟩
theorem fl_X6_26 : jFL RX6 26 6 8 := ⟨_, _, _, rfl, iX6, by decide, Or.inl (jt2 137 rfl rfl)⟩
theorem cs_X6_87 : jCS RX6 87 yJ7_fill_fda19 MJ7_fill_fda19 4 := ⟨(jt4 175 rfl rfl), (jt4 174 rfl rfl), (jt1 14 rfl rfl), ⟨by decide, by decide, by decide +kernel⟩, Or.inl (jt5 238 rfl rfl)⟩
theorem fl_X6_35 : jFL RX6 35 6 11 := ⟨_, _, _, rfl, iX6, by decide, Or.inl (jt2 140 rfl rfl)⟩
abbrev MX6_leftBy : jM := (RX6, cX6_leftBy, 12, some .int, false)
theorem cv_X6_93 : jCV RX6 93 6 yX6_leftBy MX6_leftBy 2 := ⟨_, _, rfl, (jt6 2 rfl rfl), (jt6 1 rfl rfl), (jtp (q := (⟨"BeanStreet$Riddle", "leftBy", "(II)I"⟩, 13)) (List.mem_of_getElem? (i := 51) rfl)), (jt1 11 rfl rfl), ⟨by decide, by decide, by decide +kernel⟩, Or.inl (jt5 239 rfl rfl)⟩
theorem fl_X6_29 : jFL RX6 29 6 9 := ⟨_, _, _, rfl, iX6, by decide, Or.inl (jt2 138 rfl rfl)⟩
abbrev MX6_best : jM := (RX6, cX6_best, 1, some .int, false)
theorem cv_X11_303 : jCV RX11 303 6 yX6_best MX6_best 0 := ⟨_, _, rfl, (jt6 10 rfl rfl), (jt6 8 rfl rfl), (jt6 9 rfl rfl), (jt1 11 rfl rfl), ⟨by decide, by decide, by decide +kernel⟩, Or.inl (jt6 7 rfl rfl)⟩
theorem fl_X6_32 : jFL RX6 32 6 10 := ⟨_, _, _, rfl, iX6, by decide, Or.inl (jt2 139 rfl rfl)⟩
theorem fl_X12_126 : jFL RX12 126 12 50 := ⟨_, _, _, rfl, iX12, by decide, Or.inl (jt6 124 rfl rfl)⟩
abbrev MX6_worst : jM := (RX6, cX6_worst, 1, some .int, false)
theorem cv_X11_306 : jCV RX11 306 6 yX6_worst MX6_worst 0 := ⟨_, _, rfl, (jt6 14 rfl rfl), (jt6 12 rfl rfl), (jt6 13 rfl rfl), (jt1 11 rfl rfl), ⟨by decide, by decide, by decide +kernel⟩, Or.inl (jt6 11 rfl rfl)⟩
abbrev MX11_post : jM := (RX11, cX11_post, 5, some .int, false)
theorem cv_L_135 : jCV RL 135 11 yX11_post MX11_post 4 := ⟨_, _, rfl, (jt6 18 rfl rfl), (jt6 16 rfl rfl), (jt6 17 rfl rfl), (jt1 1 rfl rfl), ⟨by decide, by decide, by decide +kernel⟩, Or.inl (jt6 15 rfl rfl)⟩
abbrev MX12_post : jM := (RX12, cX12_post, 13, some .int, false)
theorem cv_L_139 : jCV RL 139 12 yX12_post MX12_post 4 := ⟨_, _, rfl, (jt8 111 rfl rfl), (jt8 109 rfl rfl), (jt8 110 rfl rfl), (jt1 13 rfl rfl), ⟨by decide, by decide, by decide +kernel⟩, Or.inl (jt8 108 rfl rfl)⟩
abbrev MX11_drunk : jM := (RX11, cX11_drunk, 8, some .int, false)
theorem cv_L_140 : jCV RL 140 11 yX11_drunk MX11_drunk 3 := ⟨_, _, rfl, (jt6 39 rfl rfl), (jt6 37 rfl rfl), (jt6 38 rfl rfl), (jt1 1 rfl rfl), ⟨by decide, by decide, by decide +kernel⟩, Or.inl (jt6 36 rfl rfl)⟩
abbrev MX12_drunk : jM := (RX12, cX12_drunk, 6, some .int, false)
theorem cv_L_143 : jCV RL 143 12 yX12_drunk MX12_drunk 3 := ⟨_, _, rfl, (jt8 115 rfl rfl), (jt8 113 rfl rfl), (jt8 114 rfl rfl), (jt1 13 rfl rfl), ⟨by decide, by decide, by decide +kernel⟩, Or.inl (jt8 112 rfl rfl)⟩
theorem fl_X11_104 : jFL RX11 104 11 15 := ⟨_, _, _, rfl, iX11, by decide, Or.inl (jt2 225 rfl rfl)⟩
theorem cs_X11_168 : jCS RX11 168 yJ7_fill_53178 MJ7_fill_53178 2 := ⟨(jt3 143 rfl rfl), (jt3 142 rfl rfl), (jt1 14 rfl rfl), ⟨by decide, by decide, by decide +kernel⟩, Or.inl (jt3 141 rfl rfl)⟩
theorem fw_X12_368 : jFW RX12 368 12 55 (.int) false := ⟨_, _, _, tyX12, rfl, iX12, tyX12_ok, nmX12, by decide, rfl, rfl, (fun h => by cases h), Or.inl (jt6 129 rfl rfl)⟩
theorem fw_X12_375 : jFW RX12 375 12 54 (.int) false := ⟨_, _, _, tyX12, rfl, iX12, tyX12_ok, nmX12, by decide, rfl, rfl, (fun h => by cases h), Or.inl (jt6 128 rfl rfl)⟩
theorem fl_X12_135 : jFL RX12 135 12 53 := ⟨_, _, _, rfl, iX12, by decide, Or.inl (jt6 127 rfl rfl)⟩
abbrev MX11_drawn : jM := (RX11, cX11_drawn, 2, some .int, false)
theorem cv_L_144 : jCV RL 144 11 yX11_drawn MX11_drawn 1 := ⟨_, _, rfl, (jt6 45 rfl rfl), (jt6 43 rfl rfl), (jt6 44 rfl rfl), (jt1 1 rfl rfl), ⟨by decide, by decide, by decide +kernel⟩, Or.inl (jt6 42 rfl rfl)⟩
theorem fl_X11_107 : jFL RX11 107 11 16 := ⟨_, _, _, rfl, iX11, by decide, Or.inl (jt2 226 rfl rfl)⟩
abbrev MX12_drawn : jM := (RX12, cX12_drawn, 2, some .int, false)
theorem cv_L_147 : jCV RL 147 12 yX12_drawn MX12_drawn 1 := ⟨_, _, rfl, (jt8 126 rfl rfl), (jt8 124 rfl rfl), (jt8 125 rfl rfl), (jt1 13 rfl rfl), ⟨by decide, by decide, by decide +kernel⟩, Or.inl (jt8 123 rfl rfl)⟩
theorem fl_X12_375 : jFL RX12 375 12 54 := ⟨_, _, _, rfl, iX12, by decide, Or.inl (jt6 128 rfl rfl)⟩
abbrev MX11_image : jM := (RX11, cX11_image, 2, some .int, false)
theorem cv_L_148 : jCV RL 148 11 yX11_image MX11_image 1 := ⟨_, _, rfl, (jt6 49 rfl rfl), (jt6 47 rfl rfl), (jt6 48 rfl rfl), (jt1 1 rfl rfl), ⟨by decide, by decide, by decide +kernel⟩, Or.inl (jt6 46 rfl rfl)⟩
abbrev MX12_image : jM := (RX12, cX12_image, 3, some .int, false)
theorem cv_L_151 : jCV RL 151 12 yX12_image MX12_image 1 := ⟨_, _, rfl, (jt7 6 rfl rfl), (jt7 4 rfl rfl), (jt7 5 rfl rfl), (jt1 13 rfl rfl), ⟨by decide, by decide, by decide +kernel⟩, Or.inl (jt7 3 rfl rfl)⟩
theorem fl_X11_16 : jFL RX11 16 11 1 := ⟨_, _, _, rfl, iX11, by decide, Or.inl (jt2 211 rfl rfl)⟩
abbrev MX8_copyFrom : jM := (RX8, cX8_copyFrom, 3, none, false)
theorem cv_X11_314 : jCV RX11 314 8 yX8_copyFrom MX8_copyFrom 1 := ⟨_, _, rfl, (jt6 53 rfl rfl), (jt6 51 rfl rfl), (jt6 52 rfl rfl), (jt1 2 rfl rfl), ⟨by decide, by decide, by decide +kernel⟩, Or.inl (jt6 50 rfl rfl)⟩
theorem fl_X8_9 : jFL RX8 9 8 0 := ⟨_, _, _, rfl, iX8, by decide, Or.inl (jt1 37 rfl rfl)⟩
theorem fl_X8_15 : jFL RX8 15 8 1 := ⟨_, _, _, rfl, iX8, by decide, Or.inl (jt1 40 rfl rfl)⟩
theorem fl_X8_20 : jFL RX8 20 8 2 := ⟨_, _, _, rfl, iX8, by decide, Or.inl (jt1 43 rfl rfl)⟩
theorem fl_X8_23 : jFL RX8 23 8 3 := ⟨_, _, _, rfl, iX8, by decide, Or.inl (jt1 46 rfl rfl)⟩
theorem fl_X8_27 : jFL RX8 27 8 4 := ⟨_, _, _, rfl, iX8, by decide, Or.inl (jt1 48 rfl rfl)⟩
theorem fl_X8_30 : jFL RX8 30 8 5 := ⟨_, _, _, rfl, iX8, by decide, Or.inl (jt1 51 rfl rfl)⟩
theorem fl_X8_33 : jFL RX8 33 8 6 := ⟨_, _, _, rfl, iX8, by decide, Or.inl (jt1 52 rfl rfl)⟩
theorem fl_X8_48 : jFL RX8 48 8 11 := ⟨_, _, _, rfl, iX8, by decide, Or.inl (jt1 62 rfl rfl)⟩
theorem fl_X8_51 : jFL RX8 51 8 12 := ⟨_, _, _, rfl, iX8, by decide, Or.inl (jt1 64 rfl rfl)⟩
theorem fl_X11_20 : jFL RX11 20 11 2 := ⟨_, _, _, rfl, iX11, by decide, Or.inl (jt2 212 rfl rfl)⟩
theorem fl_X12_26 : jFL RX12 26 12 5 := ⟨_, _, _, rfl, iX12, by decide, Or.inl (jt6 79 rfl rfl)⟩
theorem fl_X12_23 : jFL RX12 23 12 4 := ⟨_, _, _, rfl, iX12, by decide, Or.inl (jt6 78 rfl rfl)⟩
abbrev MX11_back : jM := (RX11, cX11_back, 2, some .int, false)
theorem cv_L_152 : jCV RL 152 11 yX11_back MX11_back 1 := ⟨_, _, rfl, (jt6 58 rfl rfl), (jt6 56 rfl rfl), (jt6 57 rfl rfl), (jt1 1 rfl rfl), ⟨by decide, by decide, by decide +kernel⟩, Or.inl (jt6 55 rfl rfl)⟩
abbrev MX12_back : jM := (RX12, cX12_back, 3, some .int, false)
theorem cv_L_155 : jCV RL 155 12 yX12_back MX12_back 1 := ⟨_, _, rfl, (jt7 21 rfl rfl), (jt7 19 rfl rfl), (jt7 20 rfl rfl), (jt1 13 rfl rfl), ⟨by decide, by decide, by decide +kernel⟩, Or.inl (jt7 18 rfl rfl)⟩
abbrev MX11_count : jM := (RX11, cX11_count, 2, some .int, false)
theorem cv_L_156 : jCV RL 156 11 yX11_count MX11_count 1 := ⟨_, _, rfl, (jt6 62 rfl rfl), (jt6 60 rfl rfl), (jt6 61 rfl rfl), (jt1 1 rfl rfl), ⟨by decide, by decide, by decide +kernel⟩, Or.inl (jt6 59 rfl rfl)⟩
abbrev MX12_count : jM := (RX12, cX12_count, 2, some .int, false)
theorem cv_L_159 : jCV RL 159 12 yX12_count MX12_count 1 := ⟨_, _, rfl, (jt8 130 rfl rfl), (jt8 128 rfl rfl), (jt8 129 rfl rfl), (jt1 13 rfl rfl), ⟨by decide, by decide, by decide +kernel⟩, Or.inl (jt8 127 rfl rfl)⟩
theorem fl_X11_204 : jFL RX11 204 8 7 := ⟨_, _, _, rfl, iX8, by decide, Or.inr ⟨"BeanStreet", (jn1 54 rfl rfl)⟩⟩
abbrev MX11_status : jM := (RX11, cX11_status, 1, some .int, false)
theorem cv_L_160 : jCV RL 160 11 yX11_status MX11_status 0 := ⟨_, _, rfl, (jt6 66 rfl rfl), (jt6 64 rfl rfl), (jt6 65 rfl rfl), (jt1 1 rfl rfl), ⟨by decide, by decide, by decide +kernel⟩, Or.inl (jt6 63 rfl rfl)⟩
theorem fl_X11_97 : jFL RX11 97 11 13 := ⟨_, _, _, rfl, iX11, by decide, Or.inl (jt2 223 rfl rfl)⟩
abbrev MX12_status : jM := (RX12, cX12_status, 1, some .int, false)
theorem cv_L_163 : jCV RL 163 12 yX12_status MX12_status 0 := ⟨_, _, rfl, (jt8 134 rfl rfl), (jt8 132 rfl rfl), (jt8 133 rfl rfl), (jt1 13 rfl rfl), ⟨by decide, by decide, by decide +kernel⟩, Or.inl (jt8 131 rfl rfl)⟩
theorem fl_X12_3 : jFL RX12 3 12 0 := ⟨_, _, _, rfl, iX12, by decide, Or.inl (jt6 74 rfl rfl)⟩
