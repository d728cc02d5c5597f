/-! links, methods, constants: written by wip/tools/p1.py -/

set_option maxRecDepth 20000 in
theorem iX8_at : ∀ k : Nat, k < 14 → u_lay RX8 TX8 k ∈ jtb
  | 0, _ => jt1 69 rfl rfl
  | 1, _ => jt1 71 rfl rfl
  | 2, _ => jt1 73 rfl rfl
  | 3, _ => jt1 75 rfl rfl
  | 4, _ => jt1 77 rfl rfl
  | 5, _ => jt1 79 rfl rfl
  | 6, _ => jt1 81 rfl rfl
  | 7, _ => jt1 83 rfl rfl
  | 8, _ => jt1 85 rfl rfl
  | 9, _ => jt1 87 rfl rfl
  | 10, _ => jt1 89 rfl rfl
  | 11, _ => jt1 91 rfl rfl
  | 12, _ => jt1 93 rfl rfl
  | 13, _ => jt1 95 rfl rfl
  | (n + 14), h => absurd h (by omega)
theorem iX8 : ∀ w ∈ u_ws RX8 TX8 14, w ∈ jtb := fun w hw => by
  obtain ⟨k, hk, rfl⟩ := List.mem_map.mp hw
  exact iX8_at k (List.mem_range.mp hk)
theorem nd_X11_7 : ∀ j : Nat, j < 14 → defaultValue (tyX8 j) = vp_V [.null, .null, .null, .int 0, .int 0, .null, .null, .int 0, .null, .null, .int 0, .null, .null, .int 0] j
  | 0, _ => rfl
  | 1, _ => rfl
  | 2, _ => rfl
  | 3, _ => rfl
  | 4, _ => rfl
  | 5, _ => rfl
  | 6, _ => rfl
  | 7, _ => rfl
  | 8, _ => rfl
  | 9, _ => rfl
  | 10, _ => rfl
  | 11, _ => rfl
  | 12, _ => rfl
  | 13, _ => rfl
  | (n + 14), h => absurd h (by omega)
theorem nw_X11_7 : jNW RX11 7 8 14 [.null, .null, .null, .int 0, .int 0, .null, .null, .int 0, .null, .null, .int 0, .null, .null, .int 0] := ⟨_, _, tyX8, rfl, iX8, tyX8_ok, (jt1 29 rfl rfl), (jt1 30 rfl rfl), (jt1 2 rfl rfl), nd_X11_7⟩
abbrev MX8_init : jM := (RX8, cX8_init, 1, none, true)
theorem ci_X11_9 : jCI RX11 9 yX8_init MX8_init 0 := ⟨(jt1 33 rfl rfl), rfl, (jt1 32 rfl rfl), (jt1 2 rfl rfl), rfl, ⟨by decide, by decide, by decide +kernel⟩, Or.inr ⟨"BeanStreet", (jn1 31 rfl rfl)⟩⟩
theorem fw_X8_9 : jFW RX8 9 8 0 (.array .int) true := ⟨_, _, _, tyX8, rfl, iX8, tyX8_ok, nmX8, by decide, rfl, rfl, (fun _ => ⟨rfl, (jt1 37 rfl rfl)⟩), Or.inl (jt1 37 rfl rfl)⟩
theorem fw_X8_15 : jFW RX8 15 8 1 (.array .int) true := ⟨_, _, _, tyX8, rfl, iX8, tyX8_ok, nmX8, by decide, rfl, rfl, (fun _ => ⟨rfl, (jt1 40 rfl rfl)⟩), Or.inl (jt1 40 rfl rfl)⟩
theorem fw_X8_20 : jFW RX8 20 8 2 (.array (.array .int)) true := ⟨_, _, _, tyX8, rfl, iX8, tyX8_ok, nmX8, by decide, rfl, rfl, (fun _ => ⟨rfl, (jt1 43 rfl rfl)⟩), Or.inl (jt1 43 rfl rfl)⟩
theorem fw_X8_23 : jFW RX8 23 8 3 (.int) false := ⟨_, _, _, tyX8, rfl, iX8, tyX8_ok, nmX8, by decide, rfl, rfl, (fun h => by cases h), Or.inl (jt1 46 rfl rfl)⟩
theorem fw_X8_27 : jFW RX8 27 8 4 (.int) false := ⟨_, _, _, tyX8, rfl, iX8, tyX8_ok, nmX8, by decide, rfl, rfl, (fun h => by cases h), Or.inl (jt1 48 rfl rfl)⟩
theorem fw_X8_30 : jFW RX8 30 8 5 (.array .int) true := ⟨_, _, _, tyX8, rfl, iX8, tyX8_ok, nmX8, by decide, rfl, rfl, (fun _ => ⟨rfl, (jt1 51 rfl rfl)⟩), Or.inl (jt1 51 rfl rfl)⟩
theorem fw_X8_33 : jFW RX8 33 8 6 (.array .int) true := ⟨_, _, _, tyX8, rfl, iX8, tyX8_ok, nmX8, by decide, rfl, rfl, (fun _ => ⟨rfl, (jt1 52 rfl rfl)⟩), Or.inl (jt1 52 rfl rfl)⟩
theorem fw_X8_36 : jFW RX8 36 8 7 (.int) false := ⟨_, _, _, tyX8, rfl, iX8, tyX8_ok, nmX8, by decide, rfl, rfl, (fun h => by cases h), Or.inl (jt1 53 rfl rfl)⟩
theorem fw_X8_39 : jFW RX8 39 8 8 (.array .int) true := ⟨_, _, _, tyX8, rfl, iX8, tyX8_ok, nmX8, by decide, rfl, rfl, (fun _ => ⟨rfl, (jt1 55 rfl rfl)⟩), Or.inl (jt1 55 rfl rfl)⟩
theorem fw_X8_42 : jFW RX8 42 8 9 (.array .int) true := ⟨_, _, _, tyX8, rfl, iX8, tyX8_ok, nmX8, by decide, rfl, rfl, (fun _ => ⟨rfl, (jt1 57 rfl rfl)⟩), Or.inl (jt1 57 rfl rfl)⟩
theorem fw_X8_45 : jFW RX8 45 8 10 (.int) false := ⟨_, _, _, tyX8, rfl, iX8, tyX8_ok, nmX8, by decide, rfl, rfl, (fun h => by cases h), Or.inl (jt1 59 rfl rfl)⟩
theorem fw_X8_48 : jFW RX8 48 8 11 (.array .int) true := ⟨_, _, _, tyX8, rfl, iX8, tyX8_ok, nmX8, by decide, rfl, rfl, (fun _ => ⟨rfl, (jt1 62 rfl rfl)⟩), Or.inl (jt1 62 rfl rfl)⟩
theorem fw_X8_51 : jFW RX8 51 8 12 (.array .int) true := ⟨_, _, _, tyX8, rfl, iX8, tyX8_ok, nmX8, by decide, rfl, rfl, (fun _ => ⟨rfl, (jt1 64 rfl rfl)⟩), Or.inl (jt1 64 rfl rfl)⟩
theorem fw_X8_54 : jFW RX8 54 8 13 (.int) false := ⟨_, _, _, tyX8, rfl, iX8, tyX8_ok, nmX8, by decide, rfl, rfl, (fun h => by cases h), Or.inl (jt1 66 rfl rfl)⟩
set_option maxRecDepth 20000 in
theorem iX11_at : ∀ k : Nat, k < 17 → u_lay RX11 TX11 k ∈ jtb
  | 0, _ => jt2 227 rfl rfl
  | 1, _ => jt2 229 rfl rfl
  | 2, _ => jt2 231 rfl rfl
  | 3, _ => jt2 233 rfl rfl
  | 4, _ => jt2 235 rfl rfl
  | 5, _ => jt2 237 rfl rfl
  | 6, _ => jt2 239 rfl rfl
  | 7, _ => jt3 1 rfl rfl
  | 8, _ => jt3 3 rfl rfl
  | 9, _ => jt3 5 rfl rfl
  | 10, _ => jt3 7 rfl rfl
  | 11, _ => jt3 9 rfl rfl
  | 12, _ => jt3 11 rfl rfl
  | 13, _ => jt3 13 rfl rfl
  | 14, _ => jt3 15 rfl rfl
  | 15, _ => jt3 17 rfl rfl
  | 16, _ => jt3 19 rfl rfl
  | (n + 17), h => absurd h (by omega)
theorem iX11 : ∀ w ∈ u_ws RX11 TX11 17, w ∈ jtb := fun w hw => by
  obtain ⟨k, hk, rfl⟩ := List.mem_map.mp hw
  exact iX11_at k (List.mem_range.mp hk)
theorem fw_X11_10 : jFW RX11 10 11 0 (.object "BeanStreet$State") true := ⟨_, _, _, tyX11, rfl, iX11, tyX11_ok, nmX11, by decide, rfl, rfl, (fun _ => ⟨rfl, (jt2 210 rfl rfl)⟩), Or.inl (jt2 210 rfl rfl)⟩
theorem fw_X11_16 : jFW RX11 16 11 1 (.array (.object "BeanStreet$State")) true := ⟨_, _, _, tyX11, rfl, iX11, tyX11_ok, nmX11, by decide, rfl, rfl, (fun _ => ⟨rfl, (jt2 211 rfl rfl)⟩), Or.inl (jt2 211 rfl rfl)⟩
theorem fw_X11_20 : jFW RX11 20 11 2 (.array .boolean) true := ⟨_, _, _, tyX11, rfl, iX11, tyX11_ok, nmX11, by decide, rfl, rfl, (fun _ => ⟨rfl, (jt2 212 rfl rfl)⟩), Or.inl (jt2 212 rfl rfl)⟩
set_option maxRecDepth 20000 in
theorem iX0_at : ∀ k : Nat, k < 4 → u_lay RX0 TX0 k ∈ jtb
  | 0, _ => jt1 110 rfl rfl
  | 1, _ => jt1 112 rfl rfl
  | 2, _ => jt1 114 rfl rfl
  | 3, _ => jt1 116 rfl rfl
  | (n + 4), h => absurd h (by omega)
theorem iX0 : ∀ w ∈ u_ws RX0 TX0 4, w ∈ jtb := fun w hw => by
  obtain ⟨k, hk, rfl⟩ := List.mem_map.mp hw
  exact iX0_at k (List.mem_range.mp hk)
theorem nd_X11_24 : ∀ j : Nat, j < 4 → defaultValue (tyX0 j) = vp_V [.null, .null, .int 0, .int 0] j
  | 0, _ => rfl
  | 1, _ => rfl
  | 2, _ => rfl
  | 3, _ => rfl
  | (n + 4), h => absurd h (by omega)
theorem nw_X11_24 : jNW RX11 24 0 4 [.null, .null, .int 0, .int 0] := ⟨_, _, tyX0, rfl, iX0, tyX0_ok, (jt1 100 rfl rfl), (jt1 101 rfl rfl), (jt1 3 rfl rfl), nd_X11_24⟩
abbrev MX0_init : jM := (RX0, cX0_init, 1, none, true)
theorem ci_X11_26 : jCI RX11 26 yX0_init MX0_init 0 := ⟨(jt1 104 rfl rfl), rfl, (jt1 103 rfl rfl), (jt1 3 rfl rfl), rfl, ⟨by decide, by decide, by decide +kernel⟩, Or.inr ⟨"BeanStreet", (jn1 102 rfl rfl)⟩⟩
theorem fw_X0_9 : jFW RX0 9 0 0 (.array .int) true := ⟨_, _, _, tyX0, rfl, iX0, tyX0_ok, nmX0, by decide, rfl, rfl, (fun _ => ⟨rfl, (jt1 106 rfl rfl)⟩), Or.inl (jt1 106 rfl rfl)⟩
theorem fw_X0_15 : jFW RX0 15 0 1 (.array .int) true := ⟨_, _, _, tyX0, rfl, iX0, tyX0_ok, nmX0, by decide, rfl, rfl, (fun _ => ⟨rfl, (jt1 107 rfl rfl)⟩), Or.inl (jt1 107 rfl rfl)⟩
theorem fw_X0_18 : jFW RX0 18 0 2 (.int) false := ⟨_, _, _, tyX0, rfl, iX0, tyX0_ok, nmX0, by decide, rfl, rfl, (fun h => by cases h), Or.inl (jt1 108 rfl rfl)⟩
theorem fw_X0_22 : jFW RX0 22 0 3 (.int) false := ⟨_, _, _, tyX0, rfl, iX0, tyX0_ok, nmX0, by decide, rfl, rfl, (fun h => by cases h), Or.inl (jt1 109 rfl rfl)⟩
theorem fw_X11_27 : jFW RX11 27 11 3 (.object "BeanStreet$Houses") true := ⟨_, _, _, tyX11, rfl, iX11, tyX11_ok, nmX11, by decide, rfl, rfl, (fun _ => ⟨rfl, (jt2 213 rfl rfl)⟩), Or.inl (jt2 213 rfl rfl)⟩
set_option maxRecDepth 20000 in
theorem iX5_at : ∀ k : Nat, k < 10 → u_lay RX5 TX5 k ∈ jtb
  | 0, _ => jt1 136 rfl rfl
  | 1, _ => jt1 138 rfl rfl
  | 2, _ => jt1 140 rfl rfl
  | 3, _ => jt1 142 rfl rfl
  | 4, _ => jt1 144 rfl rfl
  | 5, _ => jt1 146 rfl rfl
  | 6, _ => jt1 148 rfl rfl
  | 7, _ => jt1 150 rfl rfl
  | 8, _ => jt1 152 rfl rfl
  | 9, _ => jt1 154 rfl rfl
  | (n + 10), h => absurd h (by omega)
theorem iX5 : ∀ w ∈ u_ws RX5 TX5 10, w ∈ jtb := fun w hw => by
  obtain ⟨k, hk, rfl⟩ := List.mem_map.mp hw
  exact iX5_at k (List.mem_range.mp hk)
theorem nd_X11_31 : ∀ j : Nat, j < 10 → defaultValue (tyX5 j) = vp_V [.null, .int 0, .int 0, .int 0, .int 0, .int 0, .int 0, .int 0, .null, .int 0] j
  | 0, _ => rfl
  | 1, _ => rfl
  | 2, _ => rfl
  | 3, _ => rfl
  | 4, _ => rfl
  | 5, _ => rfl
  | 6, _ => rfl
  | 7, _ => rfl
  | 8, _ => rfl
  | 9, _ => rfl
  | (n + 10), h => absurd h (by omega)
theorem nw_X11_31 : jNW RX11 31 5 10 [.null, .int 0, .int 0, .int 0, .int 0, .int 0, .int 0, .int 0, .null, .int 0] := ⟨_, _, tyX5, rfl, iX5, tyX5_ok, (jt1 120 rfl rfl), (jt1 121 rfl rfl), (jt1 4 rfl rfl), nd_X11_31⟩
abbrev MX5_init : jM := (RX5, cX5_init, 1, none, true)
theorem ci_X11_33 : jCI RX11 33 yX5_init MX5_init 0 := ⟨(jt1 124 rfl rfl), rfl, (jt1 123 rfl rfl), (jt1 4 rfl rfl), rfl, ⟨by decide, by decide, by decide +kernel⟩, Or.inr ⟨"BeanStreet", (jn1 122 rfl rfl)⟩⟩
theorem fw_X5_11 : jFW RX5 11 5 0 (.array .int) true := ⟨_, _, _, tyX5, rfl, iX5, tyX5_ok, nmX5, by decide, rfl, rfl, (fun _ => ⟨rfl, (jt1 126 rfl rfl)⟩), Or.inl (jt1 126 rfl rfl)⟩
theorem fw_X5_15 : jFW RX5 15 5 1 (.int) false := ⟨_, _, _, tyX5, rfl, iX5, tyX5_ok, nmX5, by decide, rfl, rfl, (fun h => by cases h), Or.inl (jt1 127 rfl rfl)⟩
theorem fw_X5_19 : jFW RX5 19 5 2 (.int) false := ⟨_, _, _, tyX5, rfl, iX5, tyX5_ok, nmX5, by decide, rfl, rfl, (fun h => by cases h), Or.inl (jt1 128 rfl rfl)⟩
theorem fw_X5_22 : jFW RX5 22 5 3 (.int) false := ⟨_, _, _, tyX5, rfl, iX5, tyX5_ok, nmX5, by decide, rfl, rfl, (fun h => by cases h), Or.inl (jt1 129 rfl rfl)⟩
theorem fw_X5_25 : jFW RX5 25 5 4 (.int) false := ⟨_, _, _, tyX5, rfl, iX5, tyX5_ok, nmX5, by decide, rfl, rfl, (fun h => by cases h), Or.inl (jt1 130 rfl rfl)⟩
theorem fw_X5_28 : jFW RX5 28 5 5 (.int) false := ⟨_, _, _, tyX5, rfl, iX5, tyX5_ok, nmX5, by decide, rfl, rfl, (fun h => by cases h), Or.inl (jt1 131 rfl rfl)⟩
theorem fw_X5_31 : jFW RX5 31 5 6 (.int) false := ⟨_, _, _, tyX5, rfl, iX5, tyX5_ok, nmX5, by decide, rfl, rfl, (fun h => by cases h), Or.inl (jt1 132 rfl rfl)⟩
theorem fw_X5_34 : jFW RX5 34 5 7 (.int) false := ⟨_, _, _, tyX5, rfl, iX5, tyX5_ok, nmX5, by decide, rfl, rfl, (fun h => by cases h), Or.inl (jt1 133 rfl rfl)⟩
theorem fw_X5_37 : jFW RX5 37 5 8 (.array .int) true := ⟨_, _, _, tyX5, rfl, iX5, tyX5_ok, nmX5, by decide, rfl, rfl, (fun _ => ⟨rfl, (jt1 134 rfl rfl)⟩), Or.inl (jt1 134 rfl rfl)⟩
theorem fw_X5_40 : jFW RX5 40 5 9 (.int) false := ⟨_, _, _, tyX5, rfl, iX5, tyX5_ok, nmX5, by decide, rfl, rfl, (fun h => by cases h), Or.inl (jt1 135 rfl rfl)⟩
theorem fw_X11_34 : jFW RX11 34 11 4 (.object "BeanStreet$Reader") true := ⟨_, _, _, tyX11, rfl, iX11, tyX11_ok, nmX11, by decide, rfl, rfl, (fun _ => ⟨rfl, (jt2 214 rfl rfl)⟩), Or.inl (jt2 214 rfl rfl)⟩
set_option maxRecDepth 20000 in
theorem iX9_at : ∀ k : Nat, k < 10 → u_lay RX9 TX9 k ∈ jtb
  | 0, _ => jt1 205 rfl rfl
  | 1, _ => jt1 207 rfl rfl
  | 2, _ => jt1 209 rfl rfl
  | 3, _ => jt1 211 rfl rfl
  | 4, _ => jt1 213 rfl rfl
  | 5, _ => jt1 215 rfl rfl
  | 6, _ => jt1 217 rfl rfl
  | 7, _ => jt1 219 rfl rfl
  | 8, _ => jt1 221 rfl rfl
  | 9, _ => jt1 223 rfl rfl
  | (n + 10), h => absurd h (by omega)
theorem iX9 : ∀ w ∈ u_ws RX9 TX9 10, w ∈ jtb := fun w hw => by
  obtain ⟨k, hk, rfl⟩ := List.mem_map.mp hw
  exact iX9_at k (List.mem_range.mp hk)
theorem nd_X11_38 : ∀ j : Nat, j < 10 → defaultValue (tyX9 j) = vp_V [.null, .null, .null, .null, .null, .null, .null, .int 0, .int 0, .int 0] j
  | 0, _ => rfl
  | 1, _ => rfl
  | 2, _ => rfl
  | 3, _ => rfl
  | 4, _ => rfl
  | 5, _ => rfl
  | 6, _ => rfl
  | 7, _ => rfl
  | 8, _ => rfl
  | 9, _ => rfl
  | (n + 10), h => absurd h (by omega)
theorem nw_X11_38 : jNW RX11 38 9 10 [.null, .null, .null, .null, .null, .null, .null, .int 0, .int 0, .int 0] := ⟨_, _, tyX9, rfl, iX9, tyX9_ok, (jt1 157 rfl rfl), (jt1 158 rfl rfl), (jt1 5 rfl rfl), nd_X11_38⟩
theorem fl_X11_10 : jFL RX11 10 11 0 := ⟨_, _, _, rfl, iX11, by decide, Or.inl (jt2 210 rfl rfl)⟩
theorem fl_X11_27 : jFL RX11 27 11 3 := ⟨_, _, _, rfl, iX11, by decide, Or.inl (jt2 213 rfl rfl)⟩
abbrev MX9_init : jM := (RX9, cX9_init, 3, none, true)
theorem ci_X11_40 : jCI RX11 40 yX9_init MX9_init 2 := ⟨(jt1 161 rfl rfl), rfl, (jt1 160 rfl rfl), (jt1 5 rfl rfl), rfl, ⟨by decide, by decide, by decide +kernel⟩, Or.inl (jt1 159 rfl rfl)⟩
set_option maxRecDepth 20000 in
theorem iX1_at : ∀ k : Nat, k < 8 → u_lay RX1 TX1 k ∈ jtb
  | 0, _ => jt1 177 rfl rfl
  | 1, _ => jt1 179 rfl rfl
  | 2, _ => jt1 181 rfl rfl
  | 3, _ => jt1 183 rfl rfl
  | 4, _ => jt1 185 rfl rfl
  | 5, _ => jt1 187 rfl rfl
  | 6, _ => jt1 189 rfl rfl
  | 7, _ => jt1 191 rfl rfl
  | (n + 8), h => absurd h (by omega)
theorem iX1 : ∀ w ∈ u_ws RX1 TX1 8, w ∈ jtb := fun w hw => by
  obtain ⟨k, hk, rfl⟩ := List.mem_map.mp hw
  exact iX1_at k (List.mem_range.mp hk)
theorem nd_X9_9 : ∀ j : Nat, j < 8 → defaultValue (tyX1 j) = vp_V [.null, .null, .int 0, .int 0, .int 0, .int 0, .int 0, .int 0] j
  | 0, _ => rfl
  | 1, _ => rfl
  | 2, _ => rfl
  | 3, _ => rfl
  | 4, _ => rfl
  | 5, _ => rfl
  | 6, _ => rfl
  | 7, _ => rfl
  | (n + 8), h => absurd h (by omega)
theorem nw_X9_9 : jNW RX9 9 1 8 [.null, .null, .int 0, .int 0, .int 0, .int 0, .int 0, .int 0] := ⟨_, _, tyX1, rfl, iX1, tyX1_ok, (jt1 163 rfl rfl), (jt1 164 rfl rfl), (jt1 6 rfl rfl), nd_X9_9⟩
abbrev MX1_init : jM := (RX1, cX1_init, 1, none, true)
theorem ci_X9_11 : jCI RX9 11 yX1_init MX1_init 0 := ⟨(jt1 167 rfl rfl), rfl, (jt1 166 rfl rfl), (jt1 6 rfl rfl), rfl, ⟨by decide, by decide, by decide +kernel⟩, Or.inr ⟨"BeanStreet", (jn1 165 rfl rfl)⟩⟩
theorem fw_X1_9 : jFW RX1 9 1 0 (.array .int) true := ⟨_, _, _, tyX1, rfl, iX1, tyX1_ok, nmX1, by decide, rfl, rfl, (fun _ => ⟨rfl, (jt1 169 rfl rfl)⟩), Or.inl (jt1 169 rfl rfl)⟩
theorem fw_X1_13 : jFW RX1 13 1 1 (.array .long) true := ⟨_, _, _, tyX1, rfl, iX1, tyX1_ok, nmX1, by decide, rfl, rfl, (fun _ => ⟨rfl, (jt1 170 rfl rfl)⟩), Or.inl (jt1 170 rfl rfl)⟩
theorem fw_X1_17 : jFW RX1 17 1 2 (.int) false := ⟨_, _, _, tyX1, rfl, iX1, tyX1_ok, nmX1, by decide, rfl, rfl, (fun h => by cases h), Or.inl (jt1 171 rfl rfl)⟩
theorem fw_X1_21 : jFW RX1 21 1 3 (.boolean) false := ⟨_, _, _, tyX1, rfl, iX1, tyX1_ok, nmX1, by decide, rfl, rfl, (fun h => by cases h), Or.inl (jt1 172 rfl rfl)⟩
theorem fw_X1_25 : jFW RX1 25 1 4 (.boolean) false := ⟨_, _, _, tyX1, rfl, iX1, tyX1_ok, nmX1, by decide, rfl, rfl, (fun h => by cases h), Or.inl (jt1 173 rfl rfl)⟩
theorem fw_X1_28 : jFW RX1 28 1 5 (.boolean) false := ⟨_, _, _, tyX1, rfl, iX1, tyX1_ok, nmX1, by decide, rfl, rfl, (fun h => by cases h), Or.inl (jt1 174 rfl rfl)⟩
theorem fw_X1_31 : jFW RX1 31 1 6 (.boolean) false := ⟨_, _, _, tyX1, rfl, iX1, tyX1_ok, nmX1, by decide, rfl, rfl, (fun h => by cases h), Or.inl (jt1 175 rfl rfl)⟩
theorem fw_X1_34 : jFW RX1 34 1 7 (.int) false := ⟨_, _, _, tyX1, rfl, iX1, tyX1_ok, nmX1, by decide, rfl, rfl, (fun h => by cases h), Or.inl (jt1 176 rfl rfl)⟩
theorem fw_X9_12 : jFW RX9 12 9 2 (.object "BeanStreet$Judge") true := ⟨_, _, _, tyX9, rfl, iX9, tyX9_ok, nmX9, by decide, rfl, rfl, (fun _ => ⟨rfl, (jt1 197 rfl rfl)⟩), Or.inl (jt1 197 rfl rfl)⟩
theorem fw_X9_18 : jFW RX9 18 9 3 (.array .int) true := ⟨_, _, _, tyX9, rfl, iX9, tyX9_ok, nmX9, by decide, rfl, rfl, (fun _ => ⟨rfl, (jt1 198 rfl rfl)⟩), Or.inl (jt1 198 rfl rfl)⟩
theorem fw_X9_22 : jFW RX9 22 9 4 (.array .int) true := ⟨_, _, _, tyX9, rfl, iX9, tyX9_ok, nmX9, by decide, rfl, rfl, (fun _ => ⟨rfl, (jt1 199 rfl rfl)⟩), Or.inl (jt1 199 rfl rfl)⟩
theorem fw_X9_25 : jFW RX9 25 9 5 (.array .int) false := ⟨_, _, _, tyX9, rfl, iX9, tyX9_ok, nmX9, by decide, rfl, rfl, (fun h => by cases h), Or.inl (jt1 200 rfl rfl)⟩
theorem fw_X9_28 : jFW RX9 28 9 6 (.array .int) true := ⟨_, _, _, tyX9, rfl, iX9, tyX9_ok, nmX9, by decide, rfl, rfl, (fun _ => ⟨rfl, (jt1 201 rfl rfl)⟩), Or.inl (jt1 201 rfl rfl)⟩
theorem fw_X9_31 : jFW RX9 31 9 7 (.int) false := ⟨_, _, _, tyX9, rfl, iX9, tyX9_ok, nmX9, by decide, rfl, rfl, (fun h => by cases h), Or.inl (jt1 202 rfl rfl)⟩
theorem fw_X9_35 : jFW RX9 35 9 8 (.boolean) false := ⟨_, _, _, tyX9, rfl, iX9, tyX9_ok, nmX9, by decide, rfl, rfl, (fun h => by cases h), Or.inl (jt1 203 rfl rfl)⟩
theorem fw_X9_39 : jFW RX9 39 9 9 (.boolean) false := ⟨_, _, _, tyX9, rfl, iX9, tyX9_ok, nmX9, by decide, rfl, rfl, (fun h => by cases h), Or.inl (jt1 204 rfl rfl)⟩
theorem fw_X9_42 : jFW RX9 42 9 0 (.object "BeanStreet$State") true := ⟨_, _, _, tyX9, rfl, iX9, tyX9_ok, nmX9, by decide, rfl, rfl, (fun _ => ⟨rfl, (jt1 195 rfl rfl)⟩), Or.inl (jt1 195 rfl rfl)⟩
theorem fw_X9_46 : jFW RX9 46 9 1 (.object "BeanStreet$Houses") true := ⟨_, _, _, tyX9, rfl, iX9, tyX9_ok, nmX9, by decide, rfl, rfl, (fun _ => ⟨rfl, (jt1 196 rfl rfl)⟩), Or.inl (jt1 196 rfl rfl)⟩
theorem fw_X11_43 : jFW RX11 43 11 5 (.object "BeanStreet$Streets") true := ⟨_, _, _, tyX11, rfl, iX11, tyX11_ok, nmX11, by decide, rfl, rfl, (fun _ => ⟨rfl, (jt2 215 rfl rfl)⟩), Or.inl (jt2 215 rfl rfl)⟩
set_option maxRecDepth 20000 in
theorem iX10_at : ∀ k : Nat, k < 17 → u_lay RX10 TX10 k ∈ jtb
  | 0, _ => jt2 10 rfl rfl
  | 1, _ => jt2 12 rfl rfl
  | 2, _ => jt2 14 rfl rfl
  | 3, _ => jt2 16 rfl rfl
  | 4, _ => jt2 18 rfl rfl
  | 5, _ => jt2 20 rfl rfl
  | 6, _ => jt2 22 rfl rfl
  | 7, _ => jt2 24 rfl rfl
  | 8, _ => jt2 26 rfl rfl
  | 9, _ => jt2 28 rfl rfl
  | 10, _ => jt2 30 rfl rfl
  | 11, _ => jt2 32 rfl rfl
  | 12, _ => jt2 34 rfl rfl
  | 13, _ => jt2 36 rfl rfl
  | 14, _ => jt2 38 rfl rfl
  | 15, _ => jt2 40 rfl rfl
  | 16, _ => jt2 42 rfl rfl
  | (n + 17), h => absurd h (by omega)
theorem iX10 : ∀ w ∈ u_ws RX10 TX10 17, w ∈ jtb := fun w hw => by
  obtain ⟨k, hk, rfl⟩ := List.mem_map.mp hw
  exact iX10_at k (List.mem_range.mp hk)
theorem nd_X11_47 : ∀ j : Nat, j < 17 → defaultValue (tyX10 j) = vp_V [.null, .null, .null, .null, .null, .int 0, .int 0, .int 0, .null, .null, .null, .null, .int 0, .int 0, .int 0, .null, .null] j
  | 0, _ => rfl
  | 1, _ => rfl
  | 2, _ => rfl
  | 3, _ => rfl
  | 4, _ => rfl
  | 5, _ => rfl
  | 6, _ => rfl
  | 7, _ => rfl
  | 8, _ => rfl
  | 9, _ => rfl
  | 10, _ => rfl
  | 11, _ => rfl
  | 12, _ => rfl
  | 13, _ => rfl
  | 14, _ => rfl
  | 15, _ => rfl
  | 16, _ => rfl
  | (n + 17), h => absurd h (by omega)
theorem nw_X11_47 : jNW RX11 47 10 17 [.null, .null, .null, .null, .null, .int 0, .int 0, .int 0, .null, .null, .null, .null, .int 0, .int 0, .int 0, .null, .null] := ⟨_, _, tyX10, rfl, iX10, tyX10_ok, (jt1 226 rfl rfl), (jt1 227 rfl rfl), (jt1 7 rfl rfl), nd_X11_47⟩
theorem fl_X11_43 : jFL RX11 43 11 5 := ⟨_, _, _, rfl, iX11, by decide, Or.inl (jt2 215 rfl rfl)⟩
abbrev MX10_init : jM := (RX10, cX10_init, 3, none, true)
theorem ci_X11_49 : jCI RX11 49 yX10_init MX10_init 2 := ⟨(jt1 230 rfl rfl), rfl, (jt1 229 rfl rfl), (jt1 7 rfl rfl), rfl, ⟨by decide, by decide, by decide +kernel⟩, Or.inl (jt1 228 rfl rfl)⟩
theorem fw_X10_9 : jFW RX10 9 10 2 (.array .int) true := ⟨_, _, _, tyX10, rfl, iX10, tyX10_ok, nmX10, by decide, rfl, rfl, (fun _ => ⟨rfl, (jt1 234 rfl rfl)⟩), Or.inl (jt1 234 rfl rfl)⟩
theorem fw_X10_15 : jFW RX10 15 10 3 (.array .int) true := ⟨_, _, _, tyX10, rfl, iX10, tyX10_ok, nmX10, by decide, rfl, rfl, (fun _ => ⟨rfl, (jt1 236 rfl rfl)⟩), Or.inl (jt1 236 rfl rfl)⟩
theorem fw_X10_18 : jFW RX10 18 10 4 (.array .int) true := ⟨_, _, _, tyX10, rfl, iX10, tyX10_ok, nmX10, by decide, rfl, rfl, (fun _ => ⟨rfl, (jt1 237 rfl rfl)⟩), Or.inl (jt1 237 rfl rfl)⟩
theorem fw_X10_21 : jFW RX10 21 10 5 (.int) false := ⟨_, _, _, tyX10, rfl, iX10, tyX10_ok, nmX10, by decide, rfl, rfl, (fun h => by cases h), Or.inl (jt1 238 rfl rfl)⟩
theorem fw_X10_25 : jFW RX10 25 10 6 (.int) false := ⟨_, _, _, tyX10, rfl, iX10, tyX10_ok, nmX10, by decide, rfl, rfl, (fun h => by cases h), Or.inl (jt1 239 rfl rfl)⟩
theorem fw_X10_28 : jFW RX10 28 10 7 (.int) false := ⟨_, _, _, tyX10, rfl, iX10, tyX10_ok, nmX10, by decide, rfl, rfl, (fun h => by cases h), Or.inl (jt2 0 rfl rfl)⟩
theorem fw_X10_31 : jFW RX10 31 10 8 (.array .int) true := ⟨_, _, _, tyX10, rfl, iX10, tyX10_ok, nmX10, by decide, rfl, rfl, (fun _ => ⟨rfl, (jt2 1 rfl rfl)⟩), Or.inl (jt2 1 rfl rfl)⟩
theorem fw_X10_34 : jFW RX10 34 10 9 (.array .int) true := ⟨_, _, _, tyX10, rfl, iX10, tyX10_ok, nmX10, by decide, rfl, rfl, (fun _ => ⟨rfl, (jt2 2 rfl rfl)⟩), Or.inl (jt2 2 rfl rfl)⟩
theorem fw_X10_37 : jFW RX10 37 10 10 (.array .int) true := ⟨_, _, _, tyX10, rfl, iX10, tyX10_ok, nmX10, by decide, rfl, rfl, (fun _ => ⟨rfl, (jt2 3 rfl rfl)⟩), Or.inl (jt2 3 rfl rfl)⟩
theorem fw_X10_40 : jFW RX10 40 10 11 (.array .int) true := ⟨_, _, _, tyX10, rfl, iX10, tyX10_ok, nmX10, by decide, rfl, rfl, (fun _ => ⟨rfl, (jt2 4 rfl rfl)⟩), Or.inl (jt2 4 rfl rfl)⟩
theorem fw_X10_43 : jFW RX10 43 10 12 (.int) false := ⟨_, _, _, tyX10, rfl, iX10, tyX10_ok, nmX10, by decide, rfl, rfl, (fun h => by cases h), Or.inl (jt2 5 rfl rfl)⟩
theorem fw_X10_46 : jFW RX10 46 10 13 (.int) false := ⟨_, _, _, tyX10, rfl, iX10, tyX10_ok, nmX10, by decide, rfl, rfl, (fun h => by cases h), Or.inl (jt2 6 rfl rfl)⟩
theorem fw_X10_49 : jFW RX10 49 10 14 (.int) false := ⟨_, _, _, tyX10, rfl, iX10, tyX10_ok, nmX10, by decide, rfl, rfl, (fun h => by cases h), Or.inl (jt2 7 rfl rfl)⟩
theorem fw_X10_52 : jFW RX10 52 10 15 (.array .long) false := ⟨_, _, _, tyX10, rfl, iX10, tyX10_ok, nmX10, by decide, rfl, rfl, (fun h => by cases h), Or.inl (jt2 8 rfl rfl)⟩
theorem fw_X10_56 : jFW RX10 56 10 16 (.array .long) false := ⟨_, _, _, tyX10, rfl, iX10, tyX10_ok, nmX10, by decide, rfl, rfl, (fun h => by cases h), Or.inl (jt2 9 rfl rfl)⟩
theorem fw_X10_59 : jFW RX10 59 10 0 (.object "BeanStreet$Houses") true := ⟨_, _, _, tyX10, rfl, iX10, tyX10_ok, nmX10, by decide, rfl, rfl, (fun _ => ⟨rfl, (jt1 232 rfl rfl)⟩), Or.inl (jt1 232 rfl rfl)⟩
theorem fw_X10_63 : jFW RX10 63 10 1 (.object "BeanStreet$Streets") true := ⟨_, _, _, tyX10, rfl, iX10, tyX10_ok, nmX10, by decide, rfl, rfl, (fun _ => ⟨rfl, (jt1 233 rfl rfl)⟩), Or.inl (jt1 233 rfl rfl)⟩
theorem fw_X11_52 : jFW RX11 52 11 6 (.object "BeanStreet$Walks") true := ⟨_, _, _, tyX11, rfl, iX11, tyX11_ok, nmX11, by decide, rfl, rfl, (fun _ => ⟨rfl, (jt2 216 rfl rfl)⟩), Or.inl (jt2 216 rfl rfl)⟩
set_option maxRecDepth 20000 in
theorem iX3_at : ∀ k : Nat, k < 8 → u_lay RX3 TX3 k ∈ jtb
  | 0, _ => jt2 59 rfl rfl
  | 1, _ => jt2 61 rfl rfl
  | 2, _ => jt2 63 rfl rfl
  | 3, _ => jt2 65 rfl rfl
  | 4, _ => jt2 67 rfl rfl
  | 5, _ => jt2 69 rfl rfl
  | 6, _ => jt2 71 rfl rfl
  | 7, _ => jt2 73 rfl rfl
  | (n + 8), h => absurd h (by omega)
theorem iX3 : ∀ w ∈ u_ws RX3 TX3 8, w ∈ jtb := fun w hw => by
  obtain ⟨k, hk, rfl⟩ := List.mem_map.mp hw
  exact iX3_at k (List.mem_range.mp hk)
theorem nd_X11_56 : ∀ j : Nat, j < 8 → defaultValue (tyX3 j) = vp_V [.null, .null, .null, .null, .null, .null, .null, .int 0] j
  | 0, _ => rfl
  | 1, _ => rfl
  | 2, _ => rfl
  | 3, _ => rfl
  | 4, _ => rfl
  | 5, _ => rfl
  | 6, _ => rfl
  | 7, _ => rfl
  | (n + 8), h => absurd h (by omega)
theorem nw_X11_56 : jNW RX11 56 3 8 [.null, .null, .null, .null, .null, .null, .null, .int 0] := ⟨_, _, tyX3, rfl, iX3, tyX3_ok, (jt2 45 rfl rfl), (jt2 46 rfl rfl), (jt1 8 rfl rfl), nd_X11_56⟩
abbrev MX3_init : jM := (RX3, cX3_init, 3, none, true)
theorem ci_X11_58 : jCI RX11 58 yX3_init MX3_init 2 := ⟨(jt2 49 rfl rfl), rfl, (jt2 48 rfl rfl), (jt1 8 rfl rfl), rfl, ⟨by decide, by decide, by decide +kernel⟩, Or.inl (jt2 47 rfl rfl)⟩
theorem fw_X3_11 : jFW RX3 11 3 2 (.array .int) false := ⟨_, _, _, tyX3, rfl, iX3, tyX3_ok, nmX3, by decide, rfl, rfl, (fun h => by cases h), Or.inl (jt2 53 rfl rfl)⟩
theorem fw_X3_17 : jFW RX3 17 3 3 (.array .int) false := ⟨_, _, _, tyX3, rfl, iX3, tyX3_ok, nmX3, by decide, rfl, rfl, (fun h => by cases h), Or.inl (jt2 54 rfl rfl)⟩
theorem fw_X3_20 : jFW RX3 20 3 4 (.array .int) true := ⟨_, _, _, tyX3, rfl, iX3, tyX3_ok, nmX3, by decide, rfl, rfl, (fun _ => ⟨rfl, (jt2 55 rfl rfl)⟩), Or.inl (jt2 55 rfl rfl)⟩
theorem fw_X3_23 : jFW RX3 23 3 5 (.array .int) true := ⟨_, _, _, tyX3, rfl, iX3, tyX3_ok, nmX3, by decide, rfl, rfl, (fun _ => ⟨rfl, (jt2 56 rfl rfl)⟩), Or.inl (jt2 56 rfl rfl)⟩
theorem fw_X3_26 : jFW RX3 26 3 6 (.array .int) true := ⟨_, _, _, tyX3, rfl, iX3, tyX3_ok, nmX3, by decide, rfl, rfl, (fun _ => ⟨rfl, (jt2 57 rfl rfl)⟩), Or.inl (jt2 57 rfl rfl)⟩
theorem fw_X3_29 : jFW RX3 29 3 7 (.int) false := ⟨_, _, _, tyX3, rfl, iX3, tyX3_ok, nmX3, by decide, rfl, rfl, (fun h => by cases h), Or.inl (jt2 58 rfl rfl)⟩
theorem fw_X3_33 : jFW RX3 33 3 0 (.object "BeanStreet$Houses") true := ⟨_, _, _, tyX3, rfl, iX3, tyX3_ok, nmX3, by decide, rfl, rfl, (fun _ => ⟨rfl, (jt2 51 rfl rfl)⟩), Or.inl (jt2 51 rfl rfl)⟩
theorem fw_X3_37 : jFW RX3 37 3 1 (.object "BeanStreet$Streets") true := ⟨_, _, _, tyX3, rfl, iX3, tyX3_ok, nmX3, by decide, rfl, rfl, (fun _ => ⟨rfl, (jt2 52 rfl rfl)⟩), Or.inl (jt2 52 rfl rfl)⟩
theorem fw_X11_59 : jFW RX11 59 11 7 (.object "BeanStreet$Parting") true := ⟨_, _, _, tyX11, rfl, iX11, tyX11_ok, nmX11, by decide, rfl, rfl, (fun _ => ⟨rfl, (jt2 217 rfl rfl)⟩), Or.inl (jt2 217 rfl rfl)⟩
set_option maxRecDepth 20000 in
theorem iX7_at : ∀ k : Nat, k < 7 → u_lay RX7 TX7 k ∈ jtb
  | 0, _ => jt2 89 rfl rfl
  | 1, _ => jt2 91 rfl rfl
  | 2, _ => jt2 93 rfl rfl
  | 3, _ => jt2 95 rfl rfl
  | 4, _ => jt2 97 rfl rfl
  | 5, _ => jt2 99 rfl rfl
  | 6, _ => jt2 101 rfl rfl
  | (n + 7), h => absurd h (by omega)
theorem iX7 : ∀ w ∈ u_ws RX7 TX7 7, w ∈ jtb := fun w hw => by
  obtain ⟨k, hk, rfl⟩ := List.mem_map.mp hw
  exact iX7_at k (List.mem_range.mp hk)
theorem nd_X11_63 : ∀ j : Nat, j < 7 → defaultValue (tyX7 j) = vp_V [.null, .null, .null, .null, .null, .int 0, .int 0] j
  | 0, _ => rfl
  | 1, _ => rfl
  | 2, _ => rfl
  | 3, _ => rfl
  | 4, _ => rfl
  | 5, _ => rfl
  | 6, _ => rfl
  | (n + 7), h => absurd h (by omega)
theorem nw_X11_63 : jNW RX11 63 7 7 [.null, .null, .null, .null, .null, .int 0, .int 0] := ⟨_, _, tyX7, rfl, iX7, tyX7_ok, (jt2 76 rfl rfl), (jt2 77 rfl rfl), (jt1 9 rfl rfl), nd_X11_63⟩
abbrev MX7_init : jM := (RX7, cX7_init, 3, none, true)
theorem ci_X11_65 : jCI RX11 65 yX7_init MX7_init 2 := ⟨(jt2 80 rfl rfl), rfl, (jt2 79 rfl rfl), (jt1 9 rfl rfl), rfl, ⟨by decide, by decide, by decide +kernel⟩, Or.inl (jt2 78 rfl rfl)⟩
theorem fw_X7_11 : jFW RX7 11 7 2 (.array .int) true := ⟨_, _, _, tyX7, rfl, iX7, tyX7_ok, nmX7, by decide, rfl, rfl, (fun _ => ⟨rfl, (jt2 84 rfl rfl)⟩), Or.inl (jt2 84 rfl rfl)⟩
theorem fw_X7_15 : jFW RX7 15 7 3 (.array .int) true := ⟨_, _, _, tyX7, rfl, iX7, tyX7_ok, nmX7, by decide, rfl, rfl, (fun _ => ⟨rfl, (jt2 85 rfl rfl)⟩), Or.inl (jt2 85 rfl rfl)⟩
theorem fw_X7_18 : jFW RX7 18 7 4 (.array .int) false := ⟨_, _, _, tyX7, rfl, iX7, tyX7_ok, nmX7, by decide, rfl, rfl, (fun h => by cases h), Or.inl (jt2 86 rfl rfl)⟩
theorem fw_X7_21 : jFW RX7 21 7 5 (.boolean) false := ⟨_, _, _, tyX7, rfl, iX7, tyX7_ok, nmX7, by decide, rfl, rfl, (fun h => by cases h), Or.inl (jt2 87 rfl rfl)⟩
theorem fw_X7_25 : jFW RX7 25 7 6 (.int) false := ⟨_, _, _, tyX7, rfl, iX7, tyX7_ok, nmX7, by decide, rfl, rfl, (fun h => by cases h), Or.inl (jt2 88 rfl rfl)⟩
theorem fw_X7_29 : jFW RX7 29 7 0 (.object "BeanStreet$Houses") true := ⟨_, _, _, tyX7, rfl, iX7, tyX7_ok, nmX7, by decide, rfl, rfl, (fun _ => ⟨rfl, (jt2 82 rfl rfl)⟩), Or.inl (jt2 82 rfl rfl)⟩
theorem fw_X7_33 : jFW RX7 33 7 1 (.object "BeanStreet$Streets") true := ⟨_, _, _, tyX7, rfl, iX7, tyX7_ok, nmX7, by decide, rfl, rfl, (fun _ => ⟨rfl, (jt2 83 rfl rfl)⟩), Or.inl (jt2 83 rfl rfl)⟩
theorem fw_X11_66 : jFW RX11 66 11 8 (.object "BeanStreet$Rounds") true := ⟨_, _, _, tyX11, rfl, iX11, tyX11_ok, nmX11, by decide, rfl, rfl, (fun _ => ⟨rfl, (jt2 218 rfl rfl)⟩), Or.inl (jt2 218 rfl rfl)⟩
set_option maxRecDepth 20000 in
theorem iX2_at : ∀ k : Nat, k < 4 → u_lay RX2 TX2 k ∈ jtb
  | 0, _ => jt2 114 rfl rfl
  | 1, _ => jt2 116 rfl rfl
  | 2, _ => jt2 118 rfl rfl
  | 3, _ => jt2 120 rfl rfl
  | (n + 4), h => absurd h (by omega)
theorem iX2 : ∀ w ∈ u_ws RX2 TX2 4, w ∈ jtb := fun w hw => by
  obtain ⟨k, hk, rfl⟩ := List.mem_map.mp hw
  exact iX2_at k (List.mem_range.mp hk)
theorem nd_X11_70 : ∀ j : Nat, j < 4 → defaultValue (tyX2 j) = vp_V [.null, .null, .null, .null] j
  | 0, _ => rfl
  | 1, _ => rfl
  | 2, _ => rfl
  | 3, _ => rfl
  | (n + 4), h => absurd h (by omega)
theorem nw_X11_70 : jNW RX11 70 2 4 [.null, .null, .null, .null] := ⟨_, _, tyX2, rfl, iX2, tyX2_ok, (jt2 104 rfl rfl), (jt2 105 rfl rfl), (jt1 10 rfl rfl), nd_X11_70⟩
abbrev MX2_init : jM := (RX2, cX2_init, 3, none, true)
theorem ci_X11_72 : jCI RX11 72 yX2_init MX2_init 2 := ⟨(jt2 108 rfl rfl), rfl, (jt2 107 rfl rfl), (jt1 10 rfl rfl), rfl, ⟨by decide, by decide, by decide +kernel⟩, Or.inl (jt2 106 rfl rfl)⟩
theorem fw_X2_9 : jFW RX2 9 2 2 (.array .int) true := ⟨_, _, _, tyX2, rfl, iX2, tyX2_ok, nmX2, by decide, rfl, rfl, (fun _ => ⟨rfl, (jt2 112 rfl rfl)⟩), Or.inl (jt2 112 rfl rfl)⟩
theorem fw_X2_15 : jFW RX2 15 2 3 (.array .int) true := ⟨_, _, _, tyX2, rfl, iX2, tyX2_ok, nmX2, by decide, rfl, rfl, (fun _ => ⟨rfl, (jt2 113 rfl rfl)⟩), Or.inl (jt2 113 rfl rfl)⟩
theorem fw_X2_18 : jFW RX2 18 2 0 (.object "BeanStreet$State") true := ⟨_, _, _, tyX2, rfl, iX2, tyX2_ok, nmX2, by decide, rfl, rfl, (fun _ => ⟨rfl, (jt2 110 rfl rfl)⟩), Or.inl (jt2 110 rfl rfl)⟩
theorem fw_X2_22 : jFW RX2 22 2 1 (.object "BeanStreet$Houses") true := ⟨_, _, _, tyX2, rfl, iX2, tyX2_ok, nmX2, by decide, rfl, rfl, (fun _ => ⟨rfl, (jt2 111 rfl rfl)⟩), Or.inl (jt2 111 rfl rfl)⟩
theorem fw_X11_73 : jFW RX11 73 11 9 (.object "BeanStreet$Machine") true := ⟨_, _, _, tyX11, rfl, iX11, tyX11_ok, nmX11, by decide, rfl, rfl, (fun _ => ⟨rfl, (jt2 219 rfl rfl)⟩), Or.inl (jt2 219 rfl rfl)⟩
set_option maxRecDepth 20000 in
theorem iX6_at : ∀ k : Nat, k < 13 → u_lay RX6 TX6 k ∈ jtb
  | 0, _ => jt2 142 rfl rfl
  | 1, _ => jt2 144 rfl rfl
  | 2, _ => jt2 146 rfl rfl
  | 3, _ => jt2 148 rfl rfl
  | 4, _ => jt2 150 rfl rfl
  | 5, _ => jt2 152 rfl rfl
  | 6, _ => jt2 154 rfl rfl
  | 7, _ => jt2 156 rfl rfl
  | 8, _ => jt2 158 rfl rfl
  | 9, _ => jt2 160 rfl rfl
  | 10, _ => jt2 162 rfl rfl
  | 11, _ => jt2 164 rfl rfl
  | 12, _ => jt2 166 rfl rfl
  | (n + 13), h => absurd h (by omega)
theorem iX6 : ∀ w ∈ u_ws RX6 TX6 13, w ∈ jtb := fun w hw => by
  obtain ⟨k, hk, rfl⟩ := List.mem_map.mp hw
  exact iX6_at k (List.mem_range.mp hk)
theorem nd_X11_77 : ∀ j : Nat, j < 13 → defaultValue (tyX6 j) = vp_V [.null, .null, .null, .null, .null, .null, .int 0, .int 0, .null, .null, .int 0, .int 0, .int 0] j
  | 0, _ => rfl
  | 1, _ => rfl
  | 2, _ => rfl
  | 3, _ => rfl
  | 4, _ => rfl
  | 5, _ => rfl
  | 6, _ => rfl
  | 7, _ => rfl
  | 8, _ => rfl
  | 9, _ => rfl
  | 10, _ => rfl
  | 11, _ => rfl
  | 12, _ => rfl
  | (n + 13), h => absurd h (by omega)
theorem nw_X11_77 : jNW RX11 77 6 13 [.null, .null, .null, .null, .null, .null, .int 0, .int 0, .null, .null, .int 0, .int 0, .int 0] := ⟨_, _, tyX6, rfl, iX6, tyX6_ok, (jt2 123 rfl rfl), (jt2 124 rfl rfl), (jt1 11 rfl rfl), nd_X11_77⟩
theorem fl_X11_52 : jFL RX11 52 11 6 := ⟨_, _, _, rfl, iX11, by decide, Or.inl (jt2 216 rfl rfl)⟩
abbrev MX6_init : jM := (RX6, cX6_init, 5, none, true)
theorem ci_X11_79 : jCI RX11 79 yX6_init MX6_init 4 := ⟨(jt2 127 rfl rfl), rfl, (jt2 126 rfl rfl), (jt1 11 rfl rfl), rfl, ⟨by decide, by decide, by decide +kernel⟩, Or.inl (jt2 125 rfl rfl)⟩
theorem fw_X6_9 : jFW RX6 9 6 4 (.array .boolean) true := ⟨_, _, _, tyX6, rfl, iX6, tyX6_ok, nmX6, by decide, rfl, rfl, (fun _ => ⟨rfl, (jt2 133 rfl rfl)⟩), Or.inl (jt2 133 rfl rfl)⟩
theorem fw_X6_15 : jFW RX6 15 6 5 (.array .int) true := ⟨_, _, _, tyX6, rfl, iX6, tyX6_ok, nmX6, by decide, rfl, rfl, (fun _ => ⟨rfl, (jt2 134 rfl rfl)⟩), Or.inl (jt2 134 rfl rfl)⟩
theorem fw_X6_19 : jFW RX6 19 6 6 (.int) false := ⟨_, _, _, tyX6, rfl, iX6, tyX6_ok, nmX6, by decide, rfl, rfl, (fun h => by cases h), Or.inl (jt2 135 rfl rfl)⟩
theorem fw_X6_23 : jFW RX6 23 6 7 (.int) false := ⟨_, _, _, tyX6, rfl, iX6, tyX6_ok, nmX6, by decide, rfl, rfl, (fun h => by cases h), Or.inl (jt2 136 rfl rfl)⟩
theorem fw_X6_26 : jFW RX6 26 6 8 (.array .int) true := ⟨_, _, _, tyX6, rfl, iX6, tyX6_ok, nmX6, by decide, rfl, rfl, (fun _ => ⟨rfl, (jt2 137 rfl rfl)⟩), Or.inl (jt2 137 rfl rfl)⟩
theorem fw_X6_29 : jFW RX6 29 6 9 (.array .int) true := ⟨_, _, _, tyX6, rfl, iX6, tyX6_ok, nmX6, by decide, rfl, rfl, (fun _ => ⟨rfl, (jt2 138 rfl rfl)⟩), Or.inl (jt2 138 rfl rfl)⟩
theorem fw_X6_32 : jFW RX6 32 6 10 (.int) false := ⟨_, _, _, tyX6, rfl, iX6, tyX6_ok, nmX6, by decide, rfl, rfl, (fun h => by cases h), Or.inl (jt2 139 rfl rfl)⟩
theorem fw_X6_35 : jFW RX6 35 6 11 (.int) false := ⟨_, _, _, tyX6, rfl, iX6, tyX6_ok, nmX6, by decide, rfl, rfl, (fun h => by cases h), Or.inl (jt2 140 rfl rfl)⟩
theorem fw_X6_38 : jFW RX6 38 6 12 (.int) false := ⟨_, _, _, tyX6, rfl, iX6, tyX6_ok, nmX6, by decide, rfl, rfl, (fun h => by cases h), Or.inl (jt2 141 rfl rfl)⟩
theorem fw_X6_41 : jFW RX6 41 6 0 (.object "BeanStreet$State") true := ⟨_, _, _, tyX6, rfl, iX6, tyX6_ok, nmX6, by decide, rfl, rfl, (fun _ => ⟨rfl, (jt2 129 rfl rfl)⟩), Or.inl (jt2 129 rfl rfl)⟩
theorem fw_X6_45 : jFW RX6 45 6 1 (.object "BeanStreet$Houses") true := ⟨_, _, _, tyX6, rfl, iX6, tyX6_ok, nmX6, by decide, rfl, rfl, (fun _ => ⟨rfl, (jt2 130 rfl rfl)⟩), Or.inl (jt2 130 rfl rfl)⟩
theorem fw_X6_49 : jFW RX6 49 6 2 (.object "BeanStreet$Streets") true := ⟨_, _, _, tyX6, rfl, iX6, tyX6_ok, nmX6, by decide, rfl, rfl, (fun _ => ⟨rfl, (jt2 131 rfl rfl)⟩), Or.inl (jt2 131 rfl rfl)⟩
theorem fw_X6_53 : jFW RX6 53 6 3 (.object "BeanStreet$Walks") true := ⟨_, _, _, tyX6, rfl, iX6, tyX6_ok, nmX6, by decide, rfl, rfl, (fun _ => ⟨rfl, (jt2 132 rfl rfl)⟩), Or.inl (jt2 132 rfl rfl)⟩
theorem fw_X11_82 : jFW RX11 82 11 10 (.object "BeanStreet$Riddle") true := ⟨_, _, _, tyX11, rfl, iX11, tyX11_ok, nmX11, by decide, rfl, rfl, (fun _ => ⟨rfl, (jt2 220 rfl rfl)⟩), Or.inl (jt2 220 rfl rfl)⟩
set_option maxRecDepth 20000 in
theorem iX4_at : ∀ k : Nat, k < 5 → u_lay RX4 TX4 k ∈ jtb
  | 0, _ => jt2 180 rfl rfl
  | 1, _ => jt2 182 rfl rfl
  | 2, _ => jt2 184 rfl rfl
  | 3, _ => jt2 186 rfl rfl
  | 4, _ => jt2 188 rfl rfl
  | (n + 5), h => absurd h (by omega)
theorem iX4 : ∀ w ∈ u_ws RX4 TX4 5, w ∈ jtb := fun w hw => by
  obtain ⟨k, hk, rfl⟩ := List.mem_map.mp hw
  exact iX4_at k (List.mem_range.mp hk)
theorem nd_X11_86 : ∀ j : Nat, j < 5 → defaultValue (tyX4 j) = vp_V [.null, .null, .null, .null, .int 0] j
  | 0, _ => rfl
  | 1, _ => rfl
  | 2, _ => rfl
  | 3, _ => rfl
  | 4, _ => rfl
  | (n + 5), h => absurd h (by omega)
theorem nw_X11_86 : jNW RX11 86 4 5 [.null, .null, .null, .null, .int 0] := ⟨_, _, tyX4, rfl, iX4, tyX4_ok, (jt2 169 rfl rfl), (jt2 170 rfl rfl), (jt1 12 rfl rfl), nd_X11_86⟩
abbrev MX4_init : jM := (RX4, cX4_init, 3, none, true)
theorem ci_X11_88 : jCI RX11 88 yX4_init MX4_init 2 := ⟨(jt2 173 rfl rfl), rfl, (jt2 172 rfl rfl), (jt1 12 rfl rfl), rfl, ⟨by decide, by decide, by decide +kernel⟩, Or.inl (jt2 171 rfl rfl)⟩
theorem fw_X4_9 : jFW RX4 9 4 2 (.array .int) false := ⟨_, _, _, tyX4, rfl, iX4, tyX4_ok, nmX4, by decide, rfl, rfl, (fun h => by cases h), Or.inl (jt2 177 rfl rfl)⟩
theorem fw_X4_15 : jFW RX4 15 4 3 (.array .int) false := ⟨_, _, _, tyX4, rfl, iX4, tyX4_ok, nmX4, by decide, rfl, rfl, (fun h => by cases h), Or.inl (jt2 178 rfl rfl)⟩
theorem fw_X4_18 : jFW RX4 18 4 4 (.int) false := ⟨_, _, _, tyX4, rfl, iX4, tyX4_ok, nmX4, by decide, rfl, rfl, (fun h => by cases h), Or.inl (jt2 179 rfl rfl)⟩
theorem fw_X4_22 : jFW RX4 22 4 0 (.object "BeanStreet$Houses") true := ⟨_, _, _, tyX4, rfl, iX4, tyX4_ok, nmX4, by decide, rfl, rfl, (fun _ => ⟨rfl, (jt2 175 rfl rfl)⟩), Or.inl (jt2 175 rfl rfl)⟩
theorem fw_X4_26 : jFW RX4 26 4 1 (.object "BeanStreet$Streets") true := ⟨_, _, _, tyX4, rfl, iX4, tyX4_ok, nmX4, by decide, rfl, rfl, (fun _ => ⟨rfl, (jt2 176 rfl rfl)⟩), Or.inl (jt2 176 rfl rfl)⟩
theorem fw_X11_89 : jFW RX11 89 11 11 (.object "BeanStreet$Postmen") true := ⟨_, _, _, tyX11, rfl, iX11, tyX11_ok, nmX11, by decide, rfl, rfl, (fun _ => ⟨rfl, (jt2 221 rfl rfl)⟩), Or.inl (jt2 221 rfl rfl)⟩
theorem fw_X11_93 : jFW RX11 93 11 12 (.array .int) true := ⟨_, _, _, tyX11, rfl, iX11, tyX11_ok, nmX11, by decide, rfl, rfl, (fun _ => ⟨rfl, (jt2 222 rfl rfl)⟩), Or.inl (jt2 222 rfl rfl)⟩
theorem fw_X11_97 : jFW RX11 97 11 13 (.int) false := ⟨_, _, _, tyX11, rfl, iX11, tyX11_ok, nmX11, by decide, rfl, rfl, (fun h => by cases h), Or.inl (jt2 223 rfl rfl)⟩
theorem fw_X11_101 : jFW RX11 101 11 14 (.int) false := ⟨_, _, _, tyX11, rfl, iX11, tyX11_ok, nmX11, by decide, rfl, rfl, (fun h => by cases h), Or.inl (jt2 224 rfl rfl)⟩
theorem fw_X11_104 : jFW RX11 104 11 15 (.array .int) true := ⟨_, _, _, tyX11, rfl, iX11, tyX11_ok, nmX11, by decide, rfl, rfl, (fun _ => ⟨rfl, (jt2 225 rfl rfl)⟩), Or.inl (jt2 225 rfl rfl)⟩
theorem fw_X11_107 : jFW RX11 107 11 16 (.boolean) false := ⟨_, _, _, tyX11, rfl, iX11, tyX11_ok, nmX11, by decide, rfl, rfl, (fun h => by cases h), Or.inl (jt2 226 rfl rfl)⟩
theorem fl_X11_111 : jFL RX11 111 8 0 := ⟨_, _, _, rfl, iX8, by decide, Or.inr ⟨"BeanStreet", (jn1 38 rfl rfl)⟩⟩
abbrev MX0_settle : jM := (RX0, cX0_settle, 4, none, false)
theorem cv_X11_114 : jCV RX11 114 0 yX0_settle MX0_settle 1 := ⟨_, _, rfl, (jt2 194 rfl rfl), (jt2 192 rfl rfl), (jt2 193 rfl rfl), (jt1 3 rfl rfl), ⟨by decide, by decide, by decide +kernel⟩, Or.inl (jt2 191 rfl rfl)⟩
theorem fl_X0_9 : jFL RX0 9 0 0 := ⟨_, _, _, rfl, iX0, by decide, Or.inl (jt1 106 rfl rfl)⟩
theorem fl_X0_18 : jFL RX0 18 0 2 := ⟨_, _, _, rfl, iX0, by decide, Or.inl (jt1 108 rfl rfl)⟩
abbrev MX0_packed : jM := (RX0, cX0_packed, 3, some .int, false)
theorem cv_X0_25 : jCV RX0 25 0 yX0_packed MX0_packed 0 := ⟨_, _, rfl, (jt2 198 rfl rfl), (jt2 197 rfl rfl), (jtp (q := (⟨"BeanStreet$Houses", "packed", "()I"⟩, 4)) (List.mem_of_getElem? (i := 0) rfl)), (jt1 3 rfl rfl), ⟨by decide, by decide, by decide +kernel⟩, Or.inl (jt2 195 rfl rfl)⟩
theorem fl_X0_22 : jFL RX0 22 0 3 := ⟨_, _, _, rfl, iX0, by decide, Or.inl (jt1 109 rfl rfl)⟩
abbrev MX0_nextOrder : jM := (RX0, cX0_nextOrder, 5, some .boolean, false)
theorem cv_X0_29 : jCV RX0 29 0 yX0_nextOrder MX0_nextOrder 0 := ⟨_, _, rfl, (jt2 205 rfl rfl), (jt2 204 rfl rfl), (jtp (q := (⟨"BeanStreet$Houses", "nextOrder", "()Z"⟩, 4)) (List.mem_of_getElem? (i := 1) rfl)), (jt1 3 rfl rfl), ⟨by decide, by decide, by decide +kernel⟩, Or.inl (jt2 202 rfl rfl)⟩
abbrev MX11_init : jM := (RX11, cX11_init, 1, none, true)
set_option maxRecDepth 20000 in
theorem iX12_at : ∀ k : Nat, k < 56 → u_lay RX12 TX12 k ∈ jtb
  | 0, _ => jt6 130 rfl rfl
  | 1, _ => jt6 132 rfl rfl
  | 2, _ => jt6 134 rfl rfl
  | 3, _ => jt6 136 rfl rfl
  | 4, _ => jt6 138 rfl rfl
  | 5, _ => jt6 140 rfl rfl
  | 6, _ => jt6 142 rfl rfl
  | 7, _ => jt6 144 rfl rfl
  | 8, _ => jt6 146 rfl rfl
  | 9, _ => jt6 148 rfl rfl
  | 10, _ => jt6 150 rfl rfl
  | 11, _ => jt6 152 rfl rfl
  | 12, _ => jt6 154 rfl rfl
  | 13, _ => jt6 156 rfl rfl
  | 14, _ => jt6 158 rfl rfl
  | 15, _ => jt6 160 rfl rfl
  | 16, _ => jt6 162 rfl rfl
  | 17, _ => jt6 164 rfl rfl
  | 18, _ => jt6 166 rfl rfl
  | 19, _ => jt6 168 rfl rfl
  | 20, _ => jt6 170 rfl rfl
  | 21, _ => jt6 172 rfl rfl
  | 22, _ => jt6 174 rfl rfl
  | 23, _ => jt6 176 rfl rfl
  | 24, _ => jt6 178 rfl rfl
  | 25, _ => jt6 180 rfl rfl
  | 26, _ => jt6 182 rfl rfl
  | 27, _ => jt6 184 rfl rfl
  | 28, _ => jt6 186 rfl rfl
  | 29, _ => jt6 188 rfl rfl
  | 30, _ => jt6 190 rfl rfl
  | 31, _ => jt6 192 rfl rfl
  | 32, _ => jt6 194 rfl rfl
  | 33, _ => jt6 196 rfl rfl
  | 34, _ => jt6 198 rfl rfl
  | 35, _ => jt6 200 rfl rfl
  | 36, _ => jt6 202 rfl rfl
  | 37, _ => jt6 204 rfl rfl
  | 38, _ => jt6 206 rfl rfl
  | 39, _ => jt6 208 rfl rfl
  | 40, _ => jt6 210 rfl rfl
  | 41, _ => jt6 212 rfl rfl
  | 42, _ => jt6 214 rfl rfl
  | 43, _ => jt6 216 rfl rfl
  | 44, _ => jt6 218 rfl rfl
  | 45, _ => jt6 220 rfl rfl
  | 46, _ => jt6 222 rfl rfl
  | 47, _ => jt6 224 rfl rfl
  | 48, _ => jt6 226 rfl rfl
  | 49, _ => jt6 228 rfl rfl
  | 50, _ => jt6 230 rfl rfl
  | 51, _ => jt6 232 rfl rfl
  | 52, _ => jt6 234 rfl rfl
  | 53, _ => jt6 236 rfl rfl
  | 54, _ => jt6 238 rfl rfl
  | 55, _ => jt7 0 rfl rfl
  | (n + 56), h => absurd h (by omega)
theorem iX12 : ∀ w ∈ u_ws RX12 TX12 56, w ∈ jtb := fun w hw => by
  obtain ⟨k, hk, rfl⟩ := List.mem_map.mp hw
  exact iX12_at k (List.mem_range.mp hk)
theorem fw_X12_7 : jFW RX12 7 12 2 (.array .int) true := ⟨_, _, _, tyX12, rfl, iX12, tyX12_ok, nmX12, by decide, rfl, rfl, (fun _ => ⟨rfl, (jt6 76 rfl rfl)⟩), Or.inl (jt6 76 rfl rfl)⟩
theorem fw_X12_20 : jFW RX12 20 12 3 (.array .int) true := ⟨_, _, _, tyX12, rfl, iX12, tyX12_ok, nmX12, by decide, rfl, rfl, (fun _ => ⟨rfl, (jt6 77 rfl rfl)⟩), Or.inl (jt6 77 rfl rfl)⟩
theorem fw_X12_23 : jFW RX12 23 12 4 (.array .int) true := ⟨_, _, _, tyX12, rfl, iX12, tyX12_ok, nmX12, by decide, rfl, rfl, (fun _ => ⟨rfl, (jt6 78 rfl rfl)⟩), Or.inl (jt6 78 rfl rfl)⟩
theorem fw_X12_26 : jFW RX12 26 12 5 (.array .boolean) true := ⟨_, _, _, tyX12, rfl, iX12, tyX12_ok, nmX12, by decide, rfl, rfl, (fun _ => ⟨rfl, (jt6 79 rfl rfl)⟩), Or.inl (jt6 79 rfl rfl)⟩
theorem fw_X12_30 : jFW RX12 30 12 6 (.array .byte) true := ⟨_, _, _, tyX12, rfl, iX12, tyX12_ok, nmX12, by decide, rfl, rfl, (fun _ => ⟨rfl, (jt6 80 rfl rfl)⟩), Or.inl (jt6 80 rfl rfl)⟩
theorem fw_X12_34 : jFW RX12 34 12 7 (.array .byte) true := ⟨_, _, _, tyX12, rfl, iX12, tyX12_ok, nmX12, by decide, rfl, rfl, (fun _ => ⟨rfl, (jt6 81 rfl rfl)⟩), Or.inl (jt6 81 rfl rfl)⟩
theorem fw_X12_37 : jFW RX12 37 12 8 (.array .int) true := ⟨_, _, _, tyX12, rfl, iX12, tyX12_ok, nmX12, by decide, rfl, rfl, (fun _ => ⟨rfl, (jt6 82 rfl rfl)⟩), Or.inl (jt6 82 rfl rfl)⟩
theorem fw_X12_40 : jFW RX12 40 12 10 (.int) false := ⟨_, _, _, tyX12, rfl, iX12, tyX12_ok, nmX12, by decide, rfl, rfl, (fun h => by cases h), Or.inl (jt6 84 rfl rfl)⟩
theorem fw_X12_43 : jFW RX12 43 12 11 (.array .int) true := ⟨_, _, _, tyX12, rfl, iX12, tyX12_ok, nmX12, by decide, rfl, rfl, (fun _ => ⟨rfl, (jt6 85 rfl rfl)⟩), Or.inl (jt6 85 rfl rfl)⟩
theorem fw_X12_46 : jFW RX12 46 12 12 (.array .int) true := ⟨_, _, _, tyX12, rfl, iX12, tyX12_ok, nmX12, by decide, rfl, rfl, (fun _ => ⟨rfl, (jt6 86 rfl rfl)⟩), Or.inl (jt6 86 rfl rfl)⟩
theorem fw_X12_49 : jFW RX12 49 12 13 (.array .int) true := ⟨_, _, _, tyX12, rfl, iX12, tyX12_ok, nmX12, by decide, rfl, rfl, (fun _ => ⟨rfl, (jt6 87 rfl rfl)⟩), Or.inl (jt6 87 rfl rfl)⟩
theorem fw_X12_52 : jFW RX12 52 12 21 (.array .int) true := ⟨_, _, _, tyX12, rfl, iX12, tyX12_ok, nmX12, by decide, rfl, rfl, (fun _ => ⟨rfl, (jt6 95 rfl rfl)⟩), Or.inl (jt6 95 rfl rfl)⟩
theorem fw_X12_55 : jFW RX12 55 12 24 (.array .int) true := ⟨_, _, _, tyX12, rfl, iX12, tyX12_ok, nmX12, by decide, rfl, rfl, (fun _ => ⟨rfl, (jt6 98 rfl rfl)⟩), Or.inl (jt6 98 rfl rfl)⟩
theorem fw_X12_58 : jFW RX12 58 12 25 (.array .int) true := ⟨_, _, _, tyX12, rfl, iX12, tyX12_ok, nmX12, by decide, rfl, rfl, (fun _ => ⟨rfl, (jt6 99 rfl rfl)⟩), Or.inl (jt6 99 rfl rfl)⟩
theorem fw_X12_61 : jFW RX12 61 12 26 (.array .int) true := ⟨_, _, _, tyX12, rfl, iX12, tyX12_ok, nmX12, by decide, rfl, rfl, (fun _ => ⟨rfl, (jt6 100 rfl rfl)⟩), Or.inl (jt6 100 rfl rfl)⟩
theorem fw_X12_64 : jFW RX12 64 12 27 (.array .int) true := ⟨_, _, _, tyX12, rfl, iX12, tyX12_ok, nmX12, by decide, rfl, rfl, (fun _ => ⟨rfl, (jt6 101 rfl rfl)⟩), Or.inl (jt6 101 rfl rfl)⟩
theorem fw_X12_67 : jFW RX12 67 12 28 (.array .int) true := ⟨_, _, _, tyX12, rfl, iX12, tyX12_ok, nmX12, by decide, rfl, rfl, (fun _ => ⟨rfl, (jt6 102 rfl rfl)⟩), Or.inl (jt6 102 rfl rfl)⟩
theorem fw_X12_70 : jFW RX12 70 12 29 (.array .int) true := ⟨_, _, _, tyX12, rfl, iX12, tyX12_ok, nmX12, by decide, rfl, rfl, (fun _ => ⟨rfl, (jt6 103 rfl rfl)⟩), Or.inl (jt6 103 rfl rfl)⟩
theorem fw_X12_73 : jFW RX12 73 12 30 (.array .int) true := ⟨_, _, _, tyX12, rfl, iX12, tyX12_ok, nmX12, by decide, rfl, rfl, (fun _ => ⟨rfl, (jt6 104 rfl rfl)⟩), Or.inl (jt6 104 rfl rfl)⟩
theorem fw_X12_76 : jFW RX12 76 12 31 (.array .int) true := ⟨_, _, _, tyX12, rfl, iX12, tyX12_ok, nmX12, by decide, rfl, rfl, (fun _ => ⟨rfl, (jt6 105 rfl rfl)⟩), Or.inl (jt6 105 rfl rfl)⟩
theorem fw_X12_79 : jFW RX12 79 12 34 (.int) false := ⟨_, _, _, tyX12, rfl, iX12, tyX12_ok, nmX12, by decide, rfl, rfl, (fun h => by cases h), Or.inl (jt6 108 rfl rfl)⟩
theorem fw_X12_82 : jFW RX12 82 12 35 (.int) false := ⟨_, _, _, tyX12, rfl, iX12, tyX12_ok, nmX12, by decide, rfl, rfl, (fun h => by cases h), Or.inl (jt6 109 rfl rfl)⟩
theorem fw_X12_85 : jFW RX12 85 12 36 (.array .int) true := ⟨_, _, _, tyX12, rfl, iX12, tyX12_ok, nmX12, by decide, rfl, rfl, (fun _ => ⟨rfl, (jt6 110 rfl rfl)⟩), Or.inl (jt6 110 rfl rfl)⟩
theorem fw_X12_88 : jFW RX12 88 12 37 (.array .long) true := ⟨_, _, _, tyX12, rfl, iX12, tyX12_ok, nmX12, by decide, rfl, rfl, (fun _ => ⟨rfl, (jt6 111 rfl rfl)⟩), Or.inl (jt6 111 rfl rfl)⟩
theorem fw_X12_92 : jFW RX12 92 12 38 (.array .int) true := ⟨_, _, _, tyX12, rfl, iX12, tyX12_ok, nmX12, by decide, rfl, rfl, (fun _ => ⟨rfl, (jt6 112 rfl rfl)⟩), Or.inl (jt6 112 rfl rfl)⟩
theorem fw_X12_95 : jFW RX12 95 12 39 (.array .int) true := ⟨_, _, _, tyX12, rfl, iX12, tyX12_ok, nmX12, by decide, rfl, rfl, (fun _ => ⟨rfl, (jt6 113 rfl rfl)⟩), Or.inl (jt6 113 rfl rfl)⟩
theorem fw_X12_98 : jFW RX12 98 12 40 (.array .boolean) true := ⟨_, _, _, tyX12, rfl, iX12, tyX12_ok, nmX12, by decide, rfl, rfl, (fun _ => ⟨rfl, (jt6 114 rfl rfl)⟩), Or.inl (jt6 114 rfl rfl)⟩
theorem fw_X12_101 : jFW RX12 101 12 41 (.array .int) true := ⟨_, _, _, tyX12, rfl, iX12, tyX12_ok, nmX12, by decide, rfl, rfl, (fun _ => ⟨rfl, (jt6 115 rfl rfl)⟩), Or.inl (jt6 115 rfl rfl)⟩
theorem fw_X12_104 : jFW RX12 104 12 42 (.array .boolean) true := ⟨_, _, _, tyX12, rfl, iX12, tyX12_ok, nmX12, by decide, rfl, rfl, (fun _ => ⟨rfl, (jt6 116 rfl rfl)⟩), Or.inl (jt6 116 rfl rfl)⟩
theorem fw_X12_107 : jFW RX12 107 12 43 (.array .int) true := ⟨_, _, _, tyX12, rfl, iX12, tyX12_ok, nmX12, by decide, rfl, rfl, (fun _ => ⟨rfl, (jt6 117 rfl rfl)⟩), Or.inl (jt6 117 rfl rfl)⟩
theorem fw_X12_110 : jFW RX12 110 12 44 (.array .int) true := ⟨_, _, _, tyX12, rfl, iX12, tyX12_ok, nmX12, by decide, rfl, rfl, (fun _ => ⟨rfl, (jt6 118 rfl rfl)⟩), Or.inl (jt6 118 rfl rfl)⟩
theorem fw_X12_113 : jFW RX12 113 12 45 (.array .long) true := ⟨_, _, _, tyX12, rfl, iX12, tyX12_ok, nmX12, by decide, rfl, rfl, (fun _ => ⟨rfl, (jt6 119 rfl rfl)⟩), Or.inl (jt6 119 rfl rfl)⟩
theorem fw_X12_116 : jFW RX12 116 12 46 (.array .long) true := ⟨_, _, _, tyX12, rfl, iX12, tyX12_ok, nmX12, by decide, rfl, rfl, (fun _ => ⟨rfl, (jt6 120 rfl rfl)⟩), Or.inl (jt6 120 rfl rfl)⟩
theorem fw_X12_120 : jFW RX12 120 12 47 (.array .boolean) true := ⟨_, _, _, tyX12, rfl, iX12, tyX12_ok, nmX12, by decide, rfl, rfl, (fun _ => ⟨rfl, (jt6 121 rfl rfl)⟩), Or.inl (jt6 121 rfl rfl)⟩
theorem fw_X12_123 : jFW RX12 123 12 49 (.array .boolean) true := ⟨_, _, _, tyX12, rfl, iX12, tyX12_ok, nmX12, by decide, rfl, rfl, (fun _ => ⟨rfl, (jt6 123 rfl rfl)⟩), Or.inl (jt6 123 rfl rfl)⟩
theorem fw_X12_126 : jFW RX12 126 12 50 (.array .int) true := ⟨_, _, _, tyX12, rfl, iX12, tyX12_ok, nmX12, by decide, rfl, rfl, (fun _ => ⟨rfl, (jt6 124 rfl rfl)⟩), Or.inl (jt6 124 rfl rfl)⟩
theorem fw_X12_129 : jFW RX12 129 12 51 (.array .int) true := ⟨_, _, _, tyX12, rfl, iX12, tyX12_ok, nmX12, by decide, rfl, rfl, (fun _ => ⟨rfl, (jt6 125 rfl rfl)⟩), Or.inl (jt6 125 rfl rfl)⟩
theorem fw_X12_132 : jFW RX12 132 12 52 (.array .int) true := ⟨_, _, _, tyX12, rfl, iX12, tyX12_ok, nmX12, by decide, rfl, rfl, (fun _ => ⟨rfl, (jt6 126 rfl rfl)⟩), Or.inl (jt6 126 rfl rfl)⟩
theorem fw_X12_135 : jFW RX12 135 12 53 (.array .int) true := ⟨_, _, _, tyX12, rfl, iX12, tyX12_ok, nmX12, by decide, rfl, rfl, (fun _ => ⟨rfl, (jt6 127 rfl rfl)⟩), Or.inl (jt6 127 rfl rfl)⟩
theorem fl_X12_20 : jFL RX12 20 12 3 := ⟨_, _, _, rfl, iX12, by decide, Or.inl (jt6 77 rfl rfl)⟩
abbrev MX12_init : jM := (RX12, cX12_init, 1, none, true)
abbrev MX12_lies : jM := (RX12, cX12_lies, 3, some .boolean, false)
theorem cs_X12_138 : jCS RX12 138 yX12_lies MX12_lies 3 := ⟨(jt7 9 rfl rfl), (jt7 8 rfl rfl), (jt1 13 rfl rfl), ⟨by decide, by decide, by decide +kernel⟩, Or.inl (jt7 7 rfl rfl)⟩
theorem fl_X12_26 : jFL RX12 26 12 5 := ⟨_, _, _, rfl, iX12, by decide, Or.inl (jt6 79 rfl rfl)⟩
abbrev MX12_good : jM := (RX12, cX12_good, 2, some .int, false)
theorem cv_X12_146 : jCV RX12 146 12 yX12_good MX12_good 1 := ⟨_, _, rfl, (jt7 17 rfl rfl), (jt7 16 rfl rfl), (jtp (q := (⟨"BeanStreetModel", "good", "(I)I"⟩, 56)) (List.mem_of_getElem? (i := 55) rfl)), (jt1 13 rfl rfl), ⟨by decide, by decide, by decide +kernel⟩, Or.inl (jt7 14 rfl rfl)⟩
theorem fw_X12_3 : jFW RX12 3 12 0 (.int) false := ⟨_, _, _, tyX12, rfl, iX12, tyX12_ok, nmX12, by decide, rfl, rfl, (fun h => by cases h), Or.inl (jt6 74 rfl rfl)⟩
theorem fl_X12_11 : jFL RX12 11 12 1 := ⟨_, _, _, rfl, iX12, by decide, Or.inl (jt6 75 rfl rfl)⟩
theorem fw_X12_11 : jFW RX12 11 12 1 (.int) false := ⟨_, _, _, tyX12, rfl, iX12, tyX12_ok, nmX12, by decide, rfl, rfl, (fun h => by cases h), Or.inl (jt6 75 rfl rfl)⟩
theorem fl_X12_23 : jFL RX12 23 12 4 := ⟨_, _, _, rfl, iX12, by decide, Or.inl (jt6 78 rfl rfl)⟩
abbrev MX12_image : jM := (RX12, cX12_image, 3, some .int, false)
