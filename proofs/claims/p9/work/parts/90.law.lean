abbrev ML_law : jM := (RL, cL_law, 4, some .boolean, false)
theorem nd_L_7 : ∀ j : Nat, j < 17 → defaultValue (tyX11 j) = vp_V [.null, .null, .null, .null, .null, .null, .null, .null, .null, .null, .null, .null, .null, .int 0, .int 0, .null, .int 0] j
  | 0, _ => rfl
  | 1, _ => rfl
  | 2, _ => rfl
  | 3, _ => rfl
  | 4, _ => rfl
  | 5, _ => rfl
  | 6, _ => rfl
  | 7, _ => rfl
  | 8, _ => rfl
  | 9, _ => rfl
  | 10, _ => rfl
  | 11, _ => rfl
  | 12, _ => rfl
  | 13, _ => rfl
  | 14, _ => rfl
  | 15, _ => rfl
  | 16, _ => rfl
  | (n + 17), h => absurd h (by omega)
theorem nw_L_7 : jNW RL 7 11 17 [.null, .null, .null, .null, .null, .null, .null, .null, .null, .null, .null, .null, .null, .int 0, .int 0, .null, .int 0] := ⟨_, _, tyX11, rfl, iX11, tyX11_ok, (jt1 21 rfl rfl), (jt1 22 rfl rfl), (jt1 1 rfl rfl), nd_L_7⟩
abbrev MX11_init : jM := (RX11, cX11_init, 1, none, true)
theorem ci_L_9 : jCI RL 9 yX11_init MX11_init 0 := ⟨(jt1 25 rfl rfl), rfl, (jt1 24 rfl rfl), (jt1 1 rfl rfl), rfl, ⟨by decide, by decide, by decide +kernel⟩, Or.inl (jt1 23 rfl rfl)⟩
theorem nd_X11_7 : ∀ j : Nat, j < 14 → defaultValue (tyX8 j) = vp_V [.null, .null, .null, .int 0, .int 0, .null, .null, .int 0, .null, .null, .int 0, .null, .null, .int 0] j
  | 0, _ => rfl
  | 1, _ => rfl
  | 2, _ => rfl
  | 3, _ => rfl
  | 4, _ => rfl
  | 5, _ => rfl
  | 6, _ => rfl
  | 7, _ => rfl
  | 8, _ => rfl
  | 9, _ => rfl
  | 10, _ => rfl
  | 11, _ => rfl
  | 12, _ => rfl
  | 13, _ => rfl
  | (n + 14), h => absurd h (by omega)
theorem nw_X11_7 : jNW RX11 7 8 14 [.null, .null, .null, .int 0, .int 0, .null, .null, .int 0, .null, .null, .int 0, .null, .null, .int 0] := ⟨_, _, tyX8, rfl, iX8, tyX8_ok, (jt1 29 rfl rfl), (jt1 30 rfl rfl), (jt1 2 rfl rfl), nd_X11_7⟩
abbrev MX8_init : jM := (RX8, cX8_init, 1, none, true)
theorem ci_X11_9 : jCI RX11 9 yX8_init MX8_init 0 := ⟨(jt1 33 rfl rfl), rfl, (jt1 32 rfl rfl), (jt1 2 rfl rfl), rfl, ⟨by decide, by decide, by decide +kernel⟩, Or.inr ⟨"BeanStreet", (jn1 31 rfl rfl)⟩⟩
theorem fw_X8_9 : jFW RX8 9 8 0 (.array .int) true := ⟨_, _, _, tyX8, rfl, iX8, tyX8_ok, nmX8, by decide, rfl, rfl, (fun _ => ⟨rfl, (jt1 37 rfl rfl)⟩), Or.inl (jt1 37 rfl rfl)⟩
theorem fw_X8_15 : jFW RX8 15 8 1 (.array .int) true := ⟨_, _, _, tyX8, rfl, iX8, tyX8_ok, nmX8, by decide, rfl, rfl, (fun _ => ⟨rfl, (jt1 40 rfl rfl)⟩), Or.inl (jt1 40 rfl rfl)⟩
theorem fw_X8_20 : jFW RX8 20 8 2 (.array (.array .int)) true := ⟨_, _, _, tyX8, rfl, iX8, tyX8_ok, nmX8, by decide, rfl, rfl, (fun _ => ⟨rfl, (jt1 43 rfl rfl)⟩), Or.inl (jt1 43 rfl rfl)⟩
theorem fw_X8_30 : jFW RX8 30 8 5 (.array .int) true := ⟨_, _, _, tyX8, rfl, iX8, tyX8_ok, nmX8, by decide, rfl, rfl, (fun _ => ⟨rfl, (jt1 51 rfl rfl)⟩), Or.inl (jt1 51 rfl rfl)⟩
theorem fw_X8_33 : jFW RX8 33 8 6 (.array .int) true := ⟨_, _, _, tyX8, rfl, iX8, tyX8_ok, nmX8, by decide, rfl, rfl, (fun _ => ⟨rfl, (jt1 52 rfl rfl)⟩), Or.inl (jt1 52 rfl rfl)⟩
theorem fw_X8_39 : jFW RX8 39 8 8 (.array .int) true := ⟨_, _, _, tyX8, rfl, iX8, tyX8_ok, nmX8, by decide, rfl, rfl, (fun _ => ⟨rfl, (jt1 55 rfl rfl)⟩), Or.inl (jt1 55 rfl rfl)⟩
theorem fw_X8_42 : jFW RX8 42 8 9 (.array .int) true := ⟨_, _, _, tyX8, rfl, iX8, tyX8_ok, nmX8, by decide, rfl, rfl, (fun _ => ⟨rfl, (jt1 57 rfl rfl)⟩), Or.inl (jt1 57 rfl rfl)⟩
theorem fw_X8_48 : jFW RX8 48 8 11 (.array .int) true := ⟨_, _, _, tyX8, rfl, iX8, tyX8_ok, nmX8, by decide, rfl, rfl, (fun _ => ⟨rfl, (jt1 62 rfl rfl)⟩), Or.inl (jt1 62 rfl rfl)⟩
theorem fw_X8_51 : jFW RX8 51 8 12 (.array .int) true := ⟨_, _, _, tyX8, rfl, iX8, tyX8_ok, nmX8, by decide, rfl, rfl, (fun _ => ⟨rfl, (jt1 64 rfl rfl)⟩), Or.inl (jt1 64 rfl rfl)⟩
theorem fw_X11_10 : jFW RX11 10 11 0 (.object "BeanStreet$State") true := ⟨_, _, _, tyX11, rfl, iX11, tyX11_ok, nmX11, by decide, rfl, rfl, (fun _ => ⟨rfl, (jt2 210 rfl rfl)⟩), Or.inl (jt2 210 rfl rfl)⟩
theorem fw_X11_16 : jFW RX11 16 11 1 (.array (.object "BeanStreet$State")) true := ⟨_, _, _, tyX11, rfl, iX11, tyX11_ok, nmX11, by decide, rfl, rfl, (fun _ => ⟨rfl, (jt2 211 rfl rfl)⟩), Or.inl (jt2 211 rfl rfl)⟩
theorem fw_X11_20 : jFW RX11 20 11 2 (.array .boolean) true := ⟨_, _, _, tyX11, rfl, iX11, tyX11_ok, nmX11, by decide, rfl, rfl, (fun _ => ⟨rfl, (jt2 212 rfl rfl)⟩), Or.inl (jt2 212 rfl rfl)⟩
theorem nd_X11_24 : ∀ j : Nat, j < 4 → defaultValue (tyX0 j) = vp_V [.null, .null, .int 0, .int 0] j
  | 0, _ => rfl
  | 1, _ => rfl
  | 2, _ => rfl
  | 3, _ => rfl
  | (n + 4), h => absurd h (by omega)
theorem nw_X11_24 : jNW RX11 24 0 4 [.null, .null, .int 0, .int 0] := ⟨_, _, tyX0, rfl, iX0, tyX0_ok, (jt1 100 rfl rfl), (jt1 101 rfl rfl), (jt1 3 rfl rfl), nd_X11_24⟩
abbrev MX0_init : jM := (RX0, cX0_init, 1, none, true)
theorem ci_X11_26 : jCI RX11 26 yX0_init MX0_init 0 := ⟨(jt1 104 rfl rfl), rfl, (jt1 103 rfl rfl), (jt1 3 rfl rfl), rfl, ⟨by decide, by decide, by decide +kernel⟩, Or.inr ⟨"BeanStreet", (jn1 102 rfl rfl)⟩⟩
theorem fw_X0_9 : jFW RX0 9 0 0 (.array .int) true := ⟨_, _, _, tyX0, rfl, iX0, tyX0_ok, nmX0, by decide, rfl, rfl, (fun _ => ⟨rfl, (jt1 106 rfl rfl)⟩), Or.inl (jt1 106 rfl rfl)⟩
theorem fw_X0_15 : jFW RX0 15 0 1 (.array .int) true := ⟨_, _, _, tyX0, rfl, iX0, tyX0_ok, nmX0, by decide, rfl, rfl, (fun _ => ⟨rfl, (jt1 107 rfl rfl)⟩), Or.inl (jt1 107 rfl rfl)⟩
theorem fw_X11_27 : jFW RX11 27 11 3 (.object "BeanStreet$Houses") true := ⟨_, _, _, tyX11, rfl, iX11, tyX11_ok, nmX11, by decide, rfl, rfl, (fun _ => ⟨rfl, (jt2 213 rfl rfl)⟩), Or.inl (jt2 213 rfl rfl)⟩
theorem nd_X11_31 : ∀ j : Nat, j < 10 → defaultValue (tyX5 j) = vp_V [.null, .int 0, .int 0, .int 0, .int 0, .int 0, .int 0, .int 0, .null, .int 0] j
  | 0, _ => rfl
  | 1, _ => rfl
  | 2, _ => rfl
  | 3, _ => rfl
  | 4, _ => rfl
  | 5, _ => rfl
  | 6, _ => rfl
  | 7, _ => rfl
  | 8, _ => rfl
  | 9, _ => rfl
  | (n + 10), h => absurd h (by omega)
theorem nw_X11_31 : jNW RX11 31 5 10 [.null, .int 0, .int 0, .int 0, .int 0, .int 0, .int 0, .int 0, .null, .int 0] := ⟨_, _, tyX5, rfl, iX5, tyX5_ok, (jt1 120 rfl rfl), (jt1 121 rfl rfl), (jt1 4 rfl rfl), nd_X11_31⟩
abbrev MX5_init : jM := (RX5, cX5_init, 1, none, true)
theorem ci_X11_33 : jCI RX11 33 yX5_init MX5_init 0 := ⟨(jt1 124 rfl rfl), rfl, (jt1 123 rfl rfl), (jt1 4 rfl rfl), rfl, ⟨by decide, by decide, by decide +kernel⟩, Or.inr ⟨"BeanStreet", (jn1 122 rfl rfl)⟩⟩
theorem fw_X5_11 : jFW RX5 11 5 0 (.array .int) true := ⟨_, _, _, tyX5, rfl, iX5, tyX5_ok, nmX5, by decide, rfl, rfl, (fun _ => ⟨rfl, (jt1 126 rfl rfl)⟩), Or.inl (jt1 126 rfl rfl)⟩
theorem fw_X5_37 : jFW RX5 37 5 8 (.array .int) true := ⟨_, _, _, tyX5, rfl, iX5, tyX5_ok, nmX5, by decide, rfl, rfl, (fun _ => ⟨rfl, (jt1 134 rfl rfl)⟩), Or.inl (jt1 134 rfl rfl)⟩
theorem fw_X11_34 : jFW RX11 34 11 4 (.object "BeanStreet$Reader") true := ⟨_, _, _, tyX11, rfl, iX11, tyX11_ok, nmX11, by decide, rfl, rfl, (fun _ => ⟨rfl, (jt2 214 rfl rfl)⟩), Or.inl (jt2 214 rfl rfl)⟩
theorem nd_X11_38 : ∀ j : Nat, j < 10 → defaultValue (tyX9 j) = vp_V [.null, .null, .null, .null, .null, .null, .null, .int 0, .int 0, .int 0] j
  | 0, _ => rfl
  | 1, _ => rfl
  | 2, _ => rfl
  | 3, _ => rfl
  | 4, _ => rfl
  | 5, _ => rfl
  | 6, _ => rfl
  | 7, _ => rfl
  | 8, _ => rfl
  | 9, _ => rfl
  | (n + 10), h => absurd h (by omega)
theorem nw_X11_38 : jNW RX11 38 9 10 [.null, .null, .null, .null, .null, .null, .null, .int 0, .int 0, .int 0] := ⟨_, _, tyX9, rfl, iX9, tyX9_ok, (jt1 157 rfl rfl), (jt1 158 rfl rfl), (jt1 5 rfl rfl), nd_X11_38⟩
abbrev MX9_init : jM := (RX9, cX9_init, 3, none, true)
theorem ci_X11_40 : jCI RX11 40 yX9_init MX9_init 2 := ⟨(jt1 161 rfl rfl), rfl, (jt1 160 rfl rfl), (jt1 5 rfl rfl), rfl, ⟨by decide, by decide, by decide +kernel⟩, Or.inl (jt1 159 rfl rfl)⟩
theorem nd_X9_9 : ∀ j : Nat, j < 8 → defaultValue (tyX1 j) = vp_V [.null, .null, .int 0, .int 0, .int 0, .int 0, .int 0, .int 0] j
  | 0, _ => rfl
  | 1, _ => rfl
  | 2, _ => rfl
  | 3, _ => rfl
  | 4, _ => rfl
  | 5, _ => rfl
  | 6, _ => rfl
  | 7, _ => rfl
  | (n + 8), h => absurd h (by omega)
theorem nw_X9_9 : jNW RX9 9 1 8 [.null, .null, .int 0, .int 0, .int 0, .int 0, .int 0, .int 0] := ⟨_, _, tyX1, rfl, iX1, tyX1_ok, (jt1 163 rfl rfl), (jt1 164 rfl rfl), (jt1 6 rfl rfl), nd_X9_9⟩
abbrev MX1_init : jM := (RX1, cX1_init, 1, none, true)
theorem ci_X9_11 : jCI RX9 11 yX1_init MX1_init 0 := ⟨(jt1 167 rfl rfl), rfl, (jt1 166 rfl rfl), (jt1 6 rfl rfl), rfl, ⟨by decide, by decide, by decide +kernel⟩, Or.inr ⟨"BeanStreet", (jn1 165 rfl rfl)⟩⟩
theorem fw_X1_9 : jFW RX1 9 1 0 (.array .int) true := ⟨_, _, _, tyX1, rfl, iX1, tyX1_ok, nmX1, by decide, rfl, rfl, (fun _ => ⟨rfl, (jt1 169 rfl rfl)⟩), Or.inl (jt1 169 rfl rfl)⟩
theorem fw_X1_13 : jFW RX1 13 1 1 (.array .long) true := ⟨_, _, _, tyX1, rfl, iX1, tyX1_ok, nmX1, by decide, rfl, rfl, (fun _ => ⟨rfl, (jt1 170 rfl rfl)⟩), Or.inl (jt1 170 rfl rfl)⟩
theorem fw_X9_12 : jFW RX9 12 9 2 (.object "BeanStreet$Judge") true := ⟨_, _, _, tyX9, rfl, iX9, tyX9_ok, nmX9, by decide, rfl, rfl, (fun _ => ⟨rfl, (jt1 197 rfl rfl)⟩), Or.inl (jt1 197 rfl rfl)⟩
theorem fw_X9_18 : jFW RX9 18 9 3 (.array .int) true := ⟨_, _, _, tyX9, rfl, iX9, tyX9_ok, nmX9, by decide, rfl, rfl, (fun _ => ⟨rfl, (jt1 198 rfl rfl)⟩), Or.inl (jt1 198 rfl rfl)⟩
theorem fw_X9_22 : jFW RX9 22 9 4 (.array .int) true := ⟨_, _, _, tyX9, rfl, iX9, tyX9_ok, nmX9, by decide, rfl, rfl, (fun _ => ⟨rfl, (jt1 199 rfl rfl)⟩), Or.inl (jt1 199 rfl rfl)⟩
theorem fw_X9_28 : jFW RX9 28 9 6 (.array .int) true := ⟨_, _, _, tyX9, rfl, iX9, tyX9_ok, nmX9, by decide, rfl, rfl, (fun _ => ⟨rfl, (jt1 201 rfl rfl)⟩), Or.inl (jt1 201 rfl rfl)⟩
theorem fw_X9_42 : jFW RX9 42 9 0 (.object "BeanStreet$State") true := ⟨_, _, _, tyX9, rfl, iX9, tyX9_ok, nmX9, by decide, rfl, rfl, (fun _ => ⟨rfl, (jt1 195 rfl rfl)⟩), Or.inl (jt1 195 rfl rfl)⟩
theorem fw_X9_46 : jFW RX9 46 9 1 (.object "BeanStreet$Houses") true := ⟨_, _, _, tyX9, rfl, iX9, tyX9_ok, nmX9, by decide, rfl, rfl, (fun _ => ⟨rfl, (jt1 196 rfl rfl)⟩), Or.inl (jt1 196 rfl rfl)⟩
theorem fw_X11_43 : jFW RX11 43 11 5 (.object "BeanStreet$Streets") true := ⟨_, _, _, tyX11, rfl, iX11, tyX11_ok, nmX11, by decide, rfl, rfl, (fun _ => ⟨rfl, (jt2 215 rfl rfl)⟩), Or.inl (jt2 215 rfl rfl)⟩
theorem nd_X11_47 : ∀ j : Nat, j < 17 → defaultValue (tyX10 j) = vp_V [.null, .null, .null, .null, .null, .int 0, .int 0, .int 0, .null, .null, .null, .null, .int 0, .int 0, .int 0, .null, .null] j
  | 0, _ => rfl
  | 1, _ => rfl
  | 2, _ => rfl
  | 3, _ => rfl
  | 4, _ => rfl
  | 5, _ => rfl
  | 6, _ => rfl
  | 7, _ => rfl
  | 8, _ => rfl
  | 9, _ => rfl
  | 10, _ => rfl
  | 11, _ => rfl
  | 12, _ => rfl
  | 13, _ => rfl
  | 14, _ => rfl
  | 15, _ => rfl
  | 16, _ => rfl
  | (n + 17), h => absurd h (by omega)
theorem nw_X11_47 : jNW RX11 47 10 17 [.null, .null, .null, .null, .null, .int 0, .int 0, .int 0, .null, .null, .null, .null, .int 0, .int 0, .int 0, .null, .null] := ⟨_, _, tyX10, rfl, iX10, tyX10_ok, (jt1 226 rfl rfl), (jt1 227 rfl rfl), (jt1 7 rfl rfl), nd_X11_47⟩
abbrev MX10_init : jM := (RX10, cX10_init, 3, none, true)
theorem ci_X11_49 : jCI RX11 49 yX10_init MX10_init 2 := ⟨(jt1 230 rfl rfl), rfl, (jt1 229 rfl rfl), (jt1 7 rfl rfl), rfl, ⟨by decide, by decide, by decide +kernel⟩, Or.inl (jt1 228 rfl rfl)⟩
theorem fw_X10_9 : jFW RX10 9 10 2 (.array .int) true := ⟨_, _, _, tyX10, rfl, iX10, tyX10_ok, nmX10, by decide, rfl, rfl, (fun _ => ⟨rfl, (jt1 234 rfl rfl)⟩), Or.inl (jt1 234 rfl rfl)⟩
theorem fw_X10_15 : jFW RX10 15 10 3 (.array .int) true := ⟨_, _, _, tyX10, rfl, iX10, tyX10_ok, nmX10, by decide, rfl, rfl, (fun _ => ⟨rfl, (jt1 236 rfl rfl)⟩), Or.inl (jt1 236 rfl rfl)⟩
theorem fw_X10_18 : jFW RX10 18 10 4 (.array .int) true := ⟨_, _, _, tyX10, rfl, iX10, tyX10_ok, nmX10, by decide, rfl, rfl, (fun _ => ⟨rfl, (jt1 237 rfl rfl)⟩), Or.inl (jt1 237 rfl rfl)⟩
theorem fw_X10_31 : jFW RX10 31 10 8 (.array .int) true := ⟨_, _, _, tyX10, rfl, iX10, tyX10_ok, nmX10, by decide, rfl, rfl, (fun _ => ⟨rfl, (jt2 1 rfl rfl)⟩), Or.inl (jt2 1 rfl rfl)⟩
theorem fw_X10_34 : jFW RX10 34 10 9 (.array .int) true := ⟨_, _, _, tyX10, rfl, iX10, tyX10_ok, nmX10, by decide, rfl, rfl, (fun _ => ⟨rfl, (jt2 2 rfl rfl)⟩), Or.inl (jt2 2 rfl rfl)⟩
theorem fw_X10_37 : jFW RX10 37 10 10 (.array .int) true := ⟨_, _, _, tyX10, rfl, iX10, tyX10_ok, nmX10, by decide, rfl, rfl, (fun _ => ⟨rfl, (jt2 3 rfl rfl)⟩), Or.inl (jt2 3 rfl rfl)⟩
theorem fw_X10_40 : jFW RX10 40 10 11 (.array .int) true := ⟨_, _, _, tyX10, rfl, iX10, tyX10_ok, nmX10, by decide, rfl, rfl, (fun _ => ⟨rfl, (jt2 4 rfl rfl)⟩), Or.inl (jt2 4 rfl rfl)⟩
theorem fw_X10_59 : jFW RX10 59 10 0 (.object "BeanStreet$Houses") true := ⟨_, _, _, tyX10, rfl, iX10, tyX10_ok, nmX10, by decide, rfl, rfl, (fun _ => ⟨rfl, (jt1 232 rfl rfl)⟩), Or.inl (jt1 232 rfl rfl)⟩
theorem fw_X10_63 : jFW RX10 63 10 1 (.object "BeanStreet$Streets") true := ⟨_, _, _, tyX10, rfl, iX10, tyX10_ok, nmX10, by decide, rfl, rfl, (fun _ => ⟨rfl, (jt1 233 rfl rfl)⟩), Or.inl (jt1 233 rfl rfl)⟩
theorem fw_X11_52 : jFW RX11 52 11 6 (.object "BeanStreet$Walks") true := ⟨_, _, _, tyX11, rfl, iX11, tyX11_ok, nmX11, by decide, rfl, rfl, (fun _ => ⟨rfl, (jt2 216 rfl rfl)⟩), Or.inl (jt2 216 rfl rfl)⟩
theorem nd_X11_56 : ∀ j : Nat, j < 8 → defaultValue (tyX3 j) = vp_V [.null, .null, .null, .null, .null, .null, .null, .int 0] j
  | 0, _ => rfl
  | 1, _ => rfl
  | 2, _ => rfl
  | 3, _ => rfl
  | 4, _ => rfl
  | 5, _ => rfl
  | 6, _ => rfl
  | 7, _ => rfl
  | (n + 8), h => absurd h (by omega)
theorem nw_X11_56 : jNW RX11 56 3 8 [.null, .null, .null, .null, .null, .null, .null, .int 0] := ⟨_, _, tyX3, rfl, iX3, tyX3_ok, (jt2 45 rfl rfl), (jt2 46 rfl rfl), (jt1 8 rfl rfl), nd_X11_56⟩
abbrev MX3_init : jM := (RX3, cX3_init, 3, none, true)
theorem ci_X11_58 : jCI RX11 58 yX3_init MX3_init 2 := ⟨(jt2 49 rfl rfl), rfl, (jt2 48 rfl rfl), (jt1 8 rfl rfl), rfl, ⟨by decide, by decide, by decide +kernel⟩, Or.inl (jt2 47 rfl rfl)⟩
theorem fw_X3_20 : jFW RX3 20 3 4 (.array .int) true := ⟨_, _, _, tyX3, rfl, iX3, tyX3_ok, nmX3, by decide, rfl, rfl, (fun _ => ⟨rfl, (jt2 55 rfl rfl)⟩), Or.inl (jt2 55 rfl rfl)⟩
theorem fw_X3_23 : jFW RX3 23 3 5 (.array .int) true := ⟨_, _, _, tyX3, rfl, iX3, tyX3_ok, nmX3, by decide, rfl, rfl, (fun _ => ⟨rfl, (jt2 56 rfl rfl)⟩), Or.inl (jt2 56 rfl rfl)⟩
theorem fw_X3_26 : jFW RX3 26 3 6 (.array .int) true := ⟨_, _, _, tyX3, rfl, iX3, tyX3_ok, nmX3, by decide, rfl, rfl, (fun _ => ⟨rfl, (jt2 57 rfl rfl)⟩), Or.inl (jt2 57 rfl rfl)⟩
theorem fw_X3_33 : jFW RX3 33 3 0 (.object "BeanStreet$Houses") true := ⟨_, _, _, tyX3, rfl, iX3, tyX3_ok, nmX3, by decide, rfl, rfl, (fun _ => ⟨rfl, (jt2 51 rfl rfl)⟩), Or.inl (jt2 51 rfl rfl)⟩
theorem fw_X3_37 : jFW RX3 37 3 1 (.object "BeanStreet$Streets") true := ⟨_, _, _, tyX3, rfl, iX3, tyX3_ok, nmX3, by decide, rfl, rfl, (fun _ => ⟨rfl, (jt2 52 rfl rfl)⟩), Or.inl (jt2 52 rfl rfl)⟩
theorem fw_X11_59 : jFW RX11 59 11 7 (.object "BeanStreet$Parting") true := ⟨_, _, _, tyX11, rfl, iX11, tyX11_ok, nmX11, by decide, rfl, rfl, (fun _ => ⟨rfl, (jt2 217 rfl rfl)⟩), Or.inl (jt2 217 rfl rfl)⟩
theorem nd_X11_63 : ∀ j : Nat, j < 7 → defaultValue (tyX7 j) = vp_V [.null, .null, .null, .null, .null, .int 0, .int 0] j
  | 0, _ => rfl
  | 1, _ => rfl
  | 2, _ => rfl
  | 3, _ => rfl
  | 4, _ => rfl
  | 5, _ => rfl
  | 6, _ => rfl
  | (n + 7), h => absurd h (by omega)
theorem nw_X11_63 : jNW RX11 63 7 7 [.null, .null, .null, .null, .null, .int 0, .int 0] := ⟨_, _, tyX7, rfl, iX7, tyX7_ok, (jt2 76 rfl rfl), (jt2 77 rfl rfl), (jt1 9 rfl rfl), nd_X11_63⟩
abbrev MX7_init : jM := (RX7, cX7_init, 3, none, true)
theorem ci_X11_65 : jCI RX11 65 yX7_init MX7_init 2 := ⟨(jt2 80 rfl rfl), rfl, (jt2 79 rfl rfl), (jt1 9 rfl rfl), rfl, ⟨by decide, by decide, by decide +kernel⟩, Or.inl (jt2 78 rfl rfl)⟩
theorem fw_X7_11 : jFW RX7 11 7 2 (.array .int) true := ⟨_, _, _, tyX7, rfl, iX7, tyX7_ok, nmX7, by decide, rfl, rfl, (fun _ => ⟨rfl, (jt2 84 rfl rfl)⟩), Or.inl (jt2 84 rfl rfl)⟩
theorem fw_X7_15 : jFW RX7 15 7 3 (.array .int) true := ⟨_, _, _, tyX7, rfl, iX7, tyX7_ok, nmX7, by decide, rfl, rfl, (fun _ => ⟨rfl, (jt2 85 rfl rfl)⟩), Or.inl (jt2 85 rfl rfl)⟩
theorem fw_X7_29 : jFW RX7 29 7 0 (.object "BeanStreet$Houses") true := ⟨_, _, _, tyX7, rfl, iX7, tyX7_ok, nmX7, by decide, rfl, rfl, (fun _ => ⟨rfl, (jt2 82 rfl rfl)⟩), Or.inl (jt2 82 rfl rfl)⟩
theorem fw_X7_33 : jFW RX7 33 7 1 (.object "BeanStreet$Streets") true := ⟨_, _, _, tyX7, rfl, iX7, tyX7_ok, nmX7, by decide, rfl, rfl, (fun _ => ⟨rfl, (jt2 83 rfl rfl)⟩), Or.inl (jt2 83 rfl rfl)⟩
theorem fw_X11_66 : jFW RX11 66 11 8 (.object "BeanStreet$Rounds") true := ⟨_, _, _, tyX11, rfl, iX11, tyX11_ok, nmX11, by decide, rfl, rfl, (fun _ => ⟨rfl, (jt2 218 rfl rfl)⟩), Or.inl (jt2 218 rfl rfl)⟩
theorem nd_X11_70 : ∀ j : Nat, j < 4 → defaultValue (tyX2 j) = vp_V [.null, .null, .null, .null] j
  | 0, _ => rfl
  | 1, _ => rfl
  | 2, _ => rfl
  | 3, _ => rfl
  | (n + 4), h => absurd h (by omega)
theorem nw_X11_70 : jNW RX11 70 2 4 [.null, .null, .null, .null] := ⟨_, _, tyX2, rfl, iX2, tyX2_ok, (jt2 104 rfl rfl), (jt2 105 rfl rfl), (jt1 10 rfl rfl), nd_X11_70⟩
abbrev MX2_init : jM := (RX2, cX2_init, 3, none, true)
theorem ci_X11_72 : jCI RX11 72 yX2_init MX2_init 2 := ⟨(jt2 108 rfl rfl), rfl, (jt2 107 rfl rfl), (jt1 10 rfl rfl), rfl, ⟨by decide, by decide, by decide +kernel⟩, Or.inl (jt2 106 rfl rfl)⟩
theorem fw_X2_9 : jFW RX2 9 2 2 (.array .int) true := ⟨_, _, _, tyX2, rfl, iX2, tyX2_ok, nmX2, by decide, rfl, rfl, (fun _ => ⟨rfl, (jt2 112 rfl rfl)⟩), Or.inl (jt2 112 rfl rfl)⟩
theorem fw_X2_15 : jFW RX2 15 2 3 (.array .int) true := ⟨_, _, _, tyX2, rfl, iX2, tyX2_ok, nmX2, by decide, rfl, rfl, (fun _ => ⟨rfl, (jt2 113 rfl rfl)⟩), Or.inl (jt2 113 rfl rfl)⟩
theorem fw_X2_18 : jFW RX2 18 2 0 (.object "BeanStreet$State") true := ⟨_, _, _, tyX2, rfl, iX2, tyX2_ok, nmX2, by decide, rfl, rfl, (fun _ => ⟨rfl, (jt2 110 rfl rfl)⟩), Or.inl (jt2 110 rfl rfl)⟩
theorem fw_X2_22 : jFW RX2 22 2 1 (.object "BeanStreet$Houses") true := ⟨_, _, _, tyX2, rfl, iX2, tyX2_ok, nmX2, by decide, rfl, rfl, (fun _ => ⟨rfl, (jt2 111 rfl rfl)⟩), Or.inl (jt2 111 rfl rfl)⟩
theorem fw_X11_73 : jFW RX11 73 11 9 (.object "BeanStreet$Machine") true := ⟨_, _, _, tyX11, rfl, iX11, tyX11_ok, nmX11, by decide, rfl, rfl, (fun _ => ⟨rfl, (jt2 219 rfl rfl)⟩), Or.inl (jt2 219 rfl rfl)⟩
theorem nd_X11_77 : ∀ j : Nat, j < 13 → defaultValue (tyX6 j) = vp_V [.null, .null, .null, .null, .null, .null, .int 0, .int 0, .null, .null, .int 0, .int 0, .int 0] j
  | 0, _ => rfl
  | 1, _ => rfl
  | 2, _ => rfl
  | 3, _ => rfl
  | 4, _ => rfl
  | 5, _ => rfl
  | 6, _ => rfl
  | 7, _ => rfl
  | 8, _ => rfl
  | 9, _ => rfl
  | 10, _ => rfl
  | 11, _ => rfl
  | 12, _ => rfl
  | (n + 13), h => absurd h (by omega)
theorem nw_X11_77 : jNW RX11 77 6 13 [.null, .null, .null, .null, .null, .null, .int 0, .int 0, .null, .null, .int 0, .int 0, .int 0] := ⟨_, _, tyX6, rfl, iX6, tyX6_ok, (jt2 123 rfl rfl), (jt2 124 rfl rfl), (jt1 11 rfl rfl), nd_X11_77⟩
abbrev MX6_init : jM := (RX6, cX6_init, 5, none, true)
theorem ci_X11_79 : jCI RX11 79 yX6_init MX6_init 4 := ⟨(jt2 127 rfl rfl), rfl, (jt2 126 rfl rfl), (jt1 11 rfl rfl), rfl, ⟨by decide, by decide, by decide +kernel⟩, Or.inl (jt2 125 rfl rfl)⟩
theorem fw_X6_9 : jFW RX6 9 6 4 (.array .boolean) true := ⟨_, _, _, tyX6, rfl, iX6, tyX6_ok, nmX6, by decide, rfl, rfl, (fun _ => ⟨rfl, (jt2 133 rfl rfl)⟩), Or.inl (jt2 133 rfl rfl)⟩
theorem fw_X6_15 : jFW RX6 15 6 5 (.array .int) true := ⟨_, _, _, tyX6, rfl, iX6, tyX6_ok, nmX6, by decide, rfl, rfl, (fun _ => ⟨rfl, (jt2 134 rfl rfl)⟩), Or.inl (jt2 134 rfl rfl)⟩
theorem fw_X6_26 : jFW RX6 26 6 8 (.array .int) true := ⟨_, _, _, tyX6, rfl, iX6, tyX6_ok, nmX6, by decide, rfl, rfl, (fun _ => ⟨rfl, (jt2 137 rfl rfl)⟩), Or.inl (jt2 137 rfl rfl)⟩
theorem fw_X6_29 : jFW RX6 29 6 9 (.array .int) true := ⟨_, _, _, tyX6, rfl, iX6, tyX6_ok, nmX6, by decide, rfl, rfl, (fun _ => ⟨rfl, (jt2 138 rfl rfl)⟩), Or.inl (jt2 138 rfl rfl)⟩
theorem fw_X6_41 : jFW RX6 41 6 0 (.object "BeanStreet$State") true := ⟨_, _, _, tyX6, rfl, iX6, tyX6_ok, nmX6, by decide, rfl, rfl, (fun _ => ⟨rfl, (jt2 129 rfl rfl)⟩), Or.inl (jt2 129 rfl rfl)⟩
theorem fw_X6_45 : jFW RX6 45 6 1 (.object "BeanStreet$Houses") true := ⟨_, _, _, tyX6, rfl, iX6, tyX6_ok, nmX6, by decide, rfl, rfl, (fun _ => ⟨rfl, (jt2 130 rfl rfl)⟩), Or.inl (jt2 130 rfl rfl)⟩
theorem fw_X6_49 : jFW RX6 49 6 2 (.object "BeanStreet$Streets") true := ⟨_, _, _, tyX6, rfl, iX6, tyX6_ok, nmX6, by decide, rfl, rfl, (fun _ => ⟨rfl, (jt2 131 rfl rfl)⟩), Or.inl (jt2 131 rfl rfl)⟩
theorem fw_X6_53 : jFW RX6 53 6 3 (.object "BeanStreet$Walks") true := ⟨_, _, _, tyX6, rfl, iX6, tyX6_ok, nmX6, by decide, rfl, rfl, (fun _ => ⟨rfl, (jt2 132 rfl rfl)⟩), Or.inl (jt2 132 rfl rfl)⟩
theorem fw_X11_82 : jFW RX11 82 11 10 (.object "BeanStreet$Riddle") true := ⟨_, _, _, tyX11, rfl, iX11, tyX11_ok, nmX11, by decide, rfl, rfl, (fun _ => ⟨rfl, (jt2 220 rfl rfl)⟩), Or.inl (jt2 220 rfl rfl)⟩
theorem nd_X11_86 : ∀ j : Nat, j < 5 → defaultValue (tyX4 j) = vp_V [.null, .null, .null, .null, .int 0] j
  | 0, _ => rfl
  | 1, _ => rfl
  | 2, _ => rfl
  | 3, _ => rfl
  | 4, _ => rfl
  | (n + 5), h => absurd h (by omega)
theorem nw_X11_86 : jNW RX11 86 4 5 [.null, .null, .null, .null, .int 0] := ⟨_, _, tyX4, rfl, iX4, tyX4_ok, (jt2 169 rfl rfl), (jt2 170 rfl rfl), (jt1 12 rfl rfl), nd_X11_86⟩
abbrev MX4_init : jM := (RX4, cX4_init, 3, none, true)
theorem ci_X11_88 : jCI RX11 88 yX4_init MX4_init 2 := ⟨(jt2 173 rfl rfl), rfl, (jt2 172 rfl rfl), (jt1 12 rfl rfl), rfl, ⟨by decide, by decide, by decide +kernel⟩, Or.inl (jt2 171 rfl rfl)⟩
theorem fw_X4_22 : jFW RX4 22 4 0 (.object "BeanStreet$Houses") true := ⟨_, _, _, tyX4, rfl, iX4, tyX4_ok, nmX4, by decide, rfl, rfl, (fun _ => ⟨rfl, (jt2 175 rfl rfl)⟩), Or.inl (jt2 175 rfl rfl)⟩
theorem fw_X4_26 : jFW RX4 26 4 1 (.object "BeanStreet$Streets") true := ⟨_, _, _, tyX4, rfl, iX4, tyX4_ok, nmX4, by decide, rfl, rfl, (fun _ => ⟨rfl, (jt2 176 rfl rfl)⟩), Or.inl (jt2 176 rfl rfl)⟩
theorem fw_X11_89 : jFW RX11 89 11 11 (.object "BeanStreet$Postmen") true := ⟨_, _, _, tyX11, rfl, iX11, tyX11_ok, nmX11, by decide, rfl, rfl, (fun _ => ⟨rfl, (jt2 221 rfl rfl)⟩), Or.inl (jt2 221 rfl rfl)⟩
theorem fw_X11_93 : jFW RX11 93 11 12 (.array .int) true := ⟨_, _, _, tyX11, rfl, iX11, tyX11_ok, nmX11, by decide, rfl, rfl, (fun _ => ⟨rfl, (jt2 222 rfl rfl)⟩), Or.inl (jt2 222 rfl rfl)⟩
theorem fw_X11_104 : jFW RX11 104 11 15 (.array .int) true := ⟨_, _, _, tyX11, rfl, iX11, tyX11_ok, nmX11, by decide, rfl, rfl, (fun _ => ⟨rfl, (jt2 225 rfl rfl)⟩), Or.inl (jt2 225 rfl rfl)⟩
theorem nd_L_10 : ∀ j : Nat, j < 56 → defaultValue (tyX12 j) = vp_V [.int 0, .int 0, .null, .null, .null, .null, .null, .null, .null, .int 0, .int 0, .null, .null, .null, .int 0, .int 0, .int 0, .int 0, .int 0, .int 0, .int 0, .null, .int 0, .int 0, .null, .null, .null, .null, .null, .null, .null, .null, .int 0, .int 0, .int 0, .int 0, .null, .null, .null, .null, .null, .null, .null, .null, .null, .null, .null, .null, .int 0, .null, .null, .null, .null, .null, .int 0, .int 0] j
  | 0, _ => rfl
  | 1, _ => rfl
  | 2, _ => rfl
  | 3, _ => rfl
  | 4, _ => rfl
  | 5, _ => rfl
  | 6, _ => rfl
  | 7, _ => rfl
  | 8, _ => rfl
  | 9, _ => rfl
  | 10, _ => rfl
  | 11, _ => rfl
  | 12, _ => rfl
  | 13, _ => rfl
  | 14, _ => rfl
  | 15, _ => rfl
  | 16, _ => rfl
  | 17, _ => rfl
  | 18, _ => rfl
  | 19, _ => rfl
  | 20, _ => rfl
  | 21, _ => rfl
  | 22, _ => rfl
  | 23, _ => rfl
  | 24, _ => rfl
  | 25, _ => rfl
  | 26, _ => rfl
  | 27, _ => rfl
  | 28, _ => rfl
  | 29, _ => rfl
  | 30, _ => rfl
  | 31, _ => rfl
  | 32, _ => rfl
  | 33, _ => rfl
  | 34, _ => rfl
  | 35, _ => rfl
  | 36, _ => rfl
  | 37, _ => rfl
  | 38, _ => rfl
  | 39, _ => rfl
  | 40, _ => rfl
  | 41, _ => rfl
  | 42, _ => rfl
  | 43, _ => rfl
  | 44, _ => rfl
  | 45, _ => rfl
  | 46, _ => rfl
  | 47, _ => rfl
  | 48, _ => rfl
  | 49, _ => rfl
  | 50, _ => rfl
  | 51, _ => rfl
  | 52, _ => rfl
  | 53, _ => rfl
  | 54, _ => rfl
  | 55, _ => rfl
  | (n + 56), h => absurd h (by omega)
theorem nw_L_10 : jNW RL 10 12 56 [.int 0, .int 0, .null, .null, .null, .null, .null, .null, .null, .int 0, .int 0, .null, .null, .null, .int 0, .int 0, .int 0, .int 0, .int 0, .int 0, .int 0, .null, .int 0, .int 0, .null, .null, .null, .null, .null, .null, .null, .null, .int 0, .int 0, .int 0, .int 0, .null, .null, .null, .null, .null, .null, .null, .null, .null, .null, .null, .null, .int 0, .null, .null, .null, .null, .null, .int 0, .int 0] := ⟨_, _, tyX12, rfl, iX12, tyX12_ok, (jt6 67 rfl rfl), (jt6 68 rfl rfl), (jt1 13 rfl rfl), nd_L_10⟩
abbrev MX12_init : jM := (RX12, cX12_init, 1, none, true)
theorem ci_L_12 : jCI RL 12 yX12_init MX12_init 0 := ⟨(jt6 71 rfl rfl), rfl, (jt6 70 rfl rfl), (jt1 13 rfl rfl), rfl, ⟨by decide, by decide, by decide +kernel⟩, Or.inl (jt6 69 rfl rfl)⟩
theorem fw_X12_7 : jFW RX12 7 12 2 (.array .int) true := ⟨_, _, _, tyX12, rfl, iX12, tyX12_ok, nmX12, by decide, rfl, rfl, (fun _ => ⟨rfl, (jt6 76 rfl rfl)⟩), Or.inl (jt6 76 rfl rfl)⟩
theorem fw_X12_20 : jFW RX12 20 12 3 (.array .int) true := ⟨_, _, _, tyX12, rfl, iX12, tyX12_ok, nmX12, by decide, rfl, rfl, (fun _ => ⟨rfl, (jt6 77 rfl rfl)⟩), Or.inl (jt6 77 rfl rfl)⟩
theorem fw_X12_23 : jFW RX12 23 12 4 (.array .int) true := ⟨_, _, _, tyX12, rfl, iX12, tyX12_ok, nmX12, by decide, rfl, rfl, (fun _ => ⟨rfl, (jt6 78 rfl rfl)⟩), Or.inl (jt6 78 rfl rfl)⟩
theorem fw_X12_26 : jFW RX12 26 12 5 (.array .boolean) true := ⟨_, _, _, tyX12, rfl, iX12, tyX12_ok, nmX12, by decide, rfl, rfl, (fun _ => ⟨rfl, (jt6 79 rfl rfl)⟩), Or.inl (jt6 79 rfl rfl)⟩
theorem fw_X12_30 : jFW RX12 30 12 6 (.array .byte) true := ⟨_, _, _, tyX12, rfl, iX12, tyX12_ok, nmX12, by decide, rfl, rfl, (fun _ => ⟨rfl, (jt6 80 rfl rfl)⟩), Or.inl (jt6 80 rfl rfl)⟩
theorem fw_X12_34 : jFW RX12 34 12 7 (.array .byte) true := ⟨_, _, _, tyX12, rfl, iX12, tyX12_ok, nmX12, by decide, rfl, rfl, (fun _ => ⟨rfl, (jt6 81 rfl rfl)⟩), Or.inl (jt6 81 rfl rfl)⟩
theorem fw_X12_37 : jFW RX12 37 12 8 (.array .int) true := ⟨_, _, _, tyX12, rfl, iX12, tyX12_ok, nmX12, by decide, rfl, rfl, (fun _ => ⟨rfl, (jt6 82 rfl rfl)⟩), Or.inl (jt6 82 rfl rfl)⟩
theorem fw_X12_43 : jFW RX12 43 12 11 (.array .int) true := ⟨_, _, _, tyX12, rfl, iX12, tyX12_ok, nmX12, by decide, rfl, rfl, (fun _ => ⟨rfl, (jt6 85 rfl rfl)⟩), Or.inl (jt6 85 rfl rfl)⟩
theorem fw_X12_46 : jFW RX12 46 12 12 (.array .int) true := ⟨_, _, _, tyX12, rfl, iX12, tyX12_ok, nmX12, by decide, rfl, rfl, (fun _ => ⟨rfl, (jt6 86 rfl rfl)⟩), Or.inl (jt6 86 rfl rfl)⟩
theorem fw_X12_49 : jFW RX12 49 12 13 (.array .int) true := ⟨_, _, _, tyX12, rfl, iX12, tyX12_ok, nmX12, by decide, rfl, rfl, (fun _ => ⟨rfl, (jt6 87 rfl rfl)⟩), Or.inl (jt6 87 rfl rfl)⟩
theorem fw_X12_52 : jFW RX12 52 12 21 (.array .int) true := ⟨_, _, _, tyX12, rfl, iX12, tyX12_ok, nmX12, by decide, rfl, rfl, (fun _ => ⟨rfl, (jt6 95 rfl rfl)⟩), Or.inl (jt6 95 rfl rfl)⟩
theorem fw_X12_55 : jFW RX12 55 12 24 (.array .int) true := ⟨_, _, _, tyX12, rfl, iX12, tyX12_ok, nmX12, by decide, rfl, rfl, (fun _ => ⟨rfl, (jt6 98 rfl rfl)⟩), Or.inl (jt6 98 rfl rfl)⟩
theorem fw_X12_58 : jFW RX12 58 12 25 (.array .int) true := ⟨_, _, _, tyX12, rfl, iX12, tyX12_ok, nmX12, by decide, rfl, rfl, (fun _ => ⟨rfl, (jt6 99 rfl rfl)⟩), Or.inl (jt6 99 rfl rfl)⟩
theorem fw_X12_61 : jFW RX12 61 12 26 (.array .int) true := ⟨_, _, _, tyX12, rfl, iX12, tyX12_ok, nmX12, by decide, rfl, rfl, (fun _ => ⟨rfl, (jt6 100 rfl rfl)⟩), Or.inl (jt6 100 rfl rfl)⟩
theorem fw_X12_64 : jFW RX12 64 12 27 (.array .int) true := ⟨_, _, _, tyX12, rfl, iX12, tyX12_ok, nmX12, by decide, rfl, rfl, (fun _ => ⟨rfl, (jt6 101 rfl rfl)⟩), Or.inl (jt6 101 rfl rfl)⟩
theorem fw_X12_67 : jFW RX12 67 12 28 (.array .int) true := ⟨_, _, _, tyX12, rfl, iX12, tyX12_ok, nmX12, by decide, rfl, rfl, (fun _ => ⟨rfl, (jt6 102 rfl rfl)⟩), Or.inl (jt6 102 rfl rfl)⟩
theorem fw_X12_70 : jFW RX12 70 12 29 (.array .int) true := ⟨_, _, _, tyX12, rfl, iX12, tyX12_ok, nmX12, by decide, rfl, rfl, (fun _ => ⟨rfl, (jt6 103 rfl rfl)⟩), Or.inl (jt6 103 rfl rfl)⟩
theorem fw_X12_73 : jFW RX12 73 12 30 (.array .int) true := ⟨_, _, _, tyX12, rfl, iX12, tyX12_ok, nmX12, by decide, rfl, rfl, (fun _ => ⟨rfl, (jt6 104 rfl rfl)⟩), Or.inl (jt6 104 rfl rfl)⟩
theorem fw_X12_76 : jFW RX12 76 12 31 (.array .int) true := ⟨_, _, _, tyX12, rfl, iX12, tyX12_ok, nmX12, by decide, rfl, rfl, (fun _ => ⟨rfl, (jt6 105 rfl rfl)⟩), Or.inl (jt6 105 rfl rfl)⟩
theorem fw_X12_85 : jFW RX12 85 12 36 (.array .int) true := ⟨_, _, _, tyX12, rfl, iX12, tyX12_ok, nmX12, by decide, rfl, rfl, (fun _ => ⟨rfl, (jt6 110 rfl rfl)⟩), Or.inl (jt6 110 rfl rfl)⟩
theorem fw_X12_88 : jFW RX12 88 12 37 (.array .long) true := ⟨_, _, _, tyX12, rfl, iX12, tyX12_ok, nmX12, by decide, rfl, rfl, (fun _ => ⟨rfl, (jt6 111 rfl rfl)⟩), Or.inl (jt6 111 rfl rfl)⟩
theorem fw_X12_92 : jFW RX12 92 12 38 (.array .int) true := ⟨_, _, _, tyX12, rfl, iX12, tyX12_ok, nmX12, by decide, rfl, rfl, (fun _ => ⟨rfl, (jt6 112 rfl rfl)⟩), Or.inl (jt6 112 rfl rfl)⟩
theorem fw_X12_95 : jFW RX12 95 12 39 (.array .int) true := ⟨_, _, _, tyX12, rfl, iX12, tyX12_ok, nmX12, by decide, rfl, rfl, (fun _ => ⟨rfl, (jt6 113 rfl rfl)⟩), Or.inl (jt6 113 rfl rfl)⟩
theorem fw_X12_98 : jFW RX12 98 12 40 (.array .boolean) true := ⟨_, _, _, tyX12, rfl, iX12, tyX12_ok, nmX12, by decide, rfl, rfl, (fun _ => ⟨rfl, (jt6 114 rfl rfl)⟩), Or.inl (jt6 114 rfl rfl)⟩
theorem fw_X12_101 : jFW RX12 101 12 41 (.array .int) true := ⟨_, _, _, tyX12, rfl, iX12, tyX12_ok, nmX12, by decide, rfl, rfl, (fun _ => ⟨rfl, (jt6 115 rfl rfl)⟩), Or.inl (jt6 115 rfl rfl)⟩
theorem fw_X12_104 : jFW RX12 104 12 42 (.array .boolean) true := ⟨_, _, _, tyX12, rfl, iX12, tyX12_ok, nmX12, by decide, rfl, rfl, (fun _ => ⟨rfl, (jt6 116 rfl rfl)⟩), Or.inl (jt6 116 rfl rfl)⟩
theorem fw_X12_107 : jFW RX12 107 12 43 (.array .int) true := ⟨_, _, _, tyX12, rfl, iX12, tyX12_ok, nmX12, by decide, rfl, rfl, (fun _ => ⟨rfl, (jt6 117 rfl rfl)⟩), Or.inl (jt6 117 rfl rfl)⟩
theorem fw_X12_110 : jFW RX12 110 12 44 (.array .int) true := ⟨_, _, _, tyX12, rfl, iX12, tyX12_ok, nmX12, by decide, rfl, rfl, (fun _ => ⟨rfl, (jt6 118 rfl rfl)⟩), Or.inl (jt6 118 rfl rfl)⟩
theorem fw_X12_113 : jFW RX12 113 12 45 (.array .long) true := ⟨_, _, _, tyX12, rfl, iX12, tyX12_ok, nmX12, by decide, rfl, rfl, (fun _ => ⟨rfl, (jt6 119 rfl rfl)⟩), Or.inl (jt6 119 rfl rfl)⟩
theorem fw_X12_116 : jFW RX12 116 12 46 (.array .long) true := ⟨_, _, _, tyX12, rfl, iX12, tyX12_ok, nmX12, by decide, rfl, rfl, (fun _ => ⟨rfl, (jt6 120 rfl rfl)⟩), Or.inl (jt6 120 rfl rfl)⟩
theorem fw_X12_120 : jFW RX12 120 12 47 (.array .boolean) true := ⟨_, _, _, tyX12, rfl, iX12, tyX12_ok, nmX12, by decide, rfl, rfl, (fun _ => ⟨rfl, (jt6 121 rfl rfl)⟩), Or.inl (jt6 121 rfl rfl)⟩
theorem fw_X12_123 : jFW RX12 123 12 49 (.array .boolean) true := ⟨_, _, _, tyX12, rfl, iX12, tyX12_ok, nmX12, by decide, rfl, rfl, (fun _ => ⟨rfl, (jt6 123 rfl rfl)⟩), Or.inl (jt6 123 rfl rfl)⟩
theorem fw_X12_126 : jFW RX12 126 12 50 (.array .int) true := ⟨_, _, _, tyX12, rfl, iX12, tyX12_ok, nmX12, by decide, rfl, rfl, (fun _ => ⟨rfl, (jt6 124 rfl rfl)⟩), Or.inl (jt6 124 rfl rfl)⟩
theorem fw_X12_129 : jFW RX12 129 12 51 (.array .int) true := ⟨_, _, _, tyX12, rfl, iX12, tyX12_ok, nmX12, by decide, rfl, rfl, (fun _ => ⟨rfl, (jt6 125 rfl rfl)⟩), Or.inl (jt6 125 rfl rfl)⟩
theorem fw_X12_132 : jFW RX12 132 12 52 (.array .int) true := ⟨_, _, _, tyX12, rfl, iX12, tyX12_ok, nmX12, by decide, rfl, rfl, (fun _ => ⟨rfl, (jt6 126 rfl rfl)⟩), Or.inl (jt6 126 rfl rfl)⟩
theorem fw_X12_135 : jFW RX12 135 12 53 (.array .int) true := ⟨_, _, _, tyX12, rfl, iX12, tyX12_ok, nmX12, by decide, rfl, rfl, (fun _ => ⟨rfl, (jt6 127 rfl rfl)⟩), Or.inl (jt6 127 rfl rfl)⟩
theorem dL_law_0 : decode cL_law 0 = .ok (.new 7, 3) := by decide +kernel
theorem dL_law_3 : decode cL_law 3 = .ok (.dup, 1) := by decide +kernel
theorem dL_law_4 : decode cL_law 4 = .ok (.invokespecial 9, 3) := by decide +kernel
theorem dX11_init_0 : decode cX11_init 0 = .ok (.aload_n 0, 1) := by decide +kernel
theorem dX11_init_1 : decode cX11_init 1 = .ok (.invokespecial 1, 3) := by decide +kernel
theorem dX11_init_4 : decode cX11_init 4 = .ok (.aload_n 0, 1) := by decide +kernel
theorem dX11_init_5 : decode cX11_init 5 = .ok (.new 7, 3) := by decide +kernel
theorem dX11_init_8 : decode cX11_init 8 = .ok (.dup, 1) := by decide +kernel
theorem dX11_init_9 : decode cX11_init 9 = .ok (.invokespecial 9, 3) := by decide +kernel
theorem dX8_init_0 : decode cX8_init 0 = .ok (.aload_n 0, 1) := by decide +kernel
theorem dX8_init_1 : decode cX8_init 1 = .ok (.invokespecial 3, 3) := by decide +kernel
theorem dX8_init_4 : decode cX8_init 4 = .ok (.aload_n 0, 1) := by decide +kernel
theorem dX8_init_5 : decode cX8_init 5 = .ok (.iconst 5, 1) := by decide +kernel
theorem dX8_init_6 : decode cX8_init 6 = .ok (.newarray .int, 2) := by decide +kernel
theorem dX8_init_8 : decode cX8_init 8 = .ok (.putfield 9, 3) := by decide +kernel
theorem dX8_init_11 : decode cX8_init 11 = .ok (.aload_n 0, 1) := by decide +kernel
theorem dX8_init_12 : decode cX8_init 12 = .ok (.iconst 2, 1) := by decide +kernel
theorem dX8_init_13 : decode cX8_init 13 = .ok (.newarray .int, 2) := by decide +kernel
theorem dX8_init_15 : decode cX8_init 15 = .ok (.putfield 15, 3) := by decide +kernel
theorem dX8_init_18 : decode cX8_init 18 = .ok (.aload_n 0, 1) := by decide +kernel
theorem dX8_init_19 : decode cX8_init 19 = .ok (.bipush 6, 2) := by decide +kernel
theorem dX8_init_21 : decode cX8_init 21 = .ok (.iconst 0, 1) := by decide +kernel
theorem dX8_init_22 : decode cX8_init 22 = .ok (.multianewarray 18 2, 4) := by decide +kernel
theorem dX8_init_26 : decode cX8_init 26 = .ok (.putfield 20, 3) := by decide +kernel
theorem dX8_init_29 : decode cX8_init 29 = .ok (.aload_n 0, 1) := by decide +kernel
theorem dX8_init_30 : decode cX8_init 30 = .ok (.iconst 0, 1) := by decide +kernel
theorem dX8_init_31 : decode cX8_init 31 = .ok (.putfield 23, 3) := by decide +kernel
theorem dX8_init_34 : decode cX8_init 34 = .ok (.aload_n 0, 1) := by decide +kernel
theorem dX8_init_35 : decode cX8_init 35 = .ok (.iconst (-1), 1) := by decide +kernel
theorem dX8_init_36 : decode cX8_init 36 = .ok (.putfield 27, 3) := by decide +kernel
theorem dX8_init_39 : decode cX8_init 39 = .ok (.aload_n 0, 1) := by decide +kernel
theorem dX8_init_40 : decode cX8_init 40 = .ok (.bipush 8, 2) := by decide +kernel
theorem dX8_init_42 : decode cX8_init 42 = .ok (.newarray .int, 2) := by decide +kernel
theorem dX8_init_44 : decode cX8_init 44 = .ok (.putfield 30, 3) := by decide +kernel
theorem dX8_init_47 : decode cX8_init 47 = .ok (.aload_n 0, 1) := by decide +kernel
theorem dX8_init_48 : decode cX8_init 48 = .ok (.bipush 8, 2) := by decide +kernel
theorem dX8_init_50 : decode cX8_init 50 = .ok (.newarray .int, 2) := by decide +kernel
theorem dX8_init_52 : decode cX8_init 52 = .ok (.putfield 33, 3) := by decide +kernel
theorem dX8_init_55 : decode cX8_init 55 = .ok (.aload_n 0, 1) := by decide +kernel
theorem dX8_init_56 : decode cX8_init 56 = .ok (.iconst 0, 1) := by decide +kernel
theorem dX8_init_57 : decode cX8_init 57 = .ok (.putfield 36, 3) := by decide +kernel
theorem dX8_init_60 : decode cX8_init 60 = .ok (.aload_n 0, 1) := by decide +kernel
theorem dX8_init_61 : decode cX8_init 61 = .ok (.bipush 6, 2) := by decide +kernel
theorem dX8_init_63 : decode cX8_init 63 = .ok (.newarray .int, 2) := by decide +kernel
theorem dX8_init_65 : decode cX8_init 65 = .ok (.putfield 39, 3) := by decide +kernel
theorem dX8_init_68 : decode cX8_init 68 = .ok (.aload_n 0, 1) := by decide +kernel
theorem dX8_init_69 : decode cX8_init 69 = .ok (.bipush 6, 2) := by decide +kernel
theorem dX8_init_71 : decode cX8_init 71 = .ok (.newarray .int, 2) := by decide +kernel
theorem dX8_init_73 : decode cX8_init 73 = .ok (.putfield 42, 3) := by decide +kernel
theorem dX8_init_76 : decode cX8_init 76 = .ok (.aload_n 0, 1) := by decide +kernel
theorem dX8_init_77 : decode cX8_init 77 = .ok (.iconst 0, 1) := by decide +kernel
theorem dX8_init_78 : decode cX8_init 78 = .ok (.putfield 45, 3) := by decide +kernel
theorem dX8_init_81 : decode cX8_init 81 = .ok (.aload_n 0, 1) := by decide +kernel
theorem dX8_init_82 : decode cX8_init 82 = .ok (.bipush 12, 2) := by decide +kernel
theorem dX8_init_84 : decode cX8_init 84 = .ok (.newarray .int, 2) := by decide +kernel
theorem dX8_init_86 : decode cX8_init 86 = .ok (.putfield 48, 3) := by decide +kernel
theorem dX8_init_89 : decode cX8_init 89 = .ok (.aload_n 0, 1) := by decide +kernel
theorem dX8_init_90 : decode cX8_init 90 = .ok (.bipush 12, 2) := by decide +kernel
theorem dX8_init_92 : decode cX8_init 92 = .ok (.newarray .int, 2) := by decide +kernel
theorem dX8_init_94 : decode cX8_init 94 = .ok (.putfield 51, 3) := by decide +kernel
theorem dX8_init_97 : decode cX8_init 97 = .ok (.aload_n 0, 1) := by decide +kernel
theorem dX8_init_98 : decode cX8_init 98 = .ok (.iconst 0, 1) := by decide +kernel
theorem dX8_init_99 : decode cX8_init 99 = .ok (.putfield 54, 3) := by decide +kernel
theorem dX8_init_102 : decode cX8_init 102 = .ok (.return_, 1) := by decide +kernel
theorem dX11_init_12 : decode cX11_init 12 = .ok (.putfield 10, 3) := by decide +kernel
theorem dX11_init_15 : decode cX11_init 15 = .ok (.aload_n 0, 1) := by decide +kernel
theorem dX11_init_16 : decode cX11_init 16 = .ok (.iconst 2, 1) := by decide +kernel
theorem dX11_init_17 : decode cX11_init 17 = .ok (.anewarray 7, 3) := by decide +kernel
theorem dX11_init_20 : decode cX11_init 20 = .ok (.dup, 1) := by decide +kernel
theorem dX11_init_21 : decode cX11_init 21 = .ok (.iconst 0, 1) := by decide +kernel
theorem dX11_init_22 : decode cX11_init 22 = .ok (.new 7, 3) := by decide +kernel
theorem dX11_init_25 : decode cX11_init 25 = .ok (.dup, 1) := by decide +kernel
theorem dX11_init_26 : decode cX11_init 26 = .ok (.invokespecial 9, 3) := by decide +kernel
theorem dX11_init_29 : decode cX11_init 29 = .ok (.aastore, 1) := by decide +kernel
theorem dX11_init_30 : decode cX11_init 30 = .ok (.dup, 1) := by decide +kernel
theorem dX11_init_31 : decode cX11_init 31 = .ok (.iconst 1, 1) := by decide +kernel
theorem dX11_init_32 : decode cX11_init 32 = .ok (.new 7, 3) := by decide +kernel
theorem dX11_init_35 : decode cX11_init 35 = .ok (.dup, 1) := by decide +kernel
theorem dX11_init_36 : decode cX11_init 36 = .ok (.invokespecial 9, 3) := by decide +kernel
theorem dX11_init_39 : decode cX11_init 39 = .ok (.aastore, 1) := by decide +kernel
theorem dX11_init_40 : decode cX11_init 40 = .ok (.putfield 16, 3) := by decide +kernel
theorem dX11_init_43 : decode cX11_init 43 = .ok (.aload_n 0, 1) := by decide +kernel
theorem dX11_init_44 : decode cX11_init 44 = .ok (.iconst 2, 1) := by decide +kernel
theorem dX11_init_45 : decode cX11_init 45 = .ok (.newarray .boolean, 2) := by decide +kernel
theorem dX11_init_47 : decode cX11_init 47 = .ok (.putfield 20, 3) := by decide +kernel
theorem dX11_init_50 : decode cX11_init 50 = .ok (.aload_n 0, 1) := by decide +kernel
theorem dX11_init_51 : decode cX11_init 51 = .ok (.new 24, 3) := by decide +kernel
theorem dX11_init_54 : decode cX11_init 54 = .ok (.dup, 1) := by decide +kernel
theorem dX11_init_55 : decode cX11_init 55 = .ok (.invokespecial 26, 3) := by decide +kernel
theorem dX0_init_0 : decode cX0_init 0 = .ok (.aload_n 0, 1) := by decide +kernel
theorem dX0_init_1 : decode cX0_init 1 = .ok (.invokespecial 3, 3) := by decide +kernel
theorem dX0_init_4 : decode cX0_init 4 = .ok (.aload_n 0, 1) := by decide +kernel
theorem dX0_init_5 : decode cX0_init 5 = .ok (.sipush 1260, 3) := by decide +kernel
theorem dX0_init_8 : decode cX0_init 8 = .ok (.newarray .int, 2) := by decide +kernel
theorem dX0_init_10 : decode cX0_init 10 = .ok (.putfield 9, 3) := by decide +kernel
theorem dX0_init_13 : decode cX0_init 13 = .ok (.aload_n 0, 1) := by decide +kernel
theorem dX0_init_14 : decode cX0_init 14 = .ok (.bipush 7, 2) := by decide +kernel
theorem dX0_init_16 : decode cX0_init 16 = .ok (.newarray .int, 2) := by decide +kernel
theorem dX0_init_18 : decode cX0_init 18 = .ok (.putfield 15, 3) := by decide +kernel
theorem dX0_init_21 : decode cX0_init 21 = .ok (.aload_n 0, 1) := by decide +kernel
theorem dX0_init_22 : decode cX0_init 22 = .ok (.iconst 0, 1) := by decide +kernel
theorem dX0_init_23 : decode cX0_init 23 = .ok (.putfield 18, 3) := by decide +kernel
theorem dX0_init_26 : decode cX0_init 26 = .ok (.aload_n 0, 1) := by decide +kernel
theorem dX0_init_27 : decode cX0_init 27 = .ok (.iconst 0, 1) := by decide +kernel
theorem dX0_init_28 : decode cX0_init 28 = .ok (.putfield 22, 3) := by decide +kernel
theorem dX0_init_31 : decode cX0_init 31 = .ok (.return_, 1) := by decide +kernel
theorem dX11_init_58 : decode cX11_init 58 = .ok (.putfield 27, 3) := by decide +kernel
theorem dX11_init_61 : decode cX11_init 61 = .ok (.aload_n 0, 1) := by decide +kernel
theorem dX11_init_62 : decode cX11_init 62 = .ok (.new 31, 3) := by decide +kernel
theorem dX11_init_65 : decode cX11_init 65 = .ok (.dup, 1) := by decide +kernel
theorem dX11_init_66 : decode cX11_init 66 = .ok (.invokespecial 33, 3) := by decide +kernel
theorem dX5_init_0 : decode cX5_init 0 = .ok (.aload_n 0, 1) := by decide +kernel
theorem dX5_init_1 : decode cX5_init 1 = .ok (.invokespecial 3, 3) := by decide +kernel
theorem dX5_init_4 : decode cX5_init 4 = .ok (.aload_n 0, 1) := by decide +kernel
theorem dX5_init_5 : decode cX5_init 5 = .ok (.sipush 400, 3) := by decide +kernel
theorem dX5_init_8 : decode cX5_init 8 = .ok (.newarray .int, 2) := by decide +kernel
theorem dX5_init_10 : decode cX5_init 10 = .ok (.putfield 11, 3) := by decide +kernel
theorem dX5_init_13 : decode cX5_init 13 = .ok (.aload_n 0, 1) := by decide +kernel
theorem dX5_init_14 : decode cX5_init 14 = .ok (.iconst 0, 1) := by decide +kernel
theorem dX5_init_15 : decode cX5_init 15 = .ok (.putfield 15, 3) := by decide +kernel
theorem dX5_init_18 : decode cX5_init 18 = .ok (.aload_n 0, 1) := by decide +kernel
theorem dX5_init_19 : decode cX5_init 19 = .ok (.bipush 17, 2) := by decide +kernel
theorem dX5_init_21 : decode cX5_init 21 = .ok (.putfield 19, 3) := by decide +kernel
theorem dX5_init_24 : decode cX5_init 24 = .ok (.aload_n 0, 1) := by decide +kernel
theorem dX5_init_25 : decode cX5_init 25 = .ok (.iconst 0, 1) := by decide +kernel
theorem dX5_init_26 : decode cX5_init 26 = .ok (.putfield 22, 3) := by decide +kernel
theorem dX5_init_29 : decode cX5_init 29 = .ok (.aload_n 0, 1) := by decide +kernel
theorem dX5_init_30 : decode cX5_init 30 = .ok (.iconst 0, 1) := by decide +kernel
theorem dX5_init_31 : decode cX5_init 31 = .ok (.putfield 25, 3) := by decide +kernel
theorem dX5_init_34 : decode cX5_init 34 = .ok (.aload_n 0, 1) := by decide +kernel
theorem dX5_init_35 : decode cX5_init 35 = .ok (.iconst 0, 1) := by decide +kernel
theorem dX5_init_36 : decode cX5_init 36 = .ok (.putfield 28, 3) := by decide +kernel
theorem dX5_init_39 : decode cX5_init 39 = .ok (.aload_n 0, 1) := by decide +kernel
theorem dX5_init_40 : decode cX5_init 40 = .ok (.iconst 0, 1) := by decide +kernel
theorem dX5_init_41 : decode cX5_init 41 = .ok (.putfield 31, 3) := by decide +kernel
theorem dX5_init_44 : decode cX5_init 44 = .ok (.aload_n 0, 1) := by decide +kernel
theorem dX5_init_45 : decode cX5_init 45 = .ok (.iconst (-1), 1) := by decide +kernel
theorem dX5_init_46 : decode cX5_init 46 = .ok (.putfield 34, 3) := by decide +kernel
theorem dX5_init_49 : decode cX5_init 49 = .ok (.aload_n 0, 1) := by decide +kernel
theorem dX5_init_50 : decode cX5_init 50 = .ok (.sipush 412, 3) := by decide +kernel
theorem dX5_init_53 : decode cX5_init 53 = .ok (.newarray .int, 2) := by decide +kernel
theorem dX5_init_55 : decode cX5_init 55 = .ok (.putfield 37, 3) := by decide +kernel
theorem dX5_init_58 : decode cX5_init 58 = .ok (.aload_n 0, 1) := by decide +kernel
theorem dX5_init_59 : decode cX5_init 59 = .ok (.iconst 0, 1) := by decide +kernel
theorem dX5_init_60 : decode cX5_init 60 = .ok (.putfield 40, 3) := by decide +kernel
theorem dX5_init_63 : decode cX5_init 63 = .ok (.return_, 1) := by decide +kernel
theorem dX11_init_69 : decode cX11_init 69 = .ok (.putfield 34, 3) := by decide +kernel
theorem dX11_init_72 : decode cX11_init 72 = .ok (.aload_n 0, 1) := by decide +kernel
theorem dX11_init_73 : decode cX11_init 73 = .ok (.new 38, 3) := by decide +kernel
theorem dX11_init_76 : decode cX11_init 76 = .ok (.dup, 1) := by decide +kernel
theorem dX11_init_77 : decode cX11_init 77 = .ok (.aload_n 0, 1) := by decide +kernel
theorem dX11_init_78 : decode cX11_init 78 = .ok (.getfield 10, 3) := by decide +kernel
theorem dX11_init_81 : decode cX11_init 81 = .ok (.aload_n 0, 1) := by decide +kernel
theorem dX11_init_82 : decode cX11_init 82 = .ok (.getfield 27, 3) := by decide +kernel
theorem dX11_init_85 : decode cX11_init 85 = .ok (.invokespecial 40, 3) := by decide +kernel
theorem dX9_init_0 : decode cX9_init 0 = .ok (.aload_n 0, 1) := by decide +kernel
theorem dX9_init_1 : decode cX9_init 1 = .ok (.invokespecial 3, 3) := by decide +kernel
theorem dX9_init_4 : decode cX9_init 4 = .ok (.aload_n 0, 1) := by decide +kernel
theorem dX9_init_5 : decode cX9_init 5 = .ok (.new 9, 3) := by decide +kernel
theorem dX9_init_8 : decode cX9_init 8 = .ok (.dup, 1) := by decide +kernel
theorem dX9_init_9 : decode cX9_init 9 = .ok (.invokespecial 11, 3) := by decide +kernel
theorem dX1_init_0 : decode cX1_init 0 = .ok (.aload_n 0, 1) := by decide +kernel
theorem dX1_init_1 : decode cX1_init 1 = .ok (.invokespecial 1, 3) := by decide +kernel
theorem dX1_init_4 : decode cX1_init 4 = .ok (.aload_n 0, 1) := by decide +kernel
theorem dX1_init_5 : decode cX1_init 5 = .ok (.bipush 8, 2) := by decide +kernel
theorem dX1_init_7 : decode cX1_init 7 = .ok (.newarray .int, 2) := by decide +kernel
theorem dX1_init_9 : decode cX1_init 9 = .ok (.putfield 9, 3) := by decide +kernel
theorem dX1_init_12 : decode cX1_init 12 = .ok (.aload_n 0, 1) := by decide +kernel
theorem dX1_init_13 : decode cX1_init 13 = .ok (.bipush 64, 2) := by decide +kernel
theorem dX1_init_15 : decode cX1_init 15 = .ok (.newarray .long, 2) := by decide +kernel
theorem dX1_init_17 : decode cX1_init 17 = .ok (.putfield 13, 3) := by decide +kernel
theorem dX1_init_20 : decode cX1_init 20 = .ok (.aload_n 0, 1) := by decide +kernel
theorem dX1_init_21 : decode cX1_init 21 = .ok (.iconst 0, 1) := by decide +kernel
theorem dX1_init_22 : decode cX1_init 22 = .ok (.putfield 17, 3) := by decide +kernel
theorem dX1_init_25 : decode cX1_init 25 = .ok (.aload_n 0, 1) := by decide +kernel
theorem dX1_init_26 : decode cX1_init 26 = .ok (.iconst 0, 1) := by decide +kernel
theorem dX1_init_27 : decode cX1_init 27 = .ok (.putfield 21, 3) := by decide +kernel
theorem dX1_init_30 : decode cX1_init 30 = .ok (.aload_n 0, 1) := by decide +kernel
theorem dX1_init_31 : decode cX1_init 31 = .ok (.iconst 0, 1) := by decide +kernel
theorem dX1_init_32 : decode cX1_init 32 = .ok (.putfield 25, 3) := by decide +kernel
theorem dX1_init_35 : decode cX1_init 35 = .ok (.aload_n 0, 1) := by decide +kernel
theorem dX1_init_36 : decode cX1_init 36 = .ok (.iconst 0, 1) := by decide +kernel
theorem dX1_init_37 : decode cX1_init 37 = .ok (.putfield 28, 3) := by decide +kernel
theorem dX1_init_40 : decode cX1_init 40 = .ok (.aload_n 0, 1) := by decide +kernel
theorem dX1_init_41 : decode cX1_init 41 = .ok (.iconst 0, 1) := by decide +kernel
theorem dX1_init_42 : decode cX1_init 42 = .ok (.putfield 31, 3) := by decide +kernel
theorem dX1_init_45 : decode cX1_init 45 = .ok (.aload_n 0, 1) := by decide +kernel
theorem dX1_init_46 : decode cX1_init 46 = .ok (.iconst 1, 1) := by decide +kernel
theorem dX1_init_47 : decode cX1_init 47 = .ok (.putfield 34, 3) := by decide +kernel
theorem dX1_init_50 : decode cX1_init 50 = .ok (.return_, 1) := by decide +kernel
theorem dX9_init_12 : decode cX9_init 12 = .ok (.putfield 12, 3) := by decide +kernel
theorem dX9_init_15 : decode cX9_init 15 = .ok (.aload_n 0, 1) := by decide +kernel
theorem dX9_init_16 : decode cX9_init 16 = .ok (.iconst 0, 1) := by decide +kernel
theorem dX9_init_17 : decode cX9_init 17 = .ok (.newarray .int, 2) := by decide +kernel
theorem dX9_init_19 : decode cX9_init 19 = .ok (.putfield 18, 3) := by decide +kernel
theorem dX9_init_22 : decode cX9_init 22 = .ok (.aload_n 0, 1) := by decide +kernel
theorem dX9_init_23 : decode cX9_init 23 = .ok (.sipush 1260, 3) := by decide +kernel
theorem dX9_init_26 : decode cX9_init 26 = .ok (.newarray .int, 2) := by decide +kernel
theorem dX9_init_28 : decode cX9_init 28 = .ok (.putfield 22, 3) := by decide +kernel
theorem dX9_init_31 : decode cX9_init 31 = .ok (.aload_n 0, 1) := by decide +kernel
theorem dX9_init_32 : decode cX9_init 32 = .ok (.iconst 0, 1) := by decide +kernel
theorem dX9_init_33 : decode cX9_init 33 = .ok (.newarray .int, 2) := by decide +kernel
theorem dX9_init_35 : decode cX9_init 35 = .ok (.putfield 25, 3) := by decide +kernel
theorem dX9_init_38 : decode cX9_init 38 = .ok (.aload_n 0, 1) := by decide +kernel
theorem dX9_init_39 : decode cX9_init 39 = .ok (.sipush 2625, 3) := by decide +kernel
theorem dX9_init_42 : decode cX9_init 42 = .ok (.newarray .int, 2) := by decide +kernel
theorem dX9_init_44 : decode cX9_init 44 = .ok (.putfield 28, 3) := by decide +kernel
theorem dX9_init_47 : decode cX9_init 47 = .ok (.aload_n 0, 1) := by decide +kernel
theorem dX9_init_48 : decode cX9_init 48 = .ok (.iconst 0, 1) := by decide +kernel
theorem dX9_init_49 : decode cX9_init 49 = .ok (.putfield 31, 3) := by decide +kernel
theorem dX9_init_52 : decode cX9_init 52 = .ok (.aload_n 0, 1) := by decide +kernel
theorem dX9_init_53 : decode cX9_init 53 = .ok (.iconst 1, 1) := by decide +kernel
theorem dX9_init_54 : decode cX9_init 54 = .ok (.putfield 35, 3) := by decide +kernel
theorem dX9_init_57 : decode cX9_init 57 = .ok (.aload_n 0, 1) := by decide +kernel
theorem dX9_init_58 : decode cX9_init 58 = .ok (.iconst 1, 1) := by decide +kernel
theorem dX9_init_59 : decode cX9_init 59 = .ok (.putfield 39, 3) := by decide +kernel
theorem dX9_init_62 : decode cX9_init 62 = .ok (.aload_n 0, 1) := by decide +kernel
theorem dX9_init_63 : decode cX9_init 63 = .ok (.aload_n 1, 1) := by decide +kernel
theorem dX9_init_64 : decode cX9_init 64 = .ok (.putfield 42, 3) := by decide +kernel
theorem dX9_init_67 : decode cX9_init 67 = .ok (.aload_n 0, 1) := by decide +kernel
theorem dX9_init_68 : decode cX9_init 68 = .ok (.aload_n 2, 1) := by decide +kernel
theorem dX9_init_69 : decode cX9_init 69 = .ok (.putfield 46, 3) := by decide +kernel
theorem dX9_init_72 : decode cX9_init 72 = .ok (.return_, 1) := by decide +kernel
theorem dX11_init_88 : decode cX11_init 88 = .ok (.putfield 43, 3) := by decide +kernel
theorem dX11_init_91 : decode cX11_init 91 = .ok (.aload_n 0, 1) := by decide +kernel
theorem dX11_init_92 : decode cX11_init 92 = .ok (.new 47, 3) := by decide +kernel
theorem dX11_init_95 : decode cX11_init 95 = .ok (.dup, 1) := by decide +kernel
theorem dX11_init_96 : decode cX11_init 96 = .ok (.aload_n 0, 1) := by decide +kernel
theorem dX11_init_97 : decode cX11_init 97 = .ok (.getfield 27, 3) := by decide +kernel
theorem dX11_init_100 : decode cX11_init 100 = .ok (.aload_n 0, 1) := by decide +kernel
theorem dX11_init_101 : decode cX11_init 101 = .ok (.getfield 43, 3) := by decide +kernel
theorem dX11_init_104 : decode cX11_init 104 = .ok (.invokespecial 49, 3) := by decide +kernel
theorem dX10_init_0 : decode cX10_init 0 = .ok (.aload_n 0, 1) := by decide +kernel
theorem dX10_init_1 : decode cX10_init 1 = .ok (.invokespecial 3, 3) := by decide +kernel
theorem dX10_init_4 : decode cX10_init 4 = .ok (.aload_n 0, 1) := by decide +kernel
theorem dX10_init_5 : decode cX10_init 5 = .ok (.sipush 1260, 3) := by decide +kernel
theorem dX10_init_8 : decode cX10_init 8 = .ok (.newarray .int, 2) := by decide +kernel
theorem dX10_init_10 : decode cX10_init 10 = .ok (.putfield 9, 3) := by decide +kernel
theorem dX10_init_13 : decode cX10_init 13 = .ok (.aload_n 0, 1) := by decide +kernel
theorem dX10_init_14 : decode cX10_init 14 = .ok (.sipush 1260, 3) := by decide +kernel
theorem dX10_init_17 : decode cX10_init 17 = .ok (.newarray .int, 2) := by decide +kernel
theorem dX10_init_19 : decode cX10_init 19 = .ok (.putfield 15, 3) := by decide +kernel
theorem dX10_init_22 : decode cX10_init 22 = .ok (.aload_n 0, 1) := by decide +kernel
theorem dX10_init_23 : decode cX10_init 23 = .ok (.sipush 1260, 3) := by decide +kernel
theorem dX10_init_26 : decode cX10_init 26 = .ok (.newarray .int, 2) := by decide +kernel
theorem dX10_init_28 : decode cX10_init 28 = .ok (.putfield 18, 3) := by decide +kernel
theorem dX10_init_31 : decode cX10_init 31 = .ok (.aload_n 0, 1) := by decide +kernel
theorem dX10_init_32 : decode cX10_init 32 = .ok (.iconst 0, 1) := by decide +kernel
theorem dX10_init_33 : decode cX10_init 33 = .ok (.putfield 21, 3) := by decide +kernel
theorem dX10_init_36 : decode cX10_init 36 = .ok (.aload_n 0, 1) := by decide +kernel
theorem dX10_init_37 : decode cX10_init 37 = .ok (.iconst (-1), 1) := by decide +kernel
theorem dX10_init_38 : decode cX10_init 38 = .ok (.putfield 25, 3) := by decide +kernel
theorem dX10_init_41 : decode cX10_init 41 = .ok (.aload_n 0, 1) := by decide +kernel
theorem dX10_init_42 : decode cX10_init 42 = .ok (.iconst (-1), 1) := by decide +kernel
theorem dX10_init_43 : decode cX10_init 43 = .ok (.putfield 28, 3) := by decide +kernel
theorem dX10_init_46 : decode cX10_init 46 = .ok (.aload_n 0, 1) := by decide +kernel
theorem dX10_init_47 : decode cX10_init 47 = .ok (.sipush 1260, 3) := by decide +kernel
theorem dX10_init_50 : decode cX10_init 50 = .ok (.newarray .int, 2) := by decide +kernel
theorem dX10_init_52 : decode cX10_init 52 = .ok (.putfield 31, 3) := by decide +kernel
theorem dX10_init_55 : decode cX10_init 55 = .ok (.aload_n 0, 1) := by decide +kernel
theorem dX10_init_56 : decode cX10_init 56 = .ok (.bipush 100, 2) := by decide +kernel
theorem dX10_init_58 : decode cX10_init 58 = .ok (.newarray .int, 2) := by decide +kernel
theorem dX10_init_60 : decode cX10_init 60 = .ok (.putfield 34, 3) := by decide +kernel
theorem dX10_init_63 : decode cX10_init 63 = .ok (.aload_n 0, 1) := by decide +kernel
theorem dX10_init_64 : decode cX10_init 64 = .ok (.sipush 1260, 3) := by decide +kernel
theorem dX10_init_67 : decode cX10_init 67 = .ok (.newarray .int, 2) := by decide +kernel
theorem dX10_init_69 : decode cX10_init 69 = .ok (.putfield 37, 3) := by decide +kernel
theorem dX10_init_72 : decode cX10_init 72 = .ok (.aload_n 0, 1) := by decide +kernel
theorem dX10_init_73 : decode cX10_init 73 = .ok (.sipush 1260, 3) := by decide +kernel
theorem dX10_init_76 : decode cX10_init 76 = .ok (.newarray .int, 2) := by decide +kernel
theorem dX10_init_78 : decode cX10_init 78 = .ok (.putfield 40, 3) := by decide +kernel
theorem dX10_init_81 : decode cX10_init 81 = .ok (.aload_n 0, 1) := by decide +kernel
theorem dX10_init_82 : decode cX10_init 82 = .ok (.iconst 0, 1) := by decide +kernel
theorem dX10_init_83 : decode cX10_init 83 = .ok (.putfield 43, 3) := by decide +kernel
theorem dX10_init_86 : decode cX10_init 86 = .ok (.aload_n 0, 1) := by decide +kernel
theorem dX10_init_87 : decode cX10_init 87 = .ok (.iconst (-1), 1) := by decide +kernel
theorem dX10_init_88 : decode cX10_init 88 = .ok (.putfield 46, 3) := by decide +kernel
theorem dX10_init_91 : decode cX10_init 91 = .ok (.aload_n 0, 1) := by decide +kernel
theorem dX10_init_92 : decode cX10_init 92 = .ok (.iconst (-1), 1) := by decide +kernel
theorem dX10_init_93 : decode cX10_init 93 = .ok (.putfield 49, 3) := by decide +kernel
theorem dX10_init_96 : decode cX10_init 96 = .ok (.aload_n 0, 1) := by decide +kernel
theorem dX10_init_97 : decode cX10_init 97 = .ok (.sipush 1260, 3) := by decide +kernel
theorem dX10_init_100 : decode cX10_init 100 = .ok (.newarray .long, 2) := by decide +kernel
theorem dX10_init_102 : decode cX10_init 102 = .ok (.putfield 52, 3) := by decide +kernel
theorem dX10_init_105 : decode cX10_init 105 = .ok (.aload_n 0, 1) := by decide +kernel
theorem dX10_init_106 : decode cX10_init 106 = .ok (.sipush 1260, 3) := by decide +kernel
theorem dX10_init_109 : decode cX10_init 109 = .ok (.newarray .long, 2) := by decide +kernel
theorem dX10_init_111 : decode cX10_init 111 = .ok (.putfield 56, 3) := by decide +kernel
theorem dX10_init_114 : decode cX10_init 114 = .ok (.aload_n 0, 1) := by decide +kernel
theorem dX10_init_115 : decode cX10_init 115 = .ok (.aload_n 1, 1) := by decide +kernel
theorem dX10_init_116 : decode cX10_init 116 = .ok (.putfield 59, 3) := by decide +kernel
theorem dX10_init_119 : decode cX10_init 119 = .ok (.aload_n 0, 1) := by decide +kernel
theorem dX10_init_120 : decode cX10_init 120 = .ok (.aload_n 2, 1) := by decide +kernel
theorem dX10_init_121 : decode cX10_init 121 = .ok (.putfield 63, 3) := by decide +kernel
theorem dX10_init_124 : decode cX10_init 124 = .ok (.return_, 1) := by decide +kernel
theorem dX11_init_107 : decode cX11_init 107 = .ok (.putfield 52, 3) := by decide +kernel
theorem dX11_init_110 : decode cX11_init 110 = .ok (.aload_n 0, 1) := by decide +kernel
theorem dX11_init_111 : decode cX11_init 111 = .ok (.new 56, 3) := by decide +kernel
theorem dX11_init_114 : decode cX11_init 114 = .ok (.dup, 1) := by decide +kernel
theorem dX11_init_115 : decode cX11_init 115 = .ok (.aload_n 0, 1) := by decide +kernel
theorem dX11_init_116 : decode cX11_init 116 = .ok (.getfield 27, 3) := by decide +kernel
theorem dX11_init_119 : decode cX11_init 119 = .ok (.aload_n 0, 1) := by decide +kernel
theorem dX11_init_120 : decode cX11_init 120 = .ok (.getfield 43, 3) := by decide +kernel
theorem dX11_init_123 : decode cX11_init 123 = .ok (.invokespecial 58, 3) := by decide +kernel
theorem dX3_init_0 : decode cX3_init 0 = .ok (.aload_n 0, 1) := by decide +kernel
theorem dX3_init_1 : decode cX3_init 1 = .ok (.invokespecial 5, 3) := by decide +kernel
theorem dX3_init_4 : decode cX3_init 4 = .ok (.aload_n 0, 1) := by decide +kernel
theorem dX3_init_5 : decode cX3_init 5 = .ok (.iconst 0, 1) := by decide +kernel
theorem dX3_init_6 : decode cX3_init 6 = .ok (.newarray .int, 2) := by decide +kernel
theorem dX3_init_8 : decode cX3_init 8 = .ok (.putfield 11, 3) := by decide +kernel
theorem dX3_init_11 : decode cX3_init 11 = .ok (.aload_n 0, 1) := by decide +kernel
theorem dX3_init_12 : decode cX3_init 12 = .ok (.iconst 0, 1) := by decide +kernel
theorem dX3_init_13 : decode cX3_init 13 = .ok (.newarray .int, 2) := by decide +kernel
theorem dX3_init_15 : decode cX3_init 15 = .ok (.putfield 17, 3) := by decide +kernel
theorem dX3_init_18 : decode cX3_init 18 = .ok (.aload_n 0, 1) := by decide +kernel
theorem dX3_init_19 : decode cX3_init 19 = .ok (.sipush 1261, 3) := by decide +kernel
theorem dX3_init_22 : decode cX3_init 22 = .ok (.newarray .int, 2) := by decide +kernel
theorem dX3_init_24 : decode cX3_init 24 = .ok (.putfield 20, 3) := by decide +kernel
theorem dX3_init_27 : decode cX3_init 27 = .ok (.aload_n 0, 1) := by decide +kernel
theorem dX3_init_28 : decode cX3_init 28 = .ok (.sipush 1260, 3) := by decide +kernel
theorem dX3_init_31 : decode cX3_init 31 = .ok (.newarray .int, 2) := by decide +kernel
theorem dX3_init_33 : decode cX3_init 33 = .ok (.putfield 23, 3) := by decide +kernel
theorem dX3_init_36 : decode cX3_init 36 = .ok (.aload_n 0, 1) := by decide +kernel
theorem dX3_init_37 : decode cX3_init 37 = .ok (.sipush 1260, 3) := by decide +kernel
theorem dX3_init_40 : decode cX3_init 40 = .ok (.newarray .int, 2) := by decide +kernel
theorem dX3_init_42 : decode cX3_init 42 = .ok (.putfield 26, 3) := by decide +kernel
theorem dX3_init_45 : decode cX3_init 45 = .ok (.aload_n 0, 1) := by decide +kernel
theorem dX3_init_46 : decode cX3_init 46 = .ok (.iconst 0, 1) := by decide +kernel
theorem dX3_init_47 : decode cX3_init 47 = .ok (.putfield 29, 3) := by decide +kernel
theorem dX3_init_50 : decode cX3_init 50 = .ok (.aload_n 0, 1) := by decide +kernel
theorem dX3_init_51 : decode cX3_init 51 = .ok (.aload_n 1, 1) := by decide +kernel
theorem dX3_init_52 : decode cX3_init 52 = .ok (.putfield 33, 3) := by decide +kernel
theorem dX3_init_55 : decode cX3_init 55 = .ok (.aload_n 0, 1) := by decide +kernel
theorem dX3_init_56 : decode cX3_init 56 = .ok (.aload_n 2, 1) := by decide +kernel
theorem dX3_init_57 : decode cX3_init 57 = .ok (.putfield 37, 3) := by decide +kernel
theorem dX3_init_60 : decode cX3_init 60 = .ok (.return_, 1) := by decide +kernel
theorem dX11_init_126 : decode cX11_init 126 = .ok (.putfield 59, 3) := by decide +kernel
theorem dX11_init_129 : decode cX11_init 129 = .ok (.aload_n 0, 1) := by decide +kernel
theorem dX11_init_130 : decode cX11_init 130 = .ok (.new 63, 3) := by decide +kernel
theorem dX11_init_133 : decode cX11_init 133 = .ok (.dup, 1) := by decide +kernel
theorem dX11_init_134 : decode cX11_init 134 = .ok (.aload_n 0, 1) := by decide +kernel
theorem dX11_init_135 : decode cX11_init 135 = .ok (.getfield 27, 3) := by decide +kernel
theorem dX11_init_138 : decode cX11_init 138 = .ok (.aload_n 0, 1) := by decide +kernel
theorem dX11_init_139 : decode cX11_init 139 = .ok (.getfield 43, 3) := by decide +kernel
theorem dX11_init_142 : decode cX11_init 142 = .ok (.invokespecial 65, 3) := by decide +kernel
theorem dX7_init_0 : decode cX7_init 0 = .ok (.aload_n 0, 1) := by decide +kernel
theorem dX7_init_1 : decode cX7_init 1 = .ok (.invokespecial 3, 3) := by decide +kernel
theorem dX7_init_4 : decode cX7_init 4 = .ok (.aload_n 0, 1) := by decide +kernel
theorem dX7_init_5 : decode cX7_init 5 = .ok (.bipush 14, 2) := by decide +kernel
theorem dX7_init_7 : decode cX7_init 7 = .ok (.newarray .int, 2) := by decide +kernel
theorem dX7_init_9 : decode cX7_init 9 = .ok (.putfield 11, 3) := by decide +kernel
theorem dX7_init_12 : decode cX7_init 12 = .ok (.aload_n 0, 1) := by decide +kernel
theorem dX7_init_13 : decode cX7_init 13 = .ok (.bipush 14, 2) := by decide +kernel
theorem dX7_init_15 : decode cX7_init 15 = .ok (.newarray .int, 2) := by decide +kernel
theorem dX7_init_17 : decode cX7_init 17 = .ok (.putfield 15, 3) := by decide +kernel
theorem dX7_init_20 : decode cX7_init 20 = .ok (.aload_n 0, 1) := by decide +kernel
theorem dX7_init_21 : decode cX7_init 21 = .ok (.iconst 0, 1) := by decide +kernel
theorem dX7_init_22 : decode cX7_init 22 = .ok (.newarray .int, 2) := by decide +kernel
theorem dX7_init_24 : decode cX7_init 24 = .ok (.putfield 18, 3) := by decide +kernel
theorem dX7_init_27 : decode cX7_init 27 = .ok (.aload_n 0, 1) := by decide +kernel
theorem dX7_init_28 : decode cX7_init 28 = .ok (.iconst 0, 1) := by decide +kernel
theorem dX7_init_29 : decode cX7_init 29 = .ok (.putfield 21, 3) := by decide +kernel
theorem dX7_init_32 : decode cX7_init 32 = .ok (.aload_n 0, 1) := by decide +kernel
theorem dX7_init_33 : decode cX7_init 33 = .ok (.iconst (-1), 1) := by decide +kernel
theorem dX7_init_34 : decode cX7_init 34 = .ok (.putfield 25, 3) := by decide +kernel
theorem dX7_init_37 : decode cX7_init 37 = .ok (.aload_n 0, 1) := by decide +kernel
theorem dX7_init_38 : decode cX7_init 38 = .ok (.aload_n 1, 1) := by decide +kernel
theorem dX7_init_39 : decode cX7_init 39 = .ok (.putfield 29, 3) := by decide +kernel
theorem dX7_init_42 : decode cX7_init 42 = .ok (.aload_n 0, 1) := by decide +kernel
theorem dX7_init_43 : decode cX7_init 43 = .ok (.aload_n 2, 1) := by decide +kernel
theorem dX7_init_44 : decode cX7_init 44 = .ok (.putfield 33, 3) := by decide +kernel
theorem dX7_init_47 : decode cX7_init 47 = .ok (.return_, 1) := by decide +kernel
theorem dX11_init_145 : decode cX11_init 145 = .ok (.putfield 66, 3) := by decide +kernel
theorem dX11_init_148 : decode cX11_init 148 = .ok (.aload_n 0, 1) := by decide +kernel
theorem dX11_init_149 : decode cX11_init 149 = .ok (.new 70, 3) := by decide +kernel
theorem dX11_init_152 : decode cX11_init 152 = .ok (.dup, 1) := by decide +kernel
theorem dX11_init_153 : decode cX11_init 153 = .ok (.aload_n 0, 1) := by decide +kernel
theorem dX11_init_154 : decode cX11_init 154 = .ok (.getfield 10, 3) := by decide +kernel
theorem dX11_init_157 : decode cX11_init 157 = .ok (.aload_n 0, 1) := by decide +kernel
theorem dX11_init_158 : decode cX11_init 158 = .ok (.getfield 27, 3) := by decide +kernel
theorem dX11_init_161 : decode cX11_init 161 = .ok (.invokespecial 72, 3) := by decide +kernel
theorem dX2_init_0 : decode cX2_init 0 = .ok (.aload_n 0, 1) := by decide +kernel
theorem dX2_init_1 : decode cX2_init 1 = .ok (.invokespecial 3, 3) := by decide +kernel
theorem dX2_init_4 : decode cX2_init 4 = .ok (.aload_n 0, 1) := by decide +kernel
theorem dX2_init_5 : decode cX2_init 5 = .ok (.bipush 12, 2) := by decide +kernel
theorem dX2_init_7 : decode cX2_init 7 = .ok (.newarray .int, 2) := by decide +kernel
theorem dX2_init_9 : decode cX2_init 9 = .ok (.putfield 9, 3) := by decide +kernel
theorem dX2_init_12 : decode cX2_init 12 = .ok (.aload_n 0, 1) := by decide +kernel
theorem dX2_init_13 : decode cX2_init 13 = .ok (.bipush 12, 2) := by decide +kernel
theorem dX2_init_15 : decode cX2_init 15 = .ok (.newarray .int, 2) := by decide +kernel
theorem dX2_init_17 : decode cX2_init 17 = .ok (.putfield 15, 3) := by decide +kernel
theorem dX2_init_20 : decode cX2_init 20 = .ok (.aload_n 0, 1) := by decide +kernel
theorem dX2_init_21 : decode cX2_init 21 = .ok (.aload_n 1, 1) := by decide +kernel
theorem dX2_init_22 : decode cX2_init 22 = .ok (.putfield 18, 3) := by decide +kernel
theorem dX2_init_25 : decode cX2_init 25 = .ok (.aload_n 0, 1) := by decide +kernel
theorem dX2_init_26 : decode cX2_init 26 = .ok (.aload_n 2, 1) := by decide +kernel
theorem dX2_init_27 : decode cX2_init 27 = .ok (.putfield 22, 3) := by decide +kernel
theorem dX2_init_30 : decode cX2_init 30 = .ok (.return_, 1) := by decide +kernel
theorem dX11_init_164 : decode cX11_init 164 = .ok (.putfield 73, 3) := by decide +kernel
theorem dX11_init_167 : decode cX11_init 167 = .ok (.aload_n 0, 1) := by decide +kernel
theorem dX11_init_168 : decode cX11_init 168 = .ok (.new 77, 3) := by decide +kernel
theorem dX11_init_171 : decode cX11_init 171 = .ok (.dup, 1) := by decide +kernel
theorem dX11_init_172 : decode cX11_init 172 = .ok (.aload_n 0, 1) := by decide +kernel
theorem dX11_init_173 : decode cX11_init 173 = .ok (.getfield 10, 3) := by decide +kernel
theorem dX11_init_176 : decode cX11_init 176 = .ok (.aload_n 0, 1) := by decide +kernel
theorem dX11_init_177 : decode cX11_init 177 = .ok (.getfield 27, 3) := by decide +kernel
theorem dX11_init_180 : decode cX11_init 180 = .ok (.aload_n 0, 1) := by decide +kernel
theorem dX11_init_181 : decode cX11_init 181 = .ok (.getfield 43, 3) := by decide +kernel
theorem dX11_init_184 : decode cX11_init 184 = .ok (.aload_n 0, 1) := by decide +kernel
theorem dX11_init_185 : decode cX11_init 185 = .ok (.getfield 52, 3) := by decide +kernel
theorem dX11_init_188 : decode cX11_init 188 = .ok (.invokespecial 79, 3) := by decide +kernel
theorem dX6_init_0 : decode cX6_init 0 = .ok (.aload_n 0, 1) := by decide +kernel
theorem dX6_init_1 : decode cX6_init 1 = .ok (.invokespecial 3, 3) := by decide +kernel
theorem dX6_init_4 : decode cX6_init 4 = .ok (.aload_n 0, 1) := by decide +kernel
theorem dX6_init_5 : decode cX6_init 5 = .ok (.sipush 1260, 3) := by decide +kernel
theorem dX6_init_8 : decode cX6_init 8 = .ok (.newarray .boolean, 2) := by decide +kernel
theorem dX6_init_10 : decode cX6_init 10 = .ok (.putfield 9, 3) := by decide +kernel
theorem dX6_init_13 : decode cX6_init 13 = .ok (.aload_n 0, 1) := by decide +kernel
theorem dX6_init_14 : decode cX6_init 14 = .ok (.sipush 1260, 3) := by decide +kernel
theorem dX6_init_17 : decode cX6_init 17 = .ok (.newarray .int, 2) := by decide +kernel
theorem dX6_init_19 : decode cX6_init 19 = .ok (.putfield 15, 3) := by decide +kernel
theorem dX6_init_22 : decode cX6_init 22 = .ok (.aload_n 0, 1) := by decide +kernel
theorem dX6_init_23 : decode cX6_init 23 = .ok (.iconst 0, 1) := by decide +kernel
theorem dX6_init_24 : decode cX6_init 24 = .ok (.putfield 19, 3) := by decide +kernel
theorem dX6_init_27 : decode cX6_init 27 = .ok (.aload_n 0, 1) := by decide +kernel
theorem dX6_init_28 : decode cX6_init 28 = .ok (.iconst (-1), 1) := by decide +kernel
theorem dX6_init_29 : decode cX6_init 29 = .ok (.putfield 23, 3) := by decide +kernel
theorem dX6_init_32 : decode cX6_init 32 = .ok (.aload_n 0, 1) := by decide +kernel
theorem dX6_init_33 : decode cX6_init 33 = .ok (.sipush 1260, 3) := by decide +kernel
theorem dX6_init_36 : decode cX6_init 36 = .ok (.newarray .int, 2) := by decide +kernel
theorem dX6_init_38 : decode cX6_init 38 = .ok (.putfield 26, 3) := by decide +kernel
theorem dX6_init_41 : decode cX6_init 41 = .ok (.aload_n 0, 1) := by decide +kernel
theorem dX6_init_42 : decode cX6_init 42 = .ok (.sipush 1260, 3) := by decide +kernel
theorem dX6_init_45 : decode cX6_init 45 = .ok (.newarray .int, 2) := by decide +kernel
theorem dX6_init_47 : decode cX6_init 47 = .ok (.putfield 29, 3) := by decide +kernel
theorem dX6_init_50 : decode cX6_init 50 = .ok (.aload_n 0, 1) := by decide +kernel
theorem dX6_init_51 : decode cX6_init 51 = .ok (.iconst (-1), 1) := by decide +kernel
theorem dX6_init_52 : decode cX6_init 52 = .ok (.putfield 32, 3) := by decide +kernel
theorem dX6_init_55 : decode cX6_init 55 = .ok (.aload_n 0, 1) := by decide +kernel
theorem dX6_init_56 : decode cX6_init 56 = .ok (.iconst (-1), 1) := by decide +kernel
theorem dX6_init_57 : decode cX6_init 57 = .ok (.putfield 35, 3) := by decide +kernel
theorem dX6_init_60 : decode cX6_init 60 = .ok (.aload_n 0, 1) := by decide +kernel
theorem dX6_init_61 : decode cX6_init 61 = .ok (.iconst (-1), 1) := by decide +kernel
theorem dX6_init_62 : decode cX6_init 62 = .ok (.putfield 38, 3) := by decide +kernel
theorem dX6_init_65 : decode cX6_init 65 = .ok (.aload_n 0, 1) := by decide +kernel
theorem dX6_init_66 : decode cX6_init 66 = .ok (.aload_n 1, 1) := by decide +kernel
theorem dX6_init_67 : decode cX6_init 67 = .ok (.putfield 41, 3) := by decide +kernel
theorem dX6_init_70 : decode cX6_init 70 = .ok (.aload_n 0, 1) := by decide +kernel
theorem dX6_init_71 : decode cX6_init 71 = .ok (.aload_n 2, 1) := by decide +kernel
theorem dX6_init_72 : decode cX6_init 72 = .ok (.putfield 45, 3) := by decide +kernel
theorem dX6_init_75 : decode cX6_init 75 = .ok (.aload_n 0, 1) := by decide +kernel
theorem dX6_init_76 : decode cX6_init 76 = .ok (.aload_n 3, 1) := by decide +kernel
theorem dX6_init_77 : decode cX6_init 77 = .ok (.putfield 49, 3) := by decide +kernel
theorem dX6_init_80 : decode cX6_init 80 = .ok (.aload_n 0, 1) := by decide +kernel
theorem dX6_init_81 : decode cX6_init 81 = .ok (.aload 4, 2) := by decide +kernel
theorem dX6_init_83 : decode cX6_init 83 = .ok (.putfield 53, 3) := by decide +kernel
theorem dX6_init_86 : decode cX6_init 86 = .ok (.return_, 1) := by decide +kernel
theorem dX11_init_191 : decode cX11_init 191 = .ok (.putfield 82, 3) := by decide +kernel
theorem dX11_init_194 : decode cX11_init 194 = .ok (.aload_n 0, 1) := by decide +kernel
theorem dX11_init_195 : decode cX11_init 195 = .ok (.new 86, 3) := by decide +kernel
theorem dX11_init_198 : decode cX11_init 198 = .ok (.dup, 1) := by decide +kernel
theorem dX11_init_199 : decode cX11_init 199 = .ok (.aload_n 0, 1) := by decide +kernel
theorem dX11_init_200 : decode cX11_init 200 = .ok (.getfield 27, 3) := by decide +kernel
theorem dX11_init_203 : decode cX11_init 203 = .ok (.aload_n 0, 1) := by decide +kernel
theorem dX11_init_204 : decode cX11_init 204 = .ok (.getfield 43, 3) := by decide +kernel
theorem dX11_init_207 : decode cX11_init 207 = .ok (.invokespecial 88, 3) := by decide +kernel
theorem dX4_init_0 : decode cX4_init 0 = .ok (.aload_n 0, 1) := by decide +kernel
theorem dX4_init_1 : decode cX4_init 1 = .ok (.invokespecial 3, 3) := by decide +kernel
theorem dX4_init_4 : decode cX4_init 4 = .ok (.aload_n 0, 1) := by decide +kernel
theorem dX4_init_5 : decode cX4_init 5 = .ok (.iconst 0, 1) := by decide +kernel
theorem dX4_init_6 : decode cX4_init 6 = .ok (.newarray .int, 2) := by decide +kernel
theorem dX4_init_8 : decode cX4_init 8 = .ok (.putfield 9, 3) := by decide +kernel
theorem dX4_init_11 : decode cX4_init 11 = .ok (.aload_n 0, 1) := by decide +kernel
theorem dX4_init_12 : decode cX4_init 12 = .ok (.iconst 0, 1) := by decide +kernel
theorem dX4_init_13 : decode cX4_init 13 = .ok (.newarray .int, 2) := by decide +kernel
theorem dX4_init_15 : decode cX4_init 15 = .ok (.putfield 15, 3) := by decide +kernel
theorem dX4_init_18 : decode cX4_init 18 = .ok (.aload_n 0, 1) := by decide +kernel
theorem dX4_init_19 : decode cX4_init 19 = .ok (.iconst 0, 1) := by decide +kernel
theorem dX4_init_20 : decode cX4_init 20 = .ok (.putfield 18, 3) := by decide +kernel
theorem dX4_init_23 : decode cX4_init 23 = .ok (.aload_n 0, 1) := by decide +kernel
theorem dX4_init_24 : decode cX4_init 24 = .ok (.aload_n 1, 1) := by decide +kernel
theorem dX4_init_25 : decode cX4_init 25 = .ok (.putfield 22, 3) := by decide +kernel
theorem dX4_init_28 : decode cX4_init 28 = .ok (.aload_n 0, 1) := by decide +kernel
theorem dX4_init_29 : decode cX4_init 29 = .ok (.aload_n 2, 1) := by decide +kernel
theorem dX4_init_30 : decode cX4_init 30 = .ok (.putfield 26, 3) := by decide +kernel
theorem dX4_init_33 : decode cX4_init 33 = .ok (.return_, 1) := by decide +kernel
theorem dX11_init_210 : decode cX11_init 210 = .ok (.putfield 89, 3) := by decide +kernel
theorem dX11_init_213 : decode cX11_init 213 = .ok (.aload_n 0, 1) := by decide +kernel
theorem dX11_init_214 : decode cX11_init 214 = .ok (.iconst 5, 1) := by decide +kernel
theorem dX11_init_215 : decode cX11_init 215 = .ok (.newarray .int, 2) := by decide +kernel
theorem dX11_init_217 : decode cX11_init 217 = .ok (.putfield 93, 3) := by decide +kernel
theorem dX11_init_220 : decode cX11_init 220 = .ok (.aload_n 0, 1) := by decide +kernel
theorem dX11_init_221 : decode cX11_init 221 = .ok (.iconst 0, 1) := by decide +kernel
theorem dX11_init_222 : decode cX11_init 222 = .ok (.putfield 97, 3) := by decide +kernel
theorem dX11_init_225 : decode cX11_init 225 = .ok (.aload_n 0, 1) := by decide +kernel
theorem dX11_init_226 : decode cX11_init 226 = .ok (.iconst (-1), 1) := by decide +kernel
theorem dX11_init_227 : decode cX11_init 227 = .ok (.putfield 101, 3) := by decide +kernel
theorem dX11_init_230 : decode cX11_init 230 = .ok (.aload_n 0, 1) := by decide +kernel
theorem dX11_init_231 : decode cX11_init 231 = .ok (.sipush 1260, 3) := by decide +kernel
theorem dX11_init_234 : decode cX11_init 234 = .ok (.newarray .int, 2) := by decide +kernel
theorem dX11_init_236 : decode cX11_init 236 = .ok (.putfield 104, 3) := by decide +kernel
theorem dX11_init_239 : decode cX11_init 239 = .ok (.aload_n 0, 1) := by decide +kernel
theorem dX11_init_240 : decode cX11_init 240 = .ok (.iconst 0, 1) := by decide +kernel
theorem dX11_init_241 : decode cX11_init 241 = .ok (.putfield 107, 3) := by decide +kernel
theorem dX11_init_244 : decode cX11_init 244 = .ok (.aload_n 0, 1) := by decide +kernel
theorem dX11_init_245 : decode cX11_init 245 = .ok (.getfield 27, 3) := by decide +kernel
theorem dX11_init_248 : decode cX11_init 248 = .ok (.aload_n 0, 1) := by decide +kernel
theorem dX11_init_249 : decode cX11_init 249 = .ok (.getfield 10, 3) := by decide +kernel
theorem dX11_init_252 : decode cX11_init 252 = .ok (.getfield 111, 3) := by decide +kernel
theorem dX11_init_255 : decode cX11_init 255 = .ok (.invokevirtual 114, 3) := by decide +kernel
theorem dX11_init_258 : decode cX11_init 258 = .ok (.return_, 1) := by decide +kernel
theorem dL_law_7 : decode cL_law 7 = .ok (.astore_n 1, 1) := by decide +kernel
theorem dL_law_8 : decode cL_law 8 = .ok (.new 10, 3) := by decide +kernel
theorem dL_law_11 : decode cL_law 11 = .ok (.dup, 1) := by decide +kernel
theorem dL_law_12 : decode cL_law 12 = .ok (.invokespecial 12, 3) := by decide +kernel
theorem dX12_init_0 : decode cX12_init 0 = .ok (.aload_n 0, 1) := by decide +kernel
theorem dX12_init_1 : decode cX12_init 1 = .ok (.invokespecial 14, 3) := by decide +kernel
theorem dX12_init_4 : decode cX12_init 4 = .ok (.aload_n 0, 1) := by decide +kernel
theorem dX12_init_5 : decode cX12_init 5 = .ok (.bipush 7, 2) := by decide +kernel
theorem dX12_init_7 : decode cX12_init 7 = .ok (.newarray .int, 2) := by decide +kernel
theorem dX12_init_9 : decode cX12_init 9 = .ok (.putfield 7, 3) := by decide +kernel
theorem dX12_init_12 : decode cX12_init 12 = .ok (.aload_n 0, 1) := by decide +kernel
theorem dX12_init_13 : decode cX12_init 13 = .ok (.sipush 4870, 3) := by decide +kernel
theorem dX12_init_16 : decode cX12_init 16 = .ok (.newarray .int, 2) := by decide +kernel
theorem dX12_init_18 : decode cX12_init 18 = .ok (.putfield 20, 3) := by decide +kernel
theorem dX12_init_21 : decode cX12_init 21 = .ok (.aload_n 0, 1) := by decide +kernel
theorem dX12_init_22 : decode cX12_init 22 = .ok (.sipush 9740, 3) := by decide +kernel
theorem dX12_init_25 : decode cX12_init 25 = .ok (.newarray .int, 2) := by decide +kernel
theorem dX12_init_27 : decode cX12_init 27 = .ok (.putfield 23, 3) := by decide +kernel
theorem dX12_init_30 : decode cX12_init 30 = .ok (.aload_n 0, 1) := by decide +kernel
theorem dX12_init_31 : decode cX12_init 31 = .ok (.iconst 2, 1) := by decide +kernel
theorem dX12_init_32 : decode cX12_init 32 = .ok (.newarray .boolean, 2) := by decide +kernel
theorem dX12_init_34 : decode cX12_init 34 = .ok (.putfield 26, 3) := by decide +kernel
theorem dX12_init_37 : decode cX12_init 37 = .ok (.aload_n 0, 1) := by decide +kernel
theorem dX12_init_38 : decode cX12_init 38 = .ok (.bipush 73, 2) := by decide +kernel
theorem dX12_init_40 : decode cX12_init 40 = .ok (.newarray .byte, 2) := by decide +kernel
theorem dX12_init_42 : decode cX12_init 42 = .ok (.dup, 1) := by decide +kernel
theorem dX12_init_43 : decode cX12_init 43 = .ok (.iconst 0, 1) := by decide +kernel
theorem dX12_init_44 : decode cX12_init 44 = .ok (.bipush 116, 2) := by decide +kernel
theorem dX12_init_46 : decode cX12_init 46 = .ok (.bastore, 1) := by decide +kernel
theorem dX12_init_47 : decode cX12_init 47 = .ok (.dup, 1) := by decide +kernel
theorem dX12_init_48 : decode cX12_init 48 = .ok (.iconst 1, 1) := by decide +kernel
theorem dX12_init_49 : decode cX12_init 49 = .ok (.bipush 97, 2) := by decide +kernel
theorem dX12_init_51 : decode cX12_init 51 = .ok (.bastore, 1) := by decide +kernel
theorem dX12_init_52 : decode cX12_init 52 = .ok (.dup, 1) := by decide +kernel
theorem dX12_init_53 : decode cX12_init 53 = .ok (.iconst 2, 1) := by decide +kernel
theorem dX12_init_54 : decode cX12_init 54 = .ok (.bipush 107, 2) := by decide +kernel
theorem dX12_init_56 : decode cX12_init 56 = .ok (.bastore, 1) := by decide +kernel
theorem dX12_init_57 : decode cX12_init 57 = .ok (.dup, 1) := by decide +kernel
theorem dX12_init_58 : decode cX12_init 58 = .ok (.iconst 3, 1) := by decide +kernel
theorem dX12_init_59 : decode cX12_init 59 = .ok (.bipush 101, 2) := by decide +kernel
theorem dX12_init_61 : decode cX12_init 61 = .ok (.bastore, 1) := by decide +kernel
theorem dX12_init_62 : decode cX12_init 62 = .ok (.dup, 1) := by decide +kernel
theorem dX12_init_63 : decode cX12_init 63 = .ok (.iconst 4, 1) := by decide +kernel
theorem dX12_init_64 : decode cX12_init 64 = .ok (.bipush 115, 2) := by decide +kernel
theorem dX12_init_66 : decode cX12_init 66 = .ok (.bastore, 1) := by decide +kernel
theorem dX12_init_67 : decode cX12_init 67 = .ok (.dup, 1) := by decide +kernel
theorem dX12_init_68 : decode cX12_init 68 = .ok (.iconst 5, 1) := by decide +kernel
theorem dX12_init_69 : decode cX12_init 69 = .ok (.bipush 32, 2) := by decide +kernel
theorem dX12_init_71 : decode cX12_init 71 = .ok (.bastore, 1) := by decide +kernel
theorem dX12_init_72 : decode cX12_init 72 = .ok (.dup, 1) := by decide +kernel
theorem dX12_init_73 : decode cX12_init 73 = .ok (.bipush 6, 2) := by decide +kernel
theorem dX12_init_75 : decode cX12_init 75 = .ok (.bipush 108, 2) := by decide +kernel
theorem dX12_init_77 : decode cX12_init 77 = .ok (.bastore, 1) := by decide +kernel
theorem dX12_init_78 : decode cX12_init 78 = .ok (.dup, 1) := by decide +kernel
theorem dX12_init_79 : decode cX12_init 79 = .ok (.bipush 7, 2) := by decide +kernel
theorem dX12_init_81 : decode cX12_init 81 = .ok (.bipush 101, 2) := by decide +kernel
theorem dX12_init_83 : decode cX12_init 83 = .ok (.bastore, 1) := by decide +kernel
theorem dX12_init_84 : decode cX12_init 84 = .ok (.dup, 1) := by decide +kernel
theorem dX12_init_85 : decode cX12_init 85 = .ok (.bipush 8, 2) := by decide +kernel
theorem dX12_init_87 : decode cX12_init 87 = .ok (.bipush 116, 2) := by decide +kernel
theorem dX12_init_89 : decode cX12_init 89 = .ok (.bastore, 1) := by decide +kernel
theorem dX12_init_90 : decode cX12_init 90 = .ok (.dup, 1) := by decide +kernel
theorem dX12_init_91 : decode cX12_init 91 = .ok (.bipush 9, 2) := by decide +kernel
theorem dX12_init_93 : decode cX12_init 93 = .ok (.bipush 115, 2) := by decide +kernel
theorem dX12_init_95 : decode cX12_init 95 = .ok (.bastore, 1) := by decide +kernel
theorem dX12_init_96 : decode cX12_init 96 = .ok (.dup, 1) := by decide +kernel
theorem dX12_init_97 : decode cX12_init 97 = .ok (.bipush 10, 2) := by decide +kernel
theorem dX12_init_99 : decode cX12_init 99 = .ok (.bipush 32, 2) := by decide +kernel
theorem dX12_init_101 : decode cX12_init 101 = .ok (.bastore, 1) := by decide +kernel
theorem dX12_init_102 : decode cX12_init 102 = .ok (.dup, 1) := by decide +kernel
theorem dX12_init_103 : decode cX12_init 103 = .ok (.bipush 11, 2) := by decide +kernel
theorem dX12_init_105 : decode cX12_init 105 = .ok (.bipush 98, 2) := by decide +kernel
theorem dX12_init_107 : decode cX12_init 107 = .ok (.bastore, 1) := by decide +kernel
theorem dX12_init_108 : decode cX12_init 108 = .ok (.dup, 1) := by decide +kernel
theorem dX12_init_109 : decode cX12_init 109 = .ok (.bipush 12, 2) := by decide +kernel
theorem dX12_init_111 : decode cX12_init 111 = .ok (.bipush 97, 2) := by decide +kernel
theorem dX12_init_113 : decode cX12_init 113 = .ok (.bastore, 1) := by decide +kernel
theorem dX12_init_114 : decode cX12_init 114 = .ok (.dup, 1) := by decide +kernel
theorem dX12_init_115 : decode cX12_init 115 = .ok (.bipush 13, 2) := by decide +kernel
theorem dX12_init_117 : decode cX12_init 117 = .ok (.bipush 114, 2) := by decide +kernel
theorem dX12_init_119 : decode cX12_init 119 = .ok (.bastore, 1) := by decide +kernel
theorem dX12_init_120 : decode cX12_init 120 = .ok (.dup, 1) := by decide +kernel
theorem dX12_init_121 : decode cX12_init 121 = .ok (.bipush 14, 2) := by decide +kernel
theorem dX12_init_123 : decode cX12_init 123 = .ok (.bipush 115, 2) := by decide +kernel
theorem dX12_init_125 : decode cX12_init 125 = .ok (.bastore, 1) := by decide +kernel
theorem dX12_init_126 : decode cX12_init 126 = .ok (.dup, 1) := by decide +kernel
theorem dX12_init_127 : decode cX12_init 127 = .ok (.bipush 15, 2) := by decide +kernel
theorem dX12_init_129 : decode cX12_init 129 = .ok (.bipush 32, 2) := by decide +kernel
theorem dX12_init_131 : decode cX12_init 131 = .ok (.bastore, 1) := by decide +kernel
theorem dX12_init_132 : decode cX12_init 132 = .ok (.dup, 1) := by decide +kernel
theorem dX12_init_133 : decode cX12_init 133 = .ok (.bipush 16, 2) := by decide +kernel
theorem dX12_init_135 : decode cX12_init 135 = .ok (.bipush 105, 2) := by decide +kernel
theorem dX12_init_137 : decode cX12_init 137 = .ok (.bastore, 1) := by decide +kernel
theorem dX12_init_138 : decode cX12_init 138 = .ok (.dup, 1) := by decide +kernel
theorem dX12_init_139 : decode cX12_init 139 = .ok (.bipush 17, 2) := by decide +kernel
theorem dX12_init_141 : decode cX12_init 141 = .ok (.bipush 102, 2) := by decide +kernel
theorem dX12_init_143 : decode cX12_init 143 = .ok (.bastore, 1) := by decide +kernel
theorem dX12_init_144 : decode cX12_init 144 = .ok (.dup, 1) := by decide +kernel
theorem dX12_init_145 : decode cX12_init 145 = .ok (.bipush 18, 2) := by decide +kernel
theorem dX12_init_147 : decode cX12_init 147 = .ok (.bipush 32, 2) := by decide +kernel
theorem dX12_init_149 : decode cX12_init 149 = .ok (.bastore, 1) := by decide +kernel
theorem dX12_init_150 : decode cX12_init 150 = .ok (.dup, 1) := by decide +kernel
theorem dX12_init_151 : decode cX12_init 151 = .ok (.bipush 19, 2) := by decide +kernel
theorem dX12_init_153 : decode cX12_init 153 = .ok (.bipush 111, 2) := by decide +kernel
theorem dX12_init_155 : decode cX12_init 155 = .ok (.bastore, 1) := by decide +kernel
theorem dX12_init_156 : decode cX12_init 156 = .ok (.dup, 1) := by decide +kernel
theorem dX12_init_157 : decode cX12_init 157 = .ok (.bipush 20, 2) := by decide +kernel
theorem dX12_init_159 : decode cX12_init 159 = .ok (.bipush 114, 2) := by decide +kernel
theorem dX12_init_161 : decode cX12_init 161 = .ok (.bastore, 1) := by decide +kernel
theorem dX12_init_162 : decode cX12_init 162 = .ok (.dup, 1) := by decide +kernel
theorem dX12_init_163 : decode cX12_init 163 = .ok (.bipush 21, 2) := by decide +kernel
theorem dX12_init_165 : decode cX12_init 165 = .ok (.bipush 32, 2) := by decide +kernel
theorem dX12_init_167 : decode cX12_init 167 = .ok (.bastore, 1) := by decide +kernel
theorem dX12_init_168 : decode cX12_init 168 = .ok (.dup, 1) := by decide +kernel
theorem dX12_init_169 : decode cX12_init 169 = .ok (.bipush 22, 2) := by decide +kernel
theorem dX12_init_171 : decode cX12_init 171 = .ok (.bipush 97, 2) := by decide +kernel
theorem dX12_init_173 : decode cX12_init 173 = .ok (.bastore, 1) := by decide +kernel
theorem dX12_init_174 : decode cX12_init 174 = .ok (.dup, 1) := by decide +kernel
theorem dX12_init_175 : decode cX12_init 175 = .ok (.bipush 23, 2) := by decide +kernel
theorem dX12_init_177 : decode cX12_init 177 = .ok (.bipush 110, 2) := by decide +kernel
theorem dX12_init_179 : decode cX12_init 179 = .ok (.bastore, 1) := by decide +kernel
theorem dX12_init_180 : decode cX12_init 180 = .ok (.dup, 1) := by decide +kernel
theorem dX12_init_181 : decode cX12_init 181 = .ok (.bipush 24, 2) := by decide +kernel
theorem dX12_init_183 : decode cX12_init 183 = .ok (.bipush 100, 2) := by decide +kernel
theorem dX12_init_185 : decode cX12_init 185 = .ok (.bastore, 1) := by decide +kernel
theorem dX12_init_186 : decode cX12_init 186 = .ok (.dup, 1) := by decide +kernel
theorem dX12_init_187 : decode cX12_init 187 = .ok (.bipush 25, 2) := by decide +kernel
theorem dX12_init_189 : decode cX12_init 189 = .ok (.bipush 32, 2) := by decide +kernel
theorem dX12_init_191 : decode cX12_init 191 = .ok (.bastore, 1) := by decide +kernel
theorem dX12_init_192 : decode cX12_init 192 = .ok (.dup, 1) := by decide +kernel
theorem dX12_init_193 : decode cX12_init 193 = .ok (.bipush 26, 2) := by decide +kernel
theorem dX12_init_195 : decode cX12_init 195 = .ok (.bipush 110, 2) := by decide +kernel
theorem dX12_init_197 : decode cX12_init 197 = .ok (.bastore, 1) := by decide +kernel
theorem dX12_init_198 : decode cX12_init 198 = .ok (.dup, 1) := by decide +kernel
theorem dX12_init_199 : decode cX12_init 199 = .ok (.bipush 27, 2) := by decide +kernel
theorem dX12_init_201 : decode cX12_init 201 = .ok (.bipush 111, 2) := by decide +kernel
theorem dX12_init_203 : decode cX12_init 203 = .ok (.bastore, 1) := by decide +kernel
theorem dX12_init_204 : decode cX12_init 204 = .ok (.dup, 1) := by decide +kernel
theorem dX12_init_205 : decode cX12_init 205 = .ok (.bipush 28, 2) := by decide +kernel
theorem dX12_init_207 : decode cX12_init 207 = .ok (.bipush 116, 2) := by decide +kernel
theorem dX12_init_209 : decode cX12_init 209 = .ok (.bastore, 1) := by decide +kernel
theorem dX12_init_210 : decode cX12_init 210 = .ok (.dup, 1) := by decide +kernel
theorem dX12_init_211 : decode cX12_init 211 = .ok (.bipush 29, 2) := by decide +kernel
theorem dX12_init_213 : decode cX12_init 213 = .ok (.bipush 32, 2) := by decide +kernel
theorem dX12_init_215 : decode cX12_init 215 = .ok (.bastore, 1) := by decide +kernel
theorem dX12_init_216 : decode cX12_init 216 = .ok (.dup, 1) := by decide +kernel
theorem dX12_init_217 : decode cX12_init 217 = .ok (.bipush 30, 2) := by decide +kernel
theorem dX12_init_219 : decode cX12_init 219 = .ok (.bipush 108, 2) := by decide +kernel
theorem dX12_init_221 : decode cX12_init 221 = .ok (.bastore, 1) := by decide +kernel
theorem dX12_init_222 : decode cX12_init 222 = .ok (.dup, 1) := by decide +kernel
theorem dX12_init_223 : decode cX12_init 223 = .ok (.bipush 31, 2) := by decide +kernel
theorem dX12_init_225 : decode cX12_init 225 = .ok (.bipush 101, 2) := by decide +kernel
theorem dX12_init_227 : decode cX12_init 227 = .ok (.bastore, 1) := by decide +kernel
theorem dX12_init_228 : decode cX12_init 228 = .ok (.dup, 1) := by decide +kernel
theorem dX12_init_229 : decode cX12_init 229 = .ok (.bipush 32, 2) := by decide +kernel
theorem dX12_init_231 : decode cX12_init 231 = .ok (.bipush 102, 2) := by decide +kernel
theorem dX12_init_233 : decode cX12_init 233 = .ok (.bastore, 1) := by decide +kernel
theorem dX12_init_234 : decode cX12_init 234 = .ok (.dup, 1) := by decide +kernel
theorem dX12_init_235 : decode cX12_init 235 = .ok (.bipush 33, 2) := by decide +kernel
theorem dX12_init_237 : decode cX12_init 237 = .ok (.bipush 116, 2) := by decide +kernel
theorem dX12_init_239 : decode cX12_init 239 = .ok (.bastore, 1) := by decide +kernel
theorem dX12_init_240 : decode cX12_init 240 = .ok (.dup, 1) := by decide +kernel
theorem dX12_init_241 : decode cX12_init 241 = .ok (.bipush 34, 2) := by decide +kernel
theorem dX12_init_243 : decode cX12_init 243 = .ok (.bipush 32, 2) := by decide +kernel
theorem dX12_init_245 : decode cX12_init 245 = .ok (.bastore, 1) := by decide +kernel
theorem dX12_init_246 : decode cX12_init 246 = .ok (.dup, 1) := by decide +kernel
theorem dX12_init_247 : decode cX12_init 247 = .ok (.bipush 35, 2) := by decide +kernel
theorem dX12_init_249 : decode cX12_init 249 = .ok (.bipush 114, 2) := by decide +kernel
theorem dX12_init_251 : decode cX12_init 251 = .ok (.bastore, 1) := by decide +kernel
theorem dX12_init_252 : decode cX12_init 252 = .ok (.dup, 1) := by decide +kernel
theorem dX12_init_253 : decode cX12_init 253 = .ok (.bipush 36, 2) := by decide +kernel
theorem dX12_init_255 : decode cX12_init 255 = .ok (.bipush 105, 2) := by decide +kernel
theorem dX12_init_257 : decode cX12_init 257 = .ok (.bastore, 1) := by decide +kernel
theorem dX12_init_258 : decode cX12_init 258 = .ok (.dup, 1) := by decide +kernel
theorem dX12_init_259 : decode cX12_init 259 = .ok (.bipush 37, 2) := by decide +kernel
theorem dX12_init_261 : decode cX12_init 261 = .ok (.bipush 103, 2) := by decide +kernel
theorem dX12_init_263 : decode cX12_init 263 = .ok (.bastore, 1) := by decide +kernel
theorem dX12_init_264 : decode cX12_init 264 = .ok (.dup, 1) := by decide +kernel
theorem dX12_init_265 : decode cX12_init 265 = .ok (.bipush 38, 2) := by decide +kernel
theorem dX12_init_267 : decode cX12_init 267 = .ok (.bipush 104, 2) := by decide +kernel
theorem dX12_init_269 : decode cX12_init 269 = .ok (.bastore, 1) := by decide +kernel
theorem dX12_init_270 : decode cX12_init 270 = .ok (.dup, 1) := by decide +kernel
theorem dX12_init_271 : decode cX12_init 271 = .ok (.bipush 39, 2) := by decide +kernel
theorem dX12_init_273 : decode cX12_init 273 = .ok (.bipush 116, 2) := by decide +kernel
theorem dX12_init_275 : decode cX12_init 275 = .ok (.bastore, 1) := by decide +kernel
theorem dX12_init_276 : decode cX12_init 276 = .ok (.dup, 1) := by decide +kernel
theorem dX12_init_277 : decode cX12_init 277 = .ok (.bipush 40, 2) := by decide +kernel
theorem dX12_init_279 : decode cX12_init 279 = .ok (.bipush 32, 2) := by decide +kernel
theorem dX12_init_281 : decode cX12_init 281 = .ok (.bastore, 1) := by decide +kernel
theorem dX12_init_282 : decode cX12_init 282 = .ok (.dup, 1) := by decide +kernel
theorem dX12_init_283 : decode cX12_init 283 = .ok (.bipush 41, 2) := by decide +kernel
theorem dX12_init_285 : decode cX12_init 285 = .ok (.bipush 111, 2) := by decide +kernel
theorem dX12_init_287 : decode cX12_init 287 = .ok (.bastore, 1) := by decide +kernel
theorem dX12_init_288 : decode cX12_init 288 = .ok (.dup, 1) := by decide +kernel
theorem dX12_init_289 : decode cX12_init 289 = .ok (.bipush 42, 2) := by decide +kernel
theorem dX12_init_291 : decode cX12_init 291 = .ok (.bipush 110, 2) := by decide +kernel
theorem dX12_init_293 : decode cX12_init 293 = .ok (.bastore, 1) := by decide +kernel
theorem dX12_init_294 : decode cX12_init 294 = .ok (.dup, 1) := by decide +kernel
theorem dX12_init_295 : decode cX12_init 295 = .ok (.bipush 43, 2) := by decide +kernel
theorem dX12_init_297 : decode cX12_init 297 = .ok (.bipush 101, 2) := by decide +kernel
theorem dX12_init_299 : decode cX12_init 299 = .ok (.bastore, 1) := by decide +kernel
theorem dX12_init_300 : decode cX12_init 300 = .ok (.dup, 1) := by decide +kernel
theorem dX12_init_301 : decode cX12_init 301 = .ok (.bipush 44, 2) := by decide +kernel
theorem dX12_init_303 : decode cX12_init 303 = .ok (.bipush 32, 2) := by decide +kernel
theorem dX12_init_305 : decode cX12_init 305 = .ok (.bastore, 1) := by decide +kernel
theorem dX12_init_306 : decode cX12_init 306 = .ok (.dup, 1) := by decide +kernel
theorem dX12_init_307 : decode cX12_init 307 = .ok (.bipush 45, 2) := by decide +kernel
theorem dX12_init_309 : decode cX12_init 309 = .ok (.bipush 111, 2) := by decide +kernel
theorem dX12_init_311 : decode cX12_init 311 = .ok (.bastore, 1) := by decide +kernel
theorem dX12_init_312 : decode cX12_init 312 = .ok (.dup, 1) := by decide +kernel
theorem dX12_init_313 : decode cX12_init 313 = .ok (.bipush 46, 2) := by decide +kernel
theorem dX12_init_315 : decode cX12_init 315 = .ok (.bipush 116, 2) := by decide +kernel
theorem dX12_init_317 : decode cX12_init 317 = .ok (.bastore, 1) := by decide +kernel
theorem dX12_init_318 : decode cX12_init 318 = .ok (.dup, 1) := by decide +kernel
theorem dX12_init_319 : decode cX12_init 319 = .ok (.bipush 47, 2) := by decide +kernel
theorem dX12_init_321 : decode cX12_init 321 = .ok (.bipush 104, 2) := by decide +kernel
theorem dX12_init_323 : decode cX12_init 323 = .ok (.bastore, 1) := by decide +kernel
theorem dX12_init_324 : decode cX12_init 324 = .ok (.dup, 1) := by decide +kernel
theorem dX12_init_325 : decode cX12_init 325 = .ok (.bipush 48, 2) := by decide +kernel
theorem dX12_init_327 : decode cX12_init 327 = .ok (.bipush 101, 2) := by decide +kernel
theorem dX12_init_329 : decode cX12_init 329 = .ok (.bastore, 1) := by decide +kernel
theorem dX12_init_330 : decode cX12_init 330 = .ok (.dup, 1) := by decide +kernel
theorem dX12_init_331 : decode cX12_init 331 = .ok (.bipush 49, 2) := by decide +kernel
theorem dX12_init_333 : decode cX12_init 333 = .ok (.bipush 114, 2) := by decide +kernel
theorem dX12_init_335 : decode cX12_init 335 = .ok (.bastore, 1) := by decide +kernel
theorem dX12_init_336 : decode cX12_init 336 = .ok (.dup, 1) := by decide +kernel
theorem dX12_init_337 : decode cX12_init 337 = .ok (.bipush 50, 2) := by decide +kernel
theorem dX12_init_339 : decode cX12_init 339 = .ok (.bipush 32, 2) := by decide +kernel
theorem dX12_init_341 : decode cX12_init 341 = .ok (.bastore, 1) := by decide +kernel
theorem dX12_init_342 : decode cX12_init 342 = .ok (.dup, 1) := by decide +kernel
theorem dX12_init_343 : decode cX12_init 343 = .ok (.bipush 51, 2) := by decide +kernel
theorem dX12_init_345 : decode cX12_init 345 = .ok (.bipush 97, 2) := by decide +kernel
theorem dX12_init_347 : decode cX12_init 347 = .ok (.bastore, 1) := by decide +kernel
theorem dX12_init_348 : decode cX12_init 348 = .ok (.dup, 1) := by decide +kernel
theorem dX12_init_349 : decode cX12_init 349 = .ok (.bipush 52, 2) := by decide +kernel
theorem dX12_init_351 : decode cX12_init 351 = .ok (.bipush 112, 2) := by decide +kernel
theorem dX12_init_353 : decode cX12_init 353 = .ok (.bastore, 1) := by decide +kernel
theorem dX12_init_354 : decode cX12_init 354 = .ok (.dup, 1) := by decide +kernel
theorem dX12_init_355 : decode cX12_init 355 = .ok (.bipush 53, 2) := by decide +kernel
theorem dX12_init_357 : decode cX12_init 357 = .ok (.bipush 97, 2) := by decide +kernel
theorem dX12_init_359 : decode cX12_init 359 = .ok (.bastore, 1) := by decide +kernel
theorem dX12_init_360 : decode cX12_init 360 = .ok (.dup, 1) := by decide +kernel
theorem dX12_init_361 : decode cX12_init 361 = .ok (.bipush 54, 2) := by decide +kernel
theorem dX12_init_363 : decode cX12_init 363 = .ok (.bipush 114, 2) := by decide +kernel
theorem dX12_init_365 : decode cX12_init 365 = .ok (.bastore, 1) := by decide +kernel
theorem dX12_init_366 : decode cX12_init 366 = .ok (.dup, 1) := by decide +kernel
theorem dX12_init_367 : decode cX12_init 367 = .ok (.bipush 55, 2) := by decide +kernel
theorem dX12_init_369 : decode cX12_init 369 = .ok (.bipush 116, 2) := by decide +kernel
theorem dX12_init_371 : decode cX12_init 371 = .ok (.bastore, 1) := by decide +kernel
theorem dX12_init_372 : decode cX12_init 372 = .ok (.dup, 1) := by decide +kernel
theorem dX12_init_373 : decode cX12_init 373 = .ok (.bipush 56, 2) := by decide +kernel
theorem dX12_init_375 : decode cX12_init 375 = .ok (.bipush 32, 2) := by decide +kernel
theorem dX12_init_377 : decode cX12_init 377 = .ok (.bastore, 1) := by decide +kernel
theorem dX12_init_378 : decode cX12_init 378 = .ok (.dup, 1) := by decide +kernel
theorem dX12_init_379 : decode cX12_init 379 = .ok (.bipush 57, 2) := by decide +kernel
theorem dX12_init_381 : decode cX12_init 381 = .ok (.bipush 102, 2) := by decide +kernel
theorem dX12_init_383 : decode cX12_init 383 = .ok (.bastore, 1) := by decide +kernel
theorem dX12_init_384 : decode cX12_init 384 = .ok (.dup, 1) := by decide +kernel
theorem dX12_init_385 : decode cX12_init 385 = .ok (.bipush 58, 2) := by decide +kernel
theorem dX12_init_387 : decode cX12_init 387 = .ok (.bipush 105, 2) := by decide +kernel
theorem dX12_init_389 : decode cX12_init 389 = .ok (.bastore, 1) := by decide +kernel
theorem dX12_init_390 : decode cX12_init 390 = .ok (.dup, 1) := by decide +kernel
theorem dX12_init_391 : decode cX12_init 391 = .ok (.bipush 59, 2) := by decide +kernel
theorem dX12_init_393 : decode cX12_init 393 = .ok (.bipush 114, 2) := by decide +kernel
theorem dX12_init_395 : decode cX12_init 395 = .ok (.bastore, 1) := by decide +kernel
theorem dX12_init_396 : decode cX12_init 396 = .ok (.dup, 1) := by decide +kernel
theorem dX12_init_397 : decode cX12_init 397 = .ok (.bipush 60, 2) := by decide +kernel
theorem dX12_init_399 : decode cX12_init 399 = .ok (.bipush 115, 2) := by decide +kernel
theorem dX12_init_401 : decode cX12_init 401 = .ok (.bastore, 1) := by decide +kernel
theorem dX12_init_402 : decode cX12_init 402 = .ok (.dup, 1) := by decide +kernel
theorem dX12_init_403 : decode cX12_init 403 = .ok (.bipush 61, 2) := by decide +kernel
theorem dX12_init_405 : decode cX12_init 405 = .ok (.bipush 116, 2) := by decide +kernel
theorem dX12_init_407 : decode cX12_init 407 = .ok (.bastore, 1) := by decide +kernel
theorem dX12_init_408 : decode cX12_init 408 = .ok (.dup, 1) := by decide +kernel
theorem dX12_init_409 : decode cX12_init 409 = .ok (.bipush 62, 2) := by decide +kernel
theorem dX12_init_411 : decode cX12_init 411 = .ok (.bipush 32, 2) := by decide +kernel
theorem dX12_init_413 : decode cX12_init 413 = .ok (.bastore, 1) := by decide +kernel
theorem dX12_init_414 : decode cX12_init 414 = .ok (.dup, 1) := by decide +kernel
theorem dX12_init_415 : decode cX12_init 415 = .ok (.bipush 63, 2) := by decide +kernel
theorem dX12_init_417 : decode cX12_init 417 = .ok (.bipush 98, 2) := by decide +kernel
theorem dX12_init_419 : decode cX12_init 419 = .ok (.bastore, 1) := by decide +kernel
theorem dX12_init_420 : decode cX12_init 420 = .ok (.dup, 1) := by decide +kernel
theorem dX12_init_421 : decode cX12_init 421 = .ok (.bipush 64, 2) := by decide +kernel
theorem dX12_init_423 : decode cX12_init 423 = .ok (.bipush 101, 2) := by decide +kernel
theorem dX12_init_425 : decode cX12_init 425 = .ok (.bastore, 1) := by decide +kernel
theorem dX12_init_426 : decode cX12_init 426 = .ok (.dup, 1) := by decide +kernel
theorem dX12_init_427 : decode cX12_init 427 = .ok (.bipush 65, 2) := by decide +kernel
theorem dX12_init_429 : decode cX12_init 429 = .ok (.bipush 97, 2) := by decide +kernel
theorem dX12_init_431 : decode cX12_init 431 = .ok (.bastore, 1) := by decide +kernel
theorem dX12_init_432 : decode cX12_init 432 = .ok (.dup, 1) := by decide +kernel
theorem dX12_init_433 : decode cX12_init 433 = .ok (.bipush 66, 2) := by decide +kernel
theorem dX12_init_435 : decode cX12_init 435 = .ok (.bipush 110, 2) := by decide +kernel
theorem dX12_init_437 : decode cX12_init 437 = .ok (.bastore, 1) := by decide +kernel
theorem dX12_init_438 : decode cX12_init 438 = .ok (.dup, 1) := by decide +kernel
theorem dX12_init_439 : decode cX12_init 439 = .ok (.bipush 67, 2) := by decide +kernel
theorem dX12_init_441 : decode cX12_init 441 = .ok (.bipush 115, 2) := by decide +kernel
theorem dX12_init_443 : decode cX12_init 443 = .ok (.bastore, 1) := by decide +kernel
theorem dX12_init_444 : decode cX12_init 444 = .ok (.dup, 1) := by decide +kernel
theorem dX12_init_445 : decode cX12_init 445 = .ok (.bipush 68, 2) := by decide +kernel
theorem dX12_init_447 : decode cX12_init 447 = .ok (.bipush 32, 2) := by decide +kernel
theorem dX12_init_449 : decode cX12_init 449 = .ok (.bastore, 1) := by decide +kernel
theorem dX12_init_450 : decode cX12_init 450 = .ok (.dup, 1) := by decide +kernel
theorem dX12_init_451 : decode cX12_init 451 = .ok (.bipush 69, 2) := by decide +kernel
theorem dX12_init_453 : decode cX12_init 453 = .ok (.bipush 100, 2) := by decide +kernel
theorem dX12_init_455 : decode cX12_init 455 = .ok (.bastore, 1) := by decide +kernel
theorem dX12_init_456 : decode cX12_init 456 = .ok (.dup, 1) := by decide +kernel
theorem dX12_init_457 : decode cX12_init 457 = .ok (.bipush 70, 2) := by decide +kernel
theorem dX12_init_459 : decode cX12_init 459 = .ok (.bipush 97, 2) := by decide +kernel
theorem dX12_init_461 : decode cX12_init 461 = .ok (.bastore, 1) := by decide +kernel
theorem dX12_init_462 : decode cX12_init 462 = .ok (.dup, 1) := by decide +kernel
theorem dX12_init_463 : decode cX12_init 463 = .ok (.bipush 71, 2) := by decide +kernel
theorem dX12_init_465 : decode cX12_init 465 = .ok (.bipush 121, 2) := by decide +kernel
theorem dX12_init_467 : decode cX12_init 467 = .ok (.bastore, 1) := by decide +kernel
theorem dX12_init_468 : decode cX12_init 468 = .ok (.dup, 1) := by decide +kernel
theorem dX12_init_469 : decode cX12_init 469 = .ok (.bipush 72, 2) := by decide +kernel
theorem dX12_init_471 : decode cX12_init 471 = .ok (.bipush 32, 2) := by decide +kernel
theorem dX12_init_473 : decode cX12_init 473 = .ok (.bastore, 1) := by decide +kernel
theorem dX12_init_474 : decode cX12_init 474 = .ok (.putfield 30, 3) := by decide +kernel
theorem dX12_init_477 : decode cX12_init 477 = .ok (.aload_n 0, 1) := by decide +kernel
theorem dX12_init_478 : decode cX12_init 478 = .ok (.sipush 400, 3) := by decide +kernel
theorem dX12_init_481 : decode cX12_init 481 = .ok (.newarray .byte, 2) := by decide +kernel
theorem dX12_init_483 : decode cX12_init 483 = .ok (.putfield 34, 3) := by decide +kernel
theorem dX12_init_486 : decode cX12_init 486 = .ok (.aload_n 0, 1) := by decide +kernel
theorem dX12_init_487 : decode cX12_init 487 = .ok (.iconst 5, 1) := by decide +kernel
theorem dX12_init_488 : decode cX12_init 488 = .ok (.newarray .int, 2) := by decide +kernel
theorem dX12_init_490 : decode cX12_init 490 = .ok (.putfield 37, 3) := by decide +kernel
theorem dX12_init_493 : decode cX12_init 493 = .ok (.aload_n 0, 1) := by decide +kernel
theorem dX12_init_494 : decode cX12_init 494 = .ok (.iconst (-1), 1) := by decide +kernel
theorem dX12_init_495 : decode cX12_init 495 = .ok (.putfield 40, 3) := by decide +kernel
theorem dX12_init_498 : decode cX12_init 498 = .ok (.aload_n 0, 1) := by decide +kernel
theorem dX12_init_499 : decode cX12_init 499 = .ok (.sipush 401, 3) := by decide +kernel
theorem dX12_init_502 : decode cX12_init 502 = .ok (.newarray .int, 2) := by decide +kernel
theorem dX12_init_504 : decode cX12_init 504 = .ok (.putfield 43, 3) := by decide +kernel
theorem dX12_init_507 : decode cX12_init 507 = .ok (.aload_n 0, 1) := by decide +kernel
theorem dX12_init_508 : decode cX12_init 508 = .ok (.sipush 401, 3) := by decide +kernel
theorem dX12_init_511 : decode cX12_init 511 = .ok (.newarray .int, 2) := by decide +kernel
theorem dX12_init_513 : decode cX12_init 513 = .ok (.putfield 46, 3) := by decide +kernel
theorem dX12_init_516 : decode cX12_init 516 = .ok (.aload_n 0, 1) := by decide +kernel
theorem dX12_init_517 : decode cX12_init 517 = .ok (.sipush 401, 3) := by decide +kernel
theorem dX12_init_520 : decode cX12_init 520 = .ok (.newarray .int, 2) := by decide +kernel
theorem dX12_init_522 : decode cX12_init 522 = .ok (.putfield 49, 3) := by decide +kernel
theorem dX12_init_525 : decode cX12_init 525 = .ok (.aload_n 0, 1) := by decide +kernel
theorem dX12_init_526 : decode cX12_init 526 = .ok (.bipush 8, 2) := by decide +kernel
theorem dX12_init_528 : decode cX12_init 528 = .ok (.newarray .int, 2) := by decide +kernel
theorem dX12_init_530 : decode cX12_init 530 = .ok (.putfield 52, 3) := by decide +kernel
theorem dX12_init_533 : decode cX12_init 533 = .ok (.aload_n 0, 1) := by decide +kernel
theorem dX12_init_534 : decode cX12_init 534 = .ok (.sipush 8820, 3) := by decide +kernel
theorem dX12_init_537 : decode cX12_init 537 = .ok (.newarray .int, 2) := by decide +kernel
theorem dX12_init_539 : decode cX12_init 539 = .ok (.putfield 55, 3) := by decide +kernel
theorem dX12_init_542 : decode cX12_init 542 = .ok (.aload_n 0, 1) := by decide +kernel
theorem dX12_init_543 : decode cX12_init 543 = .ok (.sipush 1260, 3) := by decide +kernel
theorem dX12_init_546 : decode cX12_init 546 = .ok (.newarray .int, 2) := by decide +kernel
theorem dX12_init_548 : decode cX12_init 548 = .ok (.putfield 58, 3) := by decide +kernel
theorem dX12_init_551 : decode cX12_init 551 = .ok (.aload_n 0, 1) := by decide +kernel
theorem dX12_init_552 : decode cX12_init 552 = .ok (.sipush 27720, 3) := by decide +kernel
theorem dX12_init_555 : decode cX12_init 555 = .ok (.newarray .int, 2) := by decide +kernel
theorem dX12_init_557 : decode cX12_init 557 = .ok (.putfield 61, 3) := by decide +kernel
theorem dX12_init_560 : decode cX12_init 560 = .ok (.aload_n 0, 1) := by decide +kernel
theorem dX12_init_561 : decode cX12_init 561 = .ok (.sipush 27720, 3) := by decide +kernel
theorem dX12_init_564 : decode cX12_init 564 = .ok (.newarray .int, 2) := by decide +kernel
theorem dX12_init_566 : decode cX12_init 566 = .ok (.putfield 64, 3) := by decide +kernel
theorem dX12_init_569 : decode cX12_init 569 = .ok (.aload_n 0, 1) := by decide +kernel
theorem dX12_init_570 : decode cX12_init 570 = .ok (.sipush 1260, 3) := by decide +kernel
theorem dX12_init_573 : decode cX12_init 573 = .ok (.newarray .int, 2) := by decide +kernel
theorem dX12_init_575 : decode cX12_init 575 = .ok (.putfield 67, 3) := by decide +kernel
theorem dX12_init_578 : decode cX12_init 578 = .ok (.aload_n 0, 1) := by decide +kernel
theorem dX12_init_579 : decode cX12_init 579 = .ok (.sipush 27720, 3) := by decide +kernel
theorem dX12_init_582 : decode cX12_init 582 = .ok (.newarray .int, 2) := by decide +kernel
theorem dX12_init_584 : decode cX12_init 584 = .ok (.putfield 70, 3) := by decide +kernel
theorem dX12_init_587 : decode cX12_init 587 = .ok (.aload_n 0, 1) := by decide +kernel
theorem dX12_init_588 : decode cX12_init 588 = .ok (.sipush 1260, 3) := by decide +kernel
theorem dX12_init_591 : decode cX12_init 591 = .ok (.newarray .int, 2) := by decide +kernel
theorem dX12_init_593 : decode cX12_init 593 = .ok (.putfield 73, 3) := by decide +kernel
theorem dX12_init_596 : decode cX12_init 596 = .ok (.aload_n 0, 1) := by decide +kernel
theorem dX12_init_597 : decode cX12_init 597 = .ok (.bipush 7, 2) := by decide +kernel
theorem dX12_init_599 : decode cX12_init 599 = .ok (.newarray .int, 2) := by decide +kernel
theorem dX12_init_601 : decode cX12_init 601 = .ok (.putfield 76, 3) := by decide +kernel
theorem dX12_init_604 : decode cX12_init 604 = .ok (.aload_n 0, 1) := by decide +kernel
theorem dX12_init_605 : decode cX12_init 605 = .ok (.iconst (-1), 1) := by decide +kernel
theorem dX12_init_606 : decode cX12_init 606 = .ok (.putfield 79, 3) := by decide +kernel
theorem dX12_init_609 : decode cX12_init 609 = .ok (.aload_n 0, 1) := by decide +kernel
theorem dX12_init_610 : decode cX12_init 610 = .ok (.iconst (-1), 1) := by decide +kernel
theorem dX12_init_611 : decode cX12_init 611 = .ok (.putfield 82, 3) := by decide +kernel
theorem dX12_init_614 : decode cX12_init 614 = .ok (.aload_n 0, 1) := by decide +kernel
theorem dX12_init_615 : decode cX12_init 615 = .ok (.sipush 1260, 3) := by decide +kernel
theorem dX12_init_618 : decode cX12_init 618 = .ok (.newarray .int, 2) := by decide +kernel
theorem dX12_init_620 : decode cX12_init 620 = .ok (.putfield 85, 3) := by decide +kernel
theorem dX12_init_623 : decode cX12_init 623 = .ok (.aload_n 0, 1) := by decide +kernel
theorem dX12_init_624 : decode cX12_init 624 = .ok (.sipush 1260, 3) := by decide +kernel
theorem dX12_init_627 : decode cX12_init 627 = .ok (.newarray .long, 2) := by decide +kernel
theorem dX12_init_629 : decode cX12_init 629 = .ok (.putfield 88, 3) := by decide +kernel
theorem dX12_init_632 : decode cX12_init 632 = .ok (.aload_n 0, 1) := by decide +kernel
theorem dX12_init_633 : decode cX12_init 633 = .ok (.sipush 1260, 3) := by decide +kernel
theorem dX12_init_636 : decode cX12_init 636 = .ok (.newarray .int, 2) := by decide +kernel
theorem dX12_init_638 : decode cX12_init 638 = .ok (.putfield 92, 3) := by decide +kernel
theorem dX12_init_641 : decode cX12_init 641 = .ok (.aload_n 0, 1) := by decide +kernel
theorem dX12_init_642 : decode cX12_init 642 = .ok (.sipush 1260, 3) := by decide +kernel
theorem dX12_init_645 : decode cX12_init 645 = .ok (.newarray .int, 2) := by decide +kernel
theorem dX12_init_647 : decode cX12_init 647 = .ok (.putfield 95, 3) := by decide +kernel
theorem dX12_init_650 : decode cX12_init 650 = .ok (.aload_n 0, 1) := by decide +kernel
theorem dX12_init_651 : decode cX12_init 651 = .ok (.sipush 1260, 3) := by decide +kernel
theorem dX12_init_654 : decode cX12_init 654 = .ok (.newarray .boolean, 2) := by decide +kernel
theorem dX12_init_656 : decode cX12_init 656 = .ok (.putfield 98, 3) := by decide +kernel
theorem dX12_init_659 : decode cX12_init 659 = .ok (.aload_n 0, 1) := by decide +kernel
theorem dX12_init_660 : decode cX12_init 660 = .ok (.sipush 1260, 3) := by decide +kernel
theorem dX12_init_663 : decode cX12_init 663 = .ok (.newarray .int, 2) := by decide +kernel
theorem dX12_init_665 : decode cX12_init 665 = .ok (.putfield 101, 3) := by decide +kernel
theorem dX12_init_668 : decode cX12_init 668 = .ok (.aload_n 0, 1) := by decide +kernel
theorem dX12_init_669 : decode cX12_init 669 = .ok (.sipush 27720, 3) := by decide +kernel
theorem dX12_init_672 : decode cX12_init 672 = .ok (.newarray .boolean, 2) := by decide +kernel
theorem dX12_init_674 : decode cX12_init 674 = .ok (.putfield 104, 3) := by decide +kernel
theorem dX12_init_677 : decode cX12_init 677 = .ok (.aload_n 0, 1) := by decide +kernel
theorem dX12_init_678 : decode cX12_init 678 = .ok (.sipush 1260, 3) := by decide +kernel
theorem dX12_init_681 : decode cX12_init 681 = .ok (.newarray .int, 2) := by decide +kernel
theorem dX12_init_683 : decode cX12_init 683 = .ok (.putfield 107, 3) := by decide +kernel
theorem dX12_init_686 : decode cX12_init 686 = .ok (.aload_n 0, 1) := by decide +kernel
theorem dX12_init_687 : decode cX12_init 687 = .ok (.sipush 1260, 3) := by decide +kernel
theorem dX12_init_690 : decode cX12_init 690 = .ok (.newarray .int, 2) := by decide +kernel
theorem dX12_init_692 : decode cX12_init 692 = .ok (.putfield 110, 3) := by decide +kernel
theorem dX12_init_695 : decode cX12_init 695 = .ok (.aload_n 0, 1) := by decide +kernel
theorem dX12_init_696 : decode cX12_init 696 = .ok (.sipush 1260, 3) := by decide +kernel
theorem dX12_init_699 : decode cX12_init 699 = .ok (.newarray .long, 2) := by decide +kernel
theorem dX12_init_701 : decode cX12_init 701 = .ok (.putfield 113, 3) := by decide +kernel
theorem dX12_init_704 : decode cX12_init 704 = .ok (.aload_n 0, 1) := by decide +kernel
theorem dX12_init_705 : decode cX12_init 705 = .ok (.sipush 1260, 3) := by decide +kernel
theorem dX12_init_708 : decode cX12_init 708 = .ok (.newarray .long, 2) := by decide +kernel
theorem dX12_init_710 : decode cX12_init 710 = .ok (.putfield 116, 3) := by decide +kernel
theorem dX12_init_713 : decode cX12_init 713 = .ok (.aload_n 0, 1) := by decide +kernel
theorem dX12_init_714 : decode cX12_init 714 = .ok (.ldc 119, 2) := by decide +kernel
theorem dX12_init_716 : decode cX12_init 716 = .ok (.newarray .boolean, 2) := by decide +kernel
theorem dX12_init_718 : decode cX12_init 718 = .ok (.putfield 120, 3) := by decide +kernel
theorem dX12_init_721 : decode cX12_init 721 = .ok (.aload_n 0, 1) := by decide +kernel
theorem dX12_init_722 : decode cX12_init 722 = .ok (.sipush 1260, 3) := by decide +kernel
theorem dX12_init_725 : decode cX12_init 725 = .ok (.newarray .boolean, 2) := by decide +kernel
theorem dX12_init_727 : decode cX12_init 727 = .ok (.putfield 123, 3) := by decide +kernel
theorem dX12_init_730 : decode cX12_init 730 = .ok (.aload_n 0, 1) := by decide +kernel
theorem dX12_init_731 : decode cX12_init 731 = .ok (.sipush 1261, 3) := by decide +kernel
theorem dX12_init_734 : decode cX12_init 734 = .ok (.newarray .int, 2) := by decide +kernel
theorem dX12_init_736 : decode cX12_init 736 = .ok (.putfield 126, 3) := by decide +kernel
theorem dX12_init_739 : decode cX12_init 739 = .ok (.aload_n 0, 1) := by decide +kernel
theorem dX12_init_740 : decode cX12_init 740 = .ok (.sipush 1600, 3) := by decide +kernel
theorem dX12_init_743 : decode cX12_init 743 = .ok (.newarray .int, 2) := by decide +kernel
theorem dX12_init_745 : decode cX12_init 745 = .ok (.putfield 129, 3) := by decide +kernel
theorem dX12_init_748 : decode cX12_init 748 = .ok (.aload_n 0, 1) := by decide +kernel
theorem dX12_init_749 : decode cX12_init 749 = .ok (.sipush 1600, 3) := by decide +kernel
theorem dX12_init_752 : decode cX12_init 752 = .ok (.newarray .int, 2) := by decide +kernel
theorem dX12_init_754 : decode cX12_init 754 = .ok (.putfield 132, 3) := by decide +kernel
theorem dX12_init_757 : decode cX12_init 757 = .ok (.aload_n 0, 1) := by decide +kernel
theorem dX12_init_758 : decode cX12_init 758 = .ok (.sipush 1260, 3) := by decide +kernel
theorem dX12_init_761 : decode cX12_init 761 = .ok (.newarray .int, 2) := by decide +kernel
theorem dX12_init_763 : decode cX12_init 763 = .ok (.putfield 135, 3) := by decide +kernel
theorem dX12_init_766 : decode cX12_init 766 = .ok (.aload_n 0, 1) := by decide +kernel
theorem dX12_init_767 : decode cX12_init 767 = .ok (.getfield 20, 3) := by decide +kernel
theorem dX12_init_770 : decode cX12_init 770 = .ok (.bipush 63, 2) := by decide +kernel
theorem dX12_init_772 : decode cX12_init 772 = .ok (.iconst (-1), 1) := by decide +kernel
theorem dX12_init_773 : decode cX12_init 773 = .ok (.iastore, 1) := by decide +kernel
theorem dX12_init_774 : decode cX12_init 774 = .ok (.return_, 1) := by decide +kernel
theorem dL_law_15 : decode cL_law 15 = .ok (.astore_n 2, 1) := by decide +kernel
theorem dL_law_16 : decode cL_law 16 = .ok (.iconst 0, 1) := by decide +kernel
theorem dL_law_17 : decode cL_law 17 = .ok (.istore_n 3, 1) := by decide +kernel
set_option maxHeartbeats 4000000 in
set_option maxRecDepth 100000 in
theorem c_X8_init_1 {l : Launch} {G : jG} {fh : Nat → Option va_E} (hk1 : fh 1 = some (.inr (8, [.null, .null, .null, .int 0, .int 0, .null, .null, .int 0, .null, .null, .int 0, .null, .null, .int 0]))) : JM l G yX8_init MX8_init { frames := 1, cells := 15, slots := 65, locals := 12 } [.ref 1] (2, fh) (fun r h9 => r = none ∧ h9 = (17, hc fh [(1, .inr (8, [.ref 2, .ref 3, .ref 4, .int 0, .int (-1), .ref 11, .ref 12, .int 0, .ref 13, .ref 14, .int 0, .ref 15, .ref 16, .int 0])), (16, .inl (0, 12, .inl (fun _ => 0))), (15, .inl (0, 12, .inl (fun _ => 0))), (14, .inl (0, 6, .inl (fun _ => 0))), (13, .inl (0, 6, .inl (fun _ => 0))), (12, .inl (0, 8, .inl (fun _ => 0))), (11, .inl (0, 8, .inl (fun _ => 0))), (10, .inl (0, 0, .inl (fun _ => 0))), (9, .inl (0, 0, .inl (fun _ => 0))), (8, .inl (0, 0, .inl (fun _ => 0))), (7, .inl (0, 0, .inl (fun _ => 0))), (6, .inl (0, 0, .inl (fun _ => 0))), (5, .inl (0, 0, .inl (fun _ => 0))), (4, .inl (5, 6, .inr (.inr (.inr (.inr (fun i => if i < 6 then some (4 + 1 + i) else none)))))), (3, .inl (0, 2, .inl (fun _ => 0))), (2, .inl (0, 5, .inl (fun _ => 0)))])) := by
  refine JM.of (by decide) rfl (fun _ => rfl) (Nat.le_of_ble_eq_true rfl) ⟨0, rfl⟩ ?_
  refine J_hc0 (J_ls (ls2 := [some (.ref 1)]) rfl ?_)
  refine J_aload_n dX8_init_0 rfl rfl ?_
  refine J_objInit dX8_init_1 (jt1 34 rfl rfl) (jt1 27 rfl rfl) (jt1 28 rfl rfl) (Nat.le_of_ble_eq_true rfl) (Nat.le_of_ble_eq_true rfl) ?_
  refine J_aload_n dX8_init_4 rfl rfl ?_
  refine J_iconst (v := 5) dX8_init_5 (by decide) ?_
  refine K_newa (t := 0) (N := 5) (a0 := (5, .inl (fun _ => 0))) (nh2 := 3) (ck2 := 1) (sk2 := 5) dX8_init_6 rfl (jt1 98 rfl rfl) rfl (fun _ _ h9 => h9) (fun _ => rfl) (fun _ => rfl) (by decide +kernel) (by decide +kernel) (Nat.le_of_ble_eq_true rfl) (Nat.le_of_ble_eq_true rfl) (Nat.le_of_ble_eq_true rfl) rfl rfl rfl ?_
  refine K_putF (fs2 := [.ref 2, .null, .null, .int 0, .int 0, .null, .null, .int 0, .null, .null, .int 0, .null, .null, .int 0]) dX8_init_8 rfl fw_X8_9 hk1 (Nat.le_of_ble_eq_true rfl) (fun _ => ⟨rfl, rfl⟩) rfl ?_
  refine J_aload_n dX8_init_11 rfl rfl ?_
  refine J_iconst (v := 2) dX8_init_12 (by decide) ?_
  refine K_newa (t := 0) (N := 2) (a0 := (2, .inl (fun _ => 0))) (nh2 := 4) (ck2 := 2) (sk2 := 7) dX8_init_13 rfl (jt1 98 rfl rfl) rfl (fun _ _ h9 => h9) (fun _ => rfl) (fun _ => rfl) (by decide +kernel) (by decide +kernel) (Nat.le_of_ble_eq_true rfl) (Nat.le_of_ble_eq_true rfl) (Nat.le_of_ble_eq_true rfl) rfl rfl rfl ?_
  refine K_putF (fs2 := [.ref 2, .ref 3, .null, .int 0, .int 0, .null, .null, .int 0, .null, .null, .int 0, .null, .null, .int 0]) dX8_init_15 rfl fw_X8_15 rfl (Nat.le_of_ble_eq_true rfl) (fun _ => ⟨rfl, rfl⟩) rfl ?_
  refine J_aload_n dX8_init_18 rfl rfl ?_
  refine J_bipush (v := 6) dX8_init_19 (by decide +kernel) ?_
  refine J_iconst (v := 0) dX8_init_21 (by decide) ?_
  refine K_mna (N := 6) (K := 0) (nh2 := 11) (ck2 := 9) (sk2 := 13) (L2 := [(10, .inl (0, 0, .inl (fun _ => 0))), (9, .inl (0, 0, .inl (fun _ => 0))), (8, .inl (0, 0, .inl (fun _ => 0))), (7, .inl (0, 0, .inl (fun _ => 0))), (6, .inl (0, 0, .inl (fun _ => 0))), (5, .inl (0, 0, .inl (fun _ => 0))), (4, .inl (5, 6, .inr (.inr (.inr (.inr (fun i => if i < 6 then some (4 + 1 + i) else none)))))), (1, .inr (8, [.ref 2, .ref 3, .null, .int 0, .int 0, .null, .null, .int 0, .null, .null, .int 0, .null, .null, .int 0])), (3, .inl (0, 2, .inl (fun _ => 0))), (1, .inr (8, [.ref 2, .null, .null, .int 0, .int 0, .null, .null, .int 0, .null, .null, .int 0, .null, .null, .int 0])), (2, .inl (0, 5, .inl (fun _ => 0)))]) dX8_init_22 (jt1 35 rfl rfl) (jt1 98 rfl rfl) (by decide +kernel) (by decide +kernel) (by decide +kernel) (by decide +kernel) (Nat.le_of_ble_eq_true rfl) (Nat.le_of_ble_eq_true rfl) (Nat.le_of_ble_eq_true rfl) (Nat.le_of_ble_eq_true rfl) rfl rfl rfl rfl ?_
  refine K_putF (fs2 := [.ref 2, .ref 3, .ref 4, .int 0, .int 0, .null, .null, .int 0, .null, .null, .int 0, .null, .null, .int 0]) dX8_init_26 rfl fw_X8_20 rfl (Nat.le_of_ble_eq_true rfl) (fun _ => ⟨rfl, rfl⟩) rfl ?_
  refine J_aload_n dX8_init_29 rfl rfl ?_
  refine J_iconst (v := 0) dX8_init_30 (by decide) ?_
  refine K_put (fs2 := [.ref 2, .ref 3, .ref 4, .int 0, .int 0, .null, .null, .int 0, .null, .null, .int 0, .null, .null, .int 0]) dX8_init_31 fw_X8_23 rfl (Nat.le_of_ble_eq_true rfl) (fun _ => ⟨rfl, rfl⟩) rfl ?_
  refine J_aload_n dX8_init_34 rfl rfl ?_
  refine J_iconst (v := (-1)) dX8_init_35 (by decide) ?_
  refine K_put (fs2 := [.ref 2, .ref 3, .ref 4, .int 0, .int (-1), .null, .null, .int 0, .null, .null, .int 0, .null, .null, .int 0]) dX8_init_36 fw_X8_27 rfl (Nat.le_of_ble_eq_true rfl) (fun _ => ⟨rfl, rfl⟩) rfl ?_
  refine J_aload_n dX8_init_39 rfl rfl ?_
  refine J_bipush (v := 8) dX8_init_40 (by decide +kernel) ?_
  refine K_newa (t := 0) (N := 8) (a0 := (8, .inl (fun _ => 0))) (nh2 := 12) (ck2 := 10) (sk2 := 21) dX8_init_42 rfl (jt1 98 rfl rfl) rfl (fun _ _ h9 => h9) (fun _ => rfl) (fun _ => rfl) (by decide +kernel) (by decide +kernel) (Nat.le_of_ble_eq_true rfl) (Nat.le_of_ble_eq_true rfl) (Nat.le_of_ble_eq_true rfl) rfl rfl rfl ?_
  refine K_putF (fs2 := [.ref 2, .ref 3, .ref 4, .int 0, .int (-1), .ref 11, .null, .int 0, .null, .null, .int 0, .null, .null, .int 0]) dX8_init_44 rfl fw_X8_30 rfl (Nat.le_of_ble_eq_true rfl) (fun _ => ⟨rfl, rfl⟩) rfl ?_
  refine J_aload_n dX8_init_47 rfl rfl ?_
  refine J_bipush (v := 8) dX8_init_48 (by decide +kernel) ?_
  refine K_newa (t := 0) (N := 8) (a0 := (8, .inl (fun _ => 0))) (nh2 := 13) (ck2 := 11) (sk2 := 29) dX8_init_50 rfl (jt1 98 rfl rfl) rfl (fun _ _ h9 => h9) (fun _ => rfl) (fun _ => rfl) (by decide +kernel) (by decide +kernel) (Nat.le_of_ble_eq_true rfl) (Nat.le_of_ble_eq_true rfl) (Nat.le_of_ble_eq_true rfl) rfl rfl rfl ?_
  refine K_putF (fs2 := [.ref 2, .ref 3, .ref 4, .int 0, .int (-1), .ref 11, .ref 12, .int 0, .null, .null, .int 0, .null, .null, .int 0]) dX8_init_52 rfl fw_X8_33 rfl (Nat.le_of_ble_eq_true rfl) (fun _ => ⟨rfl, rfl⟩) rfl ?_
  refine J_aload_n dX8_init_55 rfl rfl ?_
  refine J_iconst (v := 0) dX8_init_56 (by decide) ?_
  refine K_put (fs2 := [.ref 2, .ref 3, .ref 4, .int 0, .int (-1), .ref 11, .ref 12, .int 0, .null, .null, .int 0, .null, .null, .int 0]) dX8_init_57 fw_X8_36 rfl (Nat.le_of_ble_eq_true rfl) (fun _ => ⟨rfl, rfl⟩) rfl ?_
  refine J_aload_n dX8_init_60 rfl rfl ?_
  refine J_bipush (v := 6) dX8_init_61 (by decide +kernel) ?_
  refine K_newa (t := 0) (N := 6) (a0 := (6, .inl (fun _ => 0))) (nh2 := 14) (ck2 := 12) (sk2 := 35) dX8_init_63 rfl (jt1 98 rfl rfl) rfl (fun _ _ h9 => h9) (fun _ => rfl) (fun _ => rfl) (by decide +kernel) (by decide +kernel) (Nat.le_of_ble_eq_true rfl) (Nat.le_of_ble_eq_true rfl) (Nat.le_of_ble_eq_true rfl) rfl rfl rfl ?_
  refine K_putF (fs2 := [.ref 2, .ref 3, .ref 4, .int 0, .int (-1), .ref 11, .ref 12, .int 0, .ref 13, .null, .int 0, .null, .null, .int 0]) dX8_init_65 rfl fw_X8_39 rfl (Nat.le_of_ble_eq_true rfl) (fun _ => ⟨rfl, rfl⟩) rfl ?_
  refine J_aload_n dX8_init_68 rfl rfl ?_
  refine J_bipush (v := 6) dX8_init_69 (by decide +kernel) ?_
  refine K_newa (t := 0) (N := 6) (a0 := (6, .inl (fun _ => 0))) (nh2 := 15) (ck2 := 13) (sk2 := 41) dX8_init_71 rfl (jt1 98 rfl rfl) rfl (fun _ _ h9 => h9) (fun _ => rfl) (fun _ => rfl) (by decide +kernel) (by decide +kernel) (Nat.le_of_ble_eq_true rfl) (Nat.le_of_ble_eq_true rfl) (Nat.le_of_ble_eq_true rfl) rfl rfl rfl ?_
  refine K_putF (fs2 := [.ref 2, .ref 3, .ref 4, .int 0, .int (-1), .ref 11, .ref 12, .int 0, .ref 13, .ref 14, .int 0, .null, .null, .int 0]) dX8_init_73 rfl fw_X8_42 rfl (Nat.le_of_ble_eq_true rfl) (fun _ => ⟨rfl, rfl⟩) rfl ?_
  refine J_aload_n dX8_init_76 rfl rfl ?_
  refine J_iconst (v := 0) dX8_init_77 (by decide) ?_
  refine K_put (fs2 := [.ref 2, .ref 3, .ref 4, .int 0, .int (-1), .ref 11, .ref 12, .int 0, .ref 13, .ref 14, .int 0, .null, .null, .int 0]) dX8_init_78 fw_X8_45 rfl (Nat.le_of_ble_eq_true rfl) (fun _ => ⟨rfl, rfl⟩) rfl ?_
  refine J_aload_n dX8_init_81 rfl rfl ?_
  refine J_bipush (v := 12) dX8_init_82 (by decide +kernel) ?_
  refine K_newa (t := 0) (N := 12) (a0 := (12, .inl (fun _ => 0))) (nh2 := 16) (ck2 := 14) (sk2 := 53) dX8_init_84 rfl (jt1 98 rfl rfl) rfl (fun _ _ h9 => h9) (fun _ => rfl) (fun _ => rfl) (by decide +kernel) (by decide +kernel) (Nat.le_of_ble_eq_true rfl) (Nat.le_of_ble_eq_true rfl) (Nat.le_of_ble_eq_true rfl) rfl rfl rfl ?_
  refine K_putF (fs2 := [.ref 2, .ref 3, .ref 4, .int 0, .int (-1), .ref 11, .ref 12, .int 0, .ref 13, .ref 14, .int 0, .ref 15, .null, .int 0]) dX8_init_86 rfl fw_X8_48 rfl (Nat.le_of_ble_eq_true rfl) (fun _ => ⟨rfl, rfl⟩) rfl ?_
  refine J_aload_n dX8_init_89 rfl rfl ?_
  refine J_bipush (v := 12) dX8_init_90 (by decide +kernel) ?_
  refine K_newa (t := 0) (N := 12) (a0 := (12, .inl (fun _ => 0))) (nh2 := 17) (ck2 := 15) (sk2 := 65) dX8_init_92 rfl (jt1 98 rfl rfl) rfl (fun _ _ h9 => h9) (fun _ => rfl) (fun _ => rfl) (by decide +kernel) (by decide +kernel) (Nat.le_of_ble_eq_true rfl) (Nat.le_of_ble_eq_true rfl) (Nat.le_of_ble_eq_true rfl) rfl rfl rfl ?_
  refine K_putF (fs2 := [.ref 2, .ref 3, .ref 4, .int 0, .int (-1), .ref 11, .ref 12, .int 0, .ref 13, .ref 14, .int 0, .ref 15, .ref 16, .int 0]) dX8_init_94 rfl fw_X8_51 rfl (Nat.le_of_ble_eq_true rfl) (fun _ => ⟨rfl, rfl⟩) rfl ?_
  refine J_aload_n dX8_init_97 rfl rfl ?_
  refine J_iconst (v := 0) dX8_init_98 (by decide) ?_
  refine K_put (fs2 := [.ref 2, .ref 3, .ref 4, .int 0, .int (-1), .ref 11, .ref 12, .int 0, .ref 13, .ref 14, .int 0, .ref 15, .ref 16, .int 0]) dX8_init_99 fw_X8_54 rfl (Nat.le_of_ble_eq_true rfl) (fun _ => ⟨rfl, rfl⟩) rfl ?_
  refine J_mask (L2 := [(1, .inr (8, [.ref 2, .ref 3, .ref 4, .int 0, .int (-1), .ref 11, .ref 12, .int 0, .ref 13, .ref 14, .int 0, .ref 15, .ref 16, .int 0])), (16, .inl (0, 12, .inl (fun _ => 0))), (15, .inl (0, 12, .inl (fun _ => 0))), (14, .inl (0, 6, .inl (fun _ => 0))), (13, .inl (0, 6, .inl (fun _ => 0))), (12, .inl (0, 8, .inl (fun _ => 0))), (11, .inl (0, 8, .inl (fun _ => 0))), (10, .inl (0, 0, .inl (fun _ => 0))), (9, .inl (0, 0, .inl (fun _ => 0))), (8, .inl (0, 0, .inl (fun _ => 0))), (7, .inl (0, 0, .inl (fun _ => 0))), (6, .inl (0, 0, .inl (fun _ => 0))), (5, .inl (0, 0, .inl (fun _ => 0))), (4, .inl (5, 6, .inr (.inr (.inr (.inr (fun i => if i < 6 then some (4 + 1 + i) else none)))))), (3, .inl (0, 2, .inl (fun _ => 0))), (2, .inl (0, 5, .inl (fun _ => 0)))]) (ks := [1, 1, 16, 1, 15, 1, 1, 14, 1, 13, 1, 1, 12, 1, 11, 1, 1, 1, 10, 9, 8, 7, 6, 5, 4, 1, 3, 1, 2]) [true, false, true, false, true, false, false, true, false, true, false, false, true, false, true, false, false, false, true, true, true, true, true, true, true, false, true, false, true] rfl (by decide +kernel) rfl ?_
  exact J_vret dX8_init_102 rfl (Nat.le_of_ble_eq_true rfl) (Nat.le_of_ble_eq_true rfl) ⟨rfl, rfl⟩
set_option maxHeartbeats 4000000 in
set_option maxRecDepth 100000 in
theorem c_X8_init_2 {l : Launch} {G : jG} {fh : Nat → Option va_E} (hk18 : fh 18 = some (.inr (8, [.null, .null, .null, .int 0, .int 0, .null, .null, .int 0, .null, .null, .int 0, .null, .null, .int 0]))) : JM l G yX8_init MX8_init { frames := 1, cells := 15, slots := 65, locals := 12 } [.ref 18] (19, fh) (fun r h9 => r = none ∧ h9 = (34, hc fh [(18, .inr (8, [.ref 19, .ref 20, .ref 21, .int 0, .int (-1), .ref 28, .ref 29, .int 0, .ref 30, .ref 31, .int 0, .ref 32, .ref 33, .int 0])), (33, .inl (0, 12, .inl (fun _ => 0))), (32, .inl (0, 12, .inl (fun _ => 0))), (31, .inl (0, 6, .inl (fun _ => 0))), (30, .inl (0, 6, .inl (fun _ => 0))), (29, .inl (0, 8, .inl (fun _ => 0))), (28, .inl (0, 8, .inl (fun _ => 0))), (27, .inl (0, 0, .inl (fun _ => 0))), (26, .inl (0, 0, .inl (fun _ => 0))), (25, .inl (0, 0, .inl (fun _ => 0))), (24, .inl (0, 0, .inl (fun _ => 0))), (23, .inl (0, 0, .inl (fun _ => 0))), (22, .inl (0, 0, .inl (fun _ => 0))), (21, .inl (5, 6, .inr (.inr (.inr (.inr (fun i => if i < 6 then some (21 + 1 + i) else none)))))), (20, .inl (0, 2, .inl (fun _ => 0))), (19, .inl (0, 5, .inl (fun _ => 0)))])) := by
  refine JM.of (by decide) rfl (fun _ => rfl) (Nat.le_of_ble_eq_true rfl) ⟨0, rfl⟩ ?_
  refine J_hc0 (J_ls (ls2 := [some (.ref 18)]) rfl ?_)
  refine J_aload_n dX8_init_0 rfl rfl ?_
  refine J_objInit dX8_init_1 (jt1 34 rfl rfl) (jt1 27 rfl rfl) (jt1 28 rfl rfl) (Nat.le_of_ble_eq_true rfl) (Nat.le_of_ble_eq_true rfl) ?_
  refine J_aload_n dX8_init_4 rfl rfl ?_
  refine J_iconst (v := 5) dX8_init_5 (by decide) ?_
  refine K_newa (t := 0) (N := 5) (a0 := (5, .inl (fun _ => 0))) (nh2 := 20) (ck2 := 1) (sk2 := 5) dX8_init_6 rfl (jt1 98 rfl rfl) rfl (fun _ _ h9 => h9) (fun _ => rfl) (fun _ => rfl) (by decide +kernel) (by decide +kernel) (Nat.le_of_ble_eq_true rfl) (Nat.le_of_ble_eq_true rfl) (Nat.le_of_ble_eq_true rfl) rfl rfl rfl ?_
  refine K_putF (fs2 := [.ref 19, .null, .null, .int 0, .int 0, .null, .null, .int 0, .null, .null, .int 0, .null, .null, .int 0]) dX8_init_8 rfl fw_X8_9 hk18 (Nat.le_of_ble_eq_true rfl) (fun _ => ⟨rfl, rfl⟩) rfl ?_
  refine J_aload_n dX8_init_11 rfl rfl ?_
  refine J_iconst (v := 2) dX8_init_12 (by decide) ?_
  refine K_newa (t := 0) (N := 2) (a0 := (2, .inl (fun _ => 0))) (nh2 := 21) (ck2 := 2) (sk2 := 7) dX8_init_13 rfl (jt1 98 rfl rfl) rfl (fun _ _ h9 => h9) (fun _ => rfl) (fun _ => rfl) (by decide +kernel) (by decide +kernel) (Nat.le_of_ble_eq_true rfl) (Nat.le_of_ble_eq_true rfl) (Nat.le_of_ble_eq_true rfl) rfl rfl rfl ?_
  refine K_putF (fs2 := [.ref 19, .ref 20, .null, .int 0, .int 0, .null, .null, .int 0, .null, .null, .int 0, .null, .null, .int 0]) dX8_init_15 rfl fw_X8_15 rfl (Nat.le_of_ble_eq_true rfl) (fun _ => ⟨rfl, rfl⟩) rfl ?_
  refine J_aload_n dX8_init_18 rfl rfl ?_
  refine J_bipush (v := 6) dX8_init_19 (by decide +kernel) ?_
  refine J_iconst (v := 0) dX8_init_21 (by decide) ?_
  refine K_mna (N := 6) (K := 0) (nh2 := 28) (ck2 := 9) (sk2 := 13) (L2 := [(27, .inl (0, 0, .inl (fun _ => 0))), (26, .inl (0, 0, .inl (fun _ => 0))), (25, .inl (0, 0, .inl (fun _ => 0))), (24, .inl (0, 0, .inl (fun _ => 0))), (23, .inl (0, 0, .inl (fun _ => 0))), (22, .inl (0, 0, .inl (fun _ => 0))), (21, .inl (5, 6, .inr (.inr (.inr (.inr (fun i => if i < 6 then some (21 + 1 + i) else none)))))), (18, .inr (8, [.ref 19, .ref 20, .null, .int 0, .int 0, .null, .null, .int 0, .null, .null, .int 0, .null, .null, .int 0])), (20, .inl (0, 2, .inl (fun _ => 0))), (18, .inr (8, [.ref 19, .null, .null, .int 0, .int 0, .null, .null, .int 0, .null, .null, .int 0, .null, .null, .int 0])), (19, .inl (0, 5, .inl (fun _ => 0)))]) dX8_init_22 (jt1 35 rfl rfl) (jt1 98 rfl rfl) (by decide +kernel) (by decide +kernel) (by decide +kernel) (by decide +kernel) (Nat.le_of_ble_eq_true rfl) (Nat.le_of_ble_eq_true rfl) (Nat.le_of_ble_eq_true rfl) (Nat.le_of_ble_eq_true rfl) rfl rfl rfl rfl ?_
  refine K_putF (fs2 := [.ref 19, .ref 20, .ref 21, .int 0, .int 0, .null, .null, .int 0, .null, .null, .int 0, .null, .null, .int 0]) dX8_init_26 rfl fw_X8_20 rfl (Nat.le_of_ble_eq_true rfl) (fun _ => ⟨rfl, rfl⟩) rfl ?_
  refine J_aload_n dX8_init_29 rfl rfl ?_
  refine J_iconst (v := 0) dX8_init_30 (by decide) ?_
  refine K_put (fs2 := [.ref 19, .ref 20, .ref 21, .int 0, .int 0, .null, .null, .int 0, .null, .null, .int 0, .null, .null, .int 0]) dX8_init_31 fw_X8_23 rfl (Nat.le_of_ble_eq_true rfl) (fun _ => ⟨rfl, rfl⟩) rfl ?_
  refine J_aload_n dX8_init_34 rfl rfl ?_
  refine J_iconst (v := (-1)) dX8_init_35 (by decide) ?_
  refine K_put (fs2 := [.ref 19, .ref 20, .ref 21, .int 0, .int (-1), .null, .null, .int 0, .null, .null, .int 0, .null, .null, .int 0]) dX8_init_36 fw_X8_27 rfl (Nat.le_of_ble_eq_true rfl) (fun _ => ⟨rfl, rfl⟩) rfl ?_
  refine J_aload_n dX8_init_39 rfl rfl ?_
  refine J_bipush (v := 8) dX8_init_40 (by decide +kernel) ?_
  refine K_newa (t := 0) (N := 8) (a0 := (8, .inl (fun _ => 0))) (nh2 := 29) (ck2 := 10) (sk2 := 21) dX8_init_42 rfl (jt1 98 rfl rfl) rfl (fun _ _ h9 => h9) (fun _ => rfl) (fun _ => rfl) (by decide +kernel) (by decide +kernel) (Nat.le_of_ble_eq_true rfl) (Nat.le_of_ble_eq_true rfl) (Nat.le_of_ble_eq_true rfl) rfl rfl rfl ?_
  refine K_putF (fs2 := [.ref 19, .ref 20, .ref 21, .int 0, .int (-1), .ref 28, .null, .int 0, .null, .null, .int 0, .null, .null, .int 0]) dX8_init_44 rfl fw_X8_30 rfl (Nat.le_of_ble_eq_true rfl) (fun _ => ⟨rfl, rfl⟩) rfl ?_
  refine J_aload_n dX8_init_47 rfl rfl ?_
  refine J_bipush (v := 8) dX8_init_48 (by decide +kernel) ?_
  refine K_newa (t := 0) (N := 8) (a0 := (8, .inl (fun _ => 0))) (nh2 := 30) (ck2 := 11) (sk2 := 29) dX8_init_50 rfl (jt1 98 rfl rfl) rfl (fun _ _ h9 => h9) (fun _ => rfl) (fun _ => rfl) (by decide +kernel) (by decide +kernel) (Nat.le_of_ble_eq_true rfl) (Nat.le_of_ble_eq_true rfl) (Nat.le_of_ble_eq_true rfl) rfl rfl rfl ?_
  refine K_putF (fs2 := [.ref 19, .ref 20, .ref 21, .int 0, .int (-1), .ref 28, .ref 29, .int 0, .null, .null, .int 0, .null, .null, .int 0]) dX8_init_52 rfl fw_X8_33 rfl (Nat.le_of_ble_eq_true rfl) (fun _ => ⟨rfl, rfl⟩) rfl ?_
  refine J_aload_n dX8_init_55 rfl rfl ?_
  refine J_iconst (v := 0) dX8_init_56 (by decide) ?_
  refine K_put (fs2 := [.ref 19, .ref 20, .ref 21, .int 0, .int (-1), .ref 28, .ref 29, .int 0, .null, .null, .int 0, .null, .null, .int 0]) dX8_init_57 fw_X8_36 rfl (Nat.le_of_ble_eq_true rfl) (fun _ => ⟨rfl, rfl⟩) rfl ?_
  refine J_aload_n dX8_init_60 rfl rfl ?_
  refine J_bipush (v := 6) dX8_init_61 (by decide +kernel) ?_
  refine K_newa (t := 0) (N := 6) (a0 := (6, .inl (fun _ => 0))) (nh2 := 31) (ck2 := 12) (sk2 := 35) dX8_init_63 rfl (jt1 98 rfl rfl) rfl (fun _ _ h9 => h9) (fun _ => rfl) (fun _ => rfl) (by decide +kernel) (by decide +kernel) (Nat.le_of_ble_eq_true rfl) (Nat.le_of_ble_eq_true rfl) (Nat.le_of_ble_eq_true rfl) rfl rfl rfl ?_
  refine K_putF (fs2 := [.ref 19, .ref 20, .ref 21, .int 0, .int (-1), .ref 28, .ref 29, .int 0, .ref 30, .null, .int 0, .null, .null, .int 0]) dX8_init_65 rfl fw_X8_39 rfl (Nat.le_of_ble_eq_true rfl) (fun _ => ⟨rfl, rfl⟩) rfl ?_
  refine J_aload_n dX8_init_68 rfl rfl ?_
  refine J_bipush (v := 6) dX8_init_69 (by decide +kernel) ?_
  refine K_newa (t := 0) (N := 6) (a0 := (6, .inl (fun _ => 0))) (nh2 := 32) (ck2 := 13) (sk2 := 41) dX8_init_71 rfl (jt1 98 rfl rfl) rfl (fun _ _ h9 => h9) (fun _ => rfl) (fun _ => rfl) (by decide +kernel) (by decide +kernel) (Nat.le_of_ble_eq_true rfl) (Nat.le_of_ble_eq_true rfl) (Nat.le_of_ble_eq_true rfl) rfl rfl rfl ?_
  refine K_putF (fs2 := [.ref 19, .ref 20, .ref 21, .int 0, .int (-1), .ref 28, .ref 29, .int 0, .ref 30, .ref 31, .int 0, .null, .null, .int 0]) dX8_init_73 rfl fw_X8_42 rfl (Nat.le_of_ble_eq_true rfl) (fun _ => ⟨rfl, rfl⟩) rfl ?_
  refine J_aload_n dX8_init_76 rfl rfl ?_
  refine J_iconst (v := 0) dX8_init_77 (by decide) ?_
  refine K_put (fs2 := [.ref 19, .ref 20, .ref 21, .int 0, .int (-1), .ref 28, .ref 29, .int 0, .ref 30, .ref 31, .int 0, .null, .null, .int 0]) dX8_init_78 fw_X8_45 rfl (Nat.le_of_ble_eq_true rfl) (fun _ => ⟨rfl, rfl⟩) rfl ?_
  refine J_aload_n dX8_init_81 rfl rfl ?_
  refine J_bipush (v := 12) dX8_init_82 (by decide +kernel) ?_
  refine K_newa (t := 0) (N := 12) (a0 := (12, .inl (fun _ => 0))) (nh2 := 33) (ck2 := 14) (sk2 := 53) dX8_init_84 rfl (jt1 98 rfl rfl) rfl (fun _ _ h9 => h9) (fun _ => rfl) (fun _ => rfl) (by decide +kernel) (by decide +kernel) (Nat.le_of_ble_eq_true rfl) (Nat.le_of_ble_eq_true rfl) (Nat.le_of_ble_eq_true rfl) rfl rfl rfl ?_
  refine K_putF (fs2 := [.ref 19, .ref 20, .ref 21, .int 0, .int (-1), .ref 28, .ref 29, .int 0, .ref 30, .ref 31, .int 0, .ref 32, .null, .int 0]) dX8_init_86 rfl fw_X8_48 rfl (Nat.le_of_ble_eq_true rfl) (fun _ => ⟨rfl, rfl⟩) rfl ?_
  refine J_aload_n dX8_init_89 rfl rfl ?_
  refine J_bipush (v := 12) dX8_init_90 (by decide +kernel) ?_
  refine K_newa (t := 0) (N := 12) (a0 := (12, .inl (fun _ => 0))) (nh2 := 34) (ck2 := 15) (sk2 := 65) dX8_init_92 rfl (jt1 98 rfl rfl) rfl (fun _ _ h9 => h9) (fun _ => rfl) (fun _ => rfl) (by decide +kernel) (by decide +kernel) (Nat.le_of_ble_eq_true rfl) (Nat.le_of_ble_eq_true rfl) (Nat.le_of_ble_eq_true rfl) rfl rfl rfl ?_
  refine K_putF (fs2 := [.ref 19, .ref 20, .ref 21, .int 0, .int (-1), .ref 28, .ref 29, .int 0, .ref 30, .ref 31, .int 0, .ref 32, .ref 33, .int 0]) dX8_init_94 rfl fw_X8_51 rfl (Nat.le_of_ble_eq_true rfl) (fun _ => ⟨rfl, rfl⟩) rfl ?_
  refine J_aload_n dX8_init_97 rfl rfl ?_
  refine J_iconst (v := 0) dX8_init_98 (by decide) ?_
  refine K_put (fs2 := [.ref 19, .ref 20, .ref 21, .int 0, .int (-1), .ref 28, .ref 29, .int 0, .ref 30, .ref 31, .int 0, .ref 32, .ref 33, .int 0]) dX8_init_99 fw_X8_54 rfl (Nat.le_of_ble_eq_true rfl) (fun _ => ⟨rfl, rfl⟩) rfl ?_
  refine J_mask (L2 := [(18, .inr (8, [.ref 19, .ref 20, .ref 21, .int 0, .int (-1), .ref 28, .ref 29, .int 0, .ref 30, .ref 31, .int 0, .ref 32, .ref 33, .int 0])), (33, .inl (0, 12, .inl (fun _ => 0))), (32, .inl (0, 12, .inl (fun _ => 0))), (31, .inl (0, 6, .inl (fun _ => 0))), (30, .inl (0, 6, .inl (fun _ => 0))), (29, .inl (0, 8, .inl (fun _ => 0))), (28, .inl (0, 8, .inl (fun _ => 0))), (27, .inl (0, 0, .inl (fun _ => 0))), (26, .inl (0, 0, .inl (fun _ => 0))), (25, .inl (0, 0, .inl (fun _ => 0))), (24, .inl (0, 0, .inl (fun _ => 0))), (23, .inl (0, 0, .inl (fun _ => 0))), (22, .inl (0, 0, .inl (fun _ => 0))), (21, .inl (5, 6, .inr (.inr (.inr (.inr (fun i => if i < 6 then some (21 + 1 + i) else none)))))), (20, .inl (0, 2, .inl (fun _ => 0))), (19, .inl (0, 5, .inl (fun _ => 0)))]) (ks := [18, 18, 33, 18, 32, 18, 18, 31, 18, 30, 18, 18, 29, 18, 28, 18, 18, 18, 27, 26, 25, 24, 23, 22, 21, 18, 20, 18, 19]) [true, false, true, false, true, false, false, true, false, true, false, false, true, false, true, false, false, false, true, true, true, true, true, true, true, false, true, false, true] rfl (by decide +kernel) rfl ?_
  exact J_vret dX8_init_102 rfl (Nat.le_of_ble_eq_true rfl) (Nat.le_of_ble_eq_true rfl) ⟨rfl, rfl⟩
set_option maxHeartbeats 4000000 in
set_option maxRecDepth 100000 in
theorem c_X8_init_3 {l : Launch} {G : jG} {fh : Nat → Option va_E} (hk34 : fh 34 = some (.inr (8, [.null, .null, .null, .int 0, .int 0, .null, .null, .int 0, .null, .null, .int 0, .null, .null, .int 0]))) : JM l G yX8_init MX8_init { frames := 1, cells := 15, slots := 65, locals := 12 } [.ref 34] (35, fh) (fun r h9 => r = none ∧ h9 = (50, hc fh [(34, .inr (8, [.ref 35, .ref 36, .ref 37, .int 0, .int (-1), .ref 44, .ref 45, .int 0, .ref 46, .ref 47, .int 0, .ref 48, .ref 49, .int 0])), (49, .inl (0, 12, .inl (fun _ => 0))), (48, .inl (0, 12, .inl (fun _ => 0))), (47, .inl (0, 6, .inl (fun _ => 0))), (46, .inl (0, 6, .inl (fun _ => 0))), (45, .inl (0, 8, .inl (fun _ => 0))), (44, .inl (0, 8, .inl (fun _ => 0))), (43, .inl (0, 0, .inl (fun _ => 0))), (42, .inl (0, 0, .inl (fun _ => 0))), (41, .inl (0, 0, .inl (fun _ => 0))), (40, .inl (0, 0, .inl (fun _ => 0))), (39, .inl (0, 0, .inl (fun _ => 0))), (38, .inl (0, 0, .inl (fun _ => 0))), (37, .inl (5, 6, .inr (.inr (.inr (.inr (fun i => if i < 6 then some (37 + 1 + i) else none)))))), (36, .inl (0, 2, .inl (fun _ => 0))), (35, .inl (0, 5, .inl (fun _ => 0)))])) := by
  refine JM.of (by decide) rfl (fun _ => rfl) (Nat.le_of_ble_eq_true rfl) ⟨0, rfl⟩ ?_
  refine J_hc0 (J_ls (ls2 := [some (.ref 34)]) rfl ?_)
  refine J_aload_n dX8_init_0 rfl rfl ?_
  refine J_objInit dX8_init_1 (jt1 34 rfl rfl) (jt1 27 rfl rfl) (jt1 28 rfl rfl) (Nat.le_of_ble_eq_true rfl) (Nat.le_of_ble_eq_true rfl) ?_
  refine J_aload_n dX8_init_4 rfl rfl ?_
  refine J_iconst (v := 5) dX8_init_5 (by decide) ?_
  refine K_newa (t := 0) (N := 5) (a0 := (5, .inl (fun _ => 0))) (nh2 := 36) (ck2 := 1) (sk2 := 5) dX8_init_6 rfl (jt1 98 rfl rfl) rfl (fun _ _ h9 => h9) (fun _ => rfl) (fun _ => rfl) (by decide +kernel) (by decide +kernel) (Nat.le_of_ble_eq_true rfl) (Nat.le_of_ble_eq_true rfl) (Nat.le_of_ble_eq_true rfl) rfl rfl rfl ?_
  refine K_putF (fs2 := [.ref 35, .null, .null, .int 0, .int 0, .null, .null, .int 0, .null, .null, .int 0, .null, .null, .int 0]) dX8_init_8 rfl fw_X8_9 hk34 (Nat.le_of_ble_eq_true rfl) (fun _ => ⟨rfl, rfl⟩) rfl ?_
  refine J_aload_n dX8_init_11 rfl rfl ?_
  refine J_iconst (v := 2) dX8_init_12 (by decide) ?_
  refine K_newa (t := 0) (N := 2) (a0 := (2, .inl (fun _ => 0))) (nh2 := 37) (ck2 := 2) (sk2 := 7) dX8_init_13 rfl (jt1 98 rfl rfl) rfl (fun _ _ h9 => h9) (fun _ => rfl) (fun _ => rfl) (by decide +kernel) (by decide +kernel) (Nat.le_of_ble_eq_true rfl) (Nat.le_of_ble_eq_true rfl) (Nat.le_of_ble_eq_true rfl) rfl rfl rfl ?_
  refine K_putF (fs2 := [.ref 35, .ref 36, .null, .int 0, .int 0, .null, .null, .int 0, .null, .null, .int 0, .null, .null, .int 0]) dX8_init_15 rfl fw_X8_15 rfl (Nat.le_of_ble_eq_true rfl) (fun _ => ⟨rfl, rfl⟩) rfl ?_
  refine J_aload_n dX8_init_18 rfl rfl ?_
  refine J_bipush (v := 6) dX8_init_19 (by decide +kernel) ?_
  refine J_iconst (v := 0) dX8_init_21 (by decide) ?_
  refine K_mna (N := 6) (K := 0) (nh2 := 44) (ck2 := 9) (sk2 := 13) (L2 := [(43, .inl (0, 0, .inl (fun _ => 0))), (42, .inl (0, 0, .inl (fun _ => 0))), (41, .inl (0, 0, .inl (fun _ => 0))), (40, .inl (0, 0, .inl (fun _ => 0))), (39, .inl (0, 0, .inl (fun _ => 0))), (38, .inl (0, 0, .inl (fun _ => 0))), (37, .inl (5, 6, .inr (.inr (.inr (.inr (fun i => if i < 6 then some (37 + 1 + i) else none)))))), (34, .inr (8, [.ref 35, .ref 36, .null, .int 0, .int 0, .null, .null, .int 0, .null, .null, .int 0, .null, .null, .int 0])), (36, .inl (0, 2, .inl (fun _ => 0))), (34, .inr (8, [.ref 35, .null, .null, .int 0, .int 0, .null, .null, .int 0, .null, .null, .int 0, .null, .null, .int 0])), (35, .inl (0, 5, .inl (fun _ => 0)))]) dX8_init_22 (jt1 35 rfl rfl) (jt1 98 rfl rfl) (by decide +kernel) (by decide +kernel) (by decide +kernel) (by decide +kernel) (Nat.le_of_ble_eq_true rfl) (Nat.le_of_ble_eq_true rfl) (Nat.le_of_ble_eq_true rfl) (Nat.le_of_ble_eq_true rfl) rfl rfl rfl rfl ?_
  refine K_putF (fs2 := [.ref 35, .ref 36, .ref 37, .int 0, .int 0, .null, .null, .int 0, .null, .null, .int 0, .null, .null, .int 0]) dX8_init_26 rfl fw_X8_20 rfl (Nat.le_of_ble_eq_true rfl) (fun _ => ⟨rfl, rfl⟩) rfl ?_
  refine J_aload_n dX8_init_29 rfl rfl ?_
  refine J_iconst (v := 0) dX8_init_30 (by decide) ?_
  refine K_put (fs2 := [.ref 35, .ref 36, .ref 37, .int 0, .int 0, .null, .null, .int 0, .null, .null, .int 0, .null, .null, .int 0]) dX8_init_31 fw_X8_23 rfl (Nat.le_of_ble_eq_true rfl) (fun _ => ⟨rfl, rfl⟩) rfl ?_
  refine J_aload_n dX8_init_34 rfl rfl ?_
  refine J_iconst (v := (-1)) dX8_init_35 (by decide) ?_
  refine K_put (fs2 := [.ref 35, .ref 36, .ref 37, .int 0, .int (-1), .null, .null, .int 0, .null, .null, .int 0, .null, .null, .int 0]) dX8_init_36 fw_X8_27 rfl (Nat.le_of_ble_eq_true rfl) (fun _ => ⟨rfl, rfl⟩) rfl ?_
  refine J_aload_n dX8_init_39 rfl rfl ?_
  refine J_bipush (v := 8) dX8_init_40 (by decide +kernel) ?_
  refine K_newa (t := 0) (N := 8) (a0 := (8, .inl (fun _ => 0))) (nh2 := 45) (ck2 := 10) (sk2 := 21) dX8_init_42 rfl (jt1 98 rfl rfl) rfl (fun _ _ h9 => h9) (fun _ => rfl) (fun _ => rfl) (by decide +kernel) (by decide +kernel) (Nat.le_of_ble_eq_true rfl) (Nat.le_of_ble_eq_true rfl) (Nat.le_of_ble_eq_true rfl) rfl rfl rfl ?_
  refine K_putF (fs2 := [.ref 35, .ref 36, .ref 37, .int 0, .int (-1), .ref 44, .null, .int 0, .null, .null, .int 0, .null, .null, .int 0]) dX8_init_44 rfl fw_X8_30 rfl (Nat.le_of_ble_eq_true rfl) (fun _ => ⟨rfl, rfl⟩) rfl ?_
  refine J_aload_n dX8_init_47 rfl rfl ?_
  refine J_bipush (v := 8) dX8_init_48 (by decide +kernel) ?_
  refine K_newa (t := 0) (N := 8) (a0 := (8, .inl (fun _ => 0))) (nh2 := 46) (ck2 := 11) (sk2 := 29) dX8_init_50 rfl (jt1 98 rfl rfl) rfl (fun _ _ h9 => h9) (fun _ => rfl) (fun _ => rfl) (by decide +kernel) (by decide +kernel) (Nat.le_of_ble_eq_true rfl) (Nat.le_of_ble_eq_true rfl) (Nat.le_of_ble_eq_true rfl) rfl rfl rfl ?_
  refine K_putF (fs2 := [.ref 35, .ref 36, .ref 37, .int 0, .int (-1), .ref 44, .ref 45, .int 0, .null, .null, .int 0, .null, .null, .int 0]) dX8_init_52 rfl fw_X8_33 rfl (Nat.le_of_ble_eq_true rfl) (fun _ => ⟨rfl, rfl⟩) rfl ?_
  refine J_aload_n dX8_init_55 rfl rfl ?_
  refine J_iconst (v := 0) dX8_init_56 (by decide) ?_
  refine K_put (fs2 := [.ref 35, .ref 36, .ref 37, .int 0, .int (-1), .ref 44, .ref 45, .int 0, .null, .null, .int 0, .null, .null, .int 0]) dX8_init_57 fw_X8_36 rfl (Nat.le_of_ble_eq_true rfl) (fun _ => ⟨rfl, rfl⟩) rfl ?_
  refine J_aload_n dX8_init_60 rfl rfl ?_
  refine J_bipush (v := 6) dX8_init_61 (by decide +kernel) ?_
  refine K_newa (t := 0) (N := 6) (a0 := (6, .inl (fun _ => 0))) (nh2 := 47) (ck2 := 12) (sk2 := 35) dX8_init_63 rfl (jt1 98 rfl rfl) rfl (fun _ _ h9 => h9) (fun _ => rfl) (fun _ => rfl) (by decide +kernel) (by decide +kernel) (Nat.le_of_ble_eq_true rfl) (Nat.le_of_ble_eq_true rfl) (Nat.le_of_ble_eq_true rfl) rfl rfl rfl ?_
  refine K_putF (fs2 := [.ref 35, .ref 36, .ref 37, .int 0, .int (-1), .ref 44, .ref 45, .int 0, .ref 46, .null, .int 0, .null, .null, .int 0]) dX8_init_65 rfl fw_X8_39 rfl (Nat.le_of_ble_eq_true rfl) (fun _ => ⟨rfl, rfl⟩) rfl ?_
  refine J_aload_n dX8_init_68 rfl rfl ?_
  refine J_bipush (v := 6) dX8_init_69 (by decide +kernel) ?_
  refine K_newa (t := 0) (N := 6) (a0 := (6, .inl (fun _ => 0))) (nh2 := 48) (ck2 := 13) (sk2 := 41) dX8_init_71 rfl (jt1 98 rfl rfl) rfl (fun _ _ h9 => h9) (fun _ => rfl) (fun _ => rfl) (by decide +kernel) (by decide +kernel) (Nat.le_of_ble_eq_true rfl) (Nat.le_of_ble_eq_true rfl) (Nat.le_of_ble_eq_true rfl) rfl rfl rfl ?_
  refine K_putF (fs2 := [.ref 35, .ref 36, .ref 37, .int 0, .int (-1), .ref 44, .ref 45, .int 0, .ref 46, .ref 47, .int 0, .null, .null, .int 0]) dX8_init_73 rfl fw_X8_42 rfl (Nat.le_of_ble_eq_true rfl) (fun _ => ⟨rfl, rfl⟩) rfl ?_
  refine J_aload_n dX8_init_76 rfl rfl ?_
  refine J_iconst (v := 0) dX8_init_77 (by decide) ?_
  refine K_put (fs2 := [.ref 35, .ref 36, .ref 37, .int 0, .int (-1), .ref 44, .ref 45, .int 0, .ref 46, .ref 47, .int 0, .null, .null, .int 0]) dX8_init_78 fw_X8_45 rfl (Nat.le_of_ble_eq_true rfl) (fun _ => ⟨rfl, rfl⟩) rfl ?_
  refine J_aload_n dX8_init_81 rfl rfl ?_
  refine J_bipush (v := 12) dX8_init_82 (by decide +kernel) ?_
  refine K_newa (t := 0) (N := 12) (a0 := (12, .inl (fun _ => 0))) (nh2 := 49) (ck2 := 14) (sk2 := 53) dX8_init_84 rfl (jt1 98 rfl rfl) rfl (fun _ _ h9 => h9) (fun _ => rfl) (fun _ => rfl) (by decide +kernel) (by decide +kernel) (Nat.le_of_ble_eq_true rfl) (Nat.le_of_ble_eq_true rfl) (Nat.le_of_ble_eq_true rfl) rfl rfl rfl ?_
  refine K_putF (fs2 := [.ref 35, .ref 36, .ref 37, .int 0, .int (-1), .ref 44, .ref 45, .int 0, .ref 46, .ref 47, .int 0, .ref 48, .null, .int 0]) dX8_init_86 rfl fw_X8_48 rfl (Nat.le_of_ble_eq_true rfl) (fun _ => ⟨rfl, rfl⟩) rfl ?_
  refine J_aload_n dX8_init_89 rfl rfl ?_
  refine J_bipush (v := 12) dX8_init_90 (by decide +kernel) ?_
  refine K_newa (t := 0) (N := 12) (a0 := (12, .inl (fun _ => 0))) (nh2 := 50) (ck2 := 15) (sk2 := 65) dX8_init_92 rfl (jt1 98 rfl rfl) rfl (fun _ _ h9 => h9) (fun _ => rfl) (fun _ => rfl) (by decide +kernel) (by decide +kernel) (Nat.le_of_ble_eq_true rfl) (Nat.le_of_ble_eq_true rfl) (Nat.le_of_ble_eq_true rfl) rfl rfl rfl ?_
  refine K_putF (fs2 := [.ref 35, .ref 36, .ref 37, .int 0, .int (-1), .ref 44, .ref 45, .int 0, .ref 46, .ref 47, .int 0, .ref 48, .ref 49, .int 0]) dX8_init_94 rfl fw_X8_51 rfl (Nat.le_of_ble_eq_true rfl) (fun _ => ⟨rfl, rfl⟩) rfl ?_
  refine J_aload_n dX8_init_97 rfl rfl ?_
  refine J_iconst (v := 0) dX8_init_98 (by decide) ?_
  refine K_put (fs2 := [.ref 35, .ref 36, .ref 37, .int 0, .int (-1), .ref 44, .ref 45, .int 0, .ref 46, .ref 47, .int 0, .ref 48, .ref 49, .int 0]) dX8_init_99 fw_X8_54 rfl (Nat.le_of_ble_eq_true rfl) (fun _ => ⟨rfl, rfl⟩) rfl ?_
  refine J_mask (L2 := [(34, .inr (8, [.ref 35, .ref 36, .ref 37, .int 0, .int (-1), .ref 44, .ref 45, .int 0, .ref 46, .ref 47, .int 0, .ref 48, .ref 49, .int 0])), (49, .inl (0, 12, .inl (fun _ => 0))), (48, .inl (0, 12, .inl (fun _ => 0))), (47, .inl (0, 6, .inl (fun _ => 0))), (46, .inl (0, 6, .inl (fun _ => 0))), (45, .inl (0, 8, .inl (fun _ => 0))), (44, .inl (0, 8, .inl (fun _ => 0))), (43, .inl (0, 0, .inl (fun _ => 0))), (42, .inl (0, 0, .inl (fun _ => 0))), (41, .inl (0, 0, .inl (fun _ => 0))), (40, .inl (0, 0, .inl (fun _ => 0))), (39, .inl (0, 0, .inl (fun _ => 0))), (38, .inl (0, 0, .inl (fun _ => 0))), (37, .inl (5, 6, .inr (.inr (.inr (.inr (fun i => if i < 6 then some (37 + 1 + i) else none)))))), (36, .inl (0, 2, .inl (fun _ => 0))), (35, .inl (0, 5, .inl (fun _ => 0)))]) (ks := [34, 34, 49, 34, 48, 34, 34, 47, 34, 46, 34, 34, 45, 34, 44, 34, 34, 34, 43, 42, 41, 40, 39, 38, 37, 34, 36, 34, 35]) [true, false, true, false, true, false, false, true, false, true, false, false, true, false, true, false, false, false, true, true, true, true, true, true, true, false, true, false, true] rfl (by decide +kernel) rfl ?_
  exact J_vret dX8_init_102 rfl (Nat.le_of_ble_eq_true rfl) (Nat.le_of_ble_eq_true rfl) ⟨rfl, rfl⟩
set_option maxHeartbeats 4000000 in
set_option maxRecDepth 100000 in
theorem c_X0_init_1 {l : Launch} {G : jG} {fh : Nat → Option va_E} (hk51 : fh 51 = some (.inr (0, [.null, .null, .int 0, .int 0]))) : JM l G yX0_init MX0_init { frames := 1, cells := 2, slots := 1267, locals := 12 } [.ref 51] (52, fh) (fun r h9 => r = none ∧ h9 = (54, hc fh [(51, .inr (0, [.ref 52, .ref 53, .int 0, .int 0])), (53, .inl (0, 7, .inl (fun _ => 0))), (52, .inl (0, 1260, .inl (fun _ => 0)))])) := by
  refine JM.of (by decide) rfl (fun _ => rfl) (Nat.le_of_ble_eq_true rfl) ⟨0, rfl⟩ ?_
  refine J_hc0 (J_ls (ls2 := [some (.ref 51)]) rfl ?_)
  refine J_aload_n dX0_init_0 rfl rfl ?_
  refine J_objInit dX0_init_1 (jt1 105 rfl rfl) (jt1 27 rfl rfl) (jt1 28 rfl rfl) (Nat.le_of_ble_eq_true rfl) (Nat.le_of_ble_eq_true rfl) ?_
  refine J_aload_n dX0_init_4 rfl rfl ?_
  refine J_sipush (v := 1260) dX0_init_5 (by decide +kernel) ?_
  refine K_newa (t := 0) (N := 1260) (a0 := (1260, .inl (fun _ => 0))) (nh2 := 53) (ck2 := 1) (sk2 := 1260) dX0_init_8 rfl (jt1 98 rfl rfl) rfl (fun _ _ h9 => h9) (fun _ => rfl) (fun _ => rfl) (by decide +kernel) (by decide +kernel) (Nat.le_of_ble_eq_true rfl) (Nat.le_of_ble_eq_true rfl) (Nat.le_of_ble_eq_true rfl) rfl rfl rfl ?_
  refine K_putF (fs2 := [.ref 52, .null, .int 0, .int 0]) dX0_init_10 rfl fw_X0_9 hk51 (Nat.le_of_ble_eq_true rfl) (fun _ => ⟨rfl, rfl⟩) rfl ?_
  refine J_aload_n dX0_init_13 rfl rfl ?_
  refine J_bipush (v := 7) dX0_init_14 (by decide +kernel) ?_
  refine K_newa (t := 0) (N := 7) (a0 := (7, .inl (fun _ => 0))) (nh2 := 54) (ck2 := 2) (sk2 := 1267) dX0_init_16 rfl (jt1 98 rfl rfl) rfl (fun _ _ h9 => h9) (fun _ => rfl) (fun _ => rfl) (by decide +kernel) (by decide +kernel) (Nat.le_of_ble_eq_true rfl) (Nat.le_of_ble_eq_true rfl) (Nat.le_of_ble_eq_true rfl) rfl rfl rfl ?_
  refine K_putF (fs2 := [.ref 52, .ref 53, .int 0, .int 0]) dX0_init_18 rfl fw_X0_15 rfl (Nat.le_of_ble_eq_true rfl) (fun _ => ⟨rfl, rfl⟩) rfl ?_
  refine J_aload_n dX0_init_21 rfl rfl ?_
  refine J_iconst (v := 0) dX0_init_22 (by decide) ?_
  refine K_put (fs2 := [.ref 52, .ref 53, .int 0, .int 0]) dX0_init_23 fw_X0_18 rfl (Nat.le_of_ble_eq_true rfl) (fun _ => ⟨rfl, rfl⟩) rfl ?_
  refine J_aload_n dX0_init_26 rfl rfl ?_
  refine J_iconst (v := 0) dX0_init_27 (by decide) ?_
  refine K_put (fs2 := [.ref 52, .ref 53, .int 0, .int 0]) dX0_init_28 fw_X0_22 rfl (Nat.le_of_ble_eq_true rfl) (fun _ => ⟨rfl, rfl⟩) rfl ?_
  refine J_mask (L2 := [(51, .inr (0, [.ref 52, .ref 53, .int 0, .int 0])), (53, .inl (0, 7, .inl (fun _ => 0))), (52, .inl (0, 1260, .inl (fun _ => 0)))]) (ks := [51, 51, 51, 53, 51, 52]) [true, false, false, true, false, true] rfl (by decide +kernel) rfl ?_
  exact J_vret dX0_init_31 rfl (Nat.le_of_ble_eq_true rfl) (Nat.le_of_ble_eq_true rfl) ⟨rfl, rfl⟩
set_option maxHeartbeats 4000000 in
set_option maxRecDepth 100000 in
theorem c_X5_init_1 {l : Launch} {G : jG} {fh : Nat → Option va_E} (hk54 : fh 54 = some (.inr (5, [.null, .int 0, .int 0, .int 0, .int 0, .int 0, .int 0, .int 0, .null, .int 0]))) : JM l G yX5_init MX5_init { frames := 1, cells := 2, slots := 812, locals := 12 } [.ref 54] (55, fh) (fun r h9 => r = none ∧ h9 = (57, hc fh [(54, .inr (5, [.ref 55, .int 0, .int 17, .int 0, .int 0, .int 0, .int 0, .int (-1), .ref 56, .int 0])), (56, .inl (0, 412, .inl (fun _ => 0))), (55, .inl (0, 400, .inl (fun _ => 0)))])) := by
  refine JM.of (by decide) rfl (fun _ => rfl) (Nat.le_of_ble_eq_true rfl) ⟨0, rfl⟩ ?_
  refine J_hc0 (J_ls (ls2 := [some (.ref 54)]) rfl ?_)
  refine J_aload_n dX5_init_0 rfl rfl ?_
  refine J_objInit dX5_init_1 (jt1 125 rfl rfl) (jt1 27 rfl rfl) (jt1 28 rfl rfl) (Nat.le_of_ble_eq_true rfl) (Nat.le_of_ble_eq_true rfl) ?_
  refine J_aload_n dX5_init_4 rfl rfl ?_
  refine J_sipush (v := 400) dX5_init_5 (by decide +kernel) ?_
  refine K_newa (t := 0) (N := 400) (a0 := (400, .inl (fun _ => 0))) (nh2 := 56) (ck2 := 1) (sk2 := 400) dX5_init_8 rfl (jt1 98 rfl rfl) rfl (fun _ _ h9 => h9) (fun _ => rfl) (fun _ => rfl) (by decide +kernel) (by decide +kernel) (Nat.le_of_ble_eq_true rfl) (Nat.le_of_ble_eq_true rfl) (Nat.le_of_ble_eq_true rfl) rfl rfl rfl ?_
  refine K_putF (fs2 := [.ref 55, .int 0, .int 0, .int 0, .int 0, .int 0, .int 0, .int 0, .null, .int 0]) dX5_init_10 rfl fw_X5_11 hk54 (Nat.le_of_ble_eq_true rfl) (fun _ => ⟨rfl, rfl⟩) rfl ?_
  refine J_aload_n dX5_init_13 rfl rfl ?_
  refine J_iconst (v := 0) dX5_init_14 (by decide) ?_
  refine K_put (fs2 := [.ref 55, .int 0, .int 0, .int 0, .int 0, .int 0, .int 0, .int 0, .null, .int 0]) dX5_init_15 fw_X5_15 rfl (Nat.le_of_ble_eq_true rfl) (fun _ => ⟨rfl, rfl⟩) rfl ?_
  refine J_aload_n dX5_init_18 rfl rfl ?_
  refine J_bipush (v := 17) dX5_init_19 (by decide +kernel) ?_
  refine K_put (fs2 := [.ref 55, .int 0, .int 17, .int 0, .int 0, .int 0, .int 0, .int 0, .null, .int 0]) dX5_init_21 fw_X5_19 rfl (Nat.le_of_ble_eq_true rfl) (fun _ => ⟨rfl, rfl⟩) rfl ?_
  refine J_aload_n dX5_init_24 rfl rfl ?_
  refine J_iconst (v := 0) dX5_init_25 (by decide) ?_
  refine K_put (fs2 := [.ref 55, .int 0, .int 17, .int 0, .int 0, .int 0, .int 0, .int 0, .null, .int 0]) dX5_init_26 fw_X5_22 rfl (Nat.le_of_ble_eq_true rfl) (fun _ => ⟨rfl, rfl⟩) rfl ?_
  refine J_aload_n dX5_init_29 rfl rfl ?_
  refine J_iconst (v := 0) dX5_init_30 (by decide) ?_
  refine K_put (fs2 := [.ref 55, .int 0, .int 17, .int 0, .int 0, .int 0, .int 0, .int 0, .null, .int 0]) dX5_init_31 fw_X5_25 rfl (Nat.le_of_ble_eq_true rfl) (fun _ => ⟨rfl, rfl⟩) rfl ?_
  refine J_aload_n dX5_init_34 rfl rfl ?_
  refine J_iconst (v := 0) dX5_init_35 (by decide) ?_
  refine K_put (fs2 := [.ref 55, .int 0, .int 17, .int 0, .int 0, .int 0, .int 0, .int 0, .null, .int 0]) dX5_init_36 fw_X5_28 rfl (Nat.le_of_ble_eq_true rfl) (fun _ => ⟨rfl, rfl⟩) rfl ?_
  refine J_aload_n dX5_init_39 rfl rfl ?_
  refine J_iconst (v := 0) dX5_init_40 (by decide) ?_
  refine K_put (fs2 := [.ref 55, .int 0, .int 17, .int 0, .int 0, .int 0, .int 0, .int 0, .null, .int 0]) dX5_init_41 fw_X5_31 rfl (Nat.le_of_ble_eq_true rfl) (fun _ => ⟨rfl, rfl⟩) rfl ?_
  refine J_aload_n dX5_init_44 rfl rfl ?_
  refine J_iconst (v := (-1)) dX5_init_45 (by decide) ?_
  refine K_put (fs2 := [.ref 55, .int 0, .int 17, .int 0, .int 0, .int 0, .int 0, .int (-1), .null, .int 0]) dX5_init_46 fw_X5_34 rfl (Nat.le_of_ble_eq_true rfl) (fun _ => ⟨rfl, rfl⟩) rfl ?_
  refine J_aload_n dX5_init_49 rfl rfl ?_
  refine J_sipush (v := 412) dX5_init_50 (by decide +kernel) ?_
  refine K_newa (t := 0) (N := 412) (a0 := (412, .inl (fun _ => 0))) (nh2 := 57) (ck2 := 2) (sk2 := 812) dX5_init_53 rfl (jt1 98 rfl rfl) rfl (fun _ _ h9 => h9) (fun _ => rfl) (fun _ => rfl) (by decide +kernel) (by decide +kernel) (Nat.le_of_ble_eq_true rfl) (Nat.le_of_ble_eq_true rfl) (Nat.le_of_ble_eq_true rfl) rfl rfl rfl ?_
  refine K_putF (fs2 := [.ref 55, .int 0, .int 17, .int 0, .int 0, .int 0, .int 0, .int (-1), .ref 56, .int 0]) dX5_init_55 rfl fw_X5_37 rfl (Nat.le_of_ble_eq_true rfl) (fun _ => ⟨rfl, rfl⟩) rfl ?_
  refine J_aload_n dX5_init_58 rfl rfl ?_
  refine J_iconst (v := 0) dX5_init_59 (by decide) ?_
  refine K_put (fs2 := [.ref 55, .int 0, .int 17, .int 0, .int 0, .int 0, .int 0, .int (-1), .ref 56, .int 0]) dX5_init_60 fw_X5_40 rfl (Nat.le_of_ble_eq_true rfl) (fun _ => ⟨rfl, rfl⟩) rfl ?_
  refine J_mask (L2 := [(54, .inr (5, [.ref 55, .int 0, .int 17, .int 0, .int 0, .int 0, .int 0, .int (-1), .ref 56, .int 0])), (56, .inl (0, 412, .inl (fun _ => 0))), (55, .inl (0, 400, .inl (fun _ => 0)))]) (ks := [54, 54, 56, 54, 54, 54, 54, 54, 54, 54, 54, 55]) [true, false, true, false, false, false, false, false, false, false, false, true] rfl (by decide +kernel) rfl ?_
  exact J_vret dX5_init_63 rfl (Nat.le_of_ble_eq_true rfl) (Nat.le_of_ble_eq_true rfl) ⟨rfl, rfl⟩
set_option maxHeartbeats 4000000 in
set_option maxRecDepth 100000 in
theorem c_X1_init_1 {l : Launch} {G : jG} {fh : Nat → Option va_E} (hk58 : fh 58 = some (.inr (1, [.null, .null, .int 0, .int 0, .int 0, .int 0, .int 0, .int 0]))) : JM l G yX1_init MX1_init { frames := 1, cells := 2, slots := 72, locals := 12 } [.ref 58] (59, fh) (fun r h9 => r = none ∧ h9 = (61, hc fh [(58, .inr (1, [.ref 59, .ref 60, .int 0, .int 0, .int 0, .int 0, .int 0, .int 1])), (60, .inl (1, 64, .inr (.inl (fun _ => 0)))), (59, .inl (0, 8, .inl (fun _ => 0)))])) := by
  refine JM.of (by decide) rfl (fun _ => rfl) (Nat.le_of_ble_eq_true rfl) ⟨0, rfl⟩ ?_
  refine J_hc0 (J_ls (ls2 := [some (.ref 58)]) rfl ?_)
  refine J_aload_n dX1_init_0 rfl rfl ?_
  refine J_objInit dX1_init_1 (jt1 168 rfl rfl) (jt1 27 rfl rfl) (jt1 28 rfl rfl) (Nat.le_of_ble_eq_true rfl) (Nat.le_of_ble_eq_true rfl) ?_
  refine J_aload_n dX1_init_4 rfl rfl ?_
  refine J_bipush (v := 8) dX1_init_5 (by decide +kernel) ?_
  refine K_newa (t := 0) (N := 8) (a0 := (8, .inl (fun _ => 0))) (nh2 := 60) (ck2 := 1) (sk2 := 8) dX1_init_7 rfl (jt1 98 rfl rfl) rfl (fun _ _ h9 => h9) (fun _ => rfl) (fun _ => rfl) (by decide +kernel) (by decide +kernel) (Nat.le_of_ble_eq_true rfl) (Nat.le_of_ble_eq_true rfl) (Nat.le_of_ble_eq_true rfl) rfl rfl rfl ?_
  refine K_putF (fs2 := [.ref 59, .null, .int 0, .int 0, .int 0, .int 0, .int 0, .int 0]) dX1_init_9 rfl fw_X1_9 hk58 (Nat.le_of_ble_eq_true rfl) (fun _ => ⟨rfl, rfl⟩) rfl ?_
  refine J_aload_n dX1_init_12 rfl rfl ?_
  refine J_bipush (v := 64) dX1_init_13 (by decide +kernel) ?_
  refine K_newa (t := 1) (N := 64) (a0 := (64, .inr (.inl (fun _ => 0)))) (nh2 := 61) (ck2 := 2) (sk2 := 72) dX1_init_15 rfl (jt1 194 rfl rfl) rfl (fun _ _ h9 => h9) (fun _ => rfl) (fun _ => rfl) (by decide +kernel) (by decide +kernel) (Nat.le_of_ble_eq_true rfl) (Nat.le_of_ble_eq_true rfl) (Nat.le_of_ble_eq_true rfl) rfl rfl rfl ?_
  refine K_putF (fs2 := [.ref 59, .ref 60, .int 0, .int 0, .int 0, .int 0, .int 0, .int 0]) dX1_init_17 rfl fw_X1_13 rfl (Nat.le_of_ble_eq_true rfl) (fun _ => ⟨rfl, rfl⟩) rfl ?_
  refine J_aload_n dX1_init_20 rfl rfl ?_
  refine J_iconst (v := 0) dX1_init_21 (by decide) ?_
  refine K_put (fs2 := [.ref 59, .ref 60, .int 0, .int 0, .int 0, .int 0, .int 0, .int 0]) dX1_init_22 fw_X1_17 rfl (Nat.le_of_ble_eq_true rfl) (fun _ => ⟨rfl, rfl⟩) rfl ?_
  refine J_aload_n dX1_init_25 rfl rfl ?_
  refine J_iconst (v := 0) dX1_init_26 (by decide) ?_
  refine K_put (fs2 := [.ref 59, .ref 60, .int 0, .int 0, .int 0, .int 0, .int 0, .int 0]) dX1_init_27 fw_X1_21 rfl (Nat.le_of_ble_eq_true rfl) jb0 rfl ?_
  refine J_aload_n dX1_init_30 rfl rfl ?_
  refine J_iconst (v := 0) dX1_init_31 (by decide) ?_
  refine K_put (fs2 := [.ref 59, .ref 60, .int 0, .int 0, .int 0, .int 0, .int 0, .int 0]) dX1_init_32 fw_X1_25 rfl (Nat.le_of_ble_eq_true rfl) jb0 rfl ?_
  refine J_aload_n dX1_init_35 rfl rfl ?_
  refine J_iconst (v := 0) dX1_init_36 (by decide) ?_
  refine K_put (fs2 := [.ref 59, .ref 60, .int 0, .int 0, .int 0, .int 0, .int 0, .int 0]) dX1_init_37 fw_X1_28 rfl (Nat.le_of_ble_eq_true rfl) jb0 rfl ?_
  refine J_aload_n dX1_init_40 rfl rfl ?_
  refine J_iconst (v := 0) dX1_init_41 (by decide) ?_
  refine K_put (fs2 := [.ref 59, .ref 60, .int 0, .int 0, .int 0, .int 0, .int 0, .int 0]) dX1_init_42 fw_X1_31 rfl (Nat.le_of_ble_eq_true rfl) jb0 rfl ?_
  refine J_aload_n dX1_init_45 rfl rfl ?_
  refine J_iconst (v := 1) dX1_init_46 (by decide) ?_
  refine K_put (fs2 := [.ref 59, .ref 60, .int 0, .int 0, .int 0, .int 0, .int 0, .int 1]) dX1_init_47 fw_X1_34 rfl (Nat.le_of_ble_eq_true rfl) (fun _ => ⟨rfl, rfl⟩) rfl ?_
  refine J_mask (L2 := [(58, .inr (1, [.ref 59, .ref 60, .int 0, .int 0, .int 0, .int 0, .int 0, .int 1])), (60, .inl (1, 64, .inr (.inl (fun _ => 0)))), (59, .inl (0, 8, .inl (fun _ => 0)))]) (ks := [58, 58, 58, 58, 58, 58, 58, 60, 58, 59]) [true, false, false, false, false, false, false, true, false, true] rfl (by decide +kernel) rfl ?_
  exact J_vret dX1_init_50 rfl (Nat.le_of_ble_eq_true rfl) (Nat.le_of_ble_eq_true rfl) ⟨rfl, rfl⟩
set_option maxHeartbeats 4000000 in
set_option maxRecDepth 100000 in
theorem c_X9_init_1 {l : Launch} {G : jG} {fh : Nat → Option va_E} (hk57 : fh 57 = some (.inr (9, [.null, .null, .null, .null, .null, .null, .null, .int 0, .int 0, .int 0]))) : JM l G yX9_init MX9_init { frames := 2, cells := 7, slots := 3965, locals := 32 } [.ref 57, .ref 1, .ref 51] (58, fh) (fun r h9 => r = none ∧ h9 = (65, hc fh [(57, .inr (9, [.ref 1, .ref 51, .ref 58, .ref 61, .ref 62, .ref 63, .ref 64, .int 0, .int 1, .int 1])), (64, .inl (0, 2625, .inl (fun _ => 0))), (63, .inl (0, 0, .inl (fun _ => 0))), (62, .inl (0, 1260, .inl (fun _ => 0))), (61, .inl (0, 0, .inl (fun _ => 0))), (58, .inr (1, [.ref 59, .ref 60, .int 0, .int 0, .int 0, .int 0, .int 0, .int 1])), (60, .inl (1, 64, .inr (.inl (fun _ => 0)))), (59, .inl (0, 8, .inl (fun _ => 0)))])) := by
  refine JM.of (by decide) rfl (fun _ => rfl) (Nat.le_of_ble_eq_true rfl) ⟨0, rfl⟩ ?_
  refine J_hc0 (J_ls (ls2 := [some (.ref 57), some (.ref 1), some (.ref 51)]) rfl ?_)
  refine J_aload_n dX9_init_0 rfl rfl ?_
  refine J_objInit dX9_init_1 (jt1 162 rfl rfl) (jt1 27 rfl rfl) (jt1 28 rfl rfl) (Nat.le_of_ble_eq_true rfl) (Nat.le_of_ble_eq_true rfl) ?_
  refine J_aload_n dX9_init_4 rfl rfl ?_
  refine K_new (nh2 := 59) (ck2 := 1) (sk2 := 8) dX9_init_5 nw_X9_9 (fun _ => rfl) (Nat.le_of_ble_eq_true rfl) (Nat.le_of_ble_eq_true rfl) rfl rfl rfl ?_
  refine J_dup dX9_init_8 rfl ?_
  refine J_callI (st := [.ref 58, .ref 57]) dX9_init_9 ci_X9_11 (c_X1_init_1 rfl) rfl rfl (Nat.le_of_ble_eq_true rfl) ⟨(Nat.le_of_ble_eq_true rfl), (Nat.le_of_ble_eq_true rfl)⟩ ⟨(Nat.le_of_ble_eq_true rfl), (Nat.le_of_ble_eq_true rfl)⟩ (fun r h9 hp => ?_)
  obtain ⟨rfl, rfl⟩ := hp
  refine J_nf (nh2 := 61) (ck2 := 3) (sk2 := 80) (st2 := [.ref 58, .ref 57]) rfl rfl rfl rfl ?_
  refine J_app (L3 := [(58, .inr (1, [.ref 59, .ref 60, .int 0, .int 0, .int 0, .int 0, .int 0, .int 1])), (60, .inl (1, 64, .inr (.inl (fun _ => 0)))), (59, .inl (0, 8, .inl (fun _ => 0))), (58, .inr (1, [.null, .null, .int 0, .int 0, .int 0, .int 0, .int 0, .int 0]))]) rfl ?_
  refine K_putF (fs2 := [.null, .null, .ref 58, .null, .null, .null, .null, .int 0, .int 0, .int 0]) dX9_init_12 rfl fw_X9_12 hk57 (Nat.le_of_ble_eq_true rfl) (fun _ => ⟨rfl, rfl⟩) rfl ?_
  refine J_aload_n dX9_init_15 rfl rfl ?_
  refine J_iconst (v := 0) dX9_init_16 (by decide) ?_
  refine K_newa (t := 0) (N := 0) (a0 := (0, .inl (fun _ => 0))) (nh2 := 62) (ck2 := 4) (sk2 := 80) dX9_init_17 rfl (jt1 98 rfl rfl) rfl (fun _ _ h9 => h9) (fun _ => rfl) (fun _ => rfl) (by decide +kernel) (by decide +kernel) (Nat.le_of_ble_eq_true rfl) (Nat.le_of_ble_eq_true rfl) (Nat.le_of_ble_eq_true rfl) rfl rfl rfl ?_
  refine K_putF (fs2 := [.null, .null, .ref 58, .ref 61, .null, .null, .null, .int 0, .int 0, .int 0]) dX9_init_19 rfl fw_X9_18 rfl (Nat.le_of_ble_eq_true rfl) (fun _ => ⟨rfl, rfl⟩) rfl ?_
  refine J_aload_n dX9_init_22 rfl rfl ?_
  refine J_sipush (v := 1260) dX9_init_23 (by decide +kernel) ?_
  refine K_newa (t := 0) (N := 1260) (a0 := (1260, .inl (fun _ => 0))) (nh2 := 63) (ck2 := 5) (sk2 := 1340) dX9_init_26 rfl (jt1 98 rfl rfl) rfl (fun _ _ h9 => h9) (fun _ => rfl) (fun _ => rfl) (by decide +kernel) (by decide +kernel) (Nat.le_of_ble_eq_true rfl) (Nat.le_of_ble_eq_true rfl) (Nat.le_of_ble_eq_true rfl) rfl rfl rfl ?_
  refine K_putF (fs2 := [.null, .null, .ref 58, .ref 61, .ref 62, .null, .null, .int 0, .int 0, .int 0]) dX9_init_28 rfl fw_X9_22 rfl (Nat.le_of_ble_eq_true rfl) (fun _ => ⟨rfl, rfl⟩) rfl ?_
  refine J_aload_n dX9_init_31 rfl rfl ?_
  refine J_iconst (v := 0) dX9_init_32 (by decide) ?_
  refine K_newa (t := 0) (N := 0) (a0 := (0, .inl (fun _ => 0))) (nh2 := 64) (ck2 := 6) (sk2 := 1340) dX9_init_33 rfl (jt1 98 rfl rfl) rfl (fun _ _ h9 => h9) (fun _ => rfl) (fun _ => rfl) (by decide +kernel) (by decide +kernel) (Nat.le_of_ble_eq_true rfl) (Nat.le_of_ble_eq_true rfl) (Nat.le_of_ble_eq_true rfl) rfl rfl rfl ?_
  refine K_put (fs2 := [.null, .null, .ref 58, .ref 61, .ref 62, .ref 63, .null, .int 0, .int 0, .int 0]) dX9_init_35 fw_X9_25 rfl (Nat.le_of_ble_eq_true rfl) (fun _ => ⟨rfl, rfl⟩) rfl ?_
  refine J_aload_n dX9_init_38 rfl rfl ?_
  refine J_sipush (v := 2625) dX9_init_39 (by decide +kernel) ?_
  refine K_newa (t := 0) (N := 2625) (a0 := (2625, .inl (fun _ => 0))) (nh2 := 65) (ck2 := 7) (sk2 := 3965) dX9_init_42 rfl (jt1 98 rfl rfl) rfl (fun _ _ h9 => h9) (fun _ => rfl) (fun _ => rfl) (by decide +kernel) (by decide +kernel) (Nat.le_of_ble_eq_true rfl) (Nat.le_of_ble_eq_true rfl) (Nat.le_of_ble_eq_true rfl) rfl rfl rfl ?_
  refine K_putF (fs2 := [.null, .null, .ref 58, .ref 61, .ref 62, .ref 63, .ref 64, .int 0, .int 0, .int 0]) dX9_init_44 rfl fw_X9_28 rfl (Nat.le_of_ble_eq_true rfl) (fun _ => ⟨rfl, rfl⟩) rfl ?_
  refine J_aload_n dX9_init_47 rfl rfl ?_
  refine J_iconst (v := 0) dX9_init_48 (by decide) ?_
  refine K_put (fs2 := [.null, .null, .ref 58, .ref 61, .ref 62, .ref 63, .ref 64, .int 0, .int 0, .int 0]) dX9_init_49 fw_X9_31 rfl (Nat.le_of_ble_eq_true rfl) (fun _ => ⟨rfl, rfl⟩) rfl ?_
  refine J_aload_n dX9_init_52 rfl rfl ?_
  refine J_iconst (v := 1) dX9_init_53 (by decide) ?_
  refine K_put (fs2 := [.null, .null, .ref 58, .ref 61, .ref 62, .ref 63, .ref 64, .int 0, .int 1, .int 0]) dX9_init_54 fw_X9_35 rfl (Nat.le_of_ble_eq_true rfl) jb1 rfl ?_
  refine J_aload_n dX9_init_57 rfl rfl ?_
  refine J_iconst (v := 1) dX9_init_58 (by decide) ?_
  refine K_put (fs2 := [.null, .null, .ref 58, .ref 61, .ref 62, .ref 63, .ref 64, .int 0, .int 1, .int 1]) dX9_init_59 fw_X9_39 rfl (Nat.le_of_ble_eq_true rfl) jb1 rfl ?_
  refine J_aload_n dX9_init_62 rfl rfl ?_
  refine J_aload_n dX9_init_63 rfl rfl ?_
  refine K_putF (fs2 := [.ref 1, .null, .ref 58, .ref 61, .ref 62, .ref 63, .ref 64, .int 0, .int 1, .int 1]) dX9_init_64 rfl fw_X9_42 rfl (Nat.le_of_ble_eq_true rfl) (fun _ => ⟨rfl, rfl⟩) rfl ?_
  refine J_aload_n dX9_init_67 rfl rfl ?_
  refine J_aload_n dX9_init_68 rfl rfl ?_
  refine K_putF (fs2 := [.ref 1, .ref 51, .ref 58, .ref 61, .ref 62, .ref 63, .ref 64, .int 0, .int 1, .int 1]) dX9_init_69 rfl fw_X9_46 rfl (Nat.le_of_ble_eq_true rfl) (fun _ => ⟨rfl, rfl⟩) rfl ?_
  refine J_mask (L2 := [(57, .inr (9, [.ref 1, .ref 51, .ref 58, .ref 61, .ref 62, .ref 63, .ref 64, .int 0, .int 1, .int 1])), (64, .inl (0, 2625, .inl (fun _ => 0))), (63, .inl (0, 0, .inl (fun _ => 0))), (62, .inl (0, 1260, .inl (fun _ => 0))), (61, .inl (0, 0, .inl (fun _ => 0))), (58, .inr (1, [.ref 59, .ref 60, .int 0, .int 0, .int 0, .int 0, .int 0, .int 1])), (60, .inl (1, 64, .inr (.inl (fun _ => 0)))), (59, .inl (0, 8, .inl (fun _ => 0)))]) (ks := [57, 57, 57, 57, 57, 57, 64, 57, 63, 57, 62, 57, 61, 57, 58, 60, 59, 58]) [true, false, false, false, false, false, true, false, true, false, true, false, true, false, true, true, true, false] rfl (by decide +kernel) rfl ?_
  exact J_vret dX9_init_72 rfl (Nat.le_of_ble_eq_true rfl) (Nat.le_of_ble_eq_true rfl) ⟨rfl, rfl⟩
set_option maxHeartbeats 4000000 in
set_option maxRecDepth 100000 in
theorem c_X10_init_1 {l : Launch} {G : jG} {fh : Nat → Option va_E} (hk65 : fh 65 = some (.inr (10, [.null, .null, .null, .null, .null, .int 0, .int 0, .int 0, .null, .null, .null, .null, .int 0, .int 0, .int 0, .null, .null]))) : JM l G yX10_init MX10_init { frames := 1, cells := 9, slots := 10180, locals := 12 } [.ref 65, .ref 51, .ref 57] (66, fh) (fun r h9 => r = none ∧ h9 = (75, hc fh [(65, .inr (10, [.ref 51, .ref 57, .ref 66, .ref 67, .ref 68, .int 0, .int (-1), .int (-1), .ref 69, .ref 70, .ref 71, .ref 72, .int 0, .int (-1), .int (-1), .ref 73, .ref 74])), (74, .inl (1, 1260, .inr (.inl (fun _ => 0)))), (73, .inl (1, 1260, .inr (.inl (fun _ => 0)))), (72, .inl (0, 1260, .inl (fun _ => 0))), (71, .inl (0, 1260, .inl (fun _ => 0))), (70, .inl (0, 100, .inl (fun _ => 0))), (69, .inl (0, 1260, .inl (fun _ => 0))), (68, .inl (0, 1260, .inl (fun _ => 0))), (67, .inl (0, 1260, .inl (fun _ => 0))), (66, .inl (0, 1260, .inl (fun _ => 0)))])) := by
  refine JM.of (by decide) rfl (fun _ => rfl) (Nat.le_of_ble_eq_true rfl) ⟨0, rfl⟩ ?_
  refine J_hc0 (J_ls (ls2 := [some (.ref 65), some (.ref 51), some (.ref 57)]) rfl ?_)
  refine J_aload_n dX10_init_0 rfl rfl ?_
  refine J_objInit dX10_init_1 (jt1 231 rfl rfl) (jt1 27 rfl rfl) (jt1 28 rfl rfl) (Nat.le_of_ble_eq_true rfl) (Nat.le_of_ble_eq_true rfl) ?_
  refine J_aload_n dX10_init_4 rfl rfl ?_
  refine J_sipush (v := 1260) dX10_init_5 (by decide +kernel) ?_
  refine K_newa (t := 0) (N := 1260) (a0 := (1260, .inl (fun _ => 0))) (nh2 := 67) (ck2 := 1) (sk2 := 1260) dX10_init_8 rfl (jt1 98 rfl rfl) rfl (fun _ _ h9 => h9) (fun _ => rfl) (fun _ => rfl) (by decide +kernel) (by decide +kernel) (Nat.le_of_ble_eq_true rfl) (Nat.le_of_ble_eq_true rfl) (Nat.le_of_ble_eq_true rfl) rfl rfl rfl ?_
  refine K_putF (fs2 := [.null, .null, .ref 66, .null, .null, .int 0, .int 0, .int 0, .null, .null, .null, .null, .int 0, .int 0, .int 0, .null, .null]) dX10_init_10 rfl fw_X10_9 hk65 (Nat.le_of_ble_eq_true rfl) (fun _ => ⟨rfl, rfl⟩) rfl ?_
  refine J_aload_n dX10_init_13 rfl rfl ?_
  refine J_sipush (v := 1260) dX10_init_14 (by decide +kernel) ?_
  refine K_newa (t := 0) (N := 1260) (a0 := (1260, .inl (fun _ => 0))) (nh2 := 68) (ck2 := 2) (sk2 := 2520) dX10_init_17 rfl (jt1 98 rfl rfl) rfl (fun _ _ h9 => h9) (fun _ => rfl) (fun _ => rfl) (by decide +kernel) (by decide +kernel) (Nat.le_of_ble_eq_true rfl) (Nat.le_of_ble_eq_true rfl) (Nat.le_of_ble_eq_true rfl) rfl rfl rfl ?_
  refine K_putF (fs2 := [.null, .null, .ref 66, .ref 67, .null, .int 0, .int 0, .int 0, .null, .null, .null, .null, .int 0, .int 0, .int 0, .null, .null]) dX10_init_19 rfl fw_X10_15 rfl (Nat.le_of_ble_eq_true rfl) (fun _ => ⟨rfl, rfl⟩) rfl ?_
  refine J_aload_n dX10_init_22 rfl rfl ?_
  refine J_sipush (v := 1260) dX10_init_23 (by decide +kernel) ?_
  refine K_newa (t := 0) (N := 1260) (a0 := (1260, .inl (fun _ => 0))) (nh2 := 69) (ck2 := 3) (sk2 := 3780) dX10_init_26 rfl (jt1 98 rfl rfl) rfl (fun _ _ h9 => h9) (fun _ => rfl) (fun _ => rfl) (by decide +kernel) (by decide +kernel) (Nat.le_of_ble_eq_true rfl) (Nat.le_of_ble_eq_true rfl) (Nat.le_of_ble_eq_true rfl) rfl rfl rfl ?_
  refine K_putF (fs2 := [.null, .null, .ref 66, .ref 67, .ref 68, .int 0, .int 0, .int 0, .null, .null, .null, .null, .int 0, .int 0, .int 0, .null, .null]) dX10_init_28 rfl fw_X10_18 rfl (Nat.le_of_ble_eq_true rfl) (fun _ => ⟨rfl, rfl⟩) rfl ?_
  refine J_aload_n dX10_init_31 rfl rfl ?_
  refine J_iconst (v := 0) dX10_init_32 (by decide) ?_
  refine K_put (fs2 := [.null, .null, .ref 66, .ref 67, .ref 68, .int 0, .int 0, .int 0, .null, .null, .null, .null, .int 0, .int 0, .int 0, .null, .null]) dX10_init_33 fw_X10_21 rfl (Nat.le_of_ble_eq_true rfl) (fun _ => ⟨rfl, rfl⟩) rfl ?_
  refine J_aload_n dX10_init_36 rfl rfl ?_
  refine J_iconst (v := (-1)) dX10_init_37 (by decide) ?_
  refine K_put (fs2 := [.null, .null, .ref 66, .ref 67, .ref 68, .int 0, .int (-1), .int 0, .null, .null, .null, .null, .int 0, .int 0, .int 0, .null, .null]) dX10_init_38 fw_X10_25 rfl (Nat.le_of_ble_eq_true rfl) (fun _ => ⟨rfl, rfl⟩) rfl ?_
  refine J_aload_n dX10_init_41 rfl rfl ?_
  refine J_iconst (v := (-1)) dX10_init_42 (by decide) ?_
  refine K_put (fs2 := [.null, .null, .ref 66, .ref 67, .ref 68, .int 0, .int (-1), .int (-1), .null, .null, .null, .null, .int 0, .int 0, .int 0, .null, .null]) dX10_init_43 fw_X10_28 rfl (Nat.le_of_ble_eq_true rfl) (fun _ => ⟨rfl, rfl⟩) rfl ?_
  refine J_aload_n dX10_init_46 rfl rfl ?_
  refine J_sipush (v := 1260) dX10_init_47 (by decide +kernel) ?_
  refine K_newa (t := 0) (N := 1260) (a0 := (1260, .inl (fun _ => 0))) (nh2 := 70) (ck2 := 4) (sk2 := 5040) dX10_init_50 rfl (jt1 98 rfl rfl) rfl (fun _ _ h9 => h9) (fun _ => rfl) (fun _ => rfl) (by decide +kernel) (by decide +kernel) (Nat.le_of_ble_eq_true rfl) (Nat.le_of_ble_eq_true rfl) (Nat.le_of_ble_eq_true rfl) rfl rfl rfl ?_
  refine K_putF (fs2 := [.null, .null, .ref 66, .ref 67, .ref 68, .int 0, .int (-1), .int (-1), .ref 69, .null, .null, .null, .int 0, .int 0, .int 0, .null, .null]) dX10_init_52 rfl fw_X10_31 rfl (Nat.le_of_ble_eq_true rfl) (fun _ => ⟨rfl, rfl⟩) rfl ?_
  refine J_aload_n dX10_init_55 rfl rfl ?_
  refine J_bipush (v := 100) dX10_init_56 (by decide +kernel) ?_
  refine K_newa (t := 0) (N := 100) (a0 := (100, .inl (fun _ => 0))) (nh2 := 71) (ck2 := 5) (sk2 := 5140) dX10_init_58 rfl (jt1 98 rfl rfl) rfl (fun _ _ h9 => h9) (fun _ => rfl) (fun _ => rfl) (by decide +kernel) (by decide +kernel) (Nat.le_of_ble_eq_true rfl) (Nat.le_of_ble_eq_true rfl) (Nat.le_of_ble_eq_true rfl) rfl rfl rfl ?_
  refine K_putF (fs2 := [.null, .null, .ref 66, .ref 67, .ref 68, .int 0, .int (-1), .int (-1), .ref 69, .ref 70, .null, .null, .int 0, .int 0, .int 0, .null, .null]) dX10_init_60 rfl fw_X10_34 rfl (Nat.le_of_ble_eq_true rfl) (fun _ => ⟨rfl, rfl⟩) rfl ?_
  refine J_aload_n dX10_init_63 rfl rfl ?_
  refine J_sipush (v := 1260) dX10_init_64 (by decide +kernel) ?_
  refine K_newa (t := 0) (N := 1260) (a0 := (1260, .inl (fun _ => 0))) (nh2 := 72) (ck2 := 6) (sk2 := 6400) dX10_init_67 rfl (jt1 98 rfl rfl) rfl (fun _ _ h9 => h9) (fun _ => rfl) (fun _ => rfl) (by decide +kernel) (by decide +kernel) (Nat.le_of_ble_eq_true rfl) (Nat.le_of_ble_eq_true rfl) (Nat.le_of_ble_eq_true rfl) rfl rfl rfl ?_
  refine K_putF (fs2 := [.null, .null, .ref 66, .ref 67, .ref 68, .int 0, .int (-1), .int (-1), .ref 69, .ref 70, .ref 71, .null, .int 0, .int 0, .int 0, .null, .null]) dX10_init_69 rfl fw_X10_37 rfl (Nat.le_of_ble_eq_true rfl) (fun _ => ⟨rfl, rfl⟩) rfl ?_
  refine J_aload_n dX10_init_72 rfl rfl ?_
  refine J_sipush (v := 1260) dX10_init_73 (by decide +kernel) ?_
  refine K_newa (t := 0) (N := 1260) (a0 := (1260, .inl (fun _ => 0))) (nh2 := 73) (ck2 := 7) (sk2 := 7660) dX10_init_76 rfl (jt1 98 rfl rfl) rfl (fun _ _ h9 => h9) (fun _ => rfl) (fun _ => rfl) (by decide +kernel) (by decide +kernel) (Nat.le_of_ble_eq_true rfl) (Nat.le_of_ble_eq_true rfl) (Nat.le_of_ble_eq_true rfl) rfl rfl rfl ?_
  refine K_putF (fs2 := [.null, .null, .ref 66, .ref 67, .ref 68, .int 0, .int (-1), .int (-1), .ref 69, .ref 70, .ref 71, .ref 72, .int 0, .int 0, .int 0, .null, .null]) dX10_init_78 rfl fw_X10_40 rfl (Nat.le_of_ble_eq_true rfl) (fun _ => ⟨rfl, rfl⟩) rfl ?_
  refine J_aload_n dX10_init_81 rfl rfl ?_
  refine J_iconst (v := 0) dX10_init_82 (by decide) ?_
  refine K_put (fs2 := [.null, .null, .ref 66, .ref 67, .ref 68, .int 0, .int (-1), .int (-1), .ref 69, .ref 70, .ref 71, .ref 72, .int 0, .int 0, .int 0, .null, .null]) dX10_init_83 fw_X10_43 rfl (Nat.le_of_ble_eq_true rfl) (fun _ => ⟨rfl, rfl⟩) rfl ?_
  refine J_aload_n dX10_init_86 rfl rfl ?_
  refine J_iconst (v := (-1)) dX10_init_87 (by decide) ?_
  refine K_put (fs2 := [.null, .null, .ref 66, .ref 67, .ref 68, .int 0, .int (-1), .int (-1), .ref 69, .ref 70, .ref 71, .ref 72, .int 0, .int (-1), .int 0, .null, .null]) dX10_init_88 fw_X10_46 rfl (Nat.le_of_ble_eq_true rfl) (fun _ => ⟨rfl, rfl⟩) rfl ?_
  refine J_aload_n dX10_init_91 rfl rfl ?_
  refine J_iconst (v := (-1)) dX10_init_92 (by decide) ?_
  refine K_put (fs2 := [.null, .null, .ref 66, .ref 67, .ref 68, .int 0, .int (-1), .int (-1), .ref 69, .ref 70, .ref 71, .ref 72, .int 0, .int (-1), .int (-1), .null, .null]) dX10_init_93 fw_X10_49 rfl (Nat.le_of_ble_eq_true rfl) (fun _ => ⟨rfl, rfl⟩) rfl ?_
  refine J_aload_n dX10_init_96 rfl rfl ?_
  refine J_sipush (v := 1260) dX10_init_97 (by decide +kernel) ?_
  refine K_newa (t := 1) (N := 1260) (a0 := (1260, .inr (.inl (fun _ => 0)))) (nh2 := 74) (ck2 := 8) (sk2 := 8920) dX10_init_100 rfl (jt1 194 rfl rfl) rfl (fun _ _ h9 => h9) (fun _ => rfl) (fun _ => rfl) (by decide +kernel) (by decide +kernel) (Nat.le_of_ble_eq_true rfl) (Nat.le_of_ble_eq_true rfl) (Nat.le_of_ble_eq_true rfl) rfl rfl rfl ?_
  refine K_put (fs2 := [.null, .null, .ref 66, .ref 67, .ref 68, .int 0, .int (-1), .int (-1), .ref 69, .ref 70, .ref 71, .ref 72, .int 0, .int (-1), .int (-1), .ref 73, .null]) dX10_init_102 fw_X10_52 rfl (Nat.le_of_ble_eq_true rfl) (fun _ => ⟨rfl, rfl⟩) rfl ?_
  refine J_aload_n dX10_init_105 rfl rfl ?_
  refine J_sipush (v := 1260) dX10_init_106 (by decide +kernel) ?_
  refine K_newa (t := 1) (N := 1260) (a0 := (1260, .inr (.inl (fun _ => 0)))) (nh2 := 75) (ck2 := 9) (sk2 := 10180) dX10_init_109 rfl (jt1 194 rfl rfl) rfl (fun _ _ h9 => h9) (fun _ => rfl) (fun _ => rfl) (by decide +kernel) (by decide +kernel) (Nat.le_of_ble_eq_true rfl) (Nat.le_of_ble_eq_true rfl) (Nat.le_of_ble_eq_true rfl) rfl rfl rfl ?_
  refine K_put (fs2 := [.null, .null, .ref 66, .ref 67, .ref 68, .int 0, .int (-1), .int (-1), .ref 69, .ref 70, .ref 71, .ref 72, .int 0, .int (-1), .int (-1), .ref 73, .ref 74]) dX10_init_111 fw_X10_56 rfl (Nat.le_of_ble_eq_true rfl) (fun _ => ⟨rfl, rfl⟩) rfl ?_
  refine J_aload_n dX10_init_114 rfl rfl ?_
  refine J_aload_n dX10_init_115 rfl rfl ?_
  refine K_putF (fs2 := [.ref 51, .null, .ref 66, .ref 67, .ref 68, .int 0, .int (-1), .int (-1), .ref 69, .ref 70, .ref 71, .ref 72, .int 0, .int (-1), .int (-1), .ref 73, .ref 74]) dX10_init_116 rfl fw_X10_59 rfl (Nat.le_of_ble_eq_true rfl) (fun _ => ⟨rfl, rfl⟩) rfl ?_
  refine J_aload_n dX10_init_119 rfl rfl ?_
  refine J_aload_n dX10_init_120 rfl rfl ?_
  refine K_putF (fs2 := [.ref 51, .ref 57, .ref 66, .ref 67, .ref 68, .int 0, .int (-1), .int (-1), .ref 69, .ref 70, .ref 71, .ref 72, .int 0, .int (-1), .int (-1), .ref 73, .ref 74]) dX10_init_121 rfl fw_X10_63 rfl (Nat.le_of_ble_eq_true rfl) (fun _ => ⟨rfl, rfl⟩) rfl ?_
  refine J_mask (L2 := [(65, .inr (10, [.ref 51, .ref 57, .ref 66, .ref 67, .ref 68, .int 0, .int (-1), .int (-1), .ref 69, .ref 70, .ref 71, .ref 72, .int 0, .int (-1), .int (-1), .ref 73, .ref 74])), (74, .inl (1, 1260, .inr (.inl (fun _ => 0)))), (73, .inl (1, 1260, .inr (.inl (fun _ => 0)))), (72, .inl (0, 1260, .inl (fun _ => 0))), (71, .inl (0, 1260, .inl (fun _ => 0))), (70, .inl (0, 100, .inl (fun _ => 0))), (69, .inl (0, 1260, .inl (fun _ => 0))), (68, .inl (0, 1260, .inl (fun _ => 0))), (67, .inl (0, 1260, .inl (fun _ => 0))), (66, .inl (0, 1260, .inl (fun _ => 0)))]) (ks := [65, 65, 65, 74, 65, 73, 65, 65, 65, 65, 72, 65, 71, 65, 70, 65, 69, 65, 65, 65, 65, 68, 65, 67, 65, 66]) [true, false, false, true, false, true, false, false, false, false, true, false, true, false, true, false, true, false, false, false, false, true, false, true, false, true] rfl (by decide +kernel) rfl ?_
  exact J_vret dX10_init_124 rfl (Nat.le_of_ble_eq_true rfl) (Nat.le_of_ble_eq_true rfl) ⟨rfl, rfl⟩
set_option maxHeartbeats 4000000 in
set_option maxRecDepth 100000 in
theorem c_X3_init_1 {l : Launch} {G : jG} {fh : Nat → Option va_E} (hk75 : fh 75 = some (.inr (3, [.null, .null, .null, .null, .null, .null, .null, .int 0]))) : JM l G yX3_init MX3_init { frames := 1, cells := 5, slots := 3781, locals := 12 } [.ref 75, .ref 51, .ref 57] (76, fh) (fun r h9 => r = none ∧ h9 = (81, hc fh [(75, .inr (3, [.ref 51, .ref 57, .ref 76, .ref 77, .ref 78, .ref 79, .ref 80, .int 0])), (80, .inl (0, 1260, .inl (fun _ => 0))), (79, .inl (0, 1260, .inl (fun _ => 0))), (78, .inl (0, 1261, .inl (fun _ => 0))), (77, .inl (0, 0, .inl (fun _ => 0))), (76, .inl (0, 0, .inl (fun _ => 0)))])) := by
  refine JM.of (by decide) rfl (fun _ => rfl) (Nat.le_of_ble_eq_true rfl) ⟨0, rfl⟩ ?_
  refine J_hc0 (J_ls (ls2 := [some (.ref 75), some (.ref 51), some (.ref 57)]) rfl ?_)
  refine J_aload_n dX3_init_0 rfl rfl ?_
  refine J_objInit dX3_init_1 (jt2 50 rfl rfl) (jt1 27 rfl rfl) (jt1 28 rfl rfl) (Nat.le_of_ble_eq_true rfl) (Nat.le_of_ble_eq_true rfl) ?_
  refine J_aload_n dX3_init_4 rfl rfl ?_
  refine J_iconst (v := 0) dX3_init_5 (by decide) ?_
  refine K_newa (t := 0) (N := 0) (a0 := (0, .inl (fun _ => 0))) (nh2 := 77) (ck2 := 1) (sk2 := 0) dX3_init_6 rfl (jt1 98 rfl rfl) rfl (fun _ _ h9 => h9) (fun _ => rfl) (fun _ => rfl) (by decide +kernel) (by decide +kernel) (Nat.le_of_ble_eq_true rfl) (Nat.le_of_ble_eq_true rfl) (Nat.le_of_ble_eq_true rfl) rfl rfl rfl ?_
  refine K_put (fs2 := [.null, .null, .ref 76, .null, .null, .null, .null, .int 0]) dX3_init_8 fw_X3_11 hk75 (Nat.le_of_ble_eq_true rfl) (fun _ => ⟨rfl, rfl⟩) rfl ?_
  refine J_aload_n dX3_init_11 rfl rfl ?_
  refine J_iconst (v := 0) dX3_init_12 (by decide) ?_
  refine K_newa (t := 0) (N := 0) (a0 := (0, .inl (fun _ => 0))) (nh2 := 78) (ck2 := 2) (sk2 := 0) dX3_init_13 rfl (jt1 98 rfl rfl) rfl (fun _ _ h9 => h9) (fun _ => rfl) (fun _ => rfl) (by decide +kernel) (by decide +kernel) (Nat.le_of_ble_eq_true rfl) (Nat.le_of_ble_eq_true rfl) (Nat.le_of_ble_eq_true rfl) rfl rfl rfl ?_
  refine K_put (fs2 := [.null, .null, .ref 76, .ref 77, .null, .null, .null, .int 0]) dX3_init_15 fw_X3_17 rfl (Nat.le_of_ble_eq_true rfl) (fun _ => ⟨rfl, rfl⟩) rfl ?_
  refine J_aload_n dX3_init_18 rfl rfl ?_
  refine J_sipush (v := 1261) dX3_init_19 (by decide +kernel) ?_
  refine K_newa (t := 0) (N := 1261) (a0 := (1261, .inl (fun _ => 0))) (nh2 := 79) (ck2 := 3) (sk2 := 1261) dX3_init_22 rfl (jt1 98 rfl rfl) rfl (fun _ _ h9 => h9) (fun _ => rfl) (fun _ => rfl) (by decide +kernel) (by decide +kernel) (Nat.le_of_ble_eq_true rfl) (Nat.le_of_ble_eq_true rfl) (Nat.le_of_ble_eq_true rfl) rfl rfl rfl ?_
  refine K_putF (fs2 := [.null, .null, .ref 76, .ref 77, .ref 78, .null, .null, .int 0]) dX3_init_24 rfl fw_X3_20 rfl (Nat.le_of_ble_eq_true rfl) (fun _ => ⟨rfl, rfl⟩) rfl ?_
  refine J_aload_n dX3_init_27 rfl rfl ?_
  refine J_sipush (v := 1260) dX3_init_28 (by decide +kernel) ?_
  refine K_newa (t := 0) (N := 1260) (a0 := (1260, .inl (fun _ => 0))) (nh2 := 80) (ck2 := 4) (sk2 := 2521) dX3_init_31 rfl (jt1 98 rfl rfl) rfl (fun _ _ h9 => h9) (fun _ => rfl) (fun _ => rfl) (by decide +kernel) (by decide +kernel) (Nat.le_of_ble_eq_true rfl) (Nat.le_of_ble_eq_true rfl) (Nat.le_of_ble_eq_true rfl) rfl rfl rfl ?_
  refine K_putF (fs2 := [.null, .null, .ref 76, .ref 77, .ref 78, .ref 79, .null, .int 0]) dX3_init_33 rfl fw_X3_23 rfl (Nat.le_of_ble_eq_true rfl) (fun _ => ⟨rfl, rfl⟩) rfl ?_
  refine J_aload_n dX3_init_36 rfl rfl ?_
  refine J_sipush (v := 1260) dX3_init_37 (by decide +kernel) ?_
  refine K_newa (t := 0) (N := 1260) (a0 := (1260, .inl (fun _ => 0))) (nh2 := 81) (ck2 := 5) (sk2 := 3781) dX3_init_40 rfl (jt1 98 rfl rfl) rfl (fun _ _ h9 => h9) (fun _ => rfl) (fun _ => rfl) (by decide +kernel) (by decide +kernel) (Nat.le_of_ble_eq_true rfl) (Nat.le_of_ble_eq_true rfl) (Nat.le_of_ble_eq_true rfl) rfl rfl rfl ?_
  refine K_putF (fs2 := [.null, .null, .ref 76, .ref 77, .ref 78, .ref 79, .ref 80, .int 0]) dX3_init_42 rfl fw_X3_26 rfl (Nat.le_of_ble_eq_true rfl) (fun _ => ⟨rfl, rfl⟩) rfl ?_
  refine J_aload_n dX3_init_45 rfl rfl ?_
  refine J_iconst (v := 0) dX3_init_46 (by decide) ?_
  refine K_put (fs2 := [.null, .null, .ref 76, .ref 77, .ref 78, .ref 79, .ref 80, .int 0]) dX3_init_47 fw_X3_29 rfl (Nat.le_of_ble_eq_true rfl) (fun _ => ⟨rfl, rfl⟩) rfl ?_
  refine J_aload_n dX3_init_50 rfl rfl ?_
  refine J_aload_n dX3_init_51 rfl rfl ?_
  refine K_putF (fs2 := [.ref 51, .null, .ref 76, .ref 77, .ref 78, .ref 79, .ref 80, .int 0]) dX3_init_52 rfl fw_X3_33 rfl (Nat.le_of_ble_eq_true rfl) (fun _ => ⟨rfl, rfl⟩) rfl ?_
  refine J_aload_n dX3_init_55 rfl rfl ?_
  refine J_aload_n dX3_init_56 rfl rfl ?_
  refine K_putF (fs2 := [.ref 51, .ref 57, .ref 76, .ref 77, .ref 78, .ref 79, .ref 80, .int 0]) dX3_init_57 rfl fw_X3_37 rfl (Nat.le_of_ble_eq_true rfl) (fun _ => ⟨rfl, rfl⟩) rfl ?_
  refine J_mask (L2 := [(75, .inr (3, [.ref 51, .ref 57, .ref 76, .ref 77, .ref 78, .ref 79, .ref 80, .int 0])), (80, .inl (0, 1260, .inl (fun _ => 0))), (79, .inl (0, 1260, .inl (fun _ => 0))), (78, .inl (0, 1261, .inl (fun _ => 0))), (77, .inl (0, 0, .inl (fun _ => 0))), (76, .inl (0, 0, .inl (fun _ => 0)))]) (ks := [75, 75, 75, 75, 80, 75, 79, 75, 78, 75, 77, 75, 76]) [true, false, false, false, true, false, true, false, true, false, true, false, true] rfl (by decide +kernel) rfl ?_
  exact J_vret dX3_init_60 rfl (Nat.le_of_ble_eq_true rfl) (Nat.le_of_ble_eq_true rfl) ⟨rfl, rfl⟩
set_option maxHeartbeats 4000000 in
set_option maxRecDepth 100000 in
theorem c_X7_init_1 {l : Launch} {G : jG} {fh : Nat → Option va_E} (hk81 : fh 81 = some (.inr (7, [.null, .null, .null, .null, .null, .int 0, .int 0]))) : JM l G yX7_init MX7_init { frames := 1, cells := 3, slots := 28, locals := 12 } [.ref 81, .ref 51, .ref 57] (82, fh) (fun r h9 => r = none ∧ h9 = (85, hc fh [(81, .inr (7, [.ref 51, .ref 57, .ref 82, .ref 83, .ref 84, .int 0, .int (-1)])), (84, .inl (0, 0, .inl (fun _ => 0))), (83, .inl (0, 14, .inl (fun _ => 0))), (82, .inl (0, 14, .inl (fun _ => 0)))])) := by
  refine JM.of (by decide) rfl (fun _ => rfl) (Nat.le_of_ble_eq_true rfl) ⟨0, rfl⟩ ?_
  refine J_hc0 (J_ls (ls2 := [some (.ref 81), some (.ref 51), some (.ref 57)]) rfl ?_)
  refine J_aload_n dX7_init_0 rfl rfl ?_
  refine J_objInit dX7_init_1 (jt2 81 rfl rfl) (jt1 27 rfl rfl) (jt1 28 rfl rfl) (Nat.le_of_ble_eq_true rfl) (Nat.le_of_ble_eq_true rfl) ?_
  refine J_aload_n dX7_init_4 rfl rfl ?_
  refine J_bipush (v := 14) dX7_init_5 (by decide +kernel) ?_
  refine K_newa (t := 0) (N := 14) (a0 := (14, .inl (fun _ => 0))) (nh2 := 83) (ck2 := 1) (sk2 := 14) dX7_init_7 rfl (jt1 98 rfl rfl) rfl (fun _ _ h9 => h9) (fun _ => rfl) (fun _ => rfl) (by decide +kernel) (by decide +kernel) (Nat.le_of_ble_eq_true rfl) (Nat.le_of_ble_eq_true rfl) (Nat.le_of_ble_eq_true rfl) rfl rfl rfl ?_
  refine K_putF (fs2 := [.null, .null, .ref 82, .null, .null, .int 0, .int 0]) dX7_init_9 rfl fw_X7_11 hk81 (Nat.le_of_ble_eq_true rfl) (fun _ => ⟨rfl, rfl⟩) rfl ?_
  refine J_aload_n dX7_init_12 rfl rfl ?_
  refine J_bipush (v := 14) dX7_init_13 (by decide +kernel) ?_
  refine K_newa (t := 0) (N := 14) (a0 := (14, .inl (fun _ => 0))) (nh2 := 84) (ck2 := 2) (sk2 := 28) dX7_init_15 rfl (jt1 98 rfl rfl) rfl (fun _ _ h9 => h9) (fun _ => rfl) (fun _ => rfl) (by decide +kernel) (by decide +kernel) (Nat.le_of_ble_eq_true rfl) (Nat.le_of_ble_eq_true rfl) (Nat.le_of_ble_eq_true rfl) rfl rfl rfl ?_
  refine K_putF (fs2 := [.null, .null, .ref 82, .ref 83, .null, .int 0, .int 0]) dX7_init_17 rfl fw_X7_15 rfl (Nat.le_of_ble_eq_true rfl) (fun _ => ⟨rfl, rfl⟩) rfl ?_
  refine J_aload_n dX7_init_20 rfl rfl ?_
  refine J_iconst (v := 0) dX7_init_21 (by decide) ?_
  refine K_newa (t := 0) (N := 0) (a0 := (0, .inl (fun _ => 0))) (nh2 := 85) (ck2 := 3) (sk2 := 28) dX7_init_22 rfl (jt1 98 rfl rfl) rfl (fun _ _ h9 => h9) (fun _ => rfl) (fun _ => rfl) (by decide +kernel) (by decide +kernel) (Nat.le_of_ble_eq_true rfl) (Nat.le_of_ble_eq_true rfl) (Nat.le_of_ble_eq_true rfl) rfl rfl rfl ?_
  refine K_put (fs2 := [.null, .null, .ref 82, .ref 83, .ref 84, .int 0, .int 0]) dX7_init_24 fw_X7_18 rfl (Nat.le_of_ble_eq_true rfl) (fun _ => ⟨rfl, rfl⟩) rfl ?_
  refine J_aload_n dX7_init_27 rfl rfl ?_
  refine J_iconst (v := 0) dX7_init_28 (by decide) ?_
  refine K_put (fs2 := [.null, .null, .ref 82, .ref 83, .ref 84, .int 0, .int 0]) dX7_init_29 fw_X7_21 rfl (Nat.le_of_ble_eq_true rfl) jb0 rfl ?_
  refine J_aload_n dX7_init_32 rfl rfl ?_
  refine J_iconst (v := (-1)) dX7_init_33 (by decide) ?_
  refine K_put (fs2 := [.null, .null, .ref 82, .ref 83, .ref 84, .int 0, .int (-1)]) dX7_init_34 fw_X7_25 rfl (Nat.le_of_ble_eq_true rfl) (fun _ => ⟨rfl, rfl⟩) rfl ?_
  refine J_aload_n dX7_init_37 rfl rfl ?_
  refine J_aload_n dX7_init_38 rfl rfl ?_
  refine K_putF (fs2 := [.ref 51, .null, .ref 82, .ref 83, .ref 84, .int 0, .int (-1)]) dX7_init_39 rfl fw_X7_29 rfl (Nat.le_of_ble_eq_true rfl) (fun _ => ⟨rfl, rfl⟩) rfl ?_
  refine J_aload_n dX7_init_42 rfl rfl ?_
  refine J_aload_n dX7_init_43 rfl rfl ?_
  refine K_putF (fs2 := [.ref 51, .ref 57, .ref 82, .ref 83, .ref 84, .int 0, .int (-1)]) dX7_init_44 rfl fw_X7_33 rfl (Nat.le_of_ble_eq_true rfl) (fun _ => ⟨rfl, rfl⟩) rfl ?_
  refine J_mask (L2 := [(81, .inr (7, [.ref 51, .ref 57, .ref 82, .ref 83, .ref 84, .int 0, .int (-1)])), (84, .inl (0, 0, .inl (fun _ => 0))), (83, .inl (0, 14, .inl (fun _ => 0))), (82, .inl (0, 14, .inl (fun _ => 0)))]) (ks := [81, 81, 81, 81, 81, 84, 81, 83, 81, 82]) [true, false, false, false, false, true, false, true, false, true] rfl (by decide +kernel) rfl ?_
  exact J_vret dX7_init_47 rfl (Nat.le_of_ble_eq_true rfl) (Nat.le_of_ble_eq_true rfl) ⟨rfl, rfl⟩
set_option maxHeartbeats 4000000 in
set_option maxRecDepth 100000 in
theorem c_X2_init_1 {l : Launch} {G : jG} {fh : Nat → Option va_E} (hk85 : fh 85 = some (.inr (2, [.null, .null, .null, .null]))) : JM l G yX2_init MX2_init { frames := 1, cells := 2, slots := 24, locals := 12 } [.ref 85, .ref 1, .ref 51] (86, fh) (fun r h9 => r = none ∧ h9 = (88, hc fh [(85, .inr (2, [.ref 1, .ref 51, .ref 86, .ref 87])), (87, .inl (0, 12, .inl (fun _ => 0))), (86, .inl (0, 12, .inl (fun _ => 0)))])) := by
  refine JM.of (by decide) rfl (fun _ => rfl) (Nat.le_of_ble_eq_true rfl) ⟨0, rfl⟩ ?_
  refine J_hc0 (J_ls (ls2 := [some (.ref 85), some (.ref 1), some (.ref 51)]) rfl ?_)
  refine J_aload_n dX2_init_0 rfl rfl ?_
  refine J_objInit dX2_init_1 (jt2 109 rfl rfl) (jt1 27 rfl rfl) (jt1 28 rfl rfl) (Nat.le_of_ble_eq_true rfl) (Nat.le_of_ble_eq_true rfl) ?_
  refine J_aload_n dX2_init_4 rfl rfl ?_
  refine J_bipush (v := 12) dX2_init_5 (by decide +kernel) ?_
  refine K_newa (t := 0) (N := 12) (a0 := (12, .inl (fun _ => 0))) (nh2 := 87) (ck2 := 1) (sk2 := 12) dX2_init_7 rfl (jt1 98 rfl rfl) rfl (fun _ _ h9 => h9) (fun _ => rfl) (fun _ => rfl) (by decide +kernel) (by decide +kernel) (Nat.le_of_ble_eq_true rfl) (Nat.le_of_ble_eq_true rfl) (Nat.le_of_ble_eq_true rfl) rfl rfl rfl ?_
  refine K_putF (fs2 := [.null, .null, .ref 86, .null]) dX2_init_9 rfl fw_X2_9 hk85 (Nat.le_of_ble_eq_true rfl) (fun _ => ⟨rfl, rfl⟩) rfl ?_
  refine J_aload_n dX2_init_12 rfl rfl ?_
  refine J_bipush (v := 12) dX2_init_13 (by decide +kernel) ?_
  refine K_newa (t := 0) (N := 12) (a0 := (12, .inl (fun _ => 0))) (nh2 := 88) (ck2 := 2) (sk2 := 24) dX2_init_15 rfl (jt1 98 rfl rfl) rfl (fun _ _ h9 => h9) (fun _ => rfl) (fun _ => rfl) (by decide +kernel) (by decide +kernel) (Nat.le_of_ble_eq_true rfl) (Nat.le_of_ble_eq_true rfl) (Nat.le_of_ble_eq_true rfl) rfl rfl rfl ?_
  refine K_putF (fs2 := [.null, .null, .ref 86, .ref 87]) dX2_init_17 rfl fw_X2_15 rfl (Nat.le_of_ble_eq_true rfl) (fun _ => ⟨rfl, rfl⟩) rfl ?_
  refine J_aload_n dX2_init_20 rfl rfl ?_
  refine J_aload_n dX2_init_21 rfl rfl ?_
  refine K_putF (fs2 := [.ref 1, .null, .ref 86, .ref 87]) dX2_init_22 rfl fw_X2_18 rfl (Nat.le_of_ble_eq_true rfl) (fun _ => ⟨rfl, rfl⟩) rfl ?_
  refine J_aload_n dX2_init_25 rfl rfl ?_
  refine J_aload_n dX2_init_26 rfl rfl ?_
  refine K_putF (fs2 := [.ref 1, .ref 51, .ref 86, .ref 87]) dX2_init_27 rfl fw_X2_22 rfl (Nat.le_of_ble_eq_true rfl) (fun _ => ⟨rfl, rfl⟩) rfl ?_
  refine J_mask (L2 := [(85, .inr (2, [.ref 1, .ref 51, .ref 86, .ref 87])), (87, .inl (0, 12, .inl (fun _ => 0))), (86, .inl (0, 12, .inl (fun _ => 0)))]) (ks := [85, 85, 85, 87, 85, 86]) [true, false, false, true, false, true] rfl (by decide +kernel) rfl ?_
  exact J_vret dX2_init_30 rfl (Nat.le_of_ble_eq_true rfl) (Nat.le_of_ble_eq_true rfl) ⟨rfl, rfl⟩
set_option maxHeartbeats 4000000 in
set_option maxRecDepth 100000 in
theorem c_X6_init_1 {l : Launch} {G : jG} {fh : Nat → Option va_E} (hk88 : fh 88 = some (.inr (6, [.null, .null, .null, .null, .null, .null, .int 0, .int 0, .null, .null, .int 0, .int 0, .int 0]))) : JM l G yX6_init MX6_init { frames := 1, cells := 4, slots := 5040, locals := 12 } [.ref 88, .ref 1, .ref 51, .ref 57, .ref 65] (89, fh) (fun r h9 => r = none ∧ h9 = (93, hc fh [(88, .inr (6, [.ref 1, .ref 51, .ref 57, .ref 65, .ref 89, .ref 90, .int 0, .int (-1), .ref 91, .ref 92, .int (-1), .int (-1), .int (-1)])), (92, .inl (0, 1260, .inl (fun _ => 0))), (91, .inl (0, 1260, .inl (fun _ => 0))), (90, .inl (0, 1260, .inl (fun _ => 0))), (89, .inl (2, 1260, .inl (fun _ => 0)))])) := by
  refine JM.of (by decide) rfl (fun _ => rfl) (Nat.le_of_ble_eq_true rfl) ⟨0, rfl⟩ ?_
  refine J_hc0 (J_ls (ls2 := [some (.ref 88), some (.ref 1), some (.ref 51), some (.ref 57), some (.ref 65)]) rfl ?_)
  refine J_aload_n dX6_init_0 rfl rfl ?_
  refine J_objInit dX6_init_1 (jt2 128 rfl rfl) (jt1 27 rfl rfl) (jt1 28 rfl rfl) (Nat.le_of_ble_eq_true rfl) (Nat.le_of_ble_eq_true rfl) ?_
  refine J_aload_n dX6_init_4 rfl rfl ?_
  refine J_sipush (v := 1260) dX6_init_5 (by decide +kernel) ?_
  refine K_newa (t := 2) (N := 1260) (a0 := (1260, .inl (fun _ => 0))) (nh2 := 90) (ck2 := 1) (sk2 := 1260) dX6_init_8 rfl (jt1 119 rfl rfl) rfl (fun _ _ h9 => h9) (fun _ => rfl) (fun _ => rfl) (by decide +kernel) (by decide +kernel) (Nat.le_of_ble_eq_true rfl) (Nat.le_of_ble_eq_true rfl) (Nat.le_of_ble_eq_true rfl) rfl rfl rfl ?_
  refine K_putF (fs2 := [.null, .null, .null, .null, .ref 89, .null, .int 0, .int 0, .null, .null, .int 0, .int 0, .int 0]) dX6_init_10 rfl fw_X6_9 hk88 (Nat.le_of_ble_eq_true rfl) (fun _ => ⟨rfl, rfl⟩) rfl ?_
  refine J_aload_n dX6_init_13 rfl rfl ?_
  refine J_sipush (v := 1260) dX6_init_14 (by decide +kernel) ?_
  refine K_newa (t := 0) (N := 1260) (a0 := (1260, .inl (fun _ => 0))) (nh2 := 91) (ck2 := 2) (sk2 := 2520) dX6_init_17 rfl (jt1 98 rfl rfl) rfl (fun _ _ h9 => h9) (fun _ => rfl) (fun _ => rfl) (by decide +kernel) (by decide +kernel) (Nat.le_of_ble_eq_true rfl) (Nat.le_of_ble_eq_true rfl) (Nat.le_of_ble_eq_true rfl) rfl rfl rfl ?_
  refine K_putF (fs2 := [.null, .null, .null, .null, .ref 89, .ref 90, .int 0, .int 0, .null, .null, .int 0, .int 0, .int 0]) dX6_init_19 rfl fw_X6_15 rfl (Nat.le_of_ble_eq_true rfl) (fun _ => ⟨rfl, rfl⟩) rfl ?_
  refine J_aload_n dX6_init_22 rfl rfl ?_
  refine J_iconst (v := 0) dX6_init_23 (by decide) ?_
  refine K_put (fs2 := [.null, .null, .null, .null, .ref 89, .ref 90, .int 0, .int 0, .null, .null, .int 0, .int 0, .int 0]) dX6_init_24 fw_X6_19 rfl (Nat.le_of_ble_eq_true rfl) (fun _ => ⟨rfl, rfl⟩) rfl ?_
  refine J_aload_n dX6_init_27 rfl rfl ?_
  refine J_iconst (v := (-1)) dX6_init_28 (by decide) ?_
  refine K_put (fs2 := [.null, .null, .null, .null, .ref 89, .ref 90, .int 0, .int (-1), .null, .null, .int 0, .int 0, .int 0]) dX6_init_29 fw_X6_23 rfl (Nat.le_of_ble_eq_true rfl) (fun _ => ⟨rfl, rfl⟩) rfl ?_
  refine J_aload_n dX6_init_32 rfl rfl ?_
  refine J_sipush (v := 1260) dX6_init_33 (by decide +kernel) ?_
  refine K_newa (t := 0) (N := 1260) (a0 := (1260, .inl (fun _ => 0))) (nh2 := 92) (ck2 := 3) (sk2 := 3780) dX6_init_36 rfl (jt1 98 rfl rfl) rfl (fun _ _ h9 => h9) (fun _ => rfl) (fun _ => rfl) (by decide +kernel) (by decide +kernel) (Nat.le_of_ble_eq_true rfl) (Nat.le_of_ble_eq_true rfl) (Nat.le_of_ble_eq_true rfl) rfl rfl rfl ?_
  refine K_putF (fs2 := [.null, .null, .null, .null, .ref 89, .ref 90, .int 0, .int (-1), .ref 91, .null, .int 0, .int 0, .int 0]) dX6_init_38 rfl fw_X6_26 rfl (Nat.le_of_ble_eq_true rfl) (fun _ => ⟨rfl, rfl⟩) rfl ?_
  refine J_aload_n dX6_init_41 rfl rfl ?_
  refine J_sipush (v := 1260) dX6_init_42 (by decide +kernel) ?_
  refine K_newa (t := 0) (N := 1260) (a0 := (1260, .inl (fun _ => 0))) (nh2 := 93) (ck2 := 4) (sk2 := 5040) dX6_init_45 rfl (jt1 98 rfl rfl) rfl (fun _ _ h9 => h9) (fun _ => rfl) (fun _ => rfl) (by decide +kernel) (by decide +kernel) (Nat.le_of_ble_eq_true rfl) (Nat.le_of_ble_eq_true rfl) (Nat.le_of_ble_eq_true rfl) rfl rfl rfl ?_
  refine K_putF (fs2 := [.null, .null, .null, .null, .ref 89, .ref 90, .int 0, .int (-1), .ref 91, .ref 92, .int 0, .int 0, .int 0]) dX6_init_47 rfl fw_X6_29 rfl (Nat.le_of_ble_eq_true rfl) (fun _ => ⟨rfl, rfl⟩) rfl ?_
  refine J_aload_n dX6_init_50 rfl rfl ?_
  refine J_iconst (v := (-1)) dX6_init_51 (by decide) ?_
  refine K_put (fs2 := [.null, .null, .null, .null, .ref 89, .ref 90, .int 0, .int (-1), .ref 91, .ref 92, .int (-1), .int 0, .int 0]) dX6_init_52 fw_X6_32 rfl (Nat.le_of_ble_eq_true rfl) (fun _ => ⟨rfl, rfl⟩) rfl ?_
  refine J_aload_n dX6_init_55 rfl rfl ?_
  refine J_iconst (v := (-1)) dX6_init_56 (by decide) ?_
  refine K_put (fs2 := [.null, .null, .null, .null, .ref 89, .ref 90, .int 0, .int (-1), .ref 91, .ref 92, .int (-1), .int (-1), .int 0]) dX6_init_57 fw_X6_35 rfl (Nat.le_of_ble_eq_true rfl) (fun _ => ⟨rfl, rfl⟩) rfl ?_
  refine J_aload_n dX6_init_60 rfl rfl ?_
  refine J_iconst (v := (-1)) dX6_init_61 (by decide) ?_
  refine K_put (fs2 := [.null, .null, .null, .null, .ref 89, .ref 90, .int 0, .int (-1), .ref 91, .ref 92, .int (-1), .int (-1), .int (-1)]) dX6_init_62 fw_X6_38 rfl (Nat.le_of_ble_eq_true rfl) (fun _ => ⟨rfl, rfl⟩) rfl ?_
  refine J_aload_n dX6_init_65 rfl rfl ?_
  refine J_aload_n dX6_init_66 rfl rfl ?_
  refine K_putF (fs2 := [.ref 1, .null, .null, .null, .ref 89, .ref 90, .int 0, .int (-1), .ref 91, .ref 92, .int (-1), .int (-1), .int (-1)]) dX6_init_67 rfl fw_X6_41 rfl (Nat.le_of_ble_eq_true rfl) (fun _ => ⟨rfl, rfl⟩) rfl ?_
  refine J_aload_n dX6_init_70 rfl rfl ?_
  refine J_aload_n dX6_init_71 rfl rfl ?_
  refine K_putF (fs2 := [.ref 1, .ref 51, .null, .null, .ref 89, .ref 90, .int 0, .int (-1), .ref 91, .ref 92, .int (-1), .int (-1), .int (-1)]) dX6_init_72 rfl fw_X6_45 rfl (Nat.le_of_ble_eq_true rfl) (fun _ => ⟨rfl, rfl⟩) rfl ?_
  refine J_aload_n dX6_init_75 rfl rfl ?_
  refine J_aload_n dX6_init_76 rfl rfl ?_
  refine K_putF (fs2 := [.ref 1, .ref 51, .ref 57, .null, .ref 89, .ref 90, .int 0, .int (-1), .ref 91, .ref 92, .int (-1), .int (-1), .int (-1)]) dX6_init_77 rfl fw_X6_49 rfl (Nat.le_of_ble_eq_true rfl) (fun _ => ⟨rfl, rfl⟩) rfl ?_
  refine J_aload_n dX6_init_80 rfl rfl ?_
  refine J_aload dX6_init_81 rfl ?_
  refine K_putF (fs2 := [.ref 1, .ref 51, .ref 57, .ref 65, .ref 89, .ref 90, .int 0, .int (-1), .ref 91, .ref 92, .int (-1), .int (-1), .int (-1)]) dX6_init_83 rfl fw_X6_53 rfl (Nat.le_of_ble_eq_true rfl) (fun _ => ⟨rfl, rfl⟩) rfl ?_
  refine J_mask (L2 := [(88, .inr (6, [.ref 1, .ref 51, .ref 57, .ref 65, .ref 89, .ref 90, .int 0, .int (-1), .ref 91, .ref 92, .int (-1), .int (-1), .int (-1)])), (92, .inl (0, 1260, .inl (fun _ => 0))), (91, .inl (0, 1260, .inl (fun _ => 0))), (90, .inl (0, 1260, .inl (fun _ => 0))), (89, .inl (2, 1260, .inl (fun _ => 0)))]) (ks := [88, 88, 88, 88, 88, 88, 88, 88, 92, 88, 91, 88, 88, 88, 90, 88, 89]) [true, false, false, false, false, false, false, false, true, false, true, false, false, false, true, false, true] rfl (by decide +kernel) rfl ?_
  exact J_vret dX6_init_86 rfl (Nat.le_of_ble_eq_true rfl) (Nat.le_of_ble_eq_true rfl) ⟨rfl, rfl⟩
set_option maxHeartbeats 4000000 in
set_option maxRecDepth 100000 in
theorem c_X4_init_1 {l : Launch} {G : jG} {fh : Nat → Option va_E} (hk93 : fh 93 = some (.inr (4, [.null, .null, .null, .null, .int 0]))) : JM l G yX4_init MX4_init { frames := 1, cells := 2, slots := 0, locals := 12 } [.ref 93, .ref 51, .ref 57] (94, fh) (fun r h9 => r = none ∧ h9 = (96, hc fh [(93, .inr (4, [.ref 51, .ref 57, .ref 94, .ref 95, .int 0])), (95, .inl (0, 0, .inl (fun _ => 0))), (94, .inl (0, 0, .inl (fun _ => 0)))])) := by
  refine JM.of (by decide) rfl (fun _ => rfl) (Nat.le_of_ble_eq_true rfl) ⟨0, rfl⟩ ?_
  refine J_hc0 (J_ls (ls2 := [some (.ref 93), some (.ref 51), some (.ref 57)]) rfl ?_)
  refine J_aload_n dX4_init_0 rfl rfl ?_
  refine J_objInit dX4_init_1 (jt2 174 rfl rfl) (jt1 27 rfl rfl) (jt1 28 rfl rfl) (Nat.le_of_ble_eq_true rfl) (Nat.le_of_ble_eq_true rfl) ?_
  refine J_aload_n dX4_init_4 rfl rfl ?_
  refine J_iconst (v := 0) dX4_init_5 (by decide) ?_
  refine K_newa (t := 0) (N := 0) (a0 := (0, .inl (fun _ => 0))) (nh2 := 95) (ck2 := 1) (sk2 := 0) dX4_init_6 rfl (jt1 98 rfl rfl) rfl (fun _ _ h9 => h9) (fun _ => rfl) (fun _ => rfl) (by decide +kernel) (by decide +kernel) (Nat.le_of_ble_eq_true rfl) (Nat.le_of_ble_eq_true rfl) (Nat.le_of_ble_eq_true rfl) rfl rfl rfl ?_
  refine K_put (fs2 := [.null, .null, .ref 94, .null, .int 0]) dX4_init_8 fw_X4_9 hk93 (Nat.le_of_ble_eq_true rfl) (fun _ => ⟨rfl, rfl⟩) rfl ?_
  refine J_aload_n dX4_init_11 rfl rfl ?_
  refine J_iconst (v := 0) dX4_init_12 (by decide) ?_
  refine K_newa (t := 0) (N := 0) (a0 := (0, .inl (fun _ => 0))) (nh2 := 96) (ck2 := 2) (sk2 := 0) dX4_init_13 rfl (jt1 98 rfl rfl) rfl (fun _ _ h9 => h9) (fun _ => rfl) (fun _ => rfl) (by decide +kernel) (by decide +kernel) (Nat.le_of_ble_eq_true rfl) (Nat.le_of_ble_eq_true rfl) (Nat.le_of_ble_eq_true rfl) rfl rfl rfl ?_
  refine K_put (fs2 := [.null, .null, .ref 94, .ref 95, .int 0]) dX4_init_15 fw_X4_15 rfl (Nat.le_of_ble_eq_true rfl) (fun _ => ⟨rfl, rfl⟩) rfl ?_
  refine J_aload_n dX4_init_18 rfl rfl ?_
  refine J_iconst (v := 0) dX4_init_19 (by decide) ?_
  refine K_put (fs2 := [.null, .null, .ref 94, .ref 95, .int 0]) dX4_init_20 fw_X4_18 rfl (Nat.le_of_ble_eq_true rfl) (fun _ => ⟨rfl, rfl⟩) rfl ?_
  refine J_aload_n dX4_init_23 rfl rfl ?_
  refine J_aload_n dX4_init_24 rfl rfl ?_
  refine K_putF (fs2 := [.ref 51, .null, .ref 94, .ref 95, .int 0]) dX4_init_25 rfl fw_X4_22 rfl (Nat.le_of_ble_eq_true rfl) (fun _ => ⟨rfl, rfl⟩) rfl ?_
  refine J_aload_n dX4_init_28 rfl rfl ?_
  refine J_aload_n dX4_init_29 rfl rfl ?_
  refine K_putF (fs2 := [.ref 51, .ref 57, .ref 94, .ref 95, .int 0]) dX4_init_30 rfl fw_X4_26 rfl (Nat.le_of_ble_eq_true rfl) (fun _ => ⟨rfl, rfl⟩) rfl ?_
  refine J_mask (L2 := [(93, .inr (4, [.ref 51, .ref 57, .ref 94, .ref 95, .int 0])), (95, .inl (0, 0, .inl (fun _ => 0))), (94, .inl (0, 0, .inl (fun _ => 0)))]) (ks := [93, 93, 93, 93, 95, 93, 94]) [true, false, false, false, true, false, true] rfl (by decide +kernel) rfl ?_
  exact J_vret dX4_init_33 rfl (Nat.le_of_ble_eq_true rfl) (Nat.le_of_ble_eq_true rfl) ⟨rfl, rfl⟩
set_option maxHeartbeats 4000000 in
set_option maxRecDepth 100000 in
theorem c_X0_packed_1 {l : Launch} {G : jG} {nh : Nat} {fh : Nat → Option va_E} (hk51 : fh 51 = some (.inr (0, [.ref 52, .ref 53, .int 0, .int 0]))) : JM l G yX0_packed MX0_packed { frames := 0, cells := 0, slots := 0, locals := 0 } [.ref 51] (nh, fh) (fun r h9 => r = some (.int 0) ∧ h9 = (nh, fh)) := by
  refine JM.of (by decide) rfl (fun h => by cases h) (Nat.le_of_ble_eq_true rfl) ⟨2, rfl⟩ ?_
  refine J_hc0 (J_ls (ls2 := [some (.ref 51), none, none]) rfl ?_)
  refine J_iconst (v := 0) dX0_packed_0 (by decide) ?_
  refine J_istore_n dX0_packed_1 rfl (Nat.le_of_ble_eq_true rfl) rfl ?_
  refine J_iconst (v := 0) dX0_packed_2 (by decide) ?_
  refine J_istore_n dX0_packed_3 rfl (Nat.le_of_ble_eq_true rfl) rfl ?_
  refine J_iload_n dX0_packed_4 rfl rfl ?_
  refine J_aload_n dX0_packed_5 rfl rfl ?_
  refine J_get (v := .int 0) dX0_packed_6 fl_X0_22 hk51 rfl ?_
  refine J_icmp_ge (tgt := 29) dX0_packed_9 (by decide) (fun _ => ?_) (fun q => absurd (by decide +kernel) q)
  refine J_iload_n dX0_packed_29 rfl rfl ?_
  exact J_iret dX0_packed_30 rfl rfl (Nat.le_of_ble_eq_true rfl) (Nat.le_of_ble_eq_true rfl) ⟨rfl, rfl⟩
set_option maxHeartbeats 4000000 in
set_option maxRecDepth 100000 in
theorem c_X0_nextOrder_1 {l : Launch} {G : jG} {nh : Nat} {fh : Nat → Option va_E} (hk51 : fh 51 = some (.inr (0, [.ref 52, .ref 53, .int 1, .int 0]))) : JM l G yX0_nextOrder MX0_nextOrder { frames := 0, cells := 0, slots := 0, locals := 0 } [.ref 51] (nh, fh) (fun r h9 => r = some (.int 0) ∧ h9 = (nh, fh)) := by
  refine JM.of (by decide) rfl (fun h => by cases h) (Nat.le_of_ble_eq_true rfl) ⟨4, rfl⟩ ?_
  refine J_hc0 (J_ls (ls2 := [some (.ref 51), none, none, none, none]) rfl ?_)
  refine J_aload_n dX0_nextOrder_0 rfl rfl ?_
  refine J_get (v := .int 0) dX0_nextOrder_1 fl_X0_22 hk51 rfl ?_
  refine J_iconst (v := 2) dX0_nextOrder_4 (by decide) ?_
  refine J_isub (z := (-2)) dX0_nextOrder_5 (by decide +kernel) ?_
  refine J_istore_n dX0_nextOrder_6 rfl (Nat.le_of_ble_eq_true rfl) rfl ?_
  refine J_iload_n dX0_nextOrder_7 rfl rfl ?_
  refine J_if_lt (tgt := 34) dX0_nextOrder_8 (by decide) (fun _ => ?_) (fun q => absurd (by decide +kernel) q)
  refine J_iload_n dX0_nextOrder_34 rfl rfl ?_
  refine J_if_ge (tgt := 40) dX0_nextOrder_35 (by decide) (fun q => absurd q (by decide +kernel)) (fun _ => ?_)
  refine J_iconst (v := 0) dX0_nextOrder_38 (by decide) ?_
  exact J_iret dX0_nextOrder_39 rfl (by decide +kernel) (Nat.le_of_ble_eq_true rfl) (Nat.le_of_ble_eq_true rfl) ⟨rfl, rfl⟩
set_option maxHeartbeats 4000000 in
set_option maxRecDepth 100000 in
theorem c_X0_settle_1 {l : Launch} {G : jG} {nh : Nat} {fh : Nat → Option va_E} (hk2 : fh 2 = some (.inl (0, 5, .inl (fun _ => 0)))) (hk51 : fh 51 = some (.inr (0, [.ref 52, .ref 53, .int 0, .int 0]))) (hk52 : fh 52 = some (.inl (0, 1260, .inl (fun _ => 0)))) : JM l G yX0_settle MX0_settle { frames := 1, cells := 0, slots := 0, locals := 24 } [.ref 51, .ref 2] (nh, fh) (fun r h9 => r = none ∧ h9 = (nh, hc fh [(51, .inr (0, [.ref 52, .ref 53, .int 1, .int 0])), (52, .inl (0, 1260, .inl (upd (fun _ => 0) 0 0)))])) := by
  refine JM.of (by decide) rfl (fun h => by cases h) (Nat.le_of_ble_eq_true rfl) ⟨2, rfl⟩ ?_
  refine J_hc0 (J_ls (ls2 := [some (.ref 51), some (.ref 2), none, none]) rfl ?_)
  refine J_aload_n dX0_settle_0 rfl rfl ?_
  refine J_iconst (v := 0) dX0_settle_1 (by decide) ?_
  refine K_put (fs2 := [.ref 52, .ref 53, .int 0, .int 0]) dX0_settle_2 fw_X0_22 hk51 (Nat.le_of_ble_eq_true rfl) (fun _ => ⟨rfl, rfl⟩) rfl ?_
  refine J_iconst (v := 0) dX0_settle_5 (by decide) ?_
  refine J_istore_n dX0_settle_6 rfl (Nat.le_of_ble_eq_true rfl) rfl ?_
  refine J_iload_n dX0_settle_7 rfl rfl ?_
  refine J_iconst (v := 5) dX0_settle_8 (by decide) ?_
  refine J_icmp_ge (tgt := 62) dX0_settle_9 (by decide) (fun q => absurd q (by decide +kernel)) (fun _ => ?_)
  refine J_iconst (v := 0) dX0_settle_12 (by decide) ?_
  refine J_istore_n dX0_settle_13 rfl (Nat.le_of_ble_eq_true rfl) rfl ?_
  refine J_iload_n dX0_settle_14 rfl rfl ?_
  refine J_aload_n dX0_settle_15 rfl rfl ?_
  refine J_iload_n dX0_settle_16 rfl rfl ?_
  refine J_iald (i2 := 0) (v := 0) dX0_settle_17 hk2 rfl (jin (by decide +kernel)) (by decide +kernel) rfl ?_
  refine J_icmp_ge (tgt := 56) dX0_settle_18 (by decide) (fun _ => ?_) (fun q => absurd (by decide +kernel) q)
  refine J_iinc (v := 1) dX0_settle_56 rfl (by decide +kernel) (Nat.le_of_ble_eq_true rfl) rfl ?_
  refine J_ls (ls2 := [some (.ref 51), some (.ref 2), some (.int 1), some (.int 0)]) rfl ?_
  refine J_goto (tgt := 7) dX0_settle_59 (by decide) ?_
  refine J_iload_n dX0_settle_7 rfl rfl ?_
  refine J_iconst (v := 5) dX0_settle_8 (by decide) ?_
  refine J_icmp_ge (tgt := 62) dX0_settle_9 (by decide) (fun q => absurd q (by decide +kernel)) (fun _ => ?_)
  refine J_iconst (v := 0) dX0_settle_12 (by decide) ?_
  refine J_istore_n dX0_settle_13 rfl (Nat.le_of_ble_eq_true rfl) rfl ?_
  refine J_iload_n dX0_settle_14 rfl rfl ?_
  refine J_aload_n dX0_settle_15 rfl rfl ?_
  refine J_iload_n dX0_settle_16 rfl rfl ?_
  refine J_iald (i2 := 1) (v := 0) dX0_settle_17 hk2 rfl (jin (by decide +kernel)) (by decide +kernel) rfl ?_
  refine J_icmp_ge (tgt := 56) dX0_settle_18 (by decide) (fun _ => ?_) (fun q => absurd (by decide +kernel) q)
  refine J_iinc (v := 2) dX0_settle_56 rfl (by decide +kernel) (Nat.le_of_ble_eq_true rfl) rfl ?_
  refine J_ls (ls2 := [some (.ref 51), some (.ref 2), some (.int 2), some (.int 0)]) rfl ?_
  refine J_goto (tgt := 7) dX0_settle_59 (by decide) ?_
  refine J_iload_n dX0_settle_7 rfl rfl ?_
  refine J_iconst (v := 5) dX0_settle_8 (by decide) ?_
  refine J_icmp_ge (tgt := 62) dX0_settle_9 (by decide) (fun q => absurd q (by decide +kernel)) (fun _ => ?_)
  refine J_iconst (v := 0) dX0_settle_12 (by decide) ?_
  refine J_istore_n dX0_settle_13 rfl (Nat.le_of_ble_eq_true rfl) rfl ?_
  refine J_iload_n dX0_settle_14 rfl rfl ?_
  refine J_aload_n dX0_settle_15 rfl rfl ?_
  refine J_iload_n dX0_settle_16 rfl rfl ?_
  refine J_iald (i2 := 2) (v := 0) dX0_settle_17 hk2 rfl (jin (by decide +kernel)) (by decide +kernel) rfl ?_
  refine J_icmp_ge (tgt := 56) dX0_settle_18 (by decide) (fun _ => ?_) (fun q => absurd (by decide +kernel) q)
  refine J_iinc (v := 3) dX0_settle_56 rfl (by decide +kernel) (Nat.le_of_ble_eq_true rfl) rfl ?_
  refine J_ls (ls2 := [some (.ref 51), some (.ref 2), some (.int 3), some (.int 0)]) rfl ?_
  refine J_goto (tgt := 7) dX0_settle_59 (by decide) ?_
  refine J_iload_n dX0_settle_7 rfl rfl ?_
  refine J_iconst (v := 5) dX0_settle_8 (by decide) ?_
  refine J_icmp_ge (tgt := 62) dX0_settle_9 (by decide) (fun q => absurd q (by decide +kernel)) (fun _ => ?_)
  refine J_iconst (v := 0) dX0_settle_12 (by decide) ?_
  refine J_istore_n dX0_settle_13 rfl (Nat.le_of_ble_eq_true rfl) rfl ?_
  refine J_iload_n dX0_settle_14 rfl rfl ?_
  refine J_aload_n dX0_settle_15 rfl rfl ?_
  refine J_iload_n dX0_settle_16 rfl rfl ?_
  refine J_iald (i2 := 3) (v := 0) dX0_settle_17 hk2 rfl (jin (by decide +kernel)) (by decide +kernel) rfl ?_
  refine J_icmp_ge (tgt := 56) dX0_settle_18 (by decide) (fun _ => ?_) (fun q => absurd (by decide +kernel) q)
  refine J_iinc (v := 4) dX0_settle_56 rfl (by decide +kernel) (Nat.le_of_ble_eq_true rfl) rfl ?_
  refine J_ls (ls2 := [some (.ref 51), some (.ref 2), some (.int 4), some (.int 0)]) rfl ?_
  refine J_goto (tgt := 7) dX0_settle_59 (by decide) ?_
  refine J_iload_n dX0_settle_7 rfl rfl ?_
  refine J_iconst (v := 5) dX0_settle_8 (by decide) ?_
  refine J_icmp_ge (tgt := 62) dX0_settle_9 (by decide) (fun q => absurd q (by decide +kernel)) (fun _ => ?_)
  refine J_iconst (v := 0) dX0_settle_12 (by decide) ?_
  refine J_istore_n dX0_settle_13 rfl (Nat.le_of_ble_eq_true rfl) rfl ?_
  refine J_iload_n dX0_settle_14 rfl rfl ?_
  refine J_aload_n dX0_settle_15 rfl rfl ?_
  refine J_iload_n dX0_settle_16 rfl rfl ?_
  refine J_iald (i2 := 4) (v := 0) dX0_settle_17 hk2 rfl (jin (by decide +kernel)) (by decide +kernel) rfl ?_
  refine J_icmp_ge (tgt := 56) dX0_settle_18 (by decide) (fun _ => ?_) (fun q => absurd (by decide +kernel) q)
  refine J_iinc (v := 5) dX0_settle_56 rfl (by decide +kernel) (Nat.le_of_ble_eq_true rfl) rfl ?_
  refine J_ls (ls2 := [some (.ref 51), some (.ref 2), some (.int 5), some (.int 0)]) rfl ?_
  refine J_goto (tgt := 7) dX0_settle_59 (by decide) ?_
  refine J_iload_n dX0_settle_7 rfl rfl ?_
  refine J_iconst (v := 5) dX0_settle_8 (by decide) ?_
  refine J_icmp_ge (tgt := 62) dX0_settle_9 (by decide) (fun _ => ?_) (fun q => absurd (by decide +kernel) q)
  refine J_aload_n dX0_settle_62 rfl rfl ?_
  refine J_iconst (v := 0) dX0_settle_63 (by decide) ?_
  refine K_put (fs2 := [.ref 52, .ref 53, .int 0, .int 0]) dX0_settle_64 fw_X0_18 rfl (Nat.le_of_ble_eq_true rfl) (fun _ => ⟨rfl, rfl⟩) rfl ?_
  refine J_iconst (v := 1) dX0_settle_67 (by decide) ?_
  refine J_istore_n dX0_settle_68 rfl (Nat.le_of_ble_eq_true rfl) rfl ?_
  refine J_iconst (v := 0) dX0_settle_69 (by decide) ?_
  refine J_istore_n dX0_settle_70 rfl (Nat.le_of_ble_eq_true rfl) rfl ?_
  refine J_iload_n dX0_settle_71 rfl rfl ?_
  refine J_sipush (v := 1260) dX0_settle_72 (by decide +kernel) ?_
  refine J_icmp_ge (tgt := 116) dX0_settle_75 (by decide) (fun q => absurd q (by decide +kernel)) (fun _ => ?_)
  refine J_iload_n dX0_settle_78 rfl rfl ?_
  refine J_if_eq (tgt := 116) dX0_settle_79 (by decide) (fun q => absurd q (by decide +kernel)) (fun _ => ?_)
  refine J_aload_n dX0_settle_82 rfl rfl ?_
  refine J_get (v := .ref 52) dX0_settle_83 fl_X0_9 rfl rfl ?_
  refine J_aload_n dX0_settle_86 rfl rfl ?_
  refine J_get (v := .int 0) dX0_settle_87 fl_X0_18 rfl rfl ?_
  refine J_aload_n dX0_settle_90 rfl rfl ?_
  refine J_callV (st := [.int 0, .ref 52]) dX0_settle_91 cv_X0_25 (c_X0_packed_1 rfl) rfl rfl rfl (Nat.le_of_ble_eq_true rfl) ⟨(Nat.le_of_ble_eq_true rfl), (Nat.le_of_ble_eq_true rfl)⟩ ⟨(Nat.le_of_ble_eq_true rfl), (Nat.le_of_ble_eq_true rfl)⟩ (fun r h9 hp => ?_)
  obtain ⟨rfl, rfl⟩ := hp
  refine J_nf (nh2 := nh) (ck2 := 0) (sk2 := 0) (st2 := [.int 0, .int 0, .ref 52]) rfl rfl rfl rfl ?_
  refine K_iast (i2 := 0) dX0_settle_94 hk52 rfl (jin (by decide +kernel)) (by decide +kernel) ?_
  refine J_aload_n dX0_settle_95 rfl rfl ?_
  refine J_dup dX0_settle_96 rfl ?_
  refine J_get (v := .int 0) dX0_settle_97 fl_X0_18 rfl rfl ?_
  refine J_iconst (v := 1) dX0_settle_100 (by decide) ?_
  refine J_iadd (z := 1) dX0_settle_101 (by decide +kernel) ?_
  refine K_put (fs2 := [.ref 52, .ref 53, .int 1, .int 0]) dX0_settle_102 fw_X0_18 rfl (Nat.le_of_ble_eq_true rfl) (fun _ => ⟨rfl, rfl⟩) rfl ?_
  refine J_aload_n dX0_settle_105 rfl rfl ?_
  refine J_callV (st := []) dX0_settle_106 cv_X0_29 (c_X0_nextOrder_1 rfl) rfl rfl rfl (Nat.le_of_ble_eq_true rfl) ⟨(Nat.le_of_ble_eq_true rfl), (Nat.le_of_ble_eq_true rfl)⟩ ⟨(Nat.le_of_ble_eq_true rfl), (Nat.le_of_ble_eq_true rfl)⟩ (fun r h9 hp => ?_)
  obtain ⟨rfl, rfl⟩ := hp
  refine J_nf (nh2 := nh) (ck2 := 0) (sk2 := 0) (st2 := [.int 0]) rfl rfl rfl rfl ?_
  refine J_istore_n dX0_settle_109 rfl (Nat.le_of_ble_eq_true rfl) rfl ?_
  refine J_iinc (v := 1) dX0_settle_110 rfl (by decide +kernel) (Nat.le_of_ble_eq_true rfl) rfl ?_
  refine J_ls (ls2 := [some (.ref 51), some (.ref 2), some (.int 0), some (.int 1)]) rfl ?_
  refine J_goto (tgt := 71) dX0_settle_113 (by decide) ?_
  refine J_iload_n dX0_settle_71 rfl rfl ?_
  refine J_sipush (v := 1260) dX0_settle_72 (by decide +kernel) ?_
  refine J_icmp_ge (tgt := 116) dX0_settle_75 (by decide) (fun q => absurd q (by decide +kernel)) (fun _ => ?_)
  refine J_iload_n dX0_settle_78 rfl rfl ?_
  refine J_if_eq (tgt := 116) dX0_settle_79 (by decide) (fun _ => ?_) (fun q => absurd (by decide +kernel) q)
  refine J_mask (L2 := [(51, .inr (0, [.ref 52, .ref 53, .int 1, .int 0])), (52, .inl (0, 1260, .inl (upd (fun _ => 0) 0 0)))]) (ks := [51, 52, 51, 51]) [true, true, false, false] rfl (by decide +kernel) rfl ?_
  exact J_vret dX0_settle_116 rfl (Nat.le_of_ble_eq_true rfl) (Nat.le_of_ble_eq_true rfl) ⟨rfl, rfl⟩
set_option maxHeartbeats 4000000 in
set_option maxRecDepth 100000 in
theorem c_X11_init_1 {l : Launch} {G : jG} {fh : Nat → Option va_E} (hk0 : fh 0 = some (.inr (11, [.null, .null, .null, .null, .null, .null, .null, .null, .null, .null, .null, .null, .null, .int 0, .int 0, .null, .int 0]))) : JM l G yX11_init MX11_init { frames := 3, cells := 97, slots := 26681, locals := 54 } [.ref 0] (1, fh) (fun r h9 => r = none ∧ h9 = (98, hc fh [(51, .inr (0, [.ref 52, .ref 53, .int 1, .int 0])), (52, .inl (0, 1260, .inl (upd (fun _ => 0) 0 0))), (0, .inr (11, [.ref 1, .ref 17, .ref 50, .ref 51, .ref 54, .ref 57, .ref 65, .ref 75, .ref 81, .ref 85, .ref 88, .ref 93, .ref 96, .int 0, .int (-1), .ref 97, .int 0])), (97, .inl (0, 1260, .inl (fun _ => 0))), (96, .inl (0, 5, .inl (fun _ => 0))), (93, .inr (4, [.ref 51, .ref 57, .ref 94, .ref 95, .int 0])), (95, .inl (0, 0, .inl (fun _ => 0))), (94, .inl (0, 0, .inl (fun _ => 0))), (88, .inr (6, [.ref 1, .ref 51, .ref 57, .ref 65, .ref 89, .ref 90, .int 0, .int (-1), .ref 91, .ref 92, .int (-1), .int (-1), .int (-1)])), (92, .inl (0, 1260, .inl (fun _ => 0))), (91, .inl (0, 1260, .inl (fun _ => 0))), (90, .inl (0, 1260, .inl (fun _ => 0))), (89, .inl (2, 1260, .inl (fun _ => 0))), (85, .inr (2, [.ref 1, .ref 51, .ref 86, .ref 87])), (87, .inl (0, 12, .inl (fun _ => 0))), (86, .inl (0, 12, .inl (fun _ => 0))), (81, .inr (7, [.ref 51, .ref 57, .ref 82, .ref 83, .ref 84, .int 0, .int (-1)])), (84, .inl (0, 0, .inl (fun _ => 0))), (83, .inl (0, 14, .inl (fun _ => 0))), (82, .inl (0, 14, .inl (fun _ => 0))), (75, .inr (3, [.ref 51, .ref 57, .ref 76, .ref 77, .ref 78, .ref 79, .ref 80, .int 0])), (80, .inl (0, 1260, .inl (fun _ => 0))), (79, .inl (0, 1260, .inl (fun _ => 0))), (78, .inl (0, 1261, .inl (fun _ => 0))), (77, .inl (0, 0, .inl (fun _ => 0))), (76, .inl (0, 0, .inl (fun _ => 0))), (65, .inr (10, [.ref 51, .ref 57, .ref 66, .ref 67, .ref 68, .int 0, .int (-1), .int (-1), .ref 69, .ref 70, .ref 71, .ref 72, .int 0, .int (-1), .int (-1), .ref 73, .ref 74])), (74, .inl (1, 1260, .inr (.inl (fun _ => 0)))), (73, .inl (1, 1260, .inr (.inl (fun _ => 0)))), (72, .inl (0, 1260, .inl (fun _ => 0))), (71, .inl (0, 1260, .inl (fun _ => 0))), (70, .inl (0, 100, .inl (fun _ => 0))), (69, .inl (0, 1260, .inl (fun _ => 0))), (68, .inl (0, 1260, .inl (fun _ => 0))), (67, .inl (0, 1260, .inl (fun _ => 0))), (66, .inl (0, 1260, .inl (fun _ => 0))), (57, .inr (9, [.ref 1, .ref 51, .ref 58, .ref 61, .ref 62, .ref 63, .ref 64, .int 0, .int 1, .int 1])), (64, .inl (0, 2625, .inl (fun _ => 0))), (63, .inl (0, 0, .inl (fun _ => 0))), (62, .inl (0, 1260, .inl (fun _ => 0))), (61, .inl (0, 0, .inl (fun _ => 0))), (58, .inr (1, [.ref 59, .ref 60, .int 0, .int 0, .int 0, .int 0, .int 0, .int 1])), (60, .inl (1, 64, .inr (.inl (fun _ => 0)))), (59, .inl (0, 8, .inl (fun _ => 0))), (54, .inr (5, [.ref 55, .int 0, .int 17, .int 0, .int 0, .int 0, .int 0, .int (-1), .ref 56, .int 0])), (56, .inl (0, 412, .inl (fun _ => 0))), (55, .inl (0, 400, .inl (fun _ => 0))), (53, .inl (0, 7, .inl (fun _ => 0))), (50, .inl (2, 2, .inl (fun _ => 0))), (17, .inl (4, 2, .inr (.inr (.inr (.inr (va_up (va_up (fun _ => none) 0 (some 18)) 1 (some 34))))))), (34, .inr (8, [.ref 35, .ref 36, .ref 37, .int 0, .int (-1), .ref 44, .ref 45, .int 0, .ref 46, .ref 47, .int 0, .ref 48, .ref 49, .int 0])), (49, .inl (0, 12, .inl (fun _ => 0))), (48, .inl (0, 12, .inl (fun _ => 0))), (47, .inl (0, 6, .inl (fun _ => 0))), (46, .inl (0, 6, .inl (fun _ => 0))), (45, .inl (0, 8, .inl (fun _ => 0))), (44, .inl (0, 8, .inl (fun _ => 0))), (43, .inl (0, 0, .inl (fun _ => 0))), (42, .inl (0, 0, .inl (fun _ => 0))), (41, .inl (0, 0, .inl (fun _ => 0))), (40, .inl (0, 0, .inl (fun _ => 0))), (39, .inl (0, 0, .inl (fun _ => 0))), (38, .inl (0, 0, .inl (fun _ => 0))), (37, .inl (5, 6, .inr (.inr (.inr (.inr (fun i => if i < 6 then some (37 + 1 + i) else none)))))), (36, .inl (0, 2, .inl (fun _ => 0))), (35, .inl (0, 5, .inl (fun _ => 0))), (18, .inr (8, [.ref 19, .ref 20, .ref 21, .int 0, .int (-1), .ref 28, .ref 29, .int 0, .ref 30, .ref 31, .int 0, .ref 32, .ref 33, .int 0])), (33, .inl (0, 12, .inl (fun _ => 0))), (32, .inl (0, 12, .inl (fun _ => 0))), (31, .inl (0, 6, .inl (fun _ => 0))), (30, .inl (0, 6, .inl (fun _ => 0))), (29, .inl (0, 8, .inl (fun _ => 0))), (28, .inl (0, 8, .inl (fun _ => 0))), (27, .inl (0, 0, .inl (fun _ => 0))), (26, .inl (0, 0, .inl (fun _ => 0))), (25, .inl (0, 0, .inl (fun _ => 0))), (24, .inl (0, 0, .inl (fun _ => 0))), (23, .inl (0, 0, .inl (fun _ => 0))), (22, .inl (0, 0, .inl (fun _ => 0))), (21, .inl (5, 6, .inr (.inr (.inr (.inr (fun i => if i < 6 then some (21 + 1 + i) else none)))))), (20, .inl (0, 2, .inl (fun _ => 0))), (19, .inl (0, 5, .inl (fun _ => 0))), (1, .inr (8, [.ref 2, .ref 3, .ref 4, .int 0, .int (-1), .ref 11, .ref 12, .int 0, .ref 13, .ref 14, .int 0, .ref 15, .ref 16, .int 0])), (16, .inl (0, 12, .inl (fun _ => 0))), (15, .inl (0, 12, .inl (fun _ => 0))), (14, .inl (0, 6, .inl (fun _ => 0))), (13, .inl (0, 6, .inl (fun _ => 0))), (12, .inl (0, 8, .inl (fun _ => 0))), (11, .inl (0, 8, .inl (fun _ => 0))), (10, .inl (0, 0, .inl (fun _ => 0))), (9, .inl (0, 0, .inl (fun _ => 0))), (8, .inl (0, 0, .inl (fun _ => 0))), (7, .inl (0, 0, .inl (fun _ => 0))), (6, .inl (0, 0, .inl (fun _ => 0))), (5, .inl (0, 0, .inl (fun _ => 0))), (4, .inl (5, 6, .inr (.inr (.inr (.inr (fun i => if i < 6 then some (4 + 1 + i) else none)))))), (3, .inl (0, 2, .inl (fun _ => 0))), (2, .inl (0, 5, .inl (fun _ => 0)))])) := by
  refine JM.of (by decide) rfl (fun _ => rfl) (Nat.le_of_ble_eq_true rfl) ⟨0, rfl⟩ ?_
  refine J_hc0 (J_ls (ls2 := [some (.ref 0)]) rfl ?_)
  refine J_aload_n dX11_init_0 rfl rfl ?_
  refine J_objInit dX11_init_1 (jt1 26 rfl rfl) (jt1 27 rfl rfl) (jt1 28 rfl rfl) (Nat.le_of_ble_eq_true rfl) (Nat.le_of_ble_eq_true rfl) ?_
  refine J_aload_n dX11_init_4 rfl rfl ?_
  refine K_new (nh2 := 2) (ck2 := 1) (sk2 := 14) dX11_init_5 nw_X11_7 (fun _ => rfl) (Nat.le_of_ble_eq_true rfl) (Nat.le_of_ble_eq_true rfl) rfl rfl rfl ?_
  refine J_dup dX11_init_8 rfl ?_
  refine J_callI (st := [.ref 1, .ref 0]) dX11_init_9 ci_X11_9 (c_X8_init_1 rfl) rfl rfl (Nat.le_of_ble_eq_true rfl) ⟨(Nat.le_of_ble_eq_true rfl), (Nat.le_of_ble_eq_true rfl)⟩ ⟨(Nat.le_of_ble_eq_true rfl), (Nat.le_of_ble_eq_true rfl)⟩ (fun r h9 hp => ?_)
  obtain ⟨rfl, rfl⟩ := hp
  refine J_nf (nh2 := 17) (ck2 := 16) (sk2 := 79) (st2 := [.ref 1, .ref 0]) rfl rfl rfl rfl ?_
  refine J_app (L3 := [(1, .inr (8, [.ref 2, .ref 3, .ref 4, .int 0, .int (-1), .ref 11, .ref 12, .int 0, .ref 13, .ref 14, .int 0, .ref 15, .ref 16, .int 0])), (16, .inl (0, 12, .inl (fun _ => 0))), (15, .inl (0, 12, .inl (fun _ => 0))), (14, .inl (0, 6, .inl (fun _ => 0))), (13, .inl (0, 6, .inl (fun _ => 0))), (12, .inl (0, 8, .inl (fun _ => 0))), (11, .inl (0, 8, .inl (fun _ => 0))), (10, .inl (0, 0, .inl (fun _ => 0))), (9, .inl (0, 0, .inl (fun _ => 0))), (8, .inl (0, 0, .inl (fun _ => 0))), (7, .inl (0, 0, .inl (fun _ => 0))), (6, .inl (0, 0, .inl (fun _ => 0))), (5, .inl (0, 0, .inl (fun _ => 0))), (4, .inl (5, 6, .inr (.inr (.inr (.inr (fun i => if i < 6 then some (4 + 1 + i) else none)))))), (3, .inl (0, 2, .inl (fun _ => 0))), (2, .inl (0, 5, .inl (fun _ => 0))), (1, .inr (8, [.null, .null, .null, .int 0, .int 0, .null, .null, .int 0, .null, .null, .int 0, .null, .null, .int 0]))]) rfl ?_
  refine K_putF (fs2 := [.ref 1, .null, .null, .null, .null, .null, .null, .null, .null, .null, .null, .null, .null, .int 0, .int 0, .null, .int 0]) dX11_init_12 rfl fw_X11_10 hk0 (Nat.le_of_ble_eq_true rfl) (fun _ => ⟨rfl, rfl⟩) rfl ?_
  refine J_aload_n dX11_init_15 rfl rfl ?_
  refine J_iconst (v := 2) dX11_init_16 (by decide) ?_
  refine K_anew (t := 4) (N := 2) (nh2 := 18) (ck2 := 17) (sk2 := 81) dX11_init_17 (jt1 29 rfl rfl) rfl (by decide +kernel) (by decide +kernel) (Nat.le_of_ble_eq_true rfl) (Nat.le_of_ble_eq_true rfl) (Nat.le_of_ble_eq_true rfl) rfl rfl rfl ?_
  refine J_dup dX11_init_20 rfl ?_
  refine J_iconst (v := 0) dX11_init_21 (by decide) ?_
  refine K_new (nh2 := 19) (ck2 := 18) (sk2 := 95) dX11_init_22 nw_X11_7 (fun _ => rfl) (Nat.le_of_ble_eq_true rfl) (Nat.le_of_ble_eq_true rfl) rfl rfl rfl ?_
  refine J_dup dX11_init_25 rfl ?_
  refine J_callI (st := [.ref 18, .int 0, .ref 17, .ref 17, .ref 0]) dX11_init_26 ci_X11_9 (c_X8_init_2 rfl) rfl rfl (Nat.le_of_ble_eq_true rfl) ⟨(Nat.le_of_ble_eq_true rfl), (Nat.le_of_ble_eq_true rfl)⟩ ⟨(Nat.le_of_ble_eq_true rfl), (Nat.le_of_ble_eq_true rfl)⟩ (fun r h9 hp => ?_)
  obtain ⟨rfl, rfl⟩ := hp
  refine J_nf (nh2 := 34) (ck2 := 33) (sk2 := 160) (st2 := [.ref 18, .int 0, .ref 17, .ref 17, .ref 0]) rfl rfl rfl rfl ?_
  refine J_app (L3 := [(18, .inr (8, [.ref 19, .ref 20, .ref 21, .int 0, .int (-1), .ref 28, .ref 29, .int 0, .ref 30, .ref 31, .int 0, .ref 32, .ref 33, .int 0])), (33, .inl (0, 12, .inl (fun _ => 0))), (32, .inl (0, 12, .inl (fun _ => 0))), (31, .inl (0, 6, .inl (fun _ => 0))), (30, .inl (0, 6, .inl (fun _ => 0))), (29, .inl (0, 8, .inl (fun _ => 0))), (28, .inl (0, 8, .inl (fun _ => 0))), (27, .inl (0, 0, .inl (fun _ => 0))), (26, .inl (0, 0, .inl (fun _ => 0))), (25, .inl (0, 0, .inl (fun _ => 0))), (24, .inl (0, 0, .inl (fun _ => 0))), (23, .inl (0, 0, .inl (fun _ => 0))), (22, .inl (0, 0, .inl (fun _ => 0))), (21, .inl (5, 6, .inr (.inr (.inr (.inr (fun i => if i < 6 then some (21 + 1 + i) else none)))))), (20, .inl (0, 2, .inl (fun _ => 0))), (19, .inl (0, 5, .inl (fun _ => 0))), (18, .inr (8, [.null, .null, .null, .int 0, .int 0, .null, .null, .int 0, .null, .null, .int 0, .null, .null, .int 0])), (17, .inl (4, 2, .inr (.inr (.inr (.inr (fun _ => none)))))), (0, .inr (11, [.ref 1, .null, .null, .null, .null, .null, .null, .null, .null, .null, .null, .null, .null, .int 0, .int 0, .null, .int 0])), (1, .inr (8, [.ref 2, .ref 3, .ref 4, .int 0, .int (-1), .ref 11, .ref 12, .int 0, .ref 13, .ref 14, .int 0, .ref 15, .ref 16, .int 0])), (16, .inl (0, 12, .inl (fun _ => 0))), (15, .inl (0, 12, .inl (fun _ => 0))), (14, .inl (0, 6, .inl (fun _ => 0))), (13, .inl (0, 6, .inl (fun _ => 0))), (12, .inl (0, 8, .inl (fun _ => 0))), (11, .inl (0, 8, .inl (fun _ => 0))), (10, .inl (0, 0, .inl (fun _ => 0))), (9, .inl (0, 0, .inl (fun _ => 0))), (8, .inl (0, 0, .inl (fun _ => 0))), (7, .inl (0, 0, .inl (fun _ => 0))), (6, .inl (0, 0, .inl (fun _ => 0))), (5, .inl (0, 0, .inl (fun _ => 0))), (4, .inl (5, 6, .inr (.inr (.inr (.inr (fun i => if i < 6 then some (4 + 1 + i) else none)))))), (3, .inl (0, 2, .inl (fun _ => 0))), (2, .inl (0, 5, .inl (fun _ => 0))), (1, .inr (8, [.null, .null, .null, .int 0, .int 0, .null, .null, .int 0, .null, .null, .int 0, .null, .null, .int 0]))]) rfl ?_
  refine K_aastO (ci := 8) (i2 := 0) dX11_init_29 rfl rfl rfl rfl (jin (by decide +kernel)) (by decide +kernel) ?_
  refine J_dup dX11_init_30 rfl ?_
  refine J_iconst (v := 1) dX11_init_31 (by decide) ?_
  refine K_new (nh2 := 35) (ck2 := 34) (sk2 := 174) dX11_init_32 nw_X11_7 (fun _ => rfl) (Nat.le_of_ble_eq_true rfl) (Nat.le_of_ble_eq_true rfl) rfl rfl rfl ?_
  refine J_dup dX11_init_35 rfl ?_
  refine J_callI (st := [.ref 34, .int 1, .ref 17, .ref 17, .ref 0]) dX11_init_36 ci_X11_9 (c_X8_init_3 rfl) rfl rfl (Nat.le_of_ble_eq_true rfl) ⟨(Nat.le_of_ble_eq_true rfl), (Nat.le_of_ble_eq_true rfl)⟩ ⟨(Nat.le_of_ble_eq_true rfl), (Nat.le_of_ble_eq_true rfl)⟩ (fun r h9 hp => ?_)
  obtain ⟨rfl, rfl⟩ := hp
  refine J_nf (nh2 := 50) (ck2 := 49) (sk2 := 239) (st2 := [.ref 34, .int 1, .ref 17, .ref 17, .ref 0]) rfl rfl rfl rfl ?_
  refine J_app (L3 := [(34, .inr (8, [.ref 35, .ref 36, .ref 37, .int 0, .int (-1), .ref 44, .ref 45, .int 0, .ref 46, .ref 47, .int 0, .ref 48, .ref 49, .int 0])), (49, .inl (0, 12, .inl (fun _ => 0))), (48, .inl (0, 12, .inl (fun _ => 0))), (47, .inl (0, 6, .inl (fun _ => 0))), (46, .inl (0, 6, .inl (fun _ => 0))), (45, .inl (0, 8, .inl (fun _ => 0))), (44, .inl (0, 8, .inl (fun _ => 0))), (43, .inl (0, 0, .inl (fun _ => 0))), (42, .inl (0, 0, .inl (fun _ => 0))), (41, .inl (0, 0, .inl (fun _ => 0))), (40, .inl (0, 0, .inl (fun _ => 0))), (39, .inl (0, 0, .inl (fun _ => 0))), (38, .inl (0, 0, .inl (fun _ => 0))), (37, .inl (5, 6, .inr (.inr (.inr (.inr (fun i => if i < 6 then some (37 + 1 + i) else none)))))), (36, .inl (0, 2, .inl (fun _ => 0))), (35, .inl (0, 5, .inl (fun _ => 0))), (34, .inr (8, [.null, .null, .null, .int 0, .int 0, .null, .null, .int 0, .null, .null, .int 0, .null, .null, .int 0])), (17, .inl (4, 2, .inr (.inr (.inr (.inr (va_up (fun _ => none) 0 (some 18))))))), (18, .inr (8, [.ref 19, .ref 20, .ref 21, .int 0, .int (-1), .ref 28, .ref 29, .int 0, .ref 30, .ref 31, .int 0, .ref 32, .ref 33, .int 0])), (33, .inl (0, 12, .inl (fun _ => 0))), (32, .inl (0, 12, .inl (fun _ => 0))), (31, .inl (0, 6, .inl (fun _ => 0))), (30, .inl (0, 6, .inl (fun _ => 0))), (29, .inl (0, 8, .inl (fun _ => 0))), (28, .inl (0, 8, .inl (fun _ => 0))), (27, .inl (0, 0, .inl (fun _ => 0))), (26, .inl (0, 0, .inl (fun _ => 0))), (25, .inl (0, 0, .inl (fun _ => 0))), (24, .inl (0, 0, .inl (fun _ => 0))), (23, .inl (0, 0, .inl (fun _ => 0))), (22, .inl (0, 0, .inl (fun _ => 0))), (21, .inl (5, 6, .inr (.inr (.inr (.inr (fun i => if i < 6 then some (21 + 1 + i) else none)))))), (20, .inl (0, 2, .inl (fun _ => 0))), (19, .inl (0, 5, .inl (fun _ => 0))), (18, .inr (8, [.null, .null, .null, .int 0, .int 0, .null, .null, .int 0, .null, .null, .int 0, .null, .null, .int 0])), (17, .inl (4, 2, .inr (.inr (.inr (.inr (fun _ => none)))))), (0, .inr (11, [.ref 1, .null, .null, .null, .null, .null, .null, .null, .null, .null, .null, .null, .null, .int 0, .int 0, .null, .int 0])), (1, .inr (8, [.ref 2, .ref 3, .ref 4, .int 0, .int (-1), .ref 11, .ref 12, .int 0, .ref 13, .ref 14, .int 0, .ref 15, .ref 16, .int 0])), (16, .inl (0, 12, .inl (fun _ => 0))), (15, .inl (0, 12, .inl (fun _ => 0))), (14, .inl (0, 6, .inl (fun _ => 0))), (13, .inl (0, 6, .inl (fun _ => 0))), (12, .inl (0, 8, .inl (fun _ => 0))), (11, .inl (0, 8, .inl (fun _ => 0))), (10, .inl (0, 0, .inl (fun _ => 0))), (9, .inl (0, 0, .inl (fun _ => 0))), (8, .inl (0, 0, .inl (fun _ => 0))), (7, .inl (0, 0, .inl (fun _ => 0))), (6, .inl (0, 0, .inl (fun _ => 0))), (5, .inl (0, 0, .inl (fun _ => 0))), (4, .inl (5, 6, .inr (.inr (.inr (.inr (fun i => if i < 6 then some (4 + 1 + i) else none)))))), (3, .inl (0, 2, .inl (fun _ => 0))), (2, .inl (0, 5, .inl (fun _ => 0))), (1, .inr (8, [.null, .null, .null, .int 0, .int 0, .null, .null, .int 0, .null, .null, .int 0, .null, .null, .int 0]))]) rfl ?_
  refine K_aastO (ci := 8) (i2 := 1) dX11_init_39 rfl rfl rfl rfl (jin (by decide +kernel)) (by decide +kernel) ?_
  refine K_putF (fs2 := [.ref 1, .ref 17, .null, .null, .null, .null, .null, .null, .null, .null, .null, .null, .null, .int 0, .int 0, .null, .int 0]) dX11_init_40 rfl fw_X11_16 rfl (Nat.le_of_ble_eq_true rfl) (fun _ => ⟨rfl, rfl⟩) rfl ?_
  refine J_aload_n dX11_init_43 rfl rfl ?_
  refine J_iconst (v := 2) dX11_init_44 (by decide) ?_
  refine K_newa (t := 2) (N := 2) (a0 := (2, .inl (fun _ => 0))) (nh2 := 51) (ck2 := 50) (sk2 := 241) dX11_init_45 rfl (jt1 119 rfl rfl) rfl (fun _ _ h9 => h9) (fun _ => rfl) (fun _ => rfl) (by decide +kernel) (by decide +kernel) (Nat.le_of_ble_eq_true rfl) (Nat.le_of_ble_eq_true rfl) (Nat.le_of_ble_eq_true rfl) rfl rfl rfl ?_
  refine K_putF (fs2 := [.ref 1, .ref 17, .ref 50, .null, .null, .null, .null, .null, .null, .null, .null, .null, .null, .int 0, .int 0, .null, .int 0]) dX11_init_47 rfl fw_X11_20 rfl (Nat.le_of_ble_eq_true rfl) (fun _ => ⟨rfl, rfl⟩) rfl ?_
  refine J_aload_n dX11_init_50 rfl rfl ?_
  refine K_new (nh2 := 52) (ck2 := 51) (sk2 := 245) dX11_init_51 nw_X11_24 (fun _ => rfl) (Nat.le_of_ble_eq_true rfl) (Nat.le_of_ble_eq_true rfl) rfl rfl rfl ?_
  refine J_dup dX11_init_54 rfl ?_
  refine J_callI (st := [.ref 51, .ref 0]) dX11_init_55 ci_X11_26 (c_X0_init_1 rfl) rfl rfl (Nat.le_of_ble_eq_true rfl) ⟨(Nat.le_of_ble_eq_true rfl), (Nat.le_of_ble_eq_true rfl)⟩ ⟨(Nat.le_of_ble_eq_true rfl), (Nat.le_of_ble_eq_true rfl)⟩ (fun r h9 hp => ?_)
  obtain ⟨rfl, rfl⟩ := hp
  refine J_nf (nh2 := 54) (ck2 := 53) (sk2 := 1512) (st2 := [.ref 51, .ref 0]) rfl rfl rfl rfl ?_
  refine J_app (L3 := [(51, .inr (0, [.ref 52, .ref 53, .int 0, .int 0])), (53, .inl (0, 7, .inl (fun _ => 0))), (52, .inl (0, 1260, .inl (fun _ => 0))), (51, .inr (0, [.null, .null, .int 0, .int 0])), (0, .inr (11, [.ref 1, .ref 17, .ref 50, .null, .null, .null, .null, .null, .null, .null, .null, .null, .null, .int 0, .int 0, .null, .int 0])), (50, .inl (2, 2, .inl (fun _ => 0))), (0, .inr (11, [.ref 1, .ref 17, .null, .null, .null, .null, .null, .null, .null, .null, .null, .null, .null, .int 0, .int 0, .null, .int 0])), (17, .inl (4, 2, .inr (.inr (.inr (.inr (va_up (va_up (fun _ => none) 0 (some 18)) 1 (some 34))))))), (34, .inr (8, [.ref 35, .ref 36, .ref 37, .int 0, .int (-1), .ref 44, .ref 45, .int 0, .ref 46, .ref 47, .int 0, .ref 48, .ref 49, .int 0])), (49, .inl (0, 12, .inl (fun _ => 0))), (48, .inl (0, 12, .inl (fun _ => 0))), (47, .inl (0, 6, .inl (fun _ => 0))), (46, .inl (0, 6, .inl (fun _ => 0))), (45, .inl (0, 8, .inl (fun _ => 0))), (44, .inl (0, 8, .inl (fun _ => 0))), (43, .inl (0, 0, .inl (fun _ => 0))), (42, .inl (0, 0, .inl (fun _ => 0))), (41, .inl (0, 0, .inl (fun _ => 0))), (40, .inl (0, 0, .inl (fun _ => 0))), (39, .inl (0, 0, .inl (fun _ => 0))), (38, .inl (0, 0, .inl (fun _ => 0))), (37, .inl (5, 6, .inr (.inr (.inr (.inr (fun i => if i < 6 then some (37 + 1 + i) else none)))))), (36, .inl (0, 2, .inl (fun _ => 0))), (35, .inl (0, 5, .inl (fun _ => 0))), (34, .inr (8, [.null, .null, .null, .int 0, .int 0, .null, .null, .int 0, .null, .null, .int 0, .null, .null, .int 0])), (17, .inl (4, 2, .inr (.inr (.inr (.inr (va_up (fun _ => none) 0 (some 18))))))), (18, .inr (8, [.ref 19, .ref 20, .ref 21, .int 0, .int (-1), .ref 28, .ref 29, .int 0, .ref 30, .ref 31, .int 0, .ref 32, .ref 33, .int 0])), (33, .inl (0, 12, .inl (fun _ => 0))), (32, .inl (0, 12, .inl (fun _ => 0))), (31, .inl (0, 6, .inl (fun _ => 0))), (30, .inl (0, 6, .inl (fun _ => 0))), (29, .inl (0, 8, .inl (fun _ => 0))), (28, .inl (0, 8, .inl (fun _ => 0))), (27, .inl (0, 0, .inl (fun _ => 0))), (26, .inl (0, 0, .inl (fun _ => 0))), (25, .inl (0, 0, .inl (fun _ => 0))), (24, .inl (0, 0, .inl (fun _ => 0))), (23, .inl (0, 0, .inl (fun _ => 0))), (22, .inl (0, 0, .inl (fun _ => 0))), (21, .inl (5, 6, .inr (.inr (.inr (.inr (fun i => if i < 6 then some (21 + 1 + i) else none)))))), (20, .inl (0, 2, .inl (fun _ => 0))), (19, .inl (0, 5, .inl (fun _ => 0))), (18, .inr (8, [.null, .null, .null, .int 0, .int 0, .null, .null, .int 0, .null, .null, .int 0, .null, .null, .int 0])), (17, .inl (4, 2, .inr (.inr (.inr (.inr (fun _ => none)))))), (0, .inr (11, [.ref 1, .null, .null, .null, .null, .null, .null, .null, .null, .null, .null, .null, .null, .int 0, .int 0, .null, .int 0])), (1, .inr (8, [.ref 2, .ref 3, .ref 4, .int 0, .int (-1), .ref 11, .ref 12, .int 0, .ref 13, .ref 14, .int 0, .ref 15, .ref 16, .int 0])), (16, .inl (0, 12, .inl (fun _ => 0))), (15, .inl (0, 12, .inl (fun _ => 0))), (14, .inl (0, 6, .inl (fun _ => 0))), (13, .inl (0, 6, .inl (fun _ => 0))), (12, .inl (0, 8, .inl (fun _ => 0))), (11, .inl (0, 8, .inl (fun _ => 0))), (10, .inl (0, 0, .inl (fun _ => 0))), (9, .inl (0, 0, .inl (fun _ => 0))), (8, .inl (0, 0, .inl (fun _ => 0))), (7, .inl (0, 0, .inl (fun _ => 0))), (6, .inl (0, 0, .inl (fun _ => 0))), (5, .inl (0, 0, .inl (fun _ => 0))), (4, .inl (5, 6, .inr (.inr (.inr (.inr (fun i => if i < 6 then some (4 + 1 + i) else none)))))), (3, .inl (0, 2, .inl (fun _ => 0))), (2, .inl (0, 5, .inl (fun _ => 0))), (1, .inr (8, [.null, .null, .null, .int 0, .int 0, .null, .null, .int 0, .null, .null, .int 0, .null, .null, .int 0]))]) rfl ?_
  refine K_putF (fs2 := [.ref 1, .ref 17, .ref 50, .ref 51, .null, .null, .null, .null, .null, .null, .null, .null, .null, .int 0, .int 0, .null, .int 0]) dX11_init_58 rfl fw_X11_27 rfl (Nat.le_of_ble_eq_true rfl) (fun _ => ⟨rfl, rfl⟩) rfl ?_
  refine J_aload_n dX11_init_61 rfl rfl ?_
  refine K_new (nh2 := 55) (ck2 := 54) (sk2 := 1522) dX11_init_62 nw_X11_31 (fun _ => rfl) (Nat.le_of_ble_eq_true rfl) (Nat.le_of_ble_eq_true rfl) rfl rfl rfl ?_
  refine J_dup dX11_init_65 rfl ?_
  refine J_callI (st := [.ref 54, .ref 0]) dX11_init_66 ci_X11_33 (c_X5_init_1 rfl) rfl rfl (Nat.le_of_ble_eq_true rfl) ⟨(Nat.le_of_ble_eq_true rfl), (Nat.le_of_ble_eq_true rfl)⟩ ⟨(Nat.le_of_ble_eq_true rfl), (Nat.le_of_ble_eq_true rfl)⟩ (fun r h9 hp => ?_)
  obtain ⟨rfl, rfl⟩ := hp
  refine J_nf (nh2 := 57) (ck2 := 56) (sk2 := 2334) (st2 := [.ref 54, .ref 0]) rfl rfl rfl rfl ?_
  refine J_app (L3 := [(54, .inr (5, [.ref 55, .int 0, .int 17, .int 0, .int 0, .int 0, .int 0, .int (-1), .ref 56, .int 0])), (56, .inl (0, 412, .inl (fun _ => 0))), (55, .inl (0, 400, .inl (fun _ => 0))), (54, .inr (5, [.null, .int 0, .int 0, .int 0, .int 0, .int 0, .int 0, .int 0, .null, .int 0])), (0, .inr (11, [.ref 1, .ref 17, .ref 50, .ref 51, .null, .null, .null, .null, .null, .null, .null, .null, .null, .int 0, .int 0, .null, .int 0])), (51, .inr (0, [.ref 52, .ref 53, .int 0, .int 0])), (53, .inl (0, 7, .inl (fun _ => 0))), (52, .inl (0, 1260, .inl (fun _ => 0))), (51, .inr (0, [.null, .null, .int 0, .int 0])), (0, .inr (11, [.ref 1, .ref 17, .ref 50, .null, .null, .null, .null, .null, .null, .null, .null, .null, .null, .int 0, .int 0, .null, .int 0])), (50, .inl (2, 2, .inl (fun _ => 0))), (0, .inr (11, [.ref 1, .ref 17, .null, .null, .null, .null, .null, .null, .null, .null, .null, .null, .null, .int 0, .int 0, .null, .int 0])), (17, .inl (4, 2, .inr (.inr (.inr (.inr (va_up (va_up (fun _ => none) 0 (some 18)) 1 (some 34))))))), (34, .inr (8, [.ref 35, .ref 36, .ref 37, .int 0, .int (-1), .ref 44, .ref 45, .int 0, .ref 46, .ref 47, .int 0, .ref 48, .ref 49, .int 0])), (49, .inl (0, 12, .inl (fun _ => 0))), (48, .inl (0, 12, .inl (fun _ => 0))), (47, .inl (0, 6, .inl (fun _ => 0))), (46, .inl (0, 6, .inl (fun _ => 0))), (45, .inl (0, 8, .inl (fun _ => 0))), (44, .inl (0, 8, .inl (fun _ => 0))), (43, .inl (0, 0, .inl (fun _ => 0))), (42, .inl (0, 0, .inl (fun _ => 0))), (41, .inl (0, 0, .inl (fun _ => 0))), (40, .inl (0, 0, .inl (fun _ => 0))), (39, .inl (0, 0, .inl (fun _ => 0))), (38, .inl (0, 0, .inl (fun _ => 0))), (37, .inl (5, 6, .inr (.inr (.inr (.inr (fun i => if i < 6 then some (37 + 1 + i) else none)))))), (36, .inl (0, 2, .inl (fun _ => 0))), (35, .inl (0, 5, .inl (fun _ => 0))), (34, .inr (8, [.null, .null, .null, .int 0, .int 0, .null, .null, .int 0, .null, .null, .int 0, .null, .null, .int 0])), (17, .inl (4, 2, .inr (.inr (.inr (.inr (va_up (fun _ => none) 0 (some 18))))))), (18, .inr (8, [.ref 19, .ref 20, .ref 21, .int 0, .int (-1), .ref 28, .ref 29, .int 0, .ref 30, .ref 31, .int 0, .ref 32, .ref 33, .int 0])), (33, .inl (0, 12, .inl (fun _ => 0))), (32, .inl (0, 12, .inl (fun _ => 0))), (31, .inl (0, 6, .inl (fun _ => 0))), (30, .inl (0, 6, .inl (fun _ => 0))), (29, .inl (0, 8, .inl (fun _ => 0))), (28, .inl (0, 8, .inl (fun _ => 0))), (27, .inl (0, 0, .inl (fun _ => 0))), (26, .inl (0, 0, .inl (fun _ => 0))), (25, .inl (0, 0, .inl (fun _ => 0))), (24, .inl (0, 0, .inl (fun _ => 0))), (23, .inl (0, 0, .inl (fun _ => 0))), (22, .inl (0, 0, .inl (fun _ => 0))), (21, .inl (5, 6, .inr (.inr (.inr (.inr (fun i => if i < 6 then some (21 + 1 + i) else none)))))), (20, .inl (0, 2, .inl (fun _ => 0))), (19, .inl (0, 5, .inl (fun _ => 0))), (18, .inr (8, [.null, .null, .null, .int 0, .int 0, .null, .null, .int 0, .null, .null, .int 0, .null, .null, .int 0])), (17, .inl (4, 2, .inr (.inr (.inr (.inr (fun _ => none)))))), (0, .inr (11, [.ref 1, .null, .null, .null, .null, .null, .null, .null, .null, .null, .null, .null, .null, .int 0, .int 0, .null, .int 0])), (1, .inr (8, [.ref 2, .ref 3, .ref 4, .int 0, .int (-1), .ref 11, .ref 12, .int 0, .ref 13, .ref 14, .int 0, .ref 15, .ref 16, .int 0])), (16, .inl (0, 12, .inl (fun _ => 0))), (15, .inl (0, 12, .inl (fun _ => 0))), (14, .inl (0, 6, .inl (fun _ => 0))), (13, .inl (0, 6, .inl (fun _ => 0))), (12, .inl (0, 8, .inl (fun _ => 0))), (11, .inl (0, 8, .inl (fun _ => 0))), (10, .inl (0, 0, .inl (fun _ => 0))), (9, .inl (0, 0, .inl (fun _ => 0))), (8, .inl (0, 0, .inl (fun _ => 0))), (7, .inl (0, 0, .inl (fun _ => 0))), (6, .inl (0, 0, .inl (fun _ => 0))), (5, .inl (0, 0, .inl (fun _ => 0))), (4, .inl (5, 6, .inr (.inr (.inr (.inr (fun i => if i < 6 then some (4 + 1 + i) else none)))))), (3, .inl (0, 2, .inl (fun _ => 0))), (2, .inl (0, 5, .inl (fun _ => 0))), (1, .inr (8, [.null, .null, .null, .int 0, .int 0, .null, .null, .int 0, .null, .null, .int 0, .null, .null, .int 0]))]) rfl ?_
  refine K_putF (fs2 := [.ref 1, .ref 17, .ref 50, .ref 51, .ref 54, .null, .null, .null, .null, .null, .null, .null, .null, .int 0, .int 0, .null, .int 0]) dX11_init_69 rfl fw_X11_34 rfl (Nat.le_of_ble_eq_true rfl) (fun _ => ⟨rfl, rfl⟩) rfl ?_
  refine J_aload_n dX11_init_72 rfl rfl ?_
  refine K_new (nh2 := 58) (ck2 := 57) (sk2 := 2344) dX11_init_73 nw_X11_38 (fun _ => rfl) (Nat.le_of_ble_eq_true rfl) (Nat.le_of_ble_eq_true rfl) rfl rfl rfl ?_
  refine J_dup dX11_init_76 rfl ?_
  refine J_aload_n dX11_init_77 rfl rfl ?_
  refine J_get (v := .ref 1) dX11_init_78 fl_X11_10 rfl rfl ?_
  refine J_aload_n dX11_init_81 rfl rfl ?_
  refine J_get (v := .ref 51) dX11_init_82 fl_X11_27 rfl rfl ?_
  refine J_callI (st := [.ref 57, .ref 0]) dX11_init_85 ci_X11_40 (c_X9_init_1 rfl) rfl rfl (Nat.le_of_ble_eq_true rfl) ⟨(Nat.le_of_ble_eq_true rfl), (Nat.le_of_ble_eq_true rfl)⟩ ⟨(Nat.le_of_ble_eq_true rfl), (Nat.le_of_ble_eq_true rfl)⟩ (fun r h9 hp => ?_)
  obtain ⟨rfl, rfl⟩ := hp
  refine J_nf (nh2 := 65) (ck2 := 64) (sk2 := 6309) (st2 := [.ref 57, .ref 0]) rfl rfl rfl rfl ?_
  refine J_app (L3 := [(57, .inr (9, [.ref 1, .ref 51, .ref 58, .ref 61, .ref 62, .ref 63, .ref 64, .int 0, .int 1, .int 1])), (64, .inl (0, 2625, .inl (fun _ => 0))), (63, .inl (0, 0, .inl (fun _ => 0))), (62, .inl (0, 1260, .inl (fun _ => 0))), (61, .inl (0, 0, .inl (fun _ => 0))), (58, .inr (1, [.ref 59, .ref 60, .int 0, .int 0, .int 0, .int 0, .int 0, .int 1])), (60, .inl (1, 64, .inr (.inl (fun _ => 0)))), (59, .inl (0, 8, .inl (fun _ => 0))), (57, .inr (9, [.null, .null, .null, .null, .null, .null, .null, .int 0, .int 0, .int 0])), (0, .inr (11, [.ref 1, .ref 17, .ref 50, .ref 51, .ref 54, .null, .null, .null, .null, .null, .null, .null, .null, .int 0, .int 0, .null, .int 0])), (54, .inr (5, [.ref 55, .int 0, .int 17, .int 0, .int 0, .int 0, .int 0, .int (-1), .ref 56, .int 0])), (56, .inl (0, 412, .inl (fun _ => 0))), (55, .inl (0, 400, .inl (fun _ => 0))), (54, .inr (5, [.null, .int 0, .int 0, .int 0, .int 0, .int 0, .int 0, .int 0, .null, .int 0])), (0, .inr (11, [.ref 1, .ref 17, .ref 50, .ref 51, .null, .null, .null, .null, .null, .null, .null, .null, .null, .int 0, .int 0, .null, .int 0])), (51, .inr (0, [.ref 52, .ref 53, .int 0, .int 0])), (53, .inl (0, 7, .inl (fun _ => 0))), (52, .inl (0, 1260, .inl (fun _ => 0))), (51, .inr (0, [.null, .null, .int 0, .int 0])), (0, .inr (11, [.ref 1, .ref 17, .ref 50, .null, .null, .null, .null, .null, .null, .null, .null, .null, .null, .int 0, .int 0, .null, .int 0])), (50, .inl (2, 2, .inl (fun _ => 0))), (0, .inr (11, [.ref 1, .ref 17, .null, .null, .null, .null, .null, .null, .null, .null, .null, .null, .null, .int 0, .int 0, .null, .int 0])), (17, .inl (4, 2, .inr (.inr (.inr (.inr (va_up (va_up (fun _ => none) 0 (some 18)) 1 (some 34))))))), (34, .inr (8, [.ref 35, .ref 36, .ref 37, .int 0, .int (-1), .ref 44, .ref 45, .int 0, .ref 46, .ref 47, .int 0, .ref 48, .ref 49, .int 0])), (49, .inl (0, 12, .inl (fun _ => 0))), (48, .inl (0, 12, .inl (fun _ => 0))), (47, .inl (0, 6, .inl (fun _ => 0))), (46, .inl (0, 6, .inl (fun _ => 0))), (45, .inl (0, 8, .inl (fun _ => 0))), (44, .inl (0, 8, .inl (fun _ => 0))), (43, .inl (0, 0, .inl (fun _ => 0))), (42, .inl (0, 0, .inl (fun _ => 0))), (41, .inl (0, 0, .inl (fun _ => 0))), (40, .inl (0, 0, .inl (fun _ => 0))), (39, .inl (0, 0, .inl (fun _ => 0))), (38, .inl (0, 0, .inl (fun _ => 0))), (37, .inl (5, 6, .inr (.inr (.inr (.inr (fun i => if i < 6 then some (37 + 1 + i) else none)))))), (36, .inl (0, 2, .inl (fun _ => 0))), (35, .inl (0, 5, .inl (fun _ => 0))), (34, .inr (8, [.null, .null, .null, .int 0, .int 0, .null, .null, .int 0, .null, .null, .int 0, .null, .null, .int 0])), (17, .inl (4, 2, .inr (.inr (.inr (.inr (va_up (fun _ => none) 0 (some 18))))))), (18, .inr (8, [.ref 19, .ref 20, .ref 21, .int 0, .int (-1), .ref 28, .ref 29, .int 0, .ref 30, .ref 31, .int 0, .ref 32, .ref 33, .int 0])), (33, .inl (0, 12, .inl (fun _ => 0))), (32, .inl (0, 12, .inl (fun _ => 0))), (31, .inl (0, 6, .inl (fun _ => 0))), (30, .inl (0, 6, .inl (fun _ => 0))), (29, .inl (0, 8, .inl (fun _ => 0))), (28, .inl (0, 8, .inl (fun _ => 0))), (27, .inl (0, 0, .inl (fun _ => 0))), (26, .inl (0, 0, .inl (fun _ => 0))), (25, .inl (0, 0, .inl (fun _ => 0))), (24, .inl (0, 0, .inl (fun _ => 0))), (23, .inl (0, 0, .inl (fun _ => 0))), (22, .inl (0, 0, .inl (fun _ => 0))), (21, .inl (5, 6, .inr (.inr (.inr (.inr (fun i => if i < 6 then some (21 + 1 + i) else none)))))), (20, .inl (0, 2, .inl (fun _ => 0))), (19, .inl (0, 5, .inl (fun _ => 0))), (18, .inr (8, [.null, .null, .null, .int 0, .int 0, .null, .null, .int 0, .null, .null, .int 0, .null, .null, .int 0])), (17, .inl (4, 2, .inr (.inr (.inr (.inr (fun _ => none)))))), (0, .inr (11, [.ref 1, .null, .null, .null, .null, .null, .null, .null, .null, .null, .null, .null, .null, .int 0, .int 0, .null, .int 0])), (1, .inr (8, [.ref 2, .ref 3, .ref 4, .int 0, .int (-1), .ref 11, .ref 12, .int 0, .ref 13, .ref 14, .int 0, .ref 15, .ref 16, .int 0])), (16, .inl (0, 12, .inl (fun _ => 0))), (15, .inl (0, 12, .inl (fun _ => 0))), (14, .inl (0, 6, .inl (fun _ => 0))), (13, .inl (0, 6, .inl (fun _ => 0))), (12, .inl (0, 8, .inl (fun _ => 0))), (11, .inl (0, 8, .inl (fun _ => 0))), (10, .inl (0, 0, .inl (fun _ => 0))), (9, .inl (0, 0, .inl (fun _ => 0))), (8, .inl (0, 0, .inl (fun _ => 0))), (7, .inl (0, 0, .inl (fun _ => 0))), (6, .inl (0, 0, .inl (fun _ => 0))), (5, .inl (0, 0, .inl (fun _ => 0))), (4, .inl (5, 6, .inr (.inr (.inr (.inr (fun i => if i < 6 then some (4 + 1 + i) else none)))))), (3, .inl (0, 2, .inl (fun _ => 0))), (2, .inl (0, 5, .inl (fun _ => 0))), (1, .inr (8, [.null, .null, .null, .int 0, .int 0, .null, .null, .int 0, .null, .null, .int 0, .null, .null, .int 0]))]) rfl ?_
  refine K_putF (fs2 := [.ref 1, .ref 17, .ref 50, .ref 51, .ref 54, .ref 57, .null, .null, .null, .null, .null, .null, .null, .int 0, .int 0, .null, .int 0]) dX11_init_88 rfl fw_X11_43 rfl (Nat.le_of_ble_eq_true rfl) (fun _ => ⟨rfl, rfl⟩) rfl ?_
  refine J_aload_n dX11_init_91 rfl rfl ?_
  refine K_new (nh2 := 66) (ck2 := 65) (sk2 := 6326) dX11_init_92 nw_X11_47 (fun _ => rfl) (Nat.le_of_ble_eq_true rfl) (Nat.le_of_ble_eq_true rfl) rfl rfl rfl ?_
  refine J_dup dX11_init_95 rfl ?_
  refine J_aload_n dX11_init_96 rfl rfl ?_
  refine J_get (v := .ref 51) dX11_init_97 fl_X11_27 rfl rfl ?_
  refine J_aload_n dX11_init_100 rfl rfl ?_
  refine J_get (v := .ref 57) dX11_init_101 fl_X11_43 rfl rfl ?_
  refine J_callI (st := [.ref 65, .ref 0]) dX11_init_104 ci_X11_49 (c_X10_init_1 rfl) rfl rfl (Nat.le_of_ble_eq_true rfl) ⟨(Nat.le_of_ble_eq_true rfl), (Nat.le_of_ble_eq_true rfl)⟩ ⟨(Nat.le_of_ble_eq_true rfl), (Nat.le_of_ble_eq_true rfl)⟩ (fun r h9 hp => ?_)
  obtain ⟨rfl, rfl⟩ := hp
  refine J_nf (nh2 := 75) (ck2 := 74) (sk2 := 16506) (st2 := [.ref 65, .ref 0]) rfl rfl rfl rfl ?_
  refine J_app (L3 := [(65, .inr (10, [.ref 51, .ref 57, .ref 66, .ref 67, .ref 68, .int 0, .int (-1), .int (-1), .ref 69, .ref 70, .ref 71, .ref 72, .int 0, .int (-1), .int (-1), .ref 73, .ref 74])), (74, .inl (1, 1260, .inr (.inl (fun _ => 0)))), (73, .inl (1, 1260, .inr (.inl (fun _ => 0)))), (72, .inl (0, 1260, .inl (fun _ => 0))), (71, .inl (0, 1260, .inl (fun _ => 0))), (70, .inl (0, 100, .inl (fun _ => 0))), (69, .inl (0, 1260, .inl (fun _ => 0))), (68, .inl (0, 1260, .inl (fun _ => 0))), (67, .inl (0, 1260, .inl (fun _ => 0))), (66, .inl (0, 1260, .inl (fun _ => 0))), (65, .inr (10, [.null, .null, .null, .null, .null, .int 0, .int 0, .int 0, .null, .null, .null, .null, .int 0, .int 0, .int 0, .null, .null])), (0, .inr (11, [.ref 1, .ref 17, .ref 50, .ref 51, .ref 54, .ref 57, .null, .null, .null, .null, .null, .null, .null, .int 0, .int 0, .null, .int 0])), (57, .inr (9, [.ref 1, .ref 51, .ref 58, .ref 61, .ref 62, .ref 63, .ref 64, .int 0, .int 1, .int 1])), (64, .inl (0, 2625, .inl (fun _ => 0))), (63, .inl (0, 0, .inl (fun _ => 0))), (62, .inl (0, 1260, .inl (fun _ => 0))), (61, .inl (0, 0, .inl (fun _ => 0))), (58, .inr (1, [.ref 59, .ref 60, .int 0, .int 0, .int 0, .int 0, .int 0, .int 1])), (60, .inl (1, 64, .inr (.inl (fun _ => 0)))), (59, .inl (0, 8, .inl (fun _ => 0))), (57, .inr (9, [.null, .null, .null, .null, .null, .null, .null, .int 0, .int 0, .int 0])), (0, .inr (11, [.ref 1, .ref 17, .ref 50, .ref 51, .ref 54, .null, .null, .null, .null, .null, .null, .null, .null, .int 0, .int 0, .null, .int 0])), (54, .inr (5, [.ref 55, .int 0, .int 17, .int 0, .int 0, .int 0, .int 0, .int (-1), .ref 56, .int 0])), (56, .inl (0, 412, .inl (fun _ => 0))), (55, .inl (0, 400, .inl (fun _ => 0))), (54, .inr (5, [.null, .int 0, .int 0, .int 0, .int 0, .int 0, .int 0, .int 0, .null, .int 0])), (0, .inr (11, [.ref 1, .ref 17, .ref 50, .ref 51, .null, .null, .null, .null, .null, .null, .null, .null, .null, .int 0, .int 0, .null, .int 0])), (51, .inr (0, [.ref 52, .ref 53, .int 0, .int 0])), (53, .inl (0, 7, .inl (fun _ => 0))), (52, .inl (0, 1260, .inl (fun _ => 0))), (51, .inr (0, [.null, .null, .int 0, .int 0])), (0, .inr (11, [.ref 1, .ref 17, .ref 50, .null, .null, .null, .null, .null, .null, .null, .null, .null, .null, .int 0, .int 0, .null, .int 0])), (50, .inl (2, 2, .inl (fun _ => 0))), (0, .inr (11, [.ref 1, .ref 17, .null, .null, .null, .null, .null, .null, .null, .null, .null, .null, .null, .int 0, .int 0, .null, .int 0])), (17, .inl (4, 2, .inr (.inr (.inr (.inr (va_up (va_up (fun _ => none) 0 (some 18)) 1 (some 34))))))), (34, .inr (8, [.ref 35, .ref 36, .ref 37, .int 0, .int (-1), .ref 44, .ref 45, .int 0, .ref 46, .ref 47, .int 0, .ref 48, .ref 49, .int 0])), (49, .inl (0, 12, .inl (fun _ => 0))), (48, .inl (0, 12, .inl (fun _ => 0))), (47, .inl (0, 6, .inl (fun _ => 0))), (46, .inl (0, 6, .inl (fun _ => 0))), (45, .inl (0, 8, .inl (fun _ => 0))), (44, .inl (0, 8, .inl (fun _ => 0))), (43, .inl (0, 0, .inl (fun _ => 0))), (42, .inl (0, 0, .inl (fun _ => 0))), (41, .inl (0, 0, .inl (fun _ => 0))), (40, .inl (0, 0, .inl (fun _ => 0))), (39, .inl (0, 0, .inl (fun _ => 0))), (38, .inl (0, 0, .inl (fun _ => 0))), (37, .inl (5, 6, .inr (.inr (.inr (.inr (fun i => if i < 6 then some (37 + 1 + i) else none)))))), (36, .inl (0, 2, .inl (fun _ => 0))), (35, .inl (0, 5, .inl (fun _ => 0))), (34, .inr (8, [.null, .null, .null, .int 0, .int 0, .null, .null, .int 0, .null, .null, .int 0, .null, .null, .int 0])), (17, .inl (4, 2, .inr (.inr (.inr (.inr (va_up (fun _ => none) 0 (some 18))))))), (18, .inr (8, [.ref 19, .ref 20, .ref 21, .int 0, .int (-1), .ref 28, .ref 29, .int 0, .ref 30, .ref 31, .int 0, .ref 32, .ref 33, .int 0])), (33, .inl (0, 12, .inl (fun _ => 0))), (32, .inl (0, 12, .inl (fun _ => 0))), (31, .inl (0, 6, .inl (fun _ => 0))), (30, .inl (0, 6, .inl (fun _ => 0))), (29, .inl (0, 8, .inl (fun _ => 0))), (28, .inl (0, 8, .inl (fun _ => 0))), (27, .inl (0, 0, .inl (fun _ => 0))), (26, .inl (0, 0, .inl (fun _ => 0))), (25, .inl (0, 0, .inl (fun _ => 0))), (24, .inl (0, 0, .inl (fun _ => 0))), (23, .inl (0, 0, .inl (fun _ => 0))), (22, .inl (0, 0, .inl (fun _ => 0))), (21, .inl (5, 6, .inr (.inr (.inr (.inr (fun i => if i < 6 then some (21 + 1 + i) else none)))))), (20, .inl (0, 2, .inl (fun _ => 0))), (19, .inl (0, 5, .inl (fun _ => 0))), (18, .inr (8, [.null, .null, .null, .int 0, .int 0, .null, .null, .int 0, .null, .null, .int 0, .null, .null, .int 0])), (17, .inl (4, 2, .inr (.inr (.inr (.inr (fun _ => none)))))), (0, .inr (11, [.ref 1, .null, .null, .null, .null, .null, .null, .null, .null, .null, .null, .null, .null, .int 0, .int 0, .null, .int 0])), (1, .inr (8, [.ref 2, .ref 3, .ref 4, .int 0, .int (-1), .ref 11, .ref 12, .int 0, .ref 13, .ref 14, .int 0, .ref 15, .ref 16, .int 0])), (16, .inl (0, 12, .inl (fun _ => 0))), (15, .inl (0, 12, .inl (fun _ => 0))), (14, .inl (0, 6, .inl (fun _ => 0))), (13, .inl (0, 6, .inl (fun _ => 0))), (12, .inl (0, 8, .inl (fun _ => 0))), (11, .inl (0, 8, .inl (fun _ => 0))), (10, .inl (0, 0, .inl (fun _ => 0))), (9, .inl (0, 0, .inl (fun _ => 0))), (8, .inl (0, 0, .inl (fun _ => 0))), (7, .inl (0, 0, .inl (fun _ => 0))), (6, .inl (0, 0, .inl (fun _ => 0))), (5, .inl (0, 0, .inl (fun _ => 0))), (4, .inl (5, 6, .inr (.inr (.inr (.inr (fun i => if i < 6 then some (4 + 1 + i) else none)))))), (3, .inl (0, 2, .inl (fun _ => 0))), (2, .inl (0, 5, .inl (fun _ => 0))), (1, .inr (8, [.null, .null, .null, .int 0, .int 0, .null, .null, .int 0, .null, .null, .int 0, .null, .null, .int 0]))]) rfl ?_
  refine K_putF (fs2 := [.ref 1, .ref 17, .ref 50, .ref 51, .ref 54, .ref 57, .ref 65, .null, .null, .null, .null, .null, .null, .int 0, .int 0, .null, .int 0]) dX11_init_107 rfl fw_X11_52 rfl (Nat.le_of_ble_eq_true rfl) (fun _ => ⟨rfl, rfl⟩) rfl ?_
  refine J_aload_n dX11_init_110 rfl rfl ?_
  refine K_new (nh2 := 76) (ck2 := 75) (sk2 := 16514) dX11_init_111 nw_X11_56 (fun _ => rfl) (Nat.le_of_ble_eq_true rfl) (Nat.le_of_ble_eq_true rfl) rfl rfl rfl ?_
  refine J_dup dX11_init_114 rfl ?_
  refine J_aload_n dX11_init_115 rfl rfl ?_
  refine J_get (v := .ref 51) dX11_init_116 fl_X11_27 rfl rfl ?_
  refine J_aload_n dX11_init_119 rfl rfl ?_
  refine J_get (v := .ref 57) dX11_init_120 fl_X11_43 rfl rfl ?_
  refine J_callI (st := [.ref 75, .ref 0]) dX11_init_123 ci_X11_58 (c_X3_init_1 rfl) rfl rfl (Nat.le_of_ble_eq_true rfl) ⟨(Nat.le_of_ble_eq_true rfl), (Nat.le_of_ble_eq_true rfl)⟩ ⟨(Nat.le_of_ble_eq_true rfl), (Nat.le_of_ble_eq_true rfl)⟩ (fun r h9 hp => ?_)
  obtain ⟨rfl, rfl⟩ := hp
  refine J_nf (nh2 := 81) (ck2 := 80) (sk2 := 20295) (st2 := [.ref 75, .ref 0]) rfl rfl rfl rfl ?_
  refine J_app (L3 := [(75, .inr (3, [.ref 51, .ref 57, .ref 76, .ref 77, .ref 78, .ref 79, .ref 80, .int 0])), (80, .inl (0, 1260, .inl (fun _ => 0))), (79, .inl (0, 1260, .inl (fun _ => 0))), (78, .inl (0, 1261, .inl (fun _ => 0))), (77, .inl (0, 0, .inl (fun _ => 0))), (76, .inl (0, 0, .inl (fun _ => 0))), (75, .inr (3, [.null, .null, .null, .null, .null, .null, .null, .int 0])), (0, .inr (11, [.ref 1, .ref 17, .ref 50, .ref 51, .ref 54, .ref 57, .ref 65, .null, .null, .null, .null, .null, .null, .int 0, .int 0, .null, .int 0])), (65, .inr (10, [.ref 51, .ref 57, .ref 66, .ref 67, .ref 68, .int 0, .int (-1), .int (-1), .ref 69, .ref 70, .ref 71, .ref 72, .int 0, .int (-1), .int (-1), .ref 73, .ref 74])), (74, .inl (1, 1260, .inr (.inl (fun _ => 0)))), (73, .inl (1, 1260, .inr (.inl (fun _ => 0)))), (72, .inl (0, 1260, .inl (fun _ => 0))), (71, .inl (0, 1260, .inl (fun _ => 0))), (70, .inl (0, 100, .inl (fun _ => 0))), (69, .inl (0, 1260, .inl (fun _ => 0))), (68, .inl (0, 1260, .inl (fun _ => 0))), (67, .inl (0, 1260, .inl (fun _ => 0))), (66, .inl (0, 1260, .inl (fun _ => 0))), (65, .inr (10, [.null, .null, .null, .null, .null, .int 0, .int 0, .int 0, .null, .null, .null, .null, .int 0, .int 0, .int 0, .null, .null])), (0, .inr (11, [.ref 1, .ref 17, .ref 50, .ref 51, .ref 54, .ref 57, .null, .null, .null, .null, .null, .null, .null, .int 0, .int 0, .null, .int 0])), (57, .inr (9, [.ref 1, .ref 51, .ref 58, .ref 61, .ref 62, .ref 63, .ref 64, .int 0, .int 1, .int 1])), (64, .inl (0, 2625, .inl (fun _ => 0))), (63, .inl (0, 0, .inl (fun _ => 0))), (62, .inl (0, 1260, .inl (fun _ => 0))), (61, .inl (0, 0, .inl (fun _ => 0))), (58, .inr (1, [.ref 59, .ref 60, .int 0, .int 0, .int 0, .int 0, .int 0, .int 1])), (60, .inl (1, 64, .inr (.inl (fun _ => 0)))), (59, .inl (0, 8, .inl (fun _ => 0))), (57, .inr (9, [.null, .null, .null, .null, .null, .null, .null, .int 0, .int 0, .int 0])), (0, .inr (11, [.ref 1, .ref 17, .ref 50, .ref 51, .ref 54, .null, .null, .null, .null, .null, .null, .null, .null, .int 0, .int 0, .null, .int 0])), (54, .inr (5, [.ref 55, .int 0, .int 17, .int 0, .int 0, .int 0, .int 0, .int (-1), .ref 56, .int 0])), (56, .inl (0, 412, .inl (fun _ => 0))), (55, .inl (0, 400, .inl (fun _ => 0))), (54, .inr (5, [.null, .int 0, .int 0, .int 0, .int 0, .int 0, .int 0, .int 0, .null, .int 0])), (0, .inr (11, [.ref 1, .ref 17, .ref 50, .ref 51, .null, .null, .null, .null, .null, .null, .null, .null, .null, .int 0, .int 0, .null, .int 0])), (51, .inr (0, [.ref 52, .ref 53, .int 0, .int 0])), (53, .inl (0, 7, .inl (fun _ => 0))), (52, .inl (0, 1260, .inl (fun _ => 0))), (51, .inr (0, [.null, .null, .int 0, .int 0])), (0, .inr (11, [.ref 1, .ref 17, .ref 50, .null, .null, .null, .null, .null, .null, .null, .null, .null, .null, .int 0, .int 0, .null, .int 0])), (50, .inl (2, 2, .inl (fun _ => 0))), (0, .inr (11, [.ref 1, .ref 17, .null, .null, .null, .null, .null, .null, .null, .null, .null, .null, .null, .int 0, .int 0, .null, .int 0])), (17, .inl (4, 2, .inr (.inr (.inr (.inr (va_up (va_up (fun _ => none) 0 (some 18)) 1 (some 34))))))), (34, .inr (8, [.ref 35, .ref 36, .ref 37, .int 0, .int (-1), .ref 44, .ref 45, .int 0, .ref 46, .ref 47, .int 0, .ref 48, .ref 49, .int 0])), (49, .inl (0, 12, .inl (fun _ => 0))), (48, .inl (0, 12, .inl (fun _ => 0))), (47, .inl (0, 6, .inl (fun _ => 0))), (46, .inl (0, 6, .inl (fun _ => 0))), (45, .inl (0, 8, .inl (fun _ => 0))), (44, .inl (0, 8, .inl (fun _ => 0))), (43, .inl (0, 0, .inl (fun _ => 0))), (42, .inl (0, 0, .inl (fun _ => 0))), (41, .inl (0, 0, .inl (fun _ => 0))), (40, .inl (0, 0, .inl (fun _ => 0))), (39, .inl (0, 0, .inl (fun _ => 0))), (38, .inl (0, 0, .inl (fun _ => 0))), (37, .inl (5, 6, .inr (.inr (.inr (.inr (fun i => if i < 6 then some (37 + 1 + i) else none)))))), (36, .inl (0, 2, .inl (fun _ => 0))), (35, .inl (0, 5, .inl (fun _ => 0))), (34, .inr (8, [.null, .null, .null, .int 0, .int 0, .null, .null, .int 0, .null, .null, .int 0, .null, .null, .int 0])), (17, .inl (4, 2, .inr (.inr (.inr (.inr (va_up (fun _ => none) 0 (some 18))))))), (18, .inr (8, [.ref 19, .ref 20, .ref 21, .int 0, .int (-1), .ref 28, .ref 29, .int 0, .ref 30, .ref 31, .int 0, .ref 32, .ref 33, .int 0])), (33, .inl (0, 12, .inl (fun _ => 0))), (32, .inl (0, 12, .inl (fun _ => 0))), (31, .inl (0, 6, .inl (fun _ => 0))), (30, .inl (0, 6, .inl (fun _ => 0))), (29, .inl (0, 8, .inl (fun _ => 0))), (28, .inl (0, 8, .inl (fun _ => 0))), (27, .inl (0, 0, .inl (fun _ => 0))), (26, .inl (0, 0, .inl (fun _ => 0))), (25, .inl (0, 0, .inl (fun _ => 0))), (24, .inl (0, 0, .inl (fun _ => 0))), (23, .inl (0, 0, .inl (fun _ => 0))), (22, .inl (0, 0, .inl (fun _ => 0))), (21, .inl (5, 6, .inr (.inr (.inr (.inr (fun i => if i < 6 then some (21 + 1 + i) else none)))))), (20, .inl (0, 2, .inl (fun _ => 0))), (19, .inl (0, 5, .inl (fun _ => 0))), (18, .inr (8, [.null, .null, .null, .int 0, .int 0, .null, .null, .int 0, .null, .null, .int 0, .null, .null, .int 0])), (17, .inl (4, 2, .inr (.inr (.inr (.inr (fun _ => none)))))), (0, .inr (11, [.ref 1, .null, .null, .null, .null, .null, .null, .null, .null, .null, .null, .null, .null, .int 0, .int 0, .null, .int 0])), (1, .inr (8, [.ref 2, .ref 3, .ref 4, .int 0, .int (-1), .ref 11, .ref 12, .int 0, .ref 13, .ref 14, .int 0, .ref 15, .ref 16, .int 0])), (16, .inl (0, 12, .inl (fun _ => 0))), (15, .inl (0, 12, .inl (fun _ => 0))), (14, .inl (0, 6, .inl (fun _ => 0))), (13, .inl (0, 6, .inl (fun _ => 0))), (12, .inl (0, 8, .inl (fun _ => 0))), (11, .inl (0, 8, .inl (fun _ => 0))), (10, .inl (0, 0, .inl (fun _ => 0))), (9, .inl (0, 0, .inl (fun _ => 0))), (8, .inl (0, 0, .inl (fun _ => 0))), (7, .inl (0, 0, .inl (fun _ => 0))), (6, .inl (0, 0, .inl (fun _ => 0))), (5, .inl (0, 0, .inl (fun _ => 0))), (4, .inl (5, 6, .inr (.inr (.inr (.inr (fun i => if i < 6 then some (4 + 1 + i) else none)))))), (3, .inl (0, 2, .inl (fun _ => 0))), (2, .inl (0, 5, .inl (fun _ => 0))), (1, .inr (8, [.null, .null, .null, .int 0, .int 0, .null, .null, .int 0, .null, .null, .int 0, .null, .null, .int 0]))]) rfl ?_
  refine K_putF (fs2 := [.ref 1, .ref 17, .ref 50, .ref 51, .ref 54, .ref 57, .ref 65, .ref 75, .null, .null, .null, .null, .null, .int 0, .int 0, .null, .int 0]) dX11_init_126 rfl fw_X11_59 rfl (Nat.le_of_ble_eq_true rfl) (fun _ => ⟨rfl, rfl⟩) rfl ?_
  refine J_aload_n dX11_init_129 rfl rfl ?_
  refine K_new (nh2 := 82) (ck2 := 81) (sk2 := 20302) dX11_init_130 nw_X11_63 (fun _ => rfl) (Nat.le_of_ble_eq_true rfl) (Nat.le_of_ble_eq_true rfl) rfl rfl rfl ?_
  refine J_dup dX11_init_133 rfl ?_
  refine J_aload_n dX11_init_134 rfl rfl ?_
  refine J_get (v := .ref 51) dX11_init_135 fl_X11_27 rfl rfl ?_
  refine J_aload_n dX11_init_138 rfl rfl ?_
  refine J_get (v := .ref 57) dX11_init_139 fl_X11_43 rfl rfl ?_
  refine J_callI (st := [.ref 81, .ref 0]) dX11_init_142 ci_X11_65 (c_X7_init_1 rfl) rfl rfl (Nat.le_of_ble_eq_true rfl) ⟨(Nat.le_of_ble_eq_true rfl), (Nat.le_of_ble_eq_true rfl)⟩ ⟨(Nat.le_of_ble_eq_true rfl), (Nat.le_of_ble_eq_true rfl)⟩ (fun r h9 hp => ?_)
  obtain ⟨rfl, rfl⟩ := hp
  refine J_nf (nh2 := 85) (ck2 := 84) (sk2 := 20330) (st2 := [.ref 81, .ref 0]) rfl rfl rfl rfl ?_
  refine J_app (L3 := [(81, .inr (7, [.ref 51, .ref 57, .ref 82, .ref 83, .ref 84, .int 0, .int (-1)])), (84, .inl (0, 0, .inl (fun _ => 0))), (83, .inl (0, 14, .inl (fun _ => 0))), (82, .inl (0, 14, .inl (fun _ => 0))), (81, .inr (7, [.null, .null, .null, .null, .null, .int 0, .int 0])), (0, .inr (11, [.ref 1, .ref 17, .ref 50, .ref 51, .ref 54, .ref 57, .ref 65, .ref 75, .null, .null, .null, .null, .null, .int 0, .int 0, .null, .int 0])), (75, .inr (3, [.ref 51, .ref 57, .ref 76, .ref 77, .ref 78, .ref 79, .ref 80, .int 0])), (80, .inl (0, 1260, .inl (fun _ => 0))), (79, .inl (0, 1260, .inl (fun _ => 0))), (78, .inl (0, 1261, .inl (fun _ => 0))), (77, .inl (0, 0, .inl (fun _ => 0))), (76, .inl (0, 0, .inl (fun _ => 0))), (75, .inr (3, [.null, .null, .null, .null, .null, .null, .null, .int 0])), (0, .inr (11, [.ref 1, .ref 17, .ref 50, .ref 51, .ref 54, .ref 57, .ref 65, .null, .null, .null, .null, .null, .null, .int 0, .int 0, .null, .int 0])), (65, .inr (10, [.ref 51, .ref 57, .ref 66, .ref 67, .ref 68, .int 0, .int (-1), .int (-1), .ref 69, .ref 70, .ref 71, .ref 72, .int 0, .int (-1), .int (-1), .ref 73, .ref 74])), (74, .inl (1, 1260, .inr (.inl (fun _ => 0)))), (73, .inl (1, 1260, .inr (.inl (fun _ => 0)))), (72, .inl (0, 1260, .inl (fun _ => 0))), (71, .inl (0, 1260, .inl (fun _ => 0))), (70, .inl (0, 100, .inl (fun _ => 0))), (69, .inl (0, 1260, .inl (fun _ => 0))), (68, .inl (0, 1260, .inl (fun _ => 0))), (67, .inl (0, 1260, .inl (fun _ => 0))), (66, .inl (0, 1260, .inl (fun _ => 0))), (65, .inr (10, [.null, .null, .null, .null, .null, .int 0, .int 0, .int 0, .null, .null, .null, .null, .int 0, .int 0, .int 0, .null, .null])), (0, .inr (11, [.ref 1, .ref 17, .ref 50, .ref 51, .ref 54, .ref 57, .null, .null, .null, .null, .null, .null, .null, .int 0, .int 0, .null, .int 0])), (57, .inr (9, [.ref 1, .ref 51, .ref 58, .ref 61, .ref 62, .ref 63, .ref 64, .int 0, .int 1, .int 1])), (64, .inl (0, 2625, .inl (fun _ => 0))), (63, .inl (0, 0, .inl (fun _ => 0))), (62, .inl (0, 1260, .inl (fun _ => 0))), (61, .inl (0, 0, .inl (fun _ => 0))), (58, .inr (1, [.ref 59, .ref 60, .int 0, .int 0, .int 0, .int 0, .int 0, .int 1])), (60, .inl (1, 64, .inr (.inl (fun _ => 0)))), (59, .inl (0, 8, .inl (fun _ => 0))), (57, .inr (9, [.null, .null, .null, .null, .null, .null, .null, .int 0, .int 0, .int 0])), (0, .inr (11, [.ref 1, .ref 17, .ref 50, .ref 51, .ref 54, .null, .null, .null, .null, .null, .null, .null, .null, .int 0, .int 0, .null, .int 0])), (54, .inr (5, [.ref 55, .int 0, .int 17, .int 0, .int 0, .int 0, .int 0, .int (-1), .ref 56, .int 0])), (56, .inl (0, 412, .inl (fun _ => 0))), (55, .inl (0, 400, .inl (fun _ => 0))), (54, .inr (5, [.null, .int 0, .int 0, .int 0, .int 0, .int 0, .int 0, .int 0, .null, .int 0])), (0, .inr (11, [.ref 1, .ref 17, .ref 50, .ref 51, .null, .null, .null, .null, .null, .null, .null, .null, .null, .int 0, .int 0, .null, .int 0])), (51, .inr (0, [.ref 52, .ref 53, .int 0, .int 0])), (53, .inl (0, 7, .inl (fun _ => 0))), (52, .inl (0, 1260, .inl (fun _ => 0))), (51, .inr (0, [.null, .null, .int 0, .int 0])), (0, .inr (11, [.ref 1, .ref 17, .ref 50, .null, .null, .null, .null, .null, .null, .null, .null, .null, .null, .int 0, .int 0, .null, .int 0])), (50, .inl (2, 2, .inl (fun _ => 0))), (0, .inr (11, [.ref 1, .ref 17, .null, .null, .null, .null, .null, .null, .null, .null, .null, .null, .null, .int 0, .int 0, .null, .int 0])), (17, .inl (4, 2, .inr (.inr (.inr (.inr (va_up (va_up (fun _ => none) 0 (some 18)) 1 (some 34))))))), (34, .inr (8, [.ref 35, .ref 36, .ref 37, .int 0, .int (-1), .ref 44, .ref 45, .int 0, .ref 46, .ref 47, .int 0, .ref 48, .ref 49, .int 0])), (49, .inl (0, 12, .inl (fun _ => 0))), (48, .inl (0, 12, .inl (fun _ => 0))), (47, .inl (0, 6, .inl (fun _ => 0))), (46, .inl (0, 6, .inl (fun _ => 0))), (45, .inl (0, 8, .inl (fun _ => 0))), (44, .inl (0, 8, .inl (fun _ => 0))), (43, .inl (0, 0, .inl (fun _ => 0))), (42, .inl (0, 0, .inl (fun _ => 0))), (41, .inl (0, 0, .inl (fun _ => 0))), (40, .inl (0, 0, .inl (fun _ => 0))), (39, .inl (0, 0, .inl (fun _ => 0))), (38, .inl (0, 0, .inl (fun _ => 0))), (37, .inl (5, 6, .inr (.inr (.inr (.inr (fun i => if i < 6 then some (37 + 1 + i) else none)))))), (36, .inl (0, 2, .inl (fun _ => 0))), (35, .inl (0, 5, .inl (fun _ => 0))), (34, .inr (8, [.null, .null, .null, .int 0, .int 0, .null, .null, .int 0, .null, .null, .int 0, .null, .null, .int 0])), (17, .inl (4, 2, .inr (.inr (.inr (.inr (va_up (fun _ => none) 0 (some 18))))))), (18, .inr (8, [.ref 19, .ref 20, .ref 21, .int 0, .int (-1), .ref 28, .ref 29, .int 0, .ref 30, .ref 31, .int 0, .ref 32, .ref 33, .int 0])), (33, .inl (0, 12, .inl (fun _ => 0))), (32, .inl (0, 12, .inl (fun _ => 0))), (31, .inl (0, 6, .inl (fun _ => 0))), (30, .inl (0, 6, .inl (fun _ => 0))), (29, .inl (0, 8, .inl (fun _ => 0))), (28, .inl (0, 8, .inl (fun _ => 0))), (27, .inl (0, 0, .inl (fun _ => 0))), (26, .inl (0, 0, .inl (fun _ => 0))), (25, .inl (0, 0, .inl (fun _ => 0))), (24, .inl (0, 0, .inl (fun _ => 0))), (23, .inl (0, 0, .inl (fun _ => 0))), (22, .inl (0, 0, .inl (fun _ => 0))), (21, .inl (5, 6, .inr (.inr (.inr (.inr (fun i => if i < 6 then some (21 + 1 + i) else none)))))), (20, .inl (0, 2, .inl (fun _ => 0))), (19, .inl (0, 5, .inl (fun _ => 0))), (18, .inr (8, [.null, .null, .null, .int 0, .int 0, .null, .null, .int 0, .null, .null, .int 0, .null, .null, .int 0])), (17, .inl (4, 2, .inr (.inr (.inr (.inr (fun _ => none)))))), (0, .inr (11, [.ref 1, .null, .null, .null, .null, .null, .null, .null, .null, .null, .null, .null, .null, .int 0, .int 0, .null, .int 0])), (1, .inr (8, [.ref 2, .ref 3, .ref 4, .int 0, .int (-1), .ref 11, .ref 12, .int 0, .ref 13, .ref 14, .int 0, .ref 15, .ref 16, .int 0])), (16, .inl (0, 12, .inl (fun _ => 0))), (15, .inl (0, 12, .inl (fun _ => 0))), (14, .inl (0, 6, .inl (fun _ => 0))), (13, .inl (0, 6, .inl (fun _ => 0))), (12, .inl (0, 8, .inl (fun _ => 0))), (11, .inl (0, 8, .inl (fun _ => 0))), (10, .inl (0, 0, .inl (fun _ => 0))), (9, .inl (0, 0, .inl (fun _ => 0))), (8, .inl (0, 0, .inl (fun _ => 0))), (7, .inl (0, 0, .inl (fun _ => 0))), (6, .inl (0, 0, .inl (fun _ => 0))), (5, .inl (0, 0, .inl (fun _ => 0))), (4, .inl (5, 6, .inr (.inr (.inr (.inr (fun i => if i < 6 then some (4 + 1 + i) else none)))))), (3, .inl (0, 2, .inl (fun _ => 0))), (2, .inl (0, 5, .inl (fun _ => 0))), (1, .inr (8, [.null, .null, .null, .int 0, .int 0, .null, .null, .int 0, .null, .null, .int 0, .null, .null, .int 0]))]) rfl ?_
  refine K_putF (fs2 := [.ref 1, .ref 17, .ref 50, .ref 51, .ref 54, .ref 57, .ref 65, .ref 75, .ref 81, .null, .null, .null, .null, .int 0, .int 0, .null, .int 0]) dX11_init_145 rfl fw_X11_66 rfl (Nat.le_of_ble_eq_true rfl) (fun _ => ⟨rfl, rfl⟩) rfl ?_
  refine J_aload_n dX11_init_148 rfl rfl ?_
  refine K_new (nh2 := 86) (ck2 := 85) (sk2 := 20334) dX11_init_149 nw_X11_70 (fun _ => rfl) (Nat.le_of_ble_eq_true rfl) (Nat.le_of_ble_eq_true rfl) rfl rfl rfl ?_
  refine J_dup dX11_init_152 rfl ?_
  refine J_aload_n dX11_init_153 rfl rfl ?_
  refine J_get (v := .ref 1) dX11_init_154 fl_X11_10 rfl rfl ?_
  refine J_aload_n dX11_init_157 rfl rfl ?_
  refine J_get (v := .ref 51) dX11_init_158 fl_X11_27 rfl rfl ?_
  refine J_callI (st := [.ref 85, .ref 0]) dX11_init_161 ci_X11_72 (c_X2_init_1 rfl) rfl rfl (Nat.le_of_ble_eq_true rfl) ⟨(Nat.le_of_ble_eq_true rfl), (Nat.le_of_ble_eq_true rfl)⟩ ⟨(Nat.le_of_ble_eq_true rfl), (Nat.le_of_ble_eq_true rfl)⟩ (fun r h9 hp => ?_)
  obtain ⟨rfl, rfl⟩ := hp
  refine J_nf (nh2 := 88) (ck2 := 87) (sk2 := 20358) (st2 := [.ref 85, .ref 0]) rfl rfl rfl rfl ?_
  refine J_app (L3 := [(85, .inr (2, [.ref 1, .ref 51, .ref 86, .ref 87])), (87, .inl (0, 12, .inl (fun _ => 0))), (86, .inl (0, 12, .inl (fun _ => 0))), (85, .inr (2, [.null, .null, .null, .null])), (0, .inr (11, [.ref 1, .ref 17, .ref 50, .ref 51, .ref 54, .ref 57, .ref 65, .ref 75, .ref 81, .null, .null, .null, .null, .int 0, .int 0, .null, .int 0])), (81, .inr (7, [.ref 51, .ref 57, .ref 82, .ref 83, .ref 84, .int 0, .int (-1)])), (84, .inl (0, 0, .inl (fun _ => 0))), (83, .inl (0, 14, .inl (fun _ => 0))), (82, .inl (0, 14, .inl (fun _ => 0))), (81, .inr (7, [.null, .null, .null, .null, .null, .int 0, .int 0])), (0, .inr (11, [.ref 1, .ref 17, .ref 50, .ref 51, .ref 54, .ref 57, .ref 65, .ref 75, .null, .null, .null, .null, .null, .int 0, .int 0, .null, .int 0])), (75, .inr (3, [.ref 51, .ref 57, .ref 76, .ref 77, .ref 78, .ref 79, .ref 80, .int 0])), (80, .inl (0, 1260, .inl (fun _ => 0))), (79, .inl (0, 1260, .inl (fun _ => 0))), (78, .inl (0, 1261, .inl (fun _ => 0))), (77, .inl (0, 0, .inl (fun _ => 0))), (76, .inl (0, 0, .inl (fun _ => 0))), (75, .inr (3, [.null, .null, .null, .null, .null, .null, .null, .int 0])), (0, .inr (11, [.ref 1, .ref 17, .ref 50, .ref 51, .ref 54, .ref 57, .ref 65, .null, .null, .null, .null, .null, .null, .int 0, .int 0, .null, .int 0])), (65, .inr (10, [.ref 51, .ref 57, .ref 66, .ref 67, .ref 68, .int 0, .int (-1), .int (-1), .ref 69, .ref 70, .ref 71, .ref 72, .int 0, .int (-1), .int (-1), .ref 73, .ref 74])), (74, .inl (1, 1260, .inr (.inl (fun _ => 0)))), (73, .inl (1, 1260, .inr (.inl (fun _ => 0)))), (72, .inl (0, 1260, .inl (fun _ => 0))), (71, .inl (0, 1260, .inl (fun _ => 0))), (70, .inl (0, 100, .inl (fun _ => 0))), (69, .inl (0, 1260, .inl (fun _ => 0))), (68, .inl (0, 1260, .inl (fun _ => 0))), (67, .inl (0, 1260, .inl (fun _ => 0))), (66, .inl (0, 1260, .inl (fun _ => 0))), (65, .inr (10, [.null, .null, .null, .null, .null, .int 0, .int 0, .int 0, .null, .null, .null, .null, .int 0, .int 0, .int 0, .null, .null])), (0, .inr (11, [.ref 1, .ref 17, .ref 50, .ref 51, .ref 54, .ref 57, .null, .null, .null, .null, .null, .null, .null, .int 0, .int 0, .null, .int 0])), (57, .inr (9, [.ref 1, .ref 51, .ref 58, .ref 61, .ref 62, .ref 63, .ref 64, .int 0, .int 1, .int 1])), (64, .inl (0, 2625, .inl (fun _ => 0))), (63, .inl (0, 0, .inl (fun _ => 0))), (62, .inl (0, 1260, .inl (fun _ => 0))), (61, .inl (0, 0, .inl (fun _ => 0))), (58, .inr (1, [.ref 59, .ref 60, .int 0, .int 0, .int 0, .int 0, .int 0, .int 1])), (60, .inl (1, 64, .inr (.inl (fun _ => 0)))), (59, .inl (0, 8, .inl (fun _ => 0))), (57, .inr (9, [.null, .null, .null, .null, .null, .null, .null, .int 0, .int 0, .int 0])), (0, .inr (11, [.ref 1, .ref 17, .ref 50, .ref 51, .ref 54, .null, .null, .null, .null, .null, .null, .null, .null, .int 0, .int 0, .null, .int 0])), (54, .inr (5, [.ref 55, .int 0, .int 17, .int 0, .int 0, .int 0, .int 0, .int (-1), .ref 56, .int 0])), (56, .inl (0, 412, .inl (fun _ => 0))), (55, .inl (0, 400, .inl (fun _ => 0))), (54, .inr (5, [.null, .int 0, .int 0, .int 0, .int 0, .int 0, .int 0, .int 0, .null, .int 0])), (0, .inr (11, [.ref 1, .ref 17, .ref 50, .ref 51, .null, .null, .null, .null, .null, .null, .null, .null, .null, .int 0, .int 0, .null, .int 0])), (51, .inr (0, [.ref 52, .ref 53, .int 0, .int 0])), (53, .inl (0, 7, .inl (fun _ => 0))), (52, .inl (0, 1260, .inl (fun _ => 0))), (51, .inr (0, [.null, .null, .int 0, .int 0])), (0, .inr (11, [.ref 1, .ref 17, .ref 50, .null, .null, .null, .null, .null, .null, .null, .null, .null, .null, .int 0, .int 0, .null, .int 0])), (50, .inl (2, 2, .inl (fun _ => 0))), (0, .inr (11, [.ref 1, .ref 17, .null, .null, .null, .null, .null, .null, .null, .null, .null, .null, .null, .int 0, .int 0, .null, .int 0])), (17, .inl (4, 2, .inr (.inr (.inr (.inr (va_up (va_up (fun _ => none) 0 (some 18)) 1 (some 34))))))), (34, .inr (8, [.ref 35, .ref 36, .ref 37, .int 0, .int (-1), .ref 44, .ref 45, .int 0, .ref 46, .ref 47, .int 0, .ref 48, .ref 49, .int 0])), (49, .inl (0, 12, .inl (fun _ => 0))), (48, .inl (0, 12, .inl (fun _ => 0))), (47, .inl (0, 6, .inl (fun _ => 0))), (46, .inl (0, 6, .inl (fun _ => 0))), (45, .inl (0, 8, .inl (fun _ => 0))), (44, .inl (0, 8, .inl (fun _ => 0))), (43, .inl (0, 0, .inl (fun _ => 0))), (42, .inl (0, 0, .inl (fun _ => 0))), (41, .inl (0, 0, .inl (fun _ => 0))), (40, .inl (0, 0, .inl (fun _ => 0))), (39, .inl (0, 0, .inl (fun _ => 0))), (38, .inl (0, 0, .inl (fun _ => 0))), (37, .inl (5, 6, .inr (.inr (.inr (.inr (fun i => if i < 6 then some (37 + 1 + i) else none)))))), (36, .inl (0, 2, .inl (fun _ => 0))), (35, .inl (0, 5, .inl (fun _ => 0))), (34, .inr (8, [.null, .null, .null, .int 0, .int 0, .null, .null, .int 0, .null, .null, .int 0, .null, .null, .int 0])), (17, .inl (4, 2, .inr (.inr (.inr (.inr (va_up (fun _ => none) 0 (some 18))))))), (18, .inr (8, [.ref 19, .ref 20, .ref 21, .int 0, .int (-1), .ref 28, .ref 29, .int 0, .ref 30, .ref 31, .int 0, .ref 32, .ref 33, .int 0])), (33, .inl (0, 12, .inl (fun _ => 0))), (32, .inl (0, 12, .inl (fun _ => 0))), (31, .inl (0, 6, .inl (fun _ => 0))), (30, .inl (0, 6, .inl (fun _ => 0))), (29, .inl (0, 8, .inl (fun _ => 0))), (28, .inl (0, 8, .inl (fun _ => 0))), (27, .inl (0, 0, .inl (fun _ => 0))), (26, .inl (0, 0, .inl (fun _ => 0))), (25, .inl (0, 0, .inl (fun _ => 0))), (24, .inl (0, 0, .inl (fun _ => 0))), (23, .inl (0, 0, .inl (fun _ => 0))), (22, .inl (0, 0, .inl (fun _ => 0))), (21, .inl (5, 6, .inr (.inr (.inr (.inr (fun i => if i < 6 then some (21 + 1 + i) else none)))))), (20, .inl (0, 2, .inl (fun _ => 0))), (19, .inl (0, 5, .inl (fun _ => 0))), (18, .inr (8, [.null, .null, .null, .int 0, .int 0, .null, .null, .int 0, .null, .null, .int 0, .null, .null, .int 0])), (17, .inl (4, 2, .inr (.inr (.inr (.inr (fun _ => none)))))), (0, .inr (11, [.ref 1, .null, .null, .null, .null, .null, .null, .null, .null, .null, .null, .null, .null, .int 0, .int 0, .null, .int 0])), (1, .inr (8, [.ref 2, .ref 3, .ref 4, .int 0, .int (-1), .ref 11, .ref 12, .int 0, .ref 13, .ref 14, .int 0, .ref 15, .ref 16, .int 0])), (16, .inl (0, 12, .inl (fun _ => 0))), (15, .inl (0, 12, .inl (fun _ => 0))), (14, .inl (0, 6, .inl (fun _ => 0))), (13, .inl (0, 6, .inl (fun _ => 0))), (12, .inl (0, 8, .inl (fun _ => 0))), (11, .inl (0, 8, .inl (fun _ => 0))), (10, .inl (0, 0, .inl (fun _ => 0))), (9, .inl (0, 0, .inl (fun _ => 0))), (8, .inl (0, 0, .inl (fun _ => 0))), (7, .inl (0, 0, .inl (fun _ => 0))), (6, .inl (0, 0, .inl (fun _ => 0))), (5, .inl (0, 0, .inl (fun _ => 0))), (4, .inl (5, 6, .inr (.inr (.inr (.inr (fun i => if i < 6 then some (4 + 1 + i) else none)))))), (3, .inl (0, 2, .inl (fun _ => 0))), (2, .inl (0, 5, .inl (fun _ => 0))), (1, .inr (8, [.null, .null, .null, .int 0, .int 0, .null, .null, .int 0, .null, .null, .int 0, .null, .null, .int 0]))]) rfl ?_
  refine K_putF (fs2 := [.ref 1, .ref 17, .ref 50, .ref 51, .ref 54, .ref 57, .ref 65, .ref 75, .ref 81, .ref 85, .null, .null, .null, .int 0, .int 0, .null, .int 0]) dX11_init_164 rfl fw_X11_73 rfl (Nat.le_of_ble_eq_true rfl) (fun _ => ⟨rfl, rfl⟩) rfl ?_
  refine J_aload_n dX11_init_167 rfl rfl ?_
  refine K_new (nh2 := 89) (ck2 := 88) (sk2 := 20371) dX11_init_168 nw_X11_77 (fun _ => rfl) (Nat.le_of_ble_eq_true rfl) (Nat.le_of_ble_eq_true rfl) rfl rfl rfl ?_
  refine J_dup dX11_init_171 rfl ?_
  refine J_aload_n dX11_init_172 rfl rfl ?_
  refine J_get (v := .ref 1) dX11_init_173 fl_X11_10 rfl rfl ?_
  refine J_aload_n dX11_init_176 rfl rfl ?_
  refine J_get (v := .ref 51) dX11_init_177 fl_X11_27 rfl rfl ?_
  refine J_aload_n dX11_init_180 rfl rfl ?_
  refine J_get (v := .ref 57) dX11_init_181 fl_X11_43 rfl rfl ?_
  refine J_aload_n dX11_init_184 rfl rfl ?_
  refine J_get (v := .ref 65) dX11_init_185 fl_X11_52 rfl rfl ?_
  refine J_callI (st := [.ref 88, .ref 0]) dX11_init_188 ci_X11_79 (c_X6_init_1 rfl) rfl rfl (Nat.le_of_ble_eq_true rfl) ⟨(Nat.le_of_ble_eq_true rfl), (Nat.le_of_ble_eq_true rfl)⟩ ⟨(Nat.le_of_ble_eq_true rfl), (Nat.le_of_ble_eq_true rfl)⟩ (fun r h9 hp => ?_)
  obtain ⟨rfl, rfl⟩ := hp
  refine J_nf (nh2 := 93) (ck2 := 92) (sk2 := 25411) (st2 := [.ref 88, .ref 0]) rfl rfl rfl rfl ?_
  refine J_app (L3 := [(88, .inr (6, [.ref 1, .ref 51, .ref 57, .ref 65, .ref 89, .ref 90, .int 0, .int (-1), .ref 91, .ref 92, .int (-1), .int (-1), .int (-1)])), (92, .inl (0, 1260, .inl (fun _ => 0))), (91, .inl (0, 1260, .inl (fun _ => 0))), (90, .inl (0, 1260, .inl (fun _ => 0))), (89, .inl (2, 1260, .inl (fun _ => 0))), (88, .inr (6, [.null, .null, .null, .null, .null, .null, .int 0, .int 0, .null, .null, .int 0, .int 0, .int 0])), (0, .inr (11, [.ref 1, .ref 17, .ref 50, .ref 51, .ref 54, .ref 57, .ref 65, .ref 75, .ref 81, .ref 85, .null, .null, .null, .int 0, .int 0, .null, .int 0])), (85, .inr (2, [.ref 1, .ref 51, .ref 86, .ref 87])), (87, .inl (0, 12, .inl (fun _ => 0))), (86, .inl (0, 12, .inl (fun _ => 0))), (85, .inr (2, [.null, .null, .null, .null])), (0, .inr (11, [.ref 1, .ref 17, .ref 50, .ref 51, .ref 54, .ref 57, .ref 65, .ref 75, .ref 81, .null, .null, .null, .null, .int 0, .int 0, .null, .int 0])), (81, .inr (7, [.ref 51, .ref 57, .ref 82, .ref 83, .ref 84, .int 0, .int (-1)])), (84, .inl (0, 0, .inl (fun _ => 0))), (83, .inl (0, 14, .inl (fun _ => 0))), (82, .inl (0, 14, .inl (fun _ => 0))), (81, .inr (7, [.null, .null, .null, .null, .null, .int 0, .int 0])), (0, .inr (11, [.ref 1, .ref 17, .ref 50, .ref 51, .ref 54, .ref 57, .ref 65, .ref 75, .null, .null, .null, .null, .null, .int 0, .int 0, .null, .int 0])), (75, .inr (3, [.ref 51, .ref 57, .ref 76, .ref 77, .ref 78, .ref 79, .ref 80, .int 0])), (80, .inl (0, 1260, .inl (fun _ => 0))), (79, .inl (0, 1260, .inl (fun _ => 0))), (78, .inl (0, 1261, .inl (fun _ => 0))), (77, .inl (0, 0, .inl (fun _ => 0))), (76, .inl (0, 0, .inl (fun _ => 0))), (75, .inr (3, [.null, .null, .null, .null, .null, .null, .null, .int 0])), (0, .inr (11, [.ref 1, .ref 17, .ref 50, .ref 51, .ref 54, .ref 57, .ref 65, .null, .null, .null, .null, .null, .null, .int 0, .int 0, .null, .int 0])), (65, .inr (10, [.ref 51, .ref 57, .ref 66, .ref 67, .ref 68, .int 0, .int (-1), .int (-1), .ref 69, .ref 70, .ref 71, .ref 72, .int 0, .int (-1), .int (-1), .ref 73, .ref 74])), (74, .inl (1, 1260, .inr (.inl (fun _ => 0)))), (73, .inl (1, 1260, .inr (.inl (fun _ => 0)))), (72, .inl (0, 1260, .inl (fun _ => 0))), (71, .inl (0, 1260, .inl (fun _ => 0))), (70, .inl (0, 100, .inl (fun _ => 0))), (69, .inl (0, 1260, .inl (fun _ => 0))), (68, .inl (0, 1260, .inl (fun _ => 0))), (67, .inl (0, 1260, .inl (fun _ => 0))), (66, .inl (0, 1260, .inl (fun _ => 0))), (65, .inr (10, [.null, .null, .null, .null, .null, .int 0, .int 0, .int 0, .null, .null, .null, .null, .int 0, .int 0, .int 0, .null, .null])), (0, .inr (11, [.ref 1, .ref 17, .ref 50, .ref 51, .ref 54, .ref 57, .null, .null, .null, .null, .null, .null, .null, .int 0, .int 0, .null, .int 0])), (57, .inr (9, [.ref 1, .ref 51, .ref 58, .ref 61, .ref 62, .ref 63, .ref 64, .int 0, .int 1, .int 1])), (64, .inl (0, 2625, .inl (fun _ => 0))), (63, .inl (0, 0, .inl (fun _ => 0))), (62, .inl (0, 1260, .inl (fun _ => 0))), (61, .inl (0, 0, .inl (fun _ => 0))), (58, .inr (1, [.ref 59, .ref 60, .int 0, .int 0, .int 0, .int 0, .int 0, .int 1])), (60, .inl (1, 64, .inr (.inl (fun _ => 0)))), (59, .inl (0, 8, .inl (fun _ => 0))), (57, .inr (9, [.null, .null, .null, .null, .null, .null, .null, .int 0, .int 0, .int 0])), (0, .inr (11, [.ref 1, .ref 17, .ref 50, .ref 51, .ref 54, .null, .null, .null, .null, .null, .null, .null, .null, .int 0, .int 0, .null, .int 0])), (54, .inr (5, [.ref 55, .int 0, .int 17, .int 0, .int 0, .int 0, .int 0, .int (-1), .ref 56, .int 0])), (56, .inl (0, 412, .inl (fun _ => 0))), (55, .inl (0, 400, .inl (fun _ => 0))), (54, .inr (5, [.null, .int 0, .int 0, .int 0, .int 0, .int 0, .int 0, .int 0, .null, .int 0])), (0, .inr (11, [.ref 1, .ref 17, .ref 50, .ref 51, .null, .null, .null, .null, .null, .null, .null, .null, .null, .int 0, .int 0, .null, .int 0])), (51, .inr (0, [.ref 52, .ref 53, .int 0, .int 0])), (53, .inl (0, 7, .inl (fun _ => 0))), (52, .inl (0, 1260, .inl (fun _ => 0))), (51, .inr (0, [.null, .null, .int 0, .int 0])), (0, .inr (11, [.ref 1, .ref 17, .ref 50, .null, .null, .null, .null, .null, .null, .null, .null, .null, .null, .int 0, .int 0, .null, .int 0])), (50, .inl (2, 2, .inl (fun _ => 0))), (0, .inr (11, [.ref 1, .ref 17, .null, .null, .null, .null, .null, .null, .null, .null, .null, .null, .null, .int 0, .int 0, .null, .int 0])), (17, .inl (4, 2, .inr (.inr (.inr (.inr (va_up (va_up (fun _ => none) 0 (some 18)) 1 (some 34))))))), (34, .inr (8, [.ref 35, .ref 36, .ref 37, .int 0, .int (-1), .ref 44, .ref 45, .int 0, .ref 46, .ref 47, .int 0, .ref 48, .ref 49, .int 0])), (49, .inl (0, 12, .inl (fun _ => 0))), (48, .inl (0, 12, .inl (fun _ => 0))), (47, .inl (0, 6, .inl (fun _ => 0))), (46, .inl (0, 6, .inl (fun _ => 0))), (45, .inl (0, 8, .inl (fun _ => 0))), (44, .inl (0, 8, .inl (fun _ => 0))), (43, .inl (0, 0, .inl (fun _ => 0))), (42, .inl (0, 0, .inl (fun _ => 0))), (41, .inl (0, 0, .inl (fun _ => 0))), (40, .inl (0, 0, .inl (fun _ => 0))), (39, .inl (0, 0, .inl (fun _ => 0))), (38, .inl (0, 0, .inl (fun _ => 0))), (37, .inl (5, 6, .inr (.inr (.inr (.inr (fun i => if i < 6 then some (37 + 1 + i) else none)))))), (36, .inl (0, 2, .inl (fun _ => 0))), (35, .inl (0, 5, .inl (fun _ => 0))), (34, .inr (8, [.null, .null, .null, .int 0, .int 0, .null, .null, .int 0, .null, .null, .int 0, .null, .null, .int 0])), (17, .inl (4, 2, .inr (.inr (.inr (.inr (va_up (fun _ => none) 0 (some 18))))))), (18, .inr (8, [.ref 19, .ref 20, .ref 21, .int 0, .int (-1), .ref 28, .ref 29, .int 0, .ref 30, .ref 31, .int 0, .ref 32, .ref 33, .int 0])), (33, .inl (0, 12, .inl (fun _ => 0))), (32, .inl (0, 12, .inl (fun _ => 0))), (31, .inl (0, 6, .inl (fun _ => 0))), (30, .inl (0, 6, .inl (fun _ => 0))), (29, .inl (0, 8, .inl (fun _ => 0))), (28, .inl (0, 8, .inl (fun _ => 0))), (27, .inl (0, 0, .inl (fun _ => 0))), (26, .inl (0, 0, .inl (fun _ => 0))), (25, .inl (0, 0, .inl (fun _ => 0))), (24, .inl (0, 0, .inl (fun _ => 0))), (23, .inl (0, 0, .inl (fun _ => 0))), (22, .inl (0, 0, .inl (fun _ => 0))), (21, .inl (5, 6, .inr (.inr (.inr (.inr (fun i => if i < 6 then some (21 + 1 + i) else none)))))), (20, .inl (0, 2, .inl (fun _ => 0))), (19, .inl (0, 5, .inl (fun _ => 0))), (18, .inr (8, [.null, .null, .null, .int 0, .int 0, .null, .null, .int 0, .null, .null, .int 0, .null, .null, .int 0])), (17, .inl (4, 2, .inr (.inr (.inr (.inr (fun _ => none)))))), (0, .inr (11, [.ref 1, .null, .null, .null, .null, .null, .null, .null, .null, .null, .null, .null, .null, .int 0, .int 0, .null, .int 0])), (1, .inr (8, [.ref 2, .ref 3, .ref 4, .int 0, .int (-1), .ref 11, .ref 12, .int 0, .ref 13, .ref 14, .int 0, .ref 15, .ref 16, .int 0])), (16, .inl (0, 12, .inl (fun _ => 0))), (15, .inl (0, 12, .inl (fun _ => 0))), (14, .inl (0, 6, .inl (fun _ => 0))), (13, .inl (0, 6, .inl (fun _ => 0))), (12, .inl (0, 8, .inl (fun _ => 0))), (11, .inl (0, 8, .inl (fun _ => 0))), (10, .inl (0, 0, .inl (fun _ => 0))), (9, .inl (0, 0, .inl (fun _ => 0))), (8, .inl (0, 0, .inl (fun _ => 0))), (7, .inl (0, 0, .inl (fun _ => 0))), (6, .inl (0, 0, .inl (fun _ => 0))), (5, .inl (0, 0, .inl (fun _ => 0))), (4, .inl (5, 6, .inr (.inr (.inr (.inr (fun i => if i < 6 then some (4 + 1 + i) else none)))))), (3, .inl (0, 2, .inl (fun _ => 0))), (2, .inl (0, 5, .inl (fun _ => 0))), (1, .inr (8, [.null, .null, .null, .int 0, .int 0, .null, .null, .int 0, .null, .null, .int 0, .null, .null, .int 0]))]) rfl ?_
  refine K_putF (fs2 := [.ref 1, .ref 17, .ref 50, .ref 51, .ref 54, .ref 57, .ref 65, .ref 75, .ref 81, .ref 85, .ref 88, .null, .null, .int 0, .int 0, .null, .int 0]) dX11_init_191 rfl fw_X11_82 rfl (Nat.le_of_ble_eq_true rfl) (fun _ => ⟨rfl, rfl⟩) rfl ?_
  refine J_aload_n dX11_init_194 rfl rfl ?_
  refine K_new (nh2 := 94) (ck2 := 93) (sk2 := 25416) dX11_init_195 nw_X11_86 (fun _ => rfl) (Nat.le_of_ble_eq_true rfl) (Nat.le_of_ble_eq_true rfl) rfl rfl rfl ?_
  refine J_dup dX11_init_198 rfl ?_
  refine J_aload_n dX11_init_199 rfl rfl ?_
  refine J_get (v := .ref 51) dX11_init_200 fl_X11_27 rfl rfl ?_
  refine J_aload_n dX11_init_203 rfl rfl ?_
  refine J_get (v := .ref 57) dX11_init_204 fl_X11_43 rfl rfl ?_
  refine J_callI (st := [.ref 93, .ref 0]) dX11_init_207 ci_X11_88 (c_X4_init_1 rfl) rfl rfl (Nat.le_of_ble_eq_true rfl) ⟨(Nat.le_of_ble_eq_true rfl), (Nat.le_of_ble_eq_true rfl)⟩ ⟨(Nat.le_of_ble_eq_true rfl), (Nat.le_of_ble_eq_true rfl)⟩ (fun r h9 hp => ?_)
  obtain ⟨rfl, rfl⟩ := hp
  refine J_nf (nh2 := 96) (ck2 := 95) (sk2 := 25416) (st2 := [.ref 93, .ref 0]) rfl rfl rfl rfl ?_
  refine J_app (L3 := [(93, .inr (4, [.ref 51, .ref 57, .ref 94, .ref 95, .int 0])), (95, .inl (0, 0, .inl (fun _ => 0))), (94, .inl (0, 0, .inl (fun _ => 0))), (93, .inr (4, [.null, .null, .null, .null, .int 0])), (0, .inr (11, [.ref 1, .ref 17, .ref 50, .ref 51, .ref 54, .ref 57, .ref 65, .ref 75, .ref 81, .ref 85, .ref 88, .null, .null, .int 0, .int 0, .null, .int 0])), (88, .inr (6, [.ref 1, .ref 51, .ref 57, .ref 65, .ref 89, .ref 90, .int 0, .int (-1), .ref 91, .ref 92, .int (-1), .int (-1), .int (-1)])), (92, .inl (0, 1260, .inl (fun _ => 0))), (91, .inl (0, 1260, .inl (fun _ => 0))), (90, .inl (0, 1260, .inl (fun _ => 0))), (89, .inl (2, 1260, .inl (fun _ => 0))), (88, .inr (6, [.null, .null, .null, .null, .null, .null, .int 0, .int 0, .null, .null, .int 0, .int 0, .int 0])), (0, .inr (11, [.ref 1, .ref 17, .ref 50, .ref 51, .ref 54, .ref 57, .ref 65, .ref 75, .ref 81, .ref 85, .null, .null, .null, .int 0, .int 0, .null, .int 0])), (85, .inr (2, [.ref 1, .ref 51, .ref 86, .ref 87])), (87, .inl (0, 12, .inl (fun _ => 0))), (86, .inl (0, 12, .inl (fun _ => 0))), (85, .inr (2, [.null, .null, .null, .null])), (0, .inr (11, [.ref 1, .ref 17, .ref 50, .ref 51, .ref 54, .ref 57, .ref 65, .ref 75, .ref 81, .null, .null, .null, .null, .int 0, .int 0, .null, .int 0])), (81, .inr (7, [.ref 51, .ref 57, .ref 82, .ref 83, .ref 84, .int 0, .int (-1)])), (84, .inl (0, 0, .inl (fun _ => 0))), (83, .inl (0, 14, .inl (fun _ => 0))), (82, .inl (0, 14, .inl (fun _ => 0))), (81, .inr (7, [.null, .null, .null, .null, .null, .int 0, .int 0])), (0, .inr (11, [.ref 1, .ref 17, .ref 50, .ref 51, .ref 54, .ref 57, .ref 65, .ref 75, .null, .null, .null, .null, .null, .int 0, .int 0, .null, .int 0])), (75, .inr (3, [.ref 51, .ref 57, .ref 76, .ref 77, .ref 78, .ref 79, .ref 80, .int 0])), (80, .inl (0, 1260, .inl (fun _ => 0))), (79, .inl (0, 1260, .inl (fun _ => 0))), (78, .inl (0, 1261, .inl (fun _ => 0))), (77, .inl (0, 0, .inl (fun _ => 0))), (76, .inl (0, 0, .inl (fun _ => 0))), (75, .inr (3, [.null, .null, .null, .null, .null, .null, .null, .int 0])), (0, .inr (11, [.ref 1, .ref 17, .ref 50, .ref 51, .ref 54, .ref 57, .ref 65, .null, .null, .null, .null, .null, .null, .int 0, .int 0, .null, .int 0])), (65, .inr (10, [.ref 51, .ref 57, .ref 66, .ref 67, .ref 68, .int 0, .int (-1), .int (-1), .ref 69, .ref 70, .ref 71, .ref 72, .int 0, .int (-1), .int (-1), .ref 73, .ref 74])), (74, .inl (1, 1260, .inr (.inl (fun _ => 0)))), (73, .inl (1, 1260, .inr (.inl (fun _ => 0)))), (72, .inl (0, 1260, .inl (fun _ => 0))), (71, .inl (0, 1260, .inl (fun _ => 0))), (70, .inl (0, 100, .inl (fun _ => 0))), (69, .inl (0, 1260, .inl (fun _ => 0))), (68, .inl (0, 1260, .inl (fun _ => 0))), (67, .inl (0, 1260, .inl (fun _ => 0))), (66, .inl (0, 1260, .inl (fun _ => 0))), (65, .inr (10, [.null, .null, .null, .null, .null, .int 0, .int 0, .int 0, .null, .null, .null, .null, .int 0, .int 0, .int 0, .null, .null])), (0, .inr (11, [.ref 1, .ref 17, .ref 50, .ref 51, .ref 54, .ref 57, .null, .null, .null, .null, .null, .null, .null, .int 0, .int 0, .null, .int 0])), (57, .inr (9, [.ref 1, .ref 51, .ref 58, .ref 61, .ref 62, .ref 63, .ref 64, .int 0, .int 1, .int 1])), (64, .inl (0, 2625, .inl (fun _ => 0))), (63, .inl (0, 0, .inl (fun _ => 0))), (62, .inl (0, 1260, .inl (fun _ => 0))), (61, .inl (0, 0, .inl (fun _ => 0))), (58, .inr (1, [.ref 59, .ref 60, .int 0, .int 0, .int 0, .int 0, .int 0, .int 1])), (60, .inl (1, 64, .inr (.inl (fun _ => 0)))), (59, .inl (0, 8, .inl (fun _ => 0))), (57, .inr (9, [.null, .null, .null, .null, .null, .null, .null, .int 0, .int 0, .int 0])), (0, .inr (11, [.ref 1, .ref 17, .ref 50, .ref 51, .ref 54, .null, .null, .null, .null, .null, .null, .null, .null, .int 0, .int 0, .null, .int 0])), (54, .inr (5, [.ref 55, .int 0, .int 17, .int 0, .int 0, .int 0, .int 0, .int (-1), .ref 56, .int 0])), (56, .inl (0, 412, .inl (fun _ => 0))), (55, .inl (0, 400, .inl (fun _ => 0))), (54, .inr (5, [.null, .int 0, .int 0, .int 0, .int 0, .int 0, .int 0, .int 0, .null, .int 0])), (0, .inr (11, [.ref 1, .ref 17, .ref 50, .ref 51, .null, .null, .null, .null, .null, .null, .null, .null, .null, .int 0, .int 0, .null, .int 0])), (51, .inr (0, [.ref 52, .ref 53, .int 0, .int 0])), (53, .inl (0, 7, .inl (fun _ => 0))), (52, .inl (0, 1260, .inl (fun _ => 0))), (51, .inr (0, [.null, .null, .int 0, .int 0])), (0, .inr (11, [.ref 1, .ref 17, .ref 50, .null, .null, .null, .null, .null, .null, .null, .null, .null, .null, .int 0, .int 0, .null, .int 0])), (50, .inl (2, 2, .inl (fun _ => 0))), (0, .inr (11, [.ref 1, .ref 17, .null, .null, .null, .null, .null, .null, .null, .null, .null, .null, .null, .int 0, .int 0, .null, .int 0])), (17, .inl (4, 2, .inr (.inr (.inr (.inr (va_up (va_up (fun _ => none) 0 (some 18)) 1 (some 34))))))), (34, .inr (8, [.ref 35, .ref 36, .ref 37, .int 0, .int (-1), .ref 44, .ref 45, .int 0, .ref 46, .ref 47, .int 0, .ref 48, .ref 49, .int 0])), (49, .inl (0, 12, .inl (fun _ => 0))), (48, .inl (0, 12, .inl (fun _ => 0))), (47, .inl (0, 6, .inl (fun _ => 0))), (46, .inl (0, 6, .inl (fun _ => 0))), (45, .inl (0, 8, .inl (fun _ => 0))), (44, .inl (0, 8, .inl (fun _ => 0))), (43, .inl (0, 0, .inl (fun _ => 0))), (42, .inl (0, 0, .inl (fun _ => 0))), (41, .inl (0, 0, .inl (fun _ => 0))), (40, .inl (0, 0, .inl (fun _ => 0))), (39, .inl (0, 0, .inl (fun _ => 0))), (38, .inl (0, 0, .inl (fun _ => 0))), (37, .inl (5, 6, .inr (.inr (.inr (.inr (fun i => if i < 6 then some (37 + 1 + i) else none)))))), (36, .inl (0, 2, .inl (fun _ => 0))), (35, .inl (0, 5, .inl (fun _ => 0))), (34, .inr (8, [.null, .null, .null, .int 0, .int 0, .null, .null, .int 0, .null, .null, .int 0, .null, .null, .int 0])), (17, .inl (4, 2, .inr (.inr (.inr (.inr (va_up (fun _ => none) 0 (some 18))))))), (18, .inr (8, [.ref 19, .ref 20, .ref 21, .int 0, .int (-1), .ref 28, .ref 29, .int 0, .ref 30, .ref 31, .int 0, .ref 32, .ref 33, .int 0])), (33, .inl (0, 12, .inl (fun _ => 0))), (32, .inl (0, 12, .inl (fun _ => 0))), (31, .inl (0, 6, .inl (fun _ => 0))), (30, .inl (0, 6, .inl (fun _ => 0))), (29, .inl (0, 8, .inl (fun _ => 0))), (28, .inl (0, 8, .inl (fun _ => 0))), (27, .inl (0, 0, .inl (fun _ => 0))), (26, .inl (0, 0, .inl (fun _ => 0))), (25, .inl (0, 0, .inl (fun _ => 0))), (24, .inl (0, 0, .inl (fun _ => 0))), (23, .inl (0, 0, .inl (fun _ => 0))), (22, .inl (0, 0, .inl (fun _ => 0))), (21, .inl (5, 6, .inr (.inr (.inr (.inr (fun i => if i < 6 then some (21 + 1 + i) else none)))))), (20, .inl (0, 2, .inl (fun _ => 0))), (19, .inl (0, 5, .inl (fun _ => 0))), (18, .inr (8, [.null, .null, .null, .int 0, .int 0, .null, .null, .int 0, .null, .null, .int 0, .null, .null, .int 0])), (17, .inl (4, 2, .inr (.inr (.inr (.inr (fun _ => none)))))), (0, .inr (11, [.ref 1, .null, .null, .null, .null, .null, .null, .null, .null, .null, .null, .null, .null, .int 0, .int 0, .null, .int 0])), (1, .inr (8, [.ref 2, .ref 3, .ref 4, .int 0, .int (-1), .ref 11, .ref 12, .int 0, .ref 13, .ref 14, .int 0, .ref 15, .ref 16, .int 0])), (16, .inl (0, 12, .inl (fun _ => 0))), (15, .inl (0, 12, .inl (fun _ => 0))), (14, .inl (0, 6, .inl (fun _ => 0))), (13, .inl (0, 6, .inl (fun _ => 0))), (12, .inl (0, 8, .inl (fun _ => 0))), (11, .inl (0, 8, .inl (fun _ => 0))), (10, .inl (0, 0, .inl (fun _ => 0))), (9, .inl (0, 0, .inl (fun _ => 0))), (8, .inl (0, 0, .inl (fun _ => 0))), (7, .inl (0, 0, .inl (fun _ => 0))), (6, .inl (0, 0, .inl (fun _ => 0))), (5, .inl (0, 0, .inl (fun _ => 0))), (4, .inl (5, 6, .inr (.inr (.inr (.inr (fun i => if i < 6 then some (4 + 1 + i) else none)))))), (3, .inl (0, 2, .inl (fun _ => 0))), (2, .inl (0, 5, .inl (fun _ => 0))), (1, .inr (8, [.null, .null, .null, .int 0, .int 0, .null, .null, .int 0, .null, .null, .int 0, .null, .null, .int 0]))]) rfl ?_
  refine K_putF (fs2 := [.ref 1, .ref 17, .ref 50, .ref 51, .ref 54, .ref 57, .ref 65, .ref 75, .ref 81, .ref 85, .ref 88, .ref 93, .null, .int 0, .int 0, .null, .int 0]) dX11_init_210 rfl fw_X11_89 rfl (Nat.le_of_ble_eq_true rfl) (fun _ => ⟨rfl, rfl⟩) rfl ?_
  refine J_aload_n dX11_init_213 rfl rfl ?_
  refine J_iconst (v := 5) dX11_init_214 (by decide) ?_
  refine K_newa (t := 0) (N := 5) (a0 := (5, .inl (fun _ => 0))) (nh2 := 97) (ck2 := 96) (sk2 := 25421) dX11_init_215 rfl (jt1 98 rfl rfl) rfl (fun _ _ h9 => h9) (fun _ => rfl) (fun _ => rfl) (by decide +kernel) (by decide +kernel) (Nat.le_of_ble_eq_true rfl) (Nat.le_of_ble_eq_true rfl) (Nat.le_of_ble_eq_true rfl) rfl rfl rfl ?_
  refine K_putF (fs2 := [.ref 1, .ref 17, .ref 50, .ref 51, .ref 54, .ref 57, .ref 65, .ref 75, .ref 81, .ref 85, .ref 88, .ref 93, .ref 96, .int 0, .int 0, .null, .int 0]) dX11_init_217 rfl fw_X11_93 rfl (Nat.le_of_ble_eq_true rfl) (fun _ => ⟨rfl, rfl⟩) rfl ?_
  refine J_aload_n dX11_init_220 rfl rfl ?_
  refine J_iconst (v := 0) dX11_init_221 (by decide) ?_
  refine K_put (fs2 := [.ref 1, .ref 17, .ref 50, .ref 51, .ref 54, .ref 57, .ref 65, .ref 75, .ref 81, .ref 85, .ref 88, .ref 93, .ref 96, .int 0, .int 0, .null, .int 0]) dX11_init_222 fw_X11_97 rfl (Nat.le_of_ble_eq_true rfl) (fun _ => ⟨rfl, rfl⟩) rfl ?_
  refine J_aload_n dX11_init_225 rfl rfl ?_
  refine J_iconst (v := (-1)) dX11_init_226 (by decide) ?_
  refine K_put (fs2 := [.ref 1, .ref 17, .ref 50, .ref 51, .ref 54, .ref 57, .ref 65, .ref 75, .ref 81, .ref 85, .ref 88, .ref 93, .ref 96, .int 0, .int (-1), .null, .int 0]) dX11_init_227 fw_X11_101 rfl (Nat.le_of_ble_eq_true rfl) (fun _ => ⟨rfl, rfl⟩) rfl ?_
  refine J_aload_n dX11_init_230 rfl rfl ?_
  refine J_sipush (v := 1260) dX11_init_231 (by decide +kernel) ?_
  refine K_newa (t := 0) (N := 1260) (a0 := (1260, .inl (fun _ => 0))) (nh2 := 98) (ck2 := 97) (sk2 := 26681) dX11_init_234 rfl (jt1 98 rfl rfl) rfl (fun _ _ h9 => h9) (fun _ => rfl) (fun _ => rfl) (by decide +kernel) (by decide +kernel) (Nat.le_of_ble_eq_true rfl) (Nat.le_of_ble_eq_true rfl) (Nat.le_of_ble_eq_true rfl) rfl rfl rfl ?_
  refine K_putF (fs2 := [.ref 1, .ref 17, .ref 50, .ref 51, .ref 54, .ref 57, .ref 65, .ref 75, .ref 81, .ref 85, .ref 88, .ref 93, .ref 96, .int 0, .int (-1), .ref 97, .int 0]) dX11_init_236 rfl fw_X11_104 rfl (Nat.le_of_ble_eq_true rfl) (fun _ => ⟨rfl, rfl⟩) rfl ?_
  refine J_aload_n dX11_init_239 rfl rfl ?_
  refine J_iconst (v := 0) dX11_init_240 (by decide) ?_
  refine K_put (fs2 := [.ref 1, .ref 17, .ref 50, .ref 51, .ref 54, .ref 57, .ref 65, .ref 75, .ref 81, .ref 85, .ref 88, .ref 93, .ref 96, .int 0, .int (-1), .ref 97, .int 0]) dX11_init_241 fw_X11_107 rfl (Nat.le_of_ble_eq_true rfl) jb0 rfl ?_
  refine J_aload_n dX11_init_244 rfl rfl ?_
  refine J_get (v := .ref 51) dX11_init_245 fl_X11_27 rfl rfl ?_
  refine J_aload_n dX11_init_248 rfl rfl ?_
  refine J_get (v := .ref 1) dX11_init_249 fl_X11_10 rfl rfl ?_
  refine J_get (v := .ref 2) dX11_init_252 fl_X11_111 rfl rfl ?_
  refine J_callV (st := []) dX11_init_255 cv_X11_114 (c_X0_settle_1 rfl rfl rfl) rfl rfl rfl (Nat.le_of_ble_eq_true rfl) ⟨(Nat.le_of_ble_eq_true rfl), (Nat.le_of_ble_eq_true rfl)⟩ ⟨(Nat.le_of_ble_eq_true rfl), (Nat.le_of_ble_eq_true rfl)⟩ (fun r h9 hp => ?_)
  obtain ⟨rfl, rfl⟩ := hp
  refine J_nf (nh2 := 98) (ck2 := 97) (sk2 := 26681) (st2 := []) rfl rfl rfl rfl ?_
  refine J_app (L3 := [(51, .inr (0, [.ref 52, .ref 53, .int 1, .int 0])), (52, .inl (0, 1260, .inl (upd (fun _ => 0) 0 0))), (0, .inr (11, [.ref 1, .ref 17, .ref 50, .ref 51, .ref 54, .ref 57, .ref 65, .ref 75, .ref 81, .ref 85, .ref 88, .ref 93, .ref 96, .int 0, .int (-1), .ref 97, .int 0])), (0, .inr (11, [.ref 1, .ref 17, .ref 50, .ref 51, .ref 54, .ref 57, .ref 65, .ref 75, .ref 81, .ref 85, .ref 88, .ref 93, .ref 96, .int 0, .int (-1), .ref 97, .int 0])), (97, .inl (0, 1260, .inl (fun _ => 0))), (0, .inr (11, [.ref 1, .ref 17, .ref 50, .ref 51, .ref 54, .ref 57, .ref 65, .ref 75, .ref 81, .ref 85, .ref 88, .ref 93, .ref 96, .int 0, .int (-1), .null, .int 0])), (0, .inr (11, [.ref 1, .ref 17, .ref 50, .ref 51, .ref 54, .ref 57, .ref 65, .ref 75, .ref 81, .ref 85, .ref 88, .ref 93, .ref 96, .int 0, .int 0, .null, .int 0])), (0, .inr (11, [.ref 1, .ref 17, .ref 50, .ref 51, .ref 54, .ref 57, .ref 65, .ref 75, .ref 81, .ref 85, .ref 88, .ref 93, .ref 96, .int 0, .int 0, .null, .int 0])), (96, .inl (0, 5, .inl (fun _ => 0))), (0, .inr (11, [.ref 1, .ref 17, .ref 50, .ref 51, .ref 54, .ref 57, .ref 65, .ref 75, .ref 81, .ref 85, .ref 88, .ref 93, .null, .int 0, .int 0, .null, .int 0])), (93, .inr (4, [.ref 51, .ref 57, .ref 94, .ref 95, .int 0])), (95, .inl (0, 0, .inl (fun _ => 0))), (94, .inl (0, 0, .inl (fun _ => 0))), (93, .inr (4, [.null, .null, .null, .null, .int 0])), (0, .inr (11, [.ref 1, .ref 17, .ref 50, .ref 51, .ref 54, .ref 57, .ref 65, .ref 75, .ref 81, .ref 85, .ref 88, .null, .null, .int 0, .int 0, .null, .int 0])), (88, .inr (6, [.ref 1, .ref 51, .ref 57, .ref 65, .ref 89, .ref 90, .int 0, .int (-1), .ref 91, .ref 92, .int (-1), .int (-1), .int (-1)])), (92, .inl (0, 1260, .inl (fun _ => 0))), (91, .inl (0, 1260, .inl (fun _ => 0))), (90, .inl (0, 1260, .inl (fun _ => 0))), (89, .inl (2, 1260, .inl (fun _ => 0))), (88, .inr (6, [.null, .null, .null, .null, .null, .null, .int 0, .int 0, .null, .null, .int 0, .int 0, .int 0])), (0, .inr (11, [.ref 1, .ref 17, .ref 50, .ref 51, .ref 54, .ref 57, .ref 65, .ref 75, .ref 81, .ref 85, .null, .null, .null, .int 0, .int 0, .null, .int 0])), (85, .inr (2, [.ref 1, .ref 51, .ref 86, .ref 87])), (87, .inl (0, 12, .inl (fun _ => 0))), (86, .inl (0, 12, .inl (fun _ => 0))), (85, .inr (2, [.null, .null, .null, .null])), (0, .inr (11, [.ref 1, .ref 17, .ref 50, .ref 51, .ref 54, .ref 57, .ref 65, .ref 75, .ref 81, .null, .null, .null, .null, .int 0, .int 0, .null, .int 0])), (81, .inr (7, [.ref 51, .ref 57, .ref 82, .ref 83, .ref 84, .int 0, .int (-1)])), (84, .inl (0, 0, .inl (fun _ => 0))), (83, .inl (0, 14, .inl (fun _ => 0))), (82, .inl (0, 14, .inl (fun _ => 0))), (81, .inr (7, [.null, .null, .null, .null, .null, .int 0, .int 0])), (0, .inr (11, [.ref 1, .ref 17, .ref 50, .ref 51, .ref 54, .ref 57, .ref 65, .ref 75, .null, .null, .null, .null, .null, .int 0, .int 0, .null, .int 0])), (75, .inr (3, [.ref 51, .ref 57, .ref 76, .ref 77, .ref 78, .ref 79, .ref 80, .int 0])), (80, .inl (0, 1260, .inl (fun _ => 0))), (79, .inl (0, 1260, .inl (fun _ => 0))), (78, .inl (0, 1261, .inl (fun _ => 0))), (77, .inl (0, 0, .inl (fun _ => 0))), (76, .inl (0, 0, .inl (fun _ => 0))), (75, .inr (3, [.null, .null, .null, .null, .null, .null, .null, .int 0])), (0, .inr (11, [.ref 1, .ref 17, .ref 50, .ref 51, .ref 54, .ref 57, .ref 65, .null, .null, .null, .null, .null, .null, .int 0, .int 0, .null, .int 0])), (65, .inr (10, [.ref 51, .ref 57, .ref 66, .ref 67, .ref 68, .int 0, .int (-1), .int (-1), .ref 69, .ref 70, .ref 71, .ref 72, .int 0, .int (-1), .int (-1), .ref 73, .ref 74])), (74, .inl (1, 1260, .inr (.inl (fun _ => 0)))), (73, .inl (1, 1260, .inr (.inl (fun _ => 0)))), (72, .inl (0, 1260, .inl (fun _ => 0))), (71, .inl (0, 1260, .inl (fun _ => 0))), (70, .inl (0, 100, .inl (fun _ => 0))), (69, .inl (0, 1260, .inl (fun _ => 0))), (68, .inl (0, 1260, .inl (fun _ => 0))), (67, .inl (0, 1260, .inl (fun _ => 0))), (66, .inl (0, 1260, .inl (fun _ => 0))), (65, .inr (10, [.null, .null, .null, .null, .null, .int 0, .int 0, .int 0, .null, .null, .null, .null, .int 0, .int 0, .int 0, .null, .null])), (0, .inr (11, [.ref 1, .ref 17, .ref 50, .ref 51, .ref 54, .ref 57, .null, .null, .null, .null, .null, .null, .null, .int 0, .int 0, .null, .int 0])), (57, .inr (9, [.ref 1, .ref 51, .ref 58, .ref 61, .ref 62, .ref 63, .ref 64, .int 0, .int 1, .int 1])), (64, .inl (0, 2625, .inl (fun _ => 0))), (63, .inl (0, 0, .inl (fun _ => 0))), (62, .inl (0, 1260, .inl (fun _ => 0))), (61, .inl (0, 0, .inl (fun _ => 0))), (58, .inr (1, [.ref 59, .ref 60, .int 0, .int 0, .int 0, .int 0, .int 0, .int 1])), (60, .inl (1, 64, .inr (.inl (fun _ => 0)))), (59, .inl (0, 8, .inl (fun _ => 0))), (57, .inr (9, [.null, .null, .null, .null, .null, .null, .null, .int 0, .int 0, .int 0])), (0, .inr (11, [.ref 1, .ref 17, .ref 50, .ref 51, .ref 54, .null, .null, .null, .null, .null, .null, .null, .null, .int 0, .int 0, .null, .int 0])), (54, .inr (5, [.ref 55, .int 0, .int 17, .int 0, .int 0, .int 0, .int 0, .int (-1), .ref 56, .int 0])), (56, .inl (0, 412, .inl (fun _ => 0))), (55, .inl (0, 400, .inl (fun _ => 0))), (54, .inr (5, [.null, .int 0, .int 0, .int 0, .int 0, .int 0, .int 0, .int 0, .null, .int 0])), (0, .inr (11, [.ref 1, .ref 17, .ref 50, .ref 51, .null, .null, .null, .null, .null, .null, .null, .null, .null, .int 0, .int 0, .null, .int 0])), (51, .inr (0, [.ref 52, .ref 53, .int 0, .int 0])), (53, .inl (0, 7, .inl (fun _ => 0))), (52, .inl (0, 1260, .inl (fun _ => 0))), (51, .inr (0, [.null, .null, .int 0, .int 0])), (0, .inr (11, [.ref 1, .ref 17, .ref 50, .null, .null, .null, .null, .null, .null, .null, .null, .null, .null, .int 0, .int 0, .null, .int 0])), (50, .inl (2, 2, .inl (fun _ => 0))), (0, .inr (11, [.ref 1, .ref 17, .null, .null, .null, .null, .null, .null, .null, .null, .null, .null, .null, .int 0, .int 0, .null, .int 0])), (17, .inl (4, 2, .inr (.inr (.inr (.inr (va_up (va_up (fun _ => none) 0 (some 18)) 1 (some 34))))))), (34, .inr (8, [.ref 35, .ref 36, .ref 37, .int 0, .int (-1), .ref 44, .ref 45, .int 0, .ref 46, .ref 47, .int 0, .ref 48, .ref 49, .int 0])), (49, .inl (0, 12, .inl (fun _ => 0))), (48, .inl (0, 12, .inl (fun _ => 0))), (47, .inl (0, 6, .inl (fun _ => 0))), (46, .inl (0, 6, .inl (fun _ => 0))), (45, .inl (0, 8, .inl (fun _ => 0))), (44, .inl (0, 8, .inl (fun _ => 0))), (43, .inl (0, 0, .inl (fun _ => 0))), (42, .inl (0, 0, .inl (fun _ => 0))), (41, .inl (0, 0, .inl (fun _ => 0))), (40, .inl (0, 0, .inl (fun _ => 0))), (39, .inl (0, 0, .inl (fun _ => 0))), (38, .inl (0, 0, .inl (fun _ => 0))), (37, .inl (5, 6, .inr (.inr (.inr (.inr (fun i => if i < 6 then some (37 + 1 + i) else none)))))), (36, .inl (0, 2, .inl (fun _ => 0))), (35, .inl (0, 5, .inl (fun _ => 0))), (34, .inr (8, [.null, .null, .null, .int 0, .int 0, .null, .null, .int 0, .null, .null, .int 0, .null, .null, .int 0])), (17, .inl (4, 2, .inr (.inr (.inr (.inr (va_up (fun _ => none) 0 (some 18))))))), (18, .inr (8, [.ref 19, .ref 20, .ref 21, .int 0, .int (-1), .ref 28, .ref 29, .int 0, .ref 30, .ref 31, .int 0, .ref 32, .ref 33, .int 0])), (33, .inl (0, 12, .inl (fun _ => 0))), (32, .inl (0, 12, .inl (fun _ => 0))), (31, .inl (0, 6, .inl (fun _ => 0))), (30, .inl (0, 6, .inl (fun _ => 0))), (29, .inl (0, 8, .inl (fun _ => 0))), (28, .inl (0, 8, .inl (fun _ => 0))), (27, .inl (0, 0, .inl (fun _ => 0))), (26, .inl (0, 0, .inl (fun _ => 0))), (25, .inl (0, 0, .inl (fun _ => 0))), (24, .inl (0, 0, .inl (fun _ => 0))), (23, .inl (0, 0, .inl (fun _ => 0))), (22, .inl (0, 0, .inl (fun _ => 0))), (21, .inl (5, 6, .inr (.inr (.inr (.inr (fun i => if i < 6 then some (21 + 1 + i) else none)))))), (20, .inl (0, 2, .inl (fun _ => 0))), (19, .inl (0, 5, .inl (fun _ => 0))), (18, .inr (8, [.null, .null, .null, .int 0, .int 0, .null, .null, .int 0, .null, .null, .int 0, .null, .null, .int 0])), (17, .inl (4, 2, .inr (.inr (.inr (.inr (fun _ => none)))))), (0, .inr (11, [.ref 1, .null, .null, .null, .null, .null, .null, .null, .null, .null, .null, .null, .null, .int 0, .int 0, .null, .int 0])), (1, .inr (8, [.ref 2, .ref 3, .ref 4, .int 0, .int (-1), .ref 11, .ref 12, .int 0, .ref 13, .ref 14, .int 0, .ref 15, .ref 16, .int 0])), (16, .inl (0, 12, .inl (fun _ => 0))), (15, .inl (0, 12, .inl (fun _ => 0))), (14, .inl (0, 6, .inl (fun _ => 0))), (13, .inl (0, 6, .inl (fun _ => 0))), (12, .inl (0, 8, .inl (fun _ => 0))), (11, .inl (0, 8, .inl (fun _ => 0))), (10, .inl (0, 0, .inl (fun _ => 0))), (9, .inl (0, 0, .inl (fun _ => 0))), (8, .inl (0, 0, .inl (fun _ => 0))), (7, .inl (0, 0, .inl (fun _ => 0))), (6, .inl (0, 0, .inl (fun _ => 0))), (5, .inl (0, 0, .inl (fun _ => 0))), (4, .inl (5, 6, .inr (.inr (.inr (.inr (fun i => if i < 6 then some (4 + 1 + i) else none)))))), (3, .inl (0, 2, .inl (fun _ => 0))), (2, .inl (0, 5, .inl (fun _ => 0))), (1, .inr (8, [.null, .null, .null, .int 0, .int 0, .null, .null, .int 0, .null, .null, .int 0, .null, .null, .int 0]))]) rfl ?_
  refine J_mask (L2 := [(51, .inr (0, [.ref 52, .ref 53, .int 1, .int 0])), (52, .inl (0, 1260, .inl (upd (fun _ => 0) 0 0))), (0, .inr (11, [.ref 1, .ref 17, .ref 50, .ref 51, .ref 54, .ref 57, .ref 65, .ref 75, .ref 81, .ref 85, .ref 88, .ref 93, .ref 96, .int 0, .int (-1), .ref 97, .int 0])), (97, .inl (0, 1260, .inl (fun _ => 0))), (96, .inl (0, 5, .inl (fun _ => 0))), (93, .inr (4, [.ref 51, .ref 57, .ref 94, .ref 95, .int 0])), (95, .inl (0, 0, .inl (fun _ => 0))), (94, .inl (0, 0, .inl (fun _ => 0))), (88, .inr (6, [.ref 1, .ref 51, .ref 57, .ref 65, .ref 89, .ref 90, .int 0, .int (-1), .ref 91, .ref 92, .int (-1), .int (-1), .int (-1)])), (92, .inl (0, 1260, .inl (fun _ => 0))), (91, .inl (0, 1260, .inl (fun _ => 0))), (90, .inl (0, 1260, .inl (fun _ => 0))), (89, .inl (2, 1260, .inl (fun _ => 0))), (85, .inr (2, [.ref 1, .ref 51, .ref 86, .ref 87])), (87, .inl (0, 12, .inl (fun _ => 0))), (86, .inl (0, 12, .inl (fun _ => 0))), (81, .inr (7, [.ref 51, .ref 57, .ref 82, .ref 83, .ref 84, .int 0, .int (-1)])), (84, .inl (0, 0, .inl (fun _ => 0))), (83, .inl (0, 14, .inl (fun _ => 0))), (82, .inl (0, 14, .inl (fun _ => 0))), (75, .inr (3, [.ref 51, .ref 57, .ref 76, .ref 77, .ref 78, .ref 79, .ref 80, .int 0])), (80, .inl (0, 1260, .inl (fun _ => 0))), (79, .inl (0, 1260, .inl (fun _ => 0))), (78, .inl (0, 1261, .inl (fun _ => 0))), (77, .inl (0, 0, .inl (fun _ => 0))), (76, .inl (0, 0, .inl (fun _ => 0))), (65, .inr (10, [.ref 51, .ref 57, .ref 66, .ref 67, .ref 68, .int 0, .int (-1), .int (-1), .ref 69, .ref 70, .ref 71, .ref 72, .int 0, .int (-1), .int (-1), .ref 73, .ref 74])), (74, .inl (1, 1260, .inr (.inl (fun _ => 0)))), (73, .inl (1, 1260, .inr (.inl (fun _ => 0)))), (72, .inl (0, 1260, .inl (fun _ => 0))), (71, .inl (0, 1260, .inl (fun _ => 0))), (70, .inl (0, 100, .inl (fun _ => 0))), (69, .inl (0, 1260, .inl (fun _ => 0))), (68, .inl (0, 1260, .inl (fun _ => 0))), (67, .inl (0, 1260, .inl (fun _ => 0))), (66, .inl (0, 1260, .inl (fun _ => 0))), (57, .inr (9, [.ref 1, .ref 51, .ref 58, .ref 61, .ref 62, .ref 63, .ref 64, .int 0, .int 1, .int 1])), (64, .inl (0, 2625, .inl (fun _ => 0))), (63, .inl (0, 0, .inl (fun _ => 0))), (62, .inl (0, 1260, .inl (fun _ => 0))), (61, .inl (0, 0, .inl (fun _ => 0))), (58, .inr (1, [.ref 59, .ref 60, .int 0, .int 0, .int 0, .int 0, .int 0, .int 1])), (60, .inl (1, 64, .inr (.inl (fun _ => 0)))), (59, .inl (0, 8, .inl (fun _ => 0))), (54, .inr (5, [.ref 55, .int 0, .int 17, .int 0, .int 0, .int 0, .int 0, .int (-1), .ref 56, .int 0])), (56, .inl (0, 412, .inl (fun _ => 0))), (55, .inl (0, 400, .inl (fun _ => 0))), (53, .inl (0, 7, .inl (fun _ => 0))), (50, .inl (2, 2, .inl (fun _ => 0))), (17, .inl (4, 2, .inr (.inr (.inr (.inr (va_up (va_up (fun _ => none) 0 (some 18)) 1 (some 34))))))), (34, .inr (8, [.ref 35, .ref 36, .ref 37, .int 0, .int (-1), .ref 44, .ref 45, .int 0, .ref 46, .ref 47, .int 0, .ref 48, .ref 49, .int 0])), (49, .inl (0, 12, .inl (fun _ => 0))), (48, .inl (0, 12, .inl (fun _ => 0))), (47, .inl (0, 6, .inl (fun _ => 0))), (46, .inl (0, 6, .inl (fun _ => 0))), (45, .inl (0, 8, .inl (fun _ => 0))), (44, .inl (0, 8, .inl (fun _ => 0))), (43, .inl (0, 0, .inl (fun _ => 0))), (42, .inl (0, 0, .inl (fun _ => 0))), (41, .inl (0, 0, .inl (fun _ => 0))), (40, .inl (0, 0, .inl (fun _ => 0))), (39, .inl (0, 0, .inl (fun _ => 0))), (38, .inl (0, 0, .inl (fun _ => 0))), (37, .inl (5, 6, .inr (.inr (.inr (.inr (fun i => if i < 6 then some (37 + 1 + i) else none)))))), (36, .inl (0, 2, .inl (fun _ => 0))), (35, .inl (0, 5, .inl (fun _ => 0))), (18, .inr (8, [.ref 19, .ref 20, .ref 21, .int 0, .int (-1), .ref 28, .ref 29, .int 0, .ref 30, .ref 31, .int 0, .ref 32, .ref 33, .int 0])), (33, .inl (0, 12, .inl (fun _ => 0))), (32, .inl (0, 12, .inl (fun _ => 0))), (31, .inl (0, 6, .inl (fun _ => 0))), (30, .inl (0, 6, .inl (fun _ => 0))), (29, .inl (0, 8, .inl (fun _ => 0))), (28, .inl (0, 8, .inl (fun _ => 0))), (27, .inl (0, 0, .inl (fun _ => 0))), (26, .inl (0, 0, .inl (fun _ => 0))), (25, .inl (0, 0, .inl (fun _ => 0))), (24, .inl (0, 0, .inl (fun _ => 0))), (23, .inl (0, 0, .inl (fun _ => 0))), (22, .inl (0, 0, .inl (fun _ => 0))), (21, .inl (5, 6, .inr (.inr (.inr (.inr (fun i => if i < 6 then some (21 + 1 + i) else none)))))), (20, .inl (0, 2, .inl (fun _ => 0))), (19, .inl (0, 5, .inl (fun _ => 0))), (1, .inr (8, [.ref 2, .ref 3, .ref 4, .int 0, .int (-1), .ref 11, .ref 12, .int 0, .ref 13, .ref 14, .int 0, .ref 15, .ref 16, .int 0])), (16, .inl (0, 12, .inl (fun _ => 0))), (15, .inl (0, 12, .inl (fun _ => 0))), (14, .inl (0, 6, .inl (fun _ => 0))), (13, .inl (0, 6, .inl (fun _ => 0))), (12, .inl (0, 8, .inl (fun _ => 0))), (11, .inl (0, 8, .inl (fun _ => 0))), (10, .inl (0, 0, .inl (fun _ => 0))), (9, .inl (0, 0, .inl (fun _ => 0))), (8, .inl (0, 0, .inl (fun _ => 0))), (7, .inl (0, 0, .inl (fun _ => 0))), (6, .inl (0, 0, .inl (fun _ => 0))), (5, .inl (0, 0, .inl (fun _ => 0))), (4, .inl (5, 6, .inr (.inr (.inr (.inr (fun i => if i < 6 then some (4 + 1 + i) else none)))))), (3, .inl (0, 2, .inl (fun _ => 0))), (2, .inl (0, 5, .inl (fun _ => 0)))]) (ks := [51, 52, 0, 0, 97, 0, 0, 0, 96, 0, 93, 95, 94, 93, 0, 88, 92, 91, 90, 89, 88, 0, 85, 87, 86, 85, 0, 81, 84, 83, 82, 81, 0, 75, 80, 79, 78, 77, 76, 75, 0, 65, 74, 73, 72, 71, 70, 69, 68, 67, 66, 65, 0, 57, 64, 63, 62, 61, 58, 60, 59, 57, 0, 54, 56, 55, 54, 0, 51, 53, 52, 51, 0, 50, 0, 17, 34, 49, 48, 47, 46, 45, 44, 43, 42, 41, 40, 39, 38, 37, 36, 35, 34, 17, 18, 33, 32, 31, 30, 29, 28, 27, 26, 25, 24, 23, 22, 21, 20, 19, 18, 17, 0, 1, 16, 15, 14, 13, 12, 11, 10, 9, 8, 7, 6, 5, 4, 3, 2, 1]) [true, true, true, false, true, false, false, false, true, false, true, true, true, false, false, true, true, true, true, true, false, false, true, true, true, false, false, true, true, true, true, false, false, true, true, true, true, true, true, false, false, true, true, true, true, true, true, true, true, true, true, false, false, true, true, true, true, true, true, true, true, false, false, true, true, true, false, false, false, true, false, false, false, true, false, true, true, true, true, true, true, true, true, true, true, true, true, true, true, true, true, true, false, false, true, true, true, true, true, true, true, true, true, true, true, true, true, true, true, true, false, false, false, true, true, true, true, true, true, true, true, true, true, true, true, true, true, true, true, false] rfl (by decide +kernel) rfl ?_
  exact J_vret dX11_init_258 rfl (Nat.le_of_ble_eq_true rfl) (Nat.le_of_ble_eq_true rfl) ⟨rfl, rfl⟩
set_option maxHeartbeats 4000000 in
set_option maxRecDepth 100000 in
theorem c_X12_init_1 {l : Launch} {G : jG} {fh : Nat → Option va_E} (hk98 : fh 98 = some (.inr (12, [.int 0, .int 0, .null, .null, .null, .null, .null, .null, .null, .int 0, .int 0, .null, .null, .null, .int 0, .int 0, .int 0, .int 0, .int 0, .int 0, .int 0, .null, .int 0, .int 0, .null, .null, .null, .null, .null, .null, .null, .null, .int 0, .int 0, .int 0, .int 0, .null, .null, .null, .null, .null, .null, .null, .null, .null, .null, .null, .null, .int 0, .null, .null, .null, .null, .null, .int 0, .int 0]))) : JM l G yX12_init MX12_init { frames := 1, cells := 36, slots := 388752, locals := 12 } [.ref 98] (99, fh) (fun r h9 => r = none ∧ h9 = (135, hc fh [(100, .inl (0, 4870, .inl (upd (fun _ => 0) 63 (-1)))), (98, .inr (12, [.int 0, .int 0, .ref 99, .ref 100, .ref 101, .ref 102, .ref 103, .ref 104, .ref 105, .int 0, .int (-1), .ref 106, .ref 107, .ref 108, .int 0, .int 0, .int 0, .int 0, .int 0, .int 0, .int 0, .ref 109, .int 0, .int 0, .ref 110, .ref 111, .ref 112, .ref 113, .ref 114, .ref 115, .ref 116, .ref 117, .int 0, .int 0, .int (-1), .int (-1), .ref 118, .ref 119, .ref 120, .ref 121, .ref 122, .ref 123, .ref 124, .ref 125, .ref 126, .ref 127, .ref 128, .ref 129, .int 0, .ref 130, .ref 131, .ref 132, .ref 133, .ref 134, .int 0, .int 0])), (134, .inl (0, 1260, .inl (fun _ => 0))), (133, .inl (0, 1600, .inl (fun _ => 0))), (132, .inl (0, 1600, .inl (fun _ => 0))), (131, .inl (0, 1261, .inl (fun _ => 0))), (130, .inl (2, 1260, .inl (fun _ => 0))), (129, .inl (2, 229376, .inl (fun _ => 0))), (128, .inl (1, 1260, .inr (.inl (fun _ => 0)))), (127, .inl (1, 1260, .inr (.inl (fun _ => 0)))), (126, .inl (0, 1260, .inl (fun _ => 0))), (125, .inl (0, 1260, .inl (fun _ => 0))), (124, .inl (2, 27720, .inl (fun _ => 0))), (123, .inl (0, 1260, .inl (fun _ => 0))), (122, .inl (2, 1260, .inl (fun _ => 0))), (121, .inl (0, 1260, .inl (fun _ => 0))), (120, .inl (0, 1260, .inl (fun _ => 0))), (119, .inl (1, 1260, .inr (.inl (fun _ => 0)))), (118, .inl (0, 1260, .inl (fun _ => 0))), (117, .inl (0, 7, .inl (fun _ => 0))), (116, .inl (0, 1260, .inl (fun _ => 0))), (115, .inl (0, 27720, .inl (fun _ => 0))), (114, .inl (0, 1260, .inl (fun _ => 0))), (113, .inl (0, 27720, .inl (fun _ => 0))), (112, .inl (0, 27720, .inl (fun _ => 0))), (111, .inl (0, 1260, .inl (fun _ => 0))), (110, .inl (0, 8820, .inl (fun _ => 0))), (109, .inl (0, 8, .inl (fun _ => 0))), (108, .inl (0, 401, .inl (fun _ => 0))), (107, .inl (0, 401, .inl (fun _ => 0))), (106, .inl (0, 401, .inl (fun _ => 0))), (105, .inl (0, 5, .inl (fun _ => 0))), (104, .inl (3, 400, .inl (fun _ => 0))), (103, .inl (3, 73, .inl (upd (upd (upd (upd (upd (upd (upd (upd (upd (upd (upd (upd (upd (upd (upd (upd (upd (upd (upd (upd (upd (upd (upd (upd (upd (upd (upd (upd (upd (upd (upd (upd (upd (upd (upd (upd (upd (upd (upd (upd (upd (upd (upd (upd (upd (upd (upd (upd (upd (upd (upd (upd (upd (upd (upd (upd (upd (upd (upd (upd (upd (upd (upd (upd (upd (upd (upd (upd (upd (upd (upd (upd (upd (fun _ => 0) 0 116) 1 97) 2 107) 3 101) 4 115) 5 32) 6 108) 7 101) 8 116) 9 115) 10 32) 11 98) 12 97) 13 114) 14 115) 15 32) 16 105) 17 102) 18 32) 19 111) 20 114) 21 32) 22 97) 23 110) 24 100) 25 32) 26 110) 27 111) 28 116) 29 32) 30 108) 31 101) 32 102) 33 116) 34 32) 35 114) 36 105) 37 103) 38 104) 39 116) 40 32) 41 111) 42 110) 43 101) 44 32) 45 111) 46 116) 47 104) 48 101) 49 114) 50 32) 51 97) 52 112) 53 97) 54 114) 55 116) 56 32) 57 102) 58 105) 59 114) 60 115) 61 116) 62 32) 63 98) 64 101) 65 97) 66 110) 67 115) 68 32) 69 100) 70 97) 71 121) 72 32))), (102, .inl (2, 2, .inl (fun _ => 0))), (101, .inl (0, 9740, .inl (fun _ => 0))), (99, .inl (0, 7, .inl (fun _ => 0)))])) := by
  refine JM.of (by decide) rfl (fun _ => rfl) (Nat.le_of_ble_eq_true rfl) ⟨0, rfl⟩ ?_
  refine J_hc0 (J_ls (ls2 := [some (.ref 98)]) rfl ?_)
  refine J_aload_n dX12_init_0 rfl rfl ?_
  refine J_objInit dX12_init_1 (jt6 72 rfl rfl) (jt1 27 rfl rfl) (jt1 28 rfl rfl) (Nat.le_of_ble_eq_true rfl) (Nat.le_of_ble_eq_true rfl) ?_
  refine J_aload_n dX12_init_4 rfl rfl ?_
  refine J_bipush (v := 7) dX12_init_5 (by decide +kernel) ?_
  refine K_newa (t := 0) (N := 7) (a0 := (7, .inl (fun _ => 0))) (nh2 := 100) (ck2 := 1) (sk2 := 7) dX12_init_7 rfl (jt1 98 rfl rfl) rfl (fun _ _ h9 => h9) (fun _ => rfl) (fun _ => rfl) (by decide +kernel) (by decide +kernel) (Nat.le_of_ble_eq_true rfl) (Nat.le_of_ble_eq_true rfl) (Nat.le_of_ble_eq_true rfl) rfl rfl rfl ?_
  refine K_putF (fs2 := [.int 0, .int 0, .ref 99, .null, .null, .null, .null, .null, .null, .int 0, .int 0, .null, .null, .null, .int 0, .int 0, .int 0, .int 0, .int 0, .int 0, .int 0, .null, .int 0, .int 0, .null, .null, .null, .null, .null, .null, .null, .null, .int 0, .int 0, .int 0, .int 0, .null, .null, .null, .null, .null, .null, .null, .null, .null, .null, .null, .null, .int 0, .null, .null, .null, .null, .null, .int 0, .int 0]) dX12_init_9 rfl fw_X12_7 hk98 (Nat.le_of_ble_eq_true rfl) (fun _ => ⟨rfl, rfl⟩) rfl ?_
  refine J_aload_n dX12_init_12 rfl rfl ?_
  refine J_sipush (v := 4870) dX12_init_13 (by decide +kernel) ?_
  refine K_newa (t := 0) (N := 4870) (a0 := (4870, .inl (fun _ => 0))) (nh2 := 101) (ck2 := 2) (sk2 := 4877) dX12_init_16 rfl (jt1 98 rfl rfl) rfl (fun _ _ h9 => h9) (fun _ => rfl) (fun _ => rfl) (by decide +kernel) (by decide +kernel) (Nat.le_of_ble_eq_true rfl) (Nat.le_of_ble_eq_true rfl) (Nat.le_of_ble_eq_true rfl) rfl rfl rfl ?_
  refine K_putF (fs2 := [.int 0, .int 0, .ref 99, .ref 100, .null, .null, .null, .null, .null, .int 0, .int 0, .null, .null, .null, .int 0, .int 0, .int 0, .int 0, .int 0, .int 0, .int 0, .null, .int 0, .int 0, .null, .null, .null, .null, .null, .null, .null, .null, .int 0, .int 0, .int 0, .int 0, .null, .null, .null, .null, .null, .null, .null, .null, .null, .null, .null, .null, .int 0, .null, .null, .null, .null, .null, .int 0, .int 0]) dX12_init_18 rfl fw_X12_20 rfl (Nat.le_of_ble_eq_true rfl) (fun _ => ⟨rfl, rfl⟩) rfl ?_
  refine J_aload_n dX12_init_21 rfl rfl ?_
  refine J_sipush (v := 9740) dX12_init_22 (by decide +kernel) ?_
  refine K_newa (t := 0) (N := 9740) (a0 := (9740, .inl (fun _ => 0))) (nh2 := 102) (ck2 := 3) (sk2 := 14617) dX12_init_25 rfl (jt1 98 rfl rfl) rfl (fun _ _ h9 => h9) (fun _ => rfl) (fun _ => rfl) (by decide +kernel) (by decide +kernel) (Nat.le_of_ble_eq_true rfl) (Nat.le_of_ble_eq_true rfl) (Nat.le_of_ble_eq_true rfl) rfl rfl rfl ?_
  refine K_putF (fs2 := [.int 0, .int 0, .ref 99, .ref 100, .ref 101, .null, .null, .null, .null, .int 0, .int 0, .null, .null, .null, .int 0, .int 0, .int 0, .int 0, .int 0, .int 0, .int 0, .null, .int 0, .int 0, .null, .null, .null, .null, .null, .null, .null, .null, .int 0, .int 0, .int 0, .int 0, .null, .null, .null, .null, .null, .null, .null, .null, .null, .null, .null, .null, .int 0, .null, .null, .null, .null, .null, .int 0, .int 0]) dX12_init_27 rfl fw_X12_23 rfl (Nat.le_of_ble_eq_true rfl) (fun _ => ⟨rfl, rfl⟩) rfl ?_
  refine J_aload_n dX12_init_30 rfl rfl ?_
  refine J_iconst (v := 2) dX12_init_31 (by decide) ?_
  refine K_newa (t := 2) (N := 2) (a0 := (2, .inl (fun _ => 0))) (nh2 := 103) (ck2 := 4) (sk2 := 14619) dX12_init_32 rfl (jt1 119 rfl rfl) rfl (fun _ _ h9 => h9) (fun _ => rfl) (fun _ => rfl) (by decide +kernel) (by decide +kernel) (Nat.le_of_ble_eq_true rfl) (Nat.le_of_ble_eq_true rfl) (Nat.le_of_ble_eq_true rfl) rfl rfl rfl ?_
  refine K_putF (fs2 := [.int 0, .int 0, .ref 99, .ref 100, .ref 101, .ref 102, .null, .null, .null, .int 0, .int 0, .null, .null, .null, .int 0, .int 0, .int 0, .int 0, .int 0, .int 0, .int 0, .null, .int 0, .int 0, .null, .null, .null, .null, .null, .null, .null, .null, .int 0, .int 0, .int 0, .int 0, .null, .null, .null, .null, .null, .null, .null, .null, .null, .null, .null, .null, .int 0, .null, .null, .null, .null, .null, .int 0, .int 0]) dX12_init_34 rfl fw_X12_26 rfl (Nat.le_of_ble_eq_true rfl) (fun _ => ⟨rfl, rfl⟩) rfl ?_
  refine J_aload_n dX12_init_37 rfl rfl ?_
  refine J_bipush (v := 73) dX12_init_38 (by decide +kernel) ?_
  refine K_newa (t := 3) (N := 73) (a0 := (73, .inl (fun _ => 0))) (nh2 := 104) (ck2 := 5) (sk2 := 14692) dX12_init_40 rfl (jt4 54 rfl rfl) rfl (fun _ _ h9 => h9) (fun _ => rfl) (fun _ => rfl) (by decide +kernel) (by decide +kernel) (Nat.le_of_ble_eq_true rfl) (Nat.le_of_ble_eq_true rfl) (Nat.le_of_ble_eq_true rfl) rfl rfl rfl ?_
  refine J_dup dX12_init_42 rfl ?_
  refine J_iconst (v := 0) dX12_init_43 (by decide) ?_
  refine J_bipush (v := 116) dX12_init_44 (by decide +kernel) ?_
  refine K_bast (i2 := 0) (y := 116) dX12_init_46 rfl rfl (jin (by decide +kernel)) (by decide +kernel) (by decide +kernel) ?_
  refine J_dup dX12_init_47 rfl ?_
  refine J_iconst (v := 1) dX12_init_48 (by decide) ?_
  refine J_bipush (v := 97) dX12_init_49 (by decide +kernel) ?_
  refine K_bast (i2 := 1) (y := 97) dX12_init_51 rfl rfl (jin (by decide +kernel)) (by decide +kernel) (by decide +kernel) ?_
  refine J_dup dX12_init_52 rfl ?_
  refine J_iconst (v := 2) dX12_init_53 (by decide) ?_
  refine J_bipush (v := 107) dX12_init_54 (by decide +kernel) ?_
  refine K_bast (i2 := 2) (y := 107) dX12_init_56 rfl rfl (jin (by decide +kernel)) (by decide +kernel) (by decide +kernel) ?_
  refine J_dup dX12_init_57 rfl ?_
  refine J_iconst (v := 3) dX12_init_58 (by decide) ?_
  refine J_bipush (v := 101) dX12_init_59 (by decide +kernel) ?_
  refine K_bast (i2 := 3) (y := 101) dX12_init_61 rfl rfl (jin (by decide +kernel)) (by decide +kernel) (by decide +kernel) ?_
  refine J_dup dX12_init_62 rfl ?_
  refine J_iconst (v := 4) dX12_init_63 (by decide) ?_
  refine J_bipush (v := 115) dX12_init_64 (by decide +kernel) ?_
  refine K_bast (i2 := 4) (y := 115) dX12_init_66 rfl rfl (jin (by decide +kernel)) (by decide +kernel) (by decide +kernel) ?_
  refine J_dup dX12_init_67 rfl ?_
  refine J_iconst (v := 5) dX12_init_68 (by decide) ?_
  refine J_bipush (v := 32) dX12_init_69 (by decide +kernel) ?_
  refine K_bast (i2 := 5) (y := 32) dX12_init_71 rfl rfl (jin (by decide +kernel)) (by decide +kernel) (by decide +kernel) ?_
  refine J_dup dX12_init_72 rfl ?_
  refine J_bipush (v := 6) dX12_init_73 (by decide +kernel) ?_
  refine J_bipush (v := 108) dX12_init_75 (by decide +kernel) ?_
  refine K_bast (i2 := 6) (y := 108) dX12_init_77 rfl rfl (jin (by decide +kernel)) (by decide +kernel) (by decide +kernel) ?_
  refine J_dup dX12_init_78 rfl ?_
  refine J_bipush (v := 7) dX12_init_79 (by decide +kernel) ?_
  refine J_bipush (v := 101) dX12_init_81 (by decide +kernel) ?_
  refine K_bast (i2 := 7) (y := 101) dX12_init_83 rfl rfl (jin (by decide +kernel)) (by decide +kernel) (by decide +kernel) ?_
  refine J_dup dX12_init_84 rfl ?_
  refine J_bipush (v := 8) dX12_init_85 (by decide +kernel) ?_
  refine J_bipush (v := 116) dX12_init_87 (by decide +kernel) ?_
  refine K_bast (i2 := 8) (y := 116) dX12_init_89 rfl rfl (jin (by decide +kernel)) (by decide +kernel) (by decide +kernel) ?_
  refine J_dup dX12_init_90 rfl ?_
  refine J_bipush (v := 9) dX12_init_91 (by decide +kernel) ?_
  refine J_bipush (v := 115) dX12_init_93 (by decide +kernel) ?_
  refine K_bast (i2 := 9) (y := 115) dX12_init_95 rfl rfl (jin (by decide +kernel)) (by decide +kernel) (by decide +kernel) ?_
  refine J_dup dX12_init_96 rfl ?_
  refine J_bipush (v := 10) dX12_init_97 (by decide +kernel) ?_
  refine J_bipush (v := 32) dX12_init_99 (by decide +kernel) ?_
  refine K_bast (i2 := 10) (y := 32) dX12_init_101 rfl rfl (jin (by decide +kernel)) (by decide +kernel) (by decide +kernel) ?_
  refine J_dup dX12_init_102 rfl ?_
  refine J_bipush (v := 11) dX12_init_103 (by decide +kernel) ?_
  refine J_bipush (v := 98) dX12_init_105 (by decide +kernel) ?_
  refine K_bast (i2 := 11) (y := 98) dX12_init_107 rfl rfl (jin (by decide +kernel)) (by decide +kernel) (by decide +kernel) ?_
  refine J_dup dX12_init_108 rfl ?_
  refine J_bipush (v := 12) dX12_init_109 (by decide +kernel) ?_
  refine J_bipush (v := 97) dX12_init_111 (by decide +kernel) ?_
  refine K_bast (i2 := 12) (y := 97) dX12_init_113 rfl rfl (jin (by decide +kernel)) (by decide +kernel) (by decide +kernel) ?_
  refine J_dup dX12_init_114 rfl ?_
  refine J_bipush (v := 13) dX12_init_115 (by decide +kernel) ?_
  refine J_bipush (v := 114) dX12_init_117 (by decide +kernel) ?_
  refine K_bast (i2 := 13) (y := 114) dX12_init_119 rfl rfl (jin (by decide +kernel)) (by decide +kernel) (by decide +kernel) ?_
  refine J_dup dX12_init_120 rfl ?_
  refine J_bipush (v := 14) dX12_init_121 (by decide +kernel) ?_
  refine J_bipush (v := 115) dX12_init_123 (by decide +kernel) ?_
  refine K_bast (i2 := 14) (y := 115) dX12_init_125 rfl rfl (jin (by decide +kernel)) (by decide +kernel) (by decide +kernel) ?_
  refine J_dup dX12_init_126 rfl ?_
  refine J_bipush (v := 15) dX12_init_127 (by decide +kernel) ?_
  refine J_bipush (v := 32) dX12_init_129 (by decide +kernel) ?_
  refine K_bast (i2 := 15) (y := 32) dX12_init_131 rfl rfl (jin (by decide +kernel)) (by decide +kernel) (by decide +kernel) ?_
  refine J_dup dX12_init_132 rfl ?_
  refine J_bipush (v := 16) dX12_init_133 (by decide +kernel) ?_
  refine J_bipush (v := 105) dX12_init_135 (by decide +kernel) ?_
  refine K_bast (i2 := 16) (y := 105) dX12_init_137 rfl rfl (jin (by decide +kernel)) (by decide +kernel) (by decide +kernel) ?_
  refine J_dup dX12_init_138 rfl ?_
  refine J_bipush (v := 17) dX12_init_139 (by decide +kernel) ?_
  refine J_bipush (v := 102) dX12_init_141 (by decide +kernel) ?_
  refine K_bast (i2 := 17) (y := 102) dX12_init_143 rfl rfl (jin (by decide +kernel)) (by decide +kernel) (by decide +kernel) ?_
  refine J_dup dX12_init_144 rfl ?_
  refine J_bipush (v := 18) dX12_init_145 (by decide +kernel) ?_
  refine J_bipush (v := 32) dX12_init_147 (by decide +kernel) ?_
  refine K_bast (i2 := 18) (y := 32) dX12_init_149 rfl rfl (jin (by decide +kernel)) (by decide +kernel) (by decide +kernel) ?_
  refine J_dup dX12_init_150 rfl ?_
  refine J_bipush (v := 19) dX12_init_151 (by decide +kernel) ?_
  refine J_bipush (v := 111) dX12_init_153 (by decide +kernel) ?_
  refine K_bast (i2 := 19) (y := 111) dX12_init_155 rfl rfl (jin (by decide +kernel)) (by decide +kernel) (by decide +kernel) ?_
  refine J_dup dX12_init_156 rfl ?_
  refine J_bipush (v := 20) dX12_init_157 (by decide +kernel) ?_
  refine J_bipush (v := 114) dX12_init_159 (by decide +kernel) ?_
  refine K_bast (i2 := 20) (y := 114) dX12_init_161 rfl rfl (jin (by decide +kernel)) (by decide +kernel) (by decide +kernel) ?_
  refine J_dup dX12_init_162 rfl ?_
  refine J_bipush (v := 21) dX12_init_163 (by decide +kernel) ?_
  refine J_bipush (v := 32) dX12_init_165 (by decide +kernel) ?_
  refine K_bast (i2 := 21) (y := 32) dX12_init_167 rfl rfl (jin (by decide +kernel)) (by decide +kernel) (by decide +kernel) ?_
  refine J_dup dX12_init_168 rfl ?_
  refine J_bipush (v := 22) dX12_init_169 (by decide +kernel) ?_
  refine J_bipush (v := 97) dX12_init_171 (by decide +kernel) ?_
  refine K_bast (i2 := 22) (y := 97) dX12_init_173 rfl rfl (jin (by decide +kernel)) (by decide +kernel) (by decide +kernel) ?_
  refine J_dup dX12_init_174 rfl ?_
  refine J_bipush (v := 23) dX12_init_175 (by decide +kernel) ?_
  refine J_bipush (v := 110) dX12_init_177 (by decide +kernel) ?_
  refine K_bast (i2 := 23) (y := 110) dX12_init_179 rfl rfl (jin (by decide +kernel)) (by decide +kernel) (by decide +kernel) ?_
  refine J_dup dX12_init_180 rfl ?_
  refine J_bipush (v := 24) dX12_init_181 (by decide +kernel) ?_
  refine J_bipush (v := 100) dX12_init_183 (by decide +kernel) ?_
  refine K_bast (i2 := 24) (y := 100) dX12_init_185 rfl rfl (jin (by decide +kernel)) (by decide +kernel) (by decide +kernel) ?_
  refine J_dup dX12_init_186 rfl ?_
  refine J_bipush (v := 25) dX12_init_187 (by decide +kernel) ?_
  refine J_bipush (v := 32) dX12_init_189 (by decide +kernel) ?_
  refine K_bast (i2 := 25) (y := 32) dX12_init_191 rfl rfl (jin (by decide +kernel)) (by decide +kernel) (by decide +kernel) ?_
  refine J_dup dX12_init_192 rfl ?_
  refine J_bipush (v := 26) dX12_init_193 (by decide +kernel) ?_
  refine J_bipush (v := 110) dX12_init_195 (by decide +kernel) ?_
  refine K_bast (i2 := 26) (y := 110) dX12_init_197 rfl rfl (jin (by decide +kernel)) (by decide +kernel) (by decide +kernel) ?_
  refine J_dup dX12_init_198 rfl ?_
  refine J_bipush (v := 27) dX12_init_199 (by decide +kernel) ?_
  refine J_bipush (v := 111) dX12_init_201 (by decide +kernel) ?_
  refine K_bast (i2 := 27) (y := 111) dX12_init_203 rfl rfl (jin (by decide +kernel)) (by decide +kernel) (by decide +kernel) ?_
  refine J_dup dX12_init_204 rfl ?_
  refine J_bipush (v := 28) dX12_init_205 (by decide +kernel) ?_
  refine J_bipush (v := 116) dX12_init_207 (by decide +kernel) ?_
  refine K_bast (i2 := 28) (y := 116) dX12_init_209 rfl rfl (jin (by decide +kernel)) (by decide +kernel) (by decide +kernel) ?_
  refine J_dup dX12_init_210 rfl ?_
  refine J_bipush (v := 29) dX12_init_211 (by decide +kernel) ?_
  refine J_bipush (v := 32) dX12_init_213 (by decide +kernel) ?_
  refine K_bast (i2 := 29) (y := 32) dX12_init_215 rfl rfl (jin (by decide +kernel)) (by decide +kernel) (by decide +kernel) ?_
  refine J_dup dX12_init_216 rfl ?_
  refine J_bipush (v := 30) dX12_init_217 (by decide +kernel) ?_
  refine J_bipush (v := 108) dX12_init_219 (by decide +kernel) ?_
  refine K_bast (i2 := 30) (y := 108) dX12_init_221 rfl rfl (jin (by decide +kernel)) (by decide +kernel) (by decide +kernel) ?_
  refine J_dup dX12_init_222 rfl ?_
  refine J_bipush (v := 31) dX12_init_223 (by decide +kernel) ?_
  refine J_bipush (v := 101) dX12_init_225 (by decide +kernel) ?_
  refine K_bast (i2 := 31) (y := 101) dX12_init_227 rfl rfl (jin (by decide +kernel)) (by decide +kernel) (by decide +kernel) ?_
  refine J_dup dX12_init_228 rfl ?_
  refine J_bipush (v := 32) dX12_init_229 (by decide +kernel) ?_
  refine J_bipush (v := 102) dX12_init_231 (by decide +kernel) ?_
  refine K_bast (i2 := 32) (y := 102) dX12_init_233 rfl rfl (jin (by decide +kernel)) (by decide +kernel) (by decide +kernel) ?_
  refine J_dup dX12_init_234 rfl ?_
  refine J_bipush (v := 33) dX12_init_235 (by decide +kernel) ?_
  refine J_bipush (v := 116) dX12_init_237 (by decide +kernel) ?_
  refine K_bast (i2 := 33) (y := 116) dX12_init_239 rfl rfl (jin (by decide +kernel)) (by decide +kernel) (by decide +kernel) ?_
  refine J_dup dX12_init_240 rfl ?_
  refine J_bipush (v := 34) dX12_init_241 (by decide +kernel) ?_
  refine J_bipush (v := 32) dX12_init_243 (by decide +kernel) ?_
  refine K_bast (i2 := 34) (y := 32) dX12_init_245 rfl rfl (jin (by decide +kernel)) (by decide +kernel) (by decide +kernel) ?_
  refine J_dup dX12_init_246 rfl ?_
  refine J_bipush (v := 35) dX12_init_247 (by decide +kernel) ?_
  refine J_bipush (v := 114) dX12_init_249 (by decide +kernel) ?_
  refine K_bast (i2 := 35) (y := 114) dX12_init_251 rfl rfl (jin (by decide +kernel)) (by decide +kernel) (by decide +kernel) ?_
  refine J_dup dX12_init_252 rfl ?_
  refine J_bipush (v := 36) dX12_init_253 (by decide +kernel) ?_
  refine J_bipush (v := 105) dX12_init_255 (by decide +kernel) ?_
  refine K_bast (i2 := 36) (y := 105) dX12_init_257 rfl rfl (jin (by decide +kernel)) (by decide +kernel) (by decide +kernel) ?_
  refine J_dup dX12_init_258 rfl ?_
  refine J_bipush (v := 37) dX12_init_259 (by decide +kernel) ?_
  refine J_bipush (v := 103) dX12_init_261 (by decide +kernel) ?_
  refine K_bast (i2 := 37) (y := 103) dX12_init_263 rfl rfl (jin (by decide +kernel)) (by decide +kernel) (by decide +kernel) ?_
  refine J_dup dX12_init_264 rfl ?_
  refine J_bipush (v := 38) dX12_init_265 (by decide +kernel) ?_
  refine J_bipush (v := 104) dX12_init_267 (by decide +kernel) ?_
  refine K_bast (i2 := 38) (y := 104) dX12_init_269 rfl rfl (jin (by decide +kernel)) (by decide +kernel) (by decide +kernel) ?_
  refine J_dup dX12_init_270 rfl ?_
  refine J_bipush (v := 39) dX12_init_271 (by decide +kernel) ?_
  refine J_bipush (v := 116) dX12_init_273 (by decide +kernel) ?_
  refine K_bast (i2 := 39) (y := 116) dX12_init_275 rfl rfl (jin (by decide +kernel)) (by decide +kernel) (by decide +kernel) ?_
  refine J_dup dX12_init_276 rfl ?_
  refine J_bipush (v := 40) dX12_init_277 (by decide +kernel) ?_
  refine J_bipush (v := 32) dX12_init_279 (by decide +kernel) ?_
  refine K_bast (i2 := 40) (y := 32) dX12_init_281 rfl rfl (jin (by decide +kernel)) (by decide +kernel) (by decide +kernel) ?_
  refine J_dup dX12_init_282 rfl ?_
  refine J_bipush (v := 41) dX12_init_283 (by decide +kernel) ?_
  refine J_bipush (v := 111) dX12_init_285 (by decide +kernel) ?_
  refine K_bast (i2 := 41) (y := 111) dX12_init_287 rfl rfl (jin (by decide +kernel)) (by decide +kernel) (by decide +kernel) ?_
  refine J_dup dX12_init_288 rfl ?_
  refine J_bipush (v := 42) dX12_init_289 (by decide +kernel) ?_
  refine J_bipush (v := 110) dX12_init_291 (by decide +kernel) ?_
  refine K_bast (i2 := 42) (y := 110) dX12_init_293 rfl rfl (jin (by decide +kernel)) (by decide +kernel) (by decide +kernel) ?_
  refine J_dup dX12_init_294 rfl ?_
  refine J_bipush (v := 43) dX12_init_295 (by decide +kernel) ?_
  refine J_bipush (v := 101) dX12_init_297 (by decide +kernel) ?_
  refine K_bast (i2 := 43) (y := 101) dX12_init_299 rfl rfl (jin (by decide +kernel)) (by decide +kernel) (by decide +kernel) ?_
  refine J_dup dX12_init_300 rfl ?_
  refine J_bipush (v := 44) dX12_init_301 (by decide +kernel) ?_
  refine J_bipush (v := 32) dX12_init_303 (by decide +kernel) ?_
  refine K_bast (i2 := 44) (y := 32) dX12_init_305 rfl rfl (jin (by decide +kernel)) (by decide +kernel) (by decide +kernel) ?_
  refine J_dup dX12_init_306 rfl ?_
  refine J_bipush (v := 45) dX12_init_307 (by decide +kernel) ?_
  refine J_bipush (v := 111) dX12_init_309 (by decide +kernel) ?_
  refine K_bast (i2 := 45) (y := 111) dX12_init_311 rfl rfl (jin (by decide +kernel)) (by decide +kernel) (by decide +kernel) ?_
  refine J_dup dX12_init_312 rfl ?_
  refine J_bipush (v := 46) dX12_init_313 (by decide +kernel) ?_
  refine J_bipush (v := 116) dX12_init_315 (by decide +kernel) ?_
  refine K_bast (i2 := 46) (y := 116) dX12_init_317 rfl rfl (jin (by decide +kernel)) (by decide +kernel) (by decide +kernel) ?_
  refine J_dup dX12_init_318 rfl ?_
  refine J_bipush (v := 47) dX12_init_319 (by decide +kernel) ?_
  refine J_bipush (v := 104) dX12_init_321 (by decide +kernel) ?_
  refine K_bast (i2 := 47) (y := 104) dX12_init_323 rfl rfl (jin (by decide +kernel)) (by decide +kernel) (by decide +kernel) ?_
  refine J_dup dX12_init_324 rfl ?_
  refine J_bipush (v := 48) dX12_init_325 (by decide +kernel) ?_
  refine J_bipush (v := 101) dX12_init_327 (by decide +kernel) ?_
  refine K_bast (i2 := 48) (y := 101) dX12_init_329 rfl rfl (jin (by decide +kernel)) (by decide +kernel) (by decide +kernel) ?_
  refine J_dup dX12_init_330 rfl ?_
  refine J_bipush (v := 49) dX12_init_331 (by decide +kernel) ?_
  refine J_bipush (v := 114) dX12_init_333 (by decide +kernel) ?_
  refine K_bast (i2 := 49) (y := 114) dX12_init_335 rfl rfl (jin (by decide +kernel)) (by decide +kernel) (by decide +kernel) ?_
  refine J_dup dX12_init_336 rfl ?_
  refine J_bipush (v := 50) dX12_init_337 (by decide +kernel) ?_
  refine J_bipush (v := 32) dX12_init_339 (by decide +kernel) ?_
  refine K_bast (i2 := 50) (y := 32) dX12_init_341 rfl rfl (jin (by decide +kernel)) (by decide +kernel) (by decide +kernel) ?_
  refine J_dup dX12_init_342 rfl ?_
  refine J_bipush (v := 51) dX12_init_343 (by decide +kernel) ?_
  refine J_bipush (v := 97) dX12_init_345 (by decide +kernel) ?_
  refine K_bast (i2 := 51) (y := 97) dX12_init_347 rfl rfl (jin (by decide +kernel)) (by decide +kernel) (by decide +kernel) ?_
  refine J_dup dX12_init_348 rfl ?_
  refine J_bipush (v := 52) dX12_init_349 (by decide +kernel) ?_
  refine J_bipush (v := 112) dX12_init_351 (by decide +kernel) ?_
  refine K_bast (i2 := 52) (y := 112) dX12_init_353 rfl rfl (jin (by decide +kernel)) (by decide +kernel) (by decide +kernel) ?_
  refine J_dup dX12_init_354 rfl ?_
  refine J_bipush (v := 53) dX12_init_355 (by decide +kernel) ?_
  refine J_bipush (v := 97) dX12_init_357 (by decide +kernel) ?_
  refine K_bast (i2 := 53) (y := 97) dX12_init_359 rfl rfl (jin (by decide +kernel)) (by decide +kernel) (by decide +kernel) ?_
  refine J_dup dX12_init_360 rfl ?_
  refine J_bipush (v := 54) dX12_init_361 (by decide +kernel) ?_
  refine J_bipush (v := 114) dX12_init_363 (by decide +kernel) ?_
  refine K_bast (i2 := 54) (y := 114) dX12_init_365 rfl rfl (jin (by decide +kernel)) (by decide +kernel) (by decide +kernel) ?_
  refine J_dup dX12_init_366 rfl ?_
  refine J_bipush (v := 55) dX12_init_367 (by decide +kernel) ?_
  refine J_bipush (v := 116) dX12_init_369 (by decide +kernel) ?_
  refine K_bast (i2 := 55) (y := 116) dX12_init_371 rfl rfl (jin (by decide +kernel)) (by decide +kernel) (by decide +kernel) ?_
  refine J_dup dX12_init_372 rfl ?_
  refine J_bipush (v := 56) dX12_init_373 (by decide +kernel) ?_
  refine J_bipush (v := 32) dX12_init_375 (by decide +kernel) ?_
  refine K_bast (i2 := 56) (y := 32) dX12_init_377 rfl rfl (jin (by decide +kernel)) (by decide +kernel) (by decide +kernel) ?_
  refine J_dup dX12_init_378 rfl ?_
  refine J_bipush (v := 57) dX12_init_379 (by decide +kernel) ?_
  refine J_bipush (v := 102) dX12_init_381 (by decide +kernel) ?_
  refine K_bast (i2 := 57) (y := 102) dX12_init_383 rfl rfl (jin (by decide +kernel)) (by decide +kernel) (by decide +kernel) ?_
  refine J_dup dX12_init_384 rfl ?_
  refine J_bipush (v := 58) dX12_init_385 (by decide +kernel) ?_
  refine J_bipush (v := 105) dX12_init_387 (by decide +kernel) ?_
  refine K_bast (i2 := 58) (y := 105) dX12_init_389 rfl rfl (jin (by decide +kernel)) (by decide +kernel) (by decide +kernel) ?_
  refine J_dup dX12_init_390 rfl ?_
  refine J_bipush (v := 59) dX12_init_391 (by decide +kernel) ?_
  refine J_bipush (v := 114) dX12_init_393 (by decide +kernel) ?_
  refine K_bast (i2 := 59) (y := 114) dX12_init_395 rfl rfl (jin (by decide +kernel)) (by decide +kernel) (by decide +kernel) ?_
  refine J_dup dX12_init_396 rfl ?_
  refine J_bipush (v := 60) dX12_init_397 (by decide +kernel) ?_
  refine J_bipush (v := 115) dX12_init_399 (by decide +kernel) ?_
  refine K_bast (i2 := 60) (y := 115) dX12_init_401 rfl rfl (jin (by decide +kernel)) (by decide +kernel) (by decide +kernel) ?_
  refine J_dup dX12_init_402 rfl ?_
  refine J_bipush (v := 61) dX12_init_403 (by decide +kernel) ?_
  refine J_bipush (v := 116) dX12_init_405 (by decide +kernel) ?_
  refine K_bast (i2 := 61) (y := 116) dX12_init_407 rfl rfl (jin (by decide +kernel)) (by decide +kernel) (by decide +kernel) ?_
  refine J_dup dX12_init_408 rfl ?_
  refine J_bipush (v := 62) dX12_init_409 (by decide +kernel) ?_
  refine J_bipush (v := 32) dX12_init_411 (by decide +kernel) ?_
  refine K_bast (i2 := 62) (y := 32) dX12_init_413 rfl rfl (jin (by decide +kernel)) (by decide +kernel) (by decide +kernel) ?_
  refine J_dup dX12_init_414 rfl ?_
  refine J_bipush (v := 63) dX12_init_415 (by decide +kernel) ?_
  refine J_bipush (v := 98) dX12_init_417 (by decide +kernel) ?_
  refine K_bast (i2 := 63) (y := 98) dX12_init_419 rfl rfl (jin (by decide +kernel)) (by decide +kernel) (by decide +kernel) ?_
  refine J_dup dX12_init_420 rfl ?_
  refine J_bipush (v := 64) dX12_init_421 (by decide +kernel) ?_
  refine J_bipush (v := 101) dX12_init_423 (by decide +kernel) ?_
  refine K_bast (i2 := 64) (y := 101) dX12_init_425 rfl rfl (jin (by decide +kernel)) (by decide +kernel) (by decide +kernel) ?_
  refine J_dup dX12_init_426 rfl ?_
  refine J_bipush (v := 65) dX12_init_427 (by decide +kernel) ?_
  refine J_bipush (v := 97) dX12_init_429 (by decide +kernel) ?_
  refine K_bast (i2 := 65) (y := 97) dX12_init_431 rfl rfl (jin (by decide +kernel)) (by decide +kernel) (by decide +kernel) ?_
  refine J_dup dX12_init_432 rfl ?_
  refine J_bipush (v := 66) dX12_init_433 (by decide +kernel) ?_
  refine J_bipush (v := 110) dX12_init_435 (by decide +kernel) ?_
  refine K_bast (i2 := 66) (y := 110) dX12_init_437 rfl rfl (jin (by decide +kernel)) (by decide +kernel) (by decide +kernel) ?_
  refine J_dup dX12_init_438 rfl ?_
  refine J_bipush (v := 67) dX12_init_439 (by decide +kernel) ?_
  refine J_bipush (v := 115) dX12_init_441 (by decide +kernel) ?_
  refine K_bast (i2 := 67) (y := 115) dX12_init_443 rfl rfl (jin (by decide +kernel)) (by decide +kernel) (by decide +kernel) ?_
  refine J_dup dX12_init_444 rfl ?_
  refine J_bipush (v := 68) dX12_init_445 (by decide +kernel) ?_
  refine J_bipush (v := 32) dX12_init_447 (by decide +kernel) ?_
  refine K_bast (i2 := 68) (y := 32) dX12_init_449 rfl rfl (jin (by decide +kernel)) (by decide +kernel) (by decide +kernel) ?_
  refine J_dup dX12_init_450 rfl ?_
  refine J_bipush (v := 69) dX12_init_451 (by decide +kernel) ?_
  refine J_bipush (v := 100) dX12_init_453 (by decide +kernel) ?_
  refine K_bast (i2 := 69) (y := 100) dX12_init_455 rfl rfl (jin (by decide +kernel)) (by decide +kernel) (by decide +kernel) ?_
  refine J_dup dX12_init_456 rfl ?_
  refine J_bipush (v := 70) dX12_init_457 (by decide +kernel) ?_
  refine J_bipush (v := 97) dX12_init_459 (by decide +kernel) ?_
  refine K_bast (i2 := 70) (y := 97) dX12_init_461 rfl rfl (jin (by decide +kernel)) (by decide +kernel) (by decide +kernel) ?_
  refine J_dup dX12_init_462 rfl ?_
  refine J_bipush (v := 71) dX12_init_463 (by decide +kernel) ?_
  refine J_bipush (v := 121) dX12_init_465 (by decide +kernel) ?_
  refine K_bast (i2 := 71) (y := 121) dX12_init_467 rfl rfl (jin (by decide +kernel)) (by decide +kernel) (by decide +kernel) ?_
  refine J_dup dX12_init_468 rfl ?_
  refine J_bipush (v := 72) dX12_init_469 (by decide +kernel) ?_
  refine J_bipush (v := 32) dX12_init_471 (by decide +kernel) ?_
  refine K_bast (i2 := 72) (y := 32) dX12_init_473 rfl rfl (jin (by decide +kernel)) (by decide +kernel) (by decide +kernel) ?_
  refine K_putF (fs2 := [.int 0, .int 0, .ref 99, .ref 100, .ref 101, .ref 102, .ref 103, .null, .null, .int 0, .int 0, .null, .null, .null, .int 0, .int 0, .int 0, .int 0, .int 0, .int 0, .int 0, .null, .int 0, .int 0, .null, .null, .null, .null, .null, .null, .null, .null, .int 0, .int 0, .int 0, .int 0, .null, .null, .null, .null, .null, .null, .null, .null, .null, .null, .null, .null, .int 0, .null, .null, .null, .null, .null, .int 0, .int 0]) dX12_init_474 rfl fw_X12_30 rfl (Nat.le_of_ble_eq_true rfl) (fun _ => ⟨rfl, rfl⟩) rfl ?_
  refine J_aload_n dX12_init_477 rfl rfl ?_
  refine J_sipush (v := 400) dX12_init_478 (by decide +kernel) ?_
  refine K_newa (t := 3) (N := 400) (a0 := (400, .inl (fun _ => 0))) (nh2 := 105) (ck2 := 6) (sk2 := 15092) dX12_init_481 rfl (jt4 54 rfl rfl) rfl (fun _ _ h9 => h9) (fun _ => rfl) (fun _ => rfl) (by decide +kernel) (by decide +kernel) (Nat.le_of_ble_eq_true rfl) (Nat.le_of_ble_eq_true rfl) (Nat.le_of_ble_eq_true rfl) rfl rfl rfl ?_
  refine K_putF (fs2 := [.int 0, .int 0, .ref 99, .ref 100, .ref 101, .ref 102, .ref 103, .ref 104, .null, .int 0, .int 0, .null, .null, .null, .int 0, .int 0, .int 0, .int 0, .int 0, .int 0, .int 0, .null, .int 0, .int 0, .null, .null, .null, .null, .null, .null, .null, .null, .int 0, .int 0, .int 0, .int 0, .null, .null, .null, .null, .null, .null, .null, .null, .null, .null, .null, .null, .int 0, .null, .null, .null, .null, .null, .int 0, .int 0]) dX12_init_483 rfl fw_X12_34 rfl (Nat.le_of_ble_eq_true rfl) (fun _ => ⟨rfl, rfl⟩) rfl ?_
  refine J_aload_n dX12_init_486 rfl rfl ?_
  refine J_iconst (v := 5) dX12_init_487 (by decide) ?_
  refine K_newa (t := 0) (N := 5) (a0 := (5, .inl (fun _ => 0))) (nh2 := 106) (ck2 := 7) (sk2 := 15097) dX12_init_488 rfl (jt1 98 rfl rfl) rfl (fun _ _ h9 => h9) (fun _ => rfl) (fun _ => rfl) (by decide +kernel) (by decide +kernel) (Nat.le_of_ble_eq_true rfl) (Nat.le_of_ble_eq_true rfl) (Nat.le_of_ble_eq_true rfl) rfl rfl rfl ?_
  refine K_putF (fs2 := [.int 0, .int 0, .ref 99, .ref 100, .ref 101, .ref 102, .ref 103, .ref 104, .ref 105, .int 0, .int 0, .null, .null, .null, .int 0, .int 0, .int 0, .int 0, .int 0, .int 0, .int 0, .null, .int 0, .int 0, .null, .null, .null, .null, .null, .null, .null, .null, .int 0, .int 0, .int 0, .int 0, .null, .null, .null, .null, .null, .null, .null, .null, .null, .null, .null, .null, .int 0, .null, .null, .null, .null, .null, .int 0, .int 0]) dX12_init_490 rfl fw_X12_37 rfl (Nat.le_of_ble_eq_true rfl) (fun _ => ⟨rfl, rfl⟩) rfl ?_
  refine J_aload_n dX12_init_493 rfl rfl ?_
  refine J_iconst (v := (-1)) dX12_init_494 (by decide) ?_
  refine K_put (fs2 := [.int 0, .int 0, .ref 99, .ref 100, .ref 101, .ref 102, .ref 103, .ref 104, .ref 105, .int 0, .int (-1), .null, .null, .null, .int 0, .int 0, .int 0, .int 0, .int 0, .int 0, .int 0, .null, .int 0, .int 0, .null, .null, .null, .null, .null, .null, .null, .null, .int 0, .int 0, .int 0, .int 0, .null, .null, .null, .null, .null, .null, .null, .null, .null, .null, .null, .null, .int 0, .null, .null, .null, .null, .null, .int 0, .int 0]) dX12_init_495 fw_X12_40 rfl (Nat.le_of_ble_eq_true rfl) (fun _ => ⟨rfl, rfl⟩) rfl ?_
  refine J_aload_n dX12_init_498 rfl rfl ?_
  refine J_sipush (v := 401) dX12_init_499 (by decide +kernel) ?_
  refine K_newa (t := 0) (N := 401) (a0 := (401, .inl (fun _ => 0))) (nh2 := 107) (ck2 := 8) (sk2 := 15498) dX12_init_502 rfl (jt1 98 rfl rfl) rfl (fun _ _ h9 => h9) (fun _ => rfl) (fun _ => rfl) (by decide +kernel) (by decide +kernel) (Nat.le_of_ble_eq_true rfl) (Nat.le_of_ble_eq_true rfl) (Nat.le_of_ble_eq_true rfl) rfl rfl rfl ?_
  refine K_putF (fs2 := [.int 0, .int 0, .ref 99, .ref 100, .ref 101, .ref 102, .ref 103, .ref 104, .ref 105, .int 0, .int (-1), .ref 106, .null, .null, .int 0, .int 0, .int 0, .int 0, .int 0, .int 0, .int 0, .null, .int 0, .int 0, .null, .null, .null, .null, .null, .null, .null, .null, .int 0, .int 0, .int 0, .int 0, .null, .null, .null, .null, .null, .null, .null, .null, .null, .null, .null, .null, .int 0, .null, .null, .null, .null, .null, .int 0, .int 0]) dX12_init_504 rfl fw_X12_43 rfl (Nat.le_of_ble_eq_true rfl) (fun _ => ⟨rfl, rfl⟩) rfl ?_
  refine J_aload_n dX12_init_507 rfl rfl ?_
  refine J_sipush (v := 401) dX12_init_508 (by decide +kernel) ?_
  refine K_newa (t := 0) (N := 401) (a0 := (401, .inl (fun _ => 0))) (nh2 := 108) (ck2 := 9) (sk2 := 15899) dX12_init_511 rfl (jt1 98 rfl rfl) rfl (fun _ _ h9 => h9) (fun _ => rfl) (fun _ => rfl) (by decide +kernel) (by decide +kernel) (Nat.le_of_ble_eq_true rfl) (Nat.le_of_ble_eq_true rfl) (Nat.le_of_ble_eq_true rfl) rfl rfl rfl ?_
  refine K_putF (fs2 := [.int 0, .int 0, .ref 99, .ref 100, .ref 101, .ref 102, .ref 103, .ref 104, .ref 105, .int 0, .int (-1), .ref 106, .ref 107, .null, .int 0, .int 0, .int 0, .int 0, .int 0, .int 0, .int 0, .null, .int 0, .int 0, .null, .null, .null, .null, .null, .null, .null, .null, .int 0, .int 0, .int 0, .int 0, .null, .null, .null, .null, .null, .null, .null, .null, .null, .null, .null, .null, .int 0, .null, .null, .null, .null, .null, .int 0, .int 0]) dX12_init_513 rfl fw_X12_46 rfl (Nat.le_of_ble_eq_true rfl) (fun _ => ⟨rfl, rfl⟩) rfl ?_
  refine J_aload_n dX12_init_516 rfl rfl ?_
  refine J_sipush (v := 401) dX12_init_517 (by decide +kernel) ?_
  refine K_newa (t := 0) (N := 401) (a0 := (401, .inl (fun _ => 0))) (nh2 := 109) (ck2 := 10) (sk2 := 16300) dX12_init_520 rfl (jt1 98 rfl rfl) rfl (fun _ _ h9 => h9) (fun _ => rfl) (fun _ => rfl) (by decide +kernel) (by decide +kernel) (Nat.le_of_ble_eq_true rfl) (Nat.le_of_ble_eq_true rfl) (Nat.le_of_ble_eq_true rfl) rfl rfl rfl ?_
  refine K_putF (fs2 := [.int 0, .int 0, .ref 99, .ref 100, .ref 101, .ref 102, .ref 103, .ref 104, .ref 105, .int 0, .int (-1), .ref 106, .ref 107, .ref 108, .int 0, .int 0, .int 0, .int 0, .int 0, .int 0, .int 0, .null, .int 0, .int 0, .null, .null, .null, .null, .null, .null, .null, .null, .int 0, .int 0, .int 0, .int 0, .null, .null, .null, .null, .null, .null, .null, .null, .null, .null, .null, .null, .int 0, .null, .null, .null, .null, .null, .int 0, .int 0]) dX12_init_522 rfl fw_X12_49 rfl (Nat.le_of_ble_eq_true rfl) (fun _ => ⟨rfl, rfl⟩) rfl ?_
  refine J_aload_n dX12_init_525 rfl rfl ?_
  refine J_bipush (v := 8) dX12_init_526 (by decide +kernel) ?_
  refine K_newa (t := 0) (N := 8) (a0 := (8, .inl (fun _ => 0))) (nh2 := 110) (ck2 := 11) (sk2 := 16308) dX12_init_528 rfl (jt1 98 rfl rfl) rfl (fun _ _ h9 => h9) (fun _ => rfl) (fun _ => rfl) (by decide +kernel) (by decide +kernel) (Nat.le_of_ble_eq_true rfl) (Nat.le_of_ble_eq_true rfl) (Nat.le_of_ble_eq_true rfl) rfl rfl rfl ?_
  refine K_putF (fs2 := [.int 0, .int 0, .ref 99, .ref 100, .ref 101, .ref 102, .ref 103, .ref 104, .ref 105, .int 0, .int (-1), .ref 106, .ref 107, .ref 108, .int 0, .int 0, .int 0, .int 0, .int 0, .int 0, .int 0, .ref 109, .int 0, .int 0, .null, .null, .null, .null, .null, .null, .null, .null, .int 0, .int 0, .int 0, .int 0, .null, .null, .null, .null, .null, .null, .null, .null, .null, .null, .null, .null, .int 0, .null, .null, .null, .null, .null, .int 0, .int 0]) dX12_init_530 rfl fw_X12_52 rfl (Nat.le_of_ble_eq_true rfl) (fun _ => ⟨rfl, rfl⟩) rfl ?_
  refine J_aload_n dX12_init_533 rfl rfl ?_
  refine J_sipush (v := 8820) dX12_init_534 (by decide +kernel) ?_
  refine K_newa (t := 0) (N := 8820) (a0 := (8820, .inl (fun _ => 0))) (nh2 := 111) (ck2 := 12) (sk2 := 25128) dX12_init_537 rfl (jt1 98 rfl rfl) rfl (fun _ _ h9 => h9) (fun _ => rfl) (fun _ => rfl) (by decide +kernel) (by decide +kernel) (Nat.le_of_ble_eq_true rfl) (Nat.le_of_ble_eq_true rfl) (Nat.le_of_ble_eq_true rfl) rfl rfl rfl ?_
  refine K_putF (fs2 := [.int 0, .int 0, .ref 99, .ref 100, .ref 101, .ref 102, .ref 103, .ref 104, .ref 105, .int 0, .int (-1), .ref 106, .ref 107, .ref 108, .int 0, .int 0, .int 0, .int 0, .int 0, .int 0, .int 0, .ref 109, .int 0, .int 0, .ref 110, .null, .null, .null, .null, .null, .null, .null, .int 0, .int 0, .int 0, .int 0, .null, .null, .null, .null, .null, .null, .null, .null, .null, .null, .null, .null, .int 0, .null, .null, .null, .null, .null, .int 0, .int 0]) dX12_init_539 rfl fw_X12_55 rfl (Nat.le_of_ble_eq_true rfl) (fun _ => ⟨rfl, rfl⟩) rfl ?_
  refine J_aload_n dX12_init_542 rfl rfl ?_
  refine J_sipush (v := 1260) dX12_init_543 (by decide +kernel) ?_
  refine K_newa (t := 0) (N := 1260) (a0 := (1260, .inl (fun _ => 0))) (nh2 := 112) (ck2 := 13) (sk2 := 26388) dX12_init_546 rfl (jt1 98 rfl rfl) rfl (fun _ _ h9 => h9) (fun _ => rfl) (fun _ => rfl) (by decide +kernel) (by decide +kernel) (Nat.le_of_ble_eq_true rfl) (Nat.le_of_ble_eq_true rfl) (Nat.le_of_ble_eq_true rfl) rfl rfl rfl ?_
  refine K_putF (fs2 := [.int 0, .int 0, .ref 99, .ref 100, .ref 101, .ref 102, .ref 103, .ref 104, .ref 105, .int 0, .int (-1), .ref 106, .ref 107, .ref 108, .int 0, .int 0, .int 0, .int 0, .int 0, .int 0, .int 0, .ref 109, .int 0, .int 0, .ref 110, .ref 111, .null, .null, .null, .null, .null, .null, .int 0, .int 0, .int 0, .int 0, .null, .null, .null, .null, .null, .null, .null, .null, .null, .null, .null, .null, .int 0, .null, .null, .null, .null, .null, .int 0, .int 0]) dX12_init_548 rfl fw_X12_58 rfl (Nat.le_of_ble_eq_true rfl) (fun _ => ⟨rfl, rfl⟩) rfl ?_
  refine J_aload_n dX12_init_551 rfl rfl ?_
  refine J_sipush (v := 27720) dX12_init_552 (by decide +kernel) ?_
  refine K_newa (t := 0) (N := 27720) (a0 := (27720, .inl (fun _ => 0))) (nh2 := 113) (ck2 := 14) (sk2 := 54108) dX12_init_555 rfl (jt1 98 rfl rfl) rfl (fun _ _ h9 => h9) (fun _ => rfl) (fun _ => rfl) (by decide +kernel) (by decide +kernel) (Nat.le_of_ble_eq_true rfl) (Nat.le_of_ble_eq_true rfl) (Nat.le_of_ble_eq_true rfl) rfl rfl rfl ?_
  refine K_putF (fs2 := [.int 0, .int 0, .ref 99, .ref 100, .ref 101, .ref 102, .ref 103, .ref 104, .ref 105, .int 0, .int (-1), .ref 106, .ref 107, .ref 108, .int 0, .int 0, .int 0, .int 0, .int 0, .int 0, .int 0, .ref 109, .int 0, .int 0, .ref 110, .ref 111, .ref 112, .null, .null, .null, .null, .null, .int 0, .int 0, .int 0, .int 0, .null, .null, .null, .null, .null, .null, .null, .null, .null, .null, .null, .null, .int 0, .null, .null, .null, .null, .null, .int 0, .int 0]) dX12_init_557 rfl fw_X12_61 rfl (Nat.le_of_ble_eq_true rfl) (fun _ => ⟨rfl, rfl⟩) rfl ?_
  refine J_aload_n dX12_init_560 rfl rfl ?_
  refine J_sipush (v := 27720) dX12_init_561 (by decide +kernel) ?_
  refine K_newa (t := 0) (N := 27720) (a0 := (27720, .inl (fun _ => 0))) (nh2 := 114) (ck2 := 15) (sk2 := 81828) dX12_init_564 rfl (jt1 98 rfl rfl) rfl (fun _ _ h9 => h9) (fun _ => rfl) (fun _ => rfl) (by decide +kernel) (by decide +kernel) (Nat.le_of_ble_eq_true rfl) (Nat.le_of_ble_eq_true rfl) (Nat.le_of_ble_eq_true rfl) rfl rfl rfl ?_
  refine K_putF (fs2 := [.int 0, .int 0, .ref 99, .ref 100, .ref 101, .ref 102, .ref 103, .ref 104, .ref 105, .int 0, .int (-1), .ref 106, .ref 107, .ref 108, .int 0, .int 0, .int 0, .int 0, .int 0, .int 0, .int 0, .ref 109, .int 0, .int 0, .ref 110, .ref 111, .ref 112, .ref 113, .null, .null, .null, .null, .int 0, .int 0, .int 0, .int 0, .null, .null, .null, .null, .null, .null, .null, .null, .null, .null, .null, .null, .int 0, .null, .null, .null, .null, .null, .int 0, .int 0]) dX12_init_566 rfl fw_X12_64 rfl (Nat.le_of_ble_eq_true rfl) (fun _ => ⟨rfl, rfl⟩) rfl ?_
  refine J_aload_n dX12_init_569 rfl rfl ?_
  refine J_sipush (v := 1260) dX12_init_570 (by decide +kernel) ?_
  refine K_newa (t := 0) (N := 1260) (a0 := (1260, .inl (fun _ => 0))) (nh2 := 115) (ck2 := 16) (sk2 := 83088) dX12_init_573 rfl (jt1 98 rfl rfl) rfl (fun _ _ h9 => h9) (fun _ => rfl) (fun _ => rfl) (by decide +kernel) (by decide +kernel) (Nat.le_of_ble_eq_true rfl) (Nat.le_of_ble_eq_true rfl) (Nat.le_of_ble_eq_true rfl) rfl rfl rfl ?_
  refine K_putF (fs2 := [.int 0, .int 0, .ref 99, .ref 100, .ref 101, .ref 102, .ref 103, .ref 104, .ref 105, .int 0, .int (-1), .ref 106, .ref 107, .ref 108, .int 0, .int 0, .int 0, .int 0, .int 0, .int 0, .int 0, .ref 109, .int 0, .int 0, .ref 110, .ref 111, .ref 112, .ref 113, .ref 114, .null, .null, .null, .int 0, .int 0, .int 0, .int 0, .null, .null, .null, .null, .null, .null, .null, .null, .null, .null, .null, .null, .int 0, .null, .null, .null, .null, .null, .int 0, .int 0]) dX12_init_575 rfl fw_X12_67 rfl (Nat.le_of_ble_eq_true rfl) (fun _ => ⟨rfl, rfl⟩) rfl ?_
  refine J_aload_n dX12_init_578 rfl rfl ?_
  refine J_sipush (v := 27720) dX12_init_579 (by decide +kernel) ?_
  refine K_newa (t := 0) (N := 27720) (a0 := (27720, .inl (fun _ => 0))) (nh2 := 116) (ck2 := 17) (sk2 := 110808) dX12_init_582 rfl (jt1 98 rfl rfl) rfl (fun _ _ h9 => h9) (fun _ => rfl) (fun _ => rfl) (by decide +kernel) (by decide +kernel) (Nat.le_of_ble_eq_true rfl) (Nat.le_of_ble_eq_true rfl) (Nat.le_of_ble_eq_true rfl) rfl rfl rfl ?_
  refine K_putF (fs2 := [.int 0, .int 0, .ref 99, .ref 100, .ref 101, .ref 102, .ref 103, .ref 104, .ref 105, .int 0, .int (-1), .ref 106, .ref 107, .ref 108, .int 0, .int 0, .int 0, .int 0, .int 0, .int 0, .int 0, .ref 109, .int 0, .int 0, .ref 110, .ref 111, .ref 112, .ref 113, .ref 114, .ref 115, .null, .null, .int 0, .int 0, .int 0, .int 0, .null, .null, .null, .null, .null, .null, .null, .null, .null, .null, .null, .null, .int 0, .null, .null, .null, .null, .null, .int 0, .int 0]) dX12_init_584 rfl fw_X12_70 rfl (Nat.le_of_ble_eq_true rfl) (fun _ => ⟨rfl, rfl⟩) rfl ?_
  refine J_aload_n dX12_init_587 rfl rfl ?_
  refine J_sipush (v := 1260) dX12_init_588 (by decide +kernel) ?_
  refine K_newa (t := 0) (N := 1260) (a0 := (1260, .inl (fun _ => 0))) (nh2 := 117) (ck2 := 18) (sk2 := 112068) dX12_init_591 rfl (jt1 98 rfl rfl) rfl (fun _ _ h9 => h9) (fun _ => rfl) (fun _ => rfl) (by decide +kernel) (by decide +kernel) (Nat.le_of_ble_eq_true rfl) (Nat.le_of_ble_eq_true rfl) (Nat.le_of_ble_eq_true rfl) rfl rfl rfl ?_
  refine K_putF (fs2 := [.int 0, .int 0, .ref 99, .ref 100, .ref 101, .ref 102, .ref 103, .ref 104, .ref 105, .int 0, .int (-1), .ref 106, .ref 107, .ref 108, .int 0, .int 0, .int 0, .int 0, .int 0, .int 0, .int 0, .ref 109, .int 0, .int 0, .ref 110, .ref 111, .ref 112, .ref 113, .ref 114, .ref 115, .ref 116, .null, .int 0, .int 0, .int 0, .int 0, .null, .null, .null, .null, .null, .null, .null, .null, .null, .null, .null, .null, .int 0, .null, .null, .null, .null, .null, .int 0, .int 0]) dX12_init_593 rfl fw_X12_73 rfl (Nat.le_of_ble_eq_true rfl) (fun _ => ⟨rfl, rfl⟩) rfl ?_
  refine J_aload_n dX12_init_596 rfl rfl ?_
  refine J_bipush (v := 7) dX12_init_597 (by decide +kernel) ?_
  refine K_newa (t := 0) (N := 7) (a0 := (7, .inl (fun _ => 0))) (nh2 := 118) (ck2 := 19) (sk2 := 112075) dX12_init_599 rfl (jt1 98 rfl rfl) rfl (fun _ _ h9 => h9) (fun _ => rfl) (fun _ => rfl) (by decide +kernel) (by decide +kernel) (Nat.le_of_ble_eq_true rfl) (Nat.le_of_ble_eq_true rfl) (Nat.le_of_ble_eq_true rfl) rfl rfl rfl ?_
  refine K_putF (fs2 := [.int 0, .int 0, .ref 99, .ref 100, .ref 101, .ref 102, .ref 103, .ref 104, .ref 105, .int 0, .int (-1), .ref 106, .ref 107, .ref 108, .int 0, .int 0, .int 0, .int 0, .int 0, .int 0, .int 0, .ref 109, .int 0, .int 0, .ref 110, .ref 111, .ref 112, .ref 113, .ref 114, .ref 115, .ref 116, .ref 117, .int 0, .int 0, .int 0, .int 0, .null, .null, .null, .null, .null, .null, .null, .null, .null, .null, .null, .null, .int 0, .null, .null, .null, .null, .null, .int 0, .int 0]) dX12_init_601 rfl fw_X12_76 rfl (Nat.le_of_ble_eq_true rfl) (fun _ => ⟨rfl, rfl⟩) rfl ?_
  refine J_aload_n dX12_init_604 rfl rfl ?_
  refine J_iconst (v := (-1)) dX12_init_605 (by decide) ?_
  refine K_put (fs2 := [.int 0, .int 0, .ref 99, .ref 100, .ref 101, .ref 102, .ref 103, .ref 104, .ref 105, .int 0, .int (-1), .ref 106, .ref 107, .ref 108, .int 0, .int 0, .int 0, .int 0, .int 0, .int 0, .int 0, .ref 109, .int 0, .int 0, .ref 110, .ref 111, .ref 112, .ref 113, .ref 114, .ref 115, .ref 116, .ref 117, .int 0, .int 0, .int (-1), .int 0, .null, .null, .null, .null, .null, .null, .null, .null, .null, .null, .null, .null, .int 0, .null, .null, .null, .null, .null, .int 0, .int 0]) dX12_init_606 fw_X12_79 rfl (Nat.le_of_ble_eq_true rfl) (fun _ => ⟨rfl, rfl⟩) rfl ?_
  refine J_aload_n dX12_init_609 rfl rfl ?_
  refine J_iconst (v := (-1)) dX12_init_610 (by decide) ?_
  refine K_put (fs2 := [.int 0, .int 0, .ref 99, .ref 100, .ref 101, .ref 102, .ref 103, .ref 104, .ref 105, .int 0, .int (-1), .ref 106, .ref 107, .ref 108, .int 0, .int 0, .int 0, .int 0, .int 0, .int 0, .int 0, .ref 109, .int 0, .int 0, .ref 110, .ref 111, .ref 112, .ref 113, .ref 114, .ref 115, .ref 116, .ref 117, .int 0, .int 0, .int (-1), .int (-1), .null, .null, .null, .null, .null, .null, .null, .null, .null, .null, .null, .null, .int 0, .null, .null, .null, .null, .null, .int 0, .int 0]) dX12_init_611 fw_X12_82 rfl (Nat.le_of_ble_eq_true rfl) (fun _ => ⟨rfl, rfl⟩) rfl ?_
  refine J_aload_n dX12_init_614 rfl rfl ?_
  refine J_sipush (v := 1260) dX12_init_615 (by decide +kernel) ?_
  refine K_newa (t := 0) (N := 1260) (a0 := (1260, .inl (fun _ => 0))) (nh2 := 119) (ck2 := 20) (sk2 := 113335) dX12_init_618 rfl (jt1 98 rfl rfl) rfl (fun _ _ h9 => h9) (fun _ => rfl) (fun _ => rfl) (by decide +kernel) (by decide +kernel) (Nat.le_of_ble_eq_true rfl) (Nat.le_of_ble_eq_true rfl) (Nat.le_of_ble_eq_true rfl) rfl rfl rfl ?_
  refine K_putF (fs2 := [.int 0, .int 0, .ref 99, .ref 100, .ref 101, .ref 102, .ref 103, .ref 104, .ref 105, .int 0, .int (-1), .ref 106, .ref 107, .ref 108, .int 0, .int 0, .int 0, .int 0, .int 0, .int 0, .int 0, .ref 109, .int 0, .int 0, .ref 110, .ref 111, .ref 112, .ref 113, .ref 114, .ref 115, .ref 116, .ref 117, .int 0, .int 0, .int (-1), .int (-1), .ref 118, .null, .null, .null, .null, .null, .null, .null, .null, .null, .null, .null, .int 0, .null, .null, .null, .null, .null, .int 0, .int 0]) dX12_init_620 rfl fw_X12_85 rfl (Nat.le_of_ble_eq_true rfl) (fun _ => ⟨rfl, rfl⟩) rfl ?_
  refine J_aload_n dX12_init_623 rfl rfl ?_
  refine J_sipush (v := 1260) dX12_init_624 (by decide +kernel) ?_
  refine K_newa (t := 1) (N := 1260) (a0 := (1260, .inr (.inl (fun _ => 0)))) (nh2 := 120) (ck2 := 21) (sk2 := 114595) dX12_init_627 rfl (jt1 194 rfl rfl) rfl (fun _ _ h9 => h9) (fun _ => rfl) (fun _ => rfl) (by decide +kernel) (by decide +kernel) (Nat.le_of_ble_eq_true rfl) (Nat.le_of_ble_eq_true rfl) (Nat.le_of_ble_eq_true rfl) rfl rfl rfl ?_
  refine K_putF (fs2 := [.int 0, .int 0, .ref 99, .ref 100, .ref 101, .ref 102, .ref 103, .ref 104, .ref 105, .int 0, .int (-1), .ref 106, .ref 107, .ref 108, .int 0, .int 0, .int 0, .int 0, .int 0, .int 0, .int 0, .ref 109, .int 0, .int 0, .ref 110, .ref 111, .ref 112, .ref 113, .ref 114, .ref 115, .ref 116, .ref 117, .int 0, .int 0, .int (-1), .int (-1), .ref 118, .ref 119, .null, .null, .null, .null, .null, .null, .null, .null, .null, .null, .int 0, .null, .null, .null, .null, .null, .int 0, .int 0]) dX12_init_629 rfl fw_X12_88 rfl (Nat.le_of_ble_eq_true rfl) (fun _ => ⟨rfl, rfl⟩) rfl ?_
  refine J_aload_n dX12_init_632 rfl rfl ?_
  refine J_sipush (v := 1260) dX12_init_633 (by decide +kernel) ?_
  refine K_newa (t := 0) (N := 1260) (a0 := (1260, .inl (fun _ => 0))) (nh2 := 121) (ck2 := 22) (sk2 := 115855) dX12_init_636 rfl (jt1 98 rfl rfl) rfl (fun _ _ h9 => h9) (fun _ => rfl) (fun _ => rfl) (by decide +kernel) (by decide +kernel) (Nat.le_of_ble_eq_true rfl) (Nat.le_of_ble_eq_true rfl) (Nat.le_of_ble_eq_true rfl) rfl rfl rfl ?_
  refine K_putF (fs2 := [.int 0, .int 0, .ref 99, .ref 100, .ref 101, .ref 102, .ref 103, .ref 104, .ref 105, .int 0, .int (-1), .ref 106, .ref 107, .ref 108, .int 0, .int 0, .int 0, .int 0, .int 0, .int 0, .int 0, .ref 109, .int 0, .int 0, .ref 110, .ref 111, .ref 112, .ref 113, .ref 114, .ref 115, .ref 116, .ref 117, .int 0, .int 0, .int (-1), .int (-1), .ref 118, .ref 119, .ref 120, .null, .null, .null, .null, .null, .null, .null, .null, .null, .int 0, .null, .null, .null, .null, .null, .int 0, .int 0]) dX12_init_638 rfl fw_X12_92 rfl (Nat.le_of_ble_eq_true rfl) (fun _ => ⟨rfl, rfl⟩) rfl ?_
  refine J_aload_n dX12_init_641 rfl rfl ?_
  refine J_sipush (v := 1260) dX12_init_642 (by decide +kernel) ?_
  refine K_newa (t := 0) (N := 1260) (a0 := (1260, .inl (fun _ => 0))) (nh2 := 122) (ck2 := 23) (sk2 := 117115) dX12_init_645 rfl (jt1 98 rfl rfl) rfl (fun _ _ h9 => h9) (fun _ => rfl) (fun _ => rfl) (by decide +kernel) (by decide +kernel) (Nat.le_of_ble_eq_true rfl) (Nat.le_of_ble_eq_true rfl) (Nat.le_of_ble_eq_true rfl) rfl rfl rfl ?_
  refine K_putF (fs2 := [.int 0, .int 0, .ref 99, .ref 100, .ref 101, .ref 102, .ref 103, .ref 104, .ref 105, .int 0, .int (-1), .ref 106, .ref 107, .ref 108, .int 0, .int 0, .int 0, .int 0, .int 0, .int 0, .int 0, .ref 109, .int 0, .int 0, .ref 110, .ref 111, .ref 112, .ref 113, .ref 114, .ref 115, .ref 116, .ref 117, .int 0, .int 0, .int (-1), .int (-1), .ref 118, .ref 119, .ref 120, .ref 121, .null, .null, .null, .null, .null, .null, .null, .null, .int 0, .null, .null, .null, .null, .null, .int 0, .int 0]) dX12_init_647 rfl fw_X12_95 rfl (Nat.le_of_ble_eq_true rfl) (fun _ => ⟨rfl, rfl⟩) rfl ?_
  refine J_aload_n dX12_init_650 rfl rfl ?_
  refine J_sipush (v := 1260) dX12_init_651 (by decide +kernel) ?_
  refine K_newa (t := 2) (N := 1260) (a0 := (1260, .inl (fun _ => 0))) (nh2 := 123) (ck2 := 24) (sk2 := 118375) dX12_init_654 rfl (jt1 119 rfl rfl) rfl (fun _ _ h9 => h9) (fun _ => rfl) (fun _ => rfl) (by decide +kernel) (by decide +kernel) (Nat.le_of_ble_eq_true rfl) (Nat.le_of_ble_eq_true rfl) (Nat.le_of_ble_eq_true rfl) rfl rfl rfl ?_
  refine K_putF (fs2 := [.int 0, .int 0, .ref 99, .ref 100, .ref 101, .ref 102, .ref 103, .ref 104, .ref 105, .int 0, .int (-1), .ref 106, .ref 107, .ref 108, .int 0, .int 0, .int 0, .int 0, .int 0, .int 0, .int 0, .ref 109, .int 0, .int 0, .ref 110, .ref 111, .ref 112, .ref 113, .ref 114, .ref 115, .ref 116, .ref 117, .int 0, .int 0, .int (-1), .int (-1), .ref 118, .ref 119, .ref 120, .ref 121, .ref 122, .null, .null, .null, .null, .null, .null, .null, .int 0, .null, .null, .null, .null, .null, .int 0, .int 0]) dX12_init_656 rfl fw_X12_98 rfl (Nat.le_of_ble_eq_true rfl) (fun _ => ⟨rfl, rfl⟩) rfl ?_
  refine J_aload_n dX12_init_659 rfl rfl ?_
  refine J_sipush (v := 1260) dX12_init_660 (by decide +kernel) ?_
  refine K_newa (t := 0) (N := 1260) (a0 := (1260, .inl (fun _ => 0))) (nh2 := 124) (ck2 := 25) (sk2 := 119635) dX12_init_663 rfl (jt1 98 rfl rfl) rfl (fun _ _ h9 => h9) (fun _ => rfl) (fun _ => rfl) (by decide +kernel) (by decide +kernel) (Nat.le_of_ble_eq_true rfl) (Nat.le_of_ble_eq_true rfl) (Nat.le_of_ble_eq_true rfl) rfl rfl rfl ?_
  refine K_putF (fs2 := [.int 0, .int 0, .ref 99, .ref 100, .ref 101, .ref 102, .ref 103, .ref 104, .ref 105, .int 0, .int (-1), .ref 106, .ref 107, .ref 108, .int 0, .int 0, .int 0, .int 0, .int 0, .int 0, .int 0, .ref 109, .int 0, .int 0, .ref 110, .ref 111, .ref 112, .ref 113, .ref 114, .ref 115, .ref 116, .ref 117, .int 0, .int 0, .int (-1), .int (-1), .ref 118, .ref 119, .ref 120, .ref 121, .ref 122, .ref 123, .null, .null, .null, .null, .null, .null, .int 0, .null, .null, .null, .null, .null, .int 0, .int 0]) dX12_init_665 rfl fw_X12_101 rfl (Nat.le_of_ble_eq_true rfl) (fun _ => ⟨rfl, rfl⟩) rfl ?_
  refine J_aload_n dX12_init_668 rfl rfl ?_
  refine J_sipush (v := 27720) dX12_init_669 (by decide +kernel) ?_
  refine K_newa (t := 2) (N := 27720) (a0 := (27720, .inl (fun _ => 0))) (nh2 := 125) (ck2 := 26) (sk2 := 147355) dX12_init_672 rfl (jt1 119 rfl rfl) rfl (fun _ _ h9 => h9) (fun _ => rfl) (fun _ => rfl) (by decide +kernel) (by decide +kernel) (Nat.le_of_ble_eq_true rfl) (Nat.le_of_ble_eq_true rfl) (Nat.le_of_ble_eq_true rfl) rfl rfl rfl ?_
  refine K_putF (fs2 := [.int 0, .int 0, .ref 99, .ref 100, .ref 101, .ref 102, .ref 103, .ref 104, .ref 105, .int 0, .int (-1), .ref 106, .ref 107, .ref 108, .int 0, .int 0, .int 0, .int 0, .int 0, .int 0, .int 0, .ref 109, .int 0, .int 0, .ref 110, .ref 111, .ref 112, .ref 113, .ref 114, .ref 115, .ref 116, .ref 117, .int 0, .int 0, .int (-1), .int (-1), .ref 118, .ref 119, .ref 120, .ref 121, .ref 122, .ref 123, .ref 124, .null, .null, .null, .null, .null, .int 0, .null, .null, .null, .null, .null, .int 0, .int 0]) dX12_init_674 rfl fw_X12_104 rfl (Nat.le_of_ble_eq_true rfl) (fun _ => ⟨rfl, rfl⟩) rfl ?_
  refine J_aload_n dX12_init_677 rfl rfl ?_
  refine J_sipush (v := 1260) dX12_init_678 (by decide +kernel) ?_
  refine K_newa (t := 0) (N := 1260) (a0 := (1260, .inl (fun _ => 0))) (nh2 := 126) (ck2 := 27) (sk2 := 148615) dX12_init_681 rfl (jt1 98 rfl rfl) rfl (fun _ _ h9 => h9) (fun _ => rfl) (fun _ => rfl) (by decide +kernel) (by decide +kernel) (Nat.le_of_ble_eq_true rfl) (Nat.le_of_ble_eq_true rfl) (Nat.le_of_ble_eq_true rfl) rfl rfl rfl ?_
  refine K_putF (fs2 := [.int 0, .int 0, .ref 99, .ref 100, .ref 101, .ref 102, .ref 103, .ref 104, .ref 105, .int 0, .int (-1), .ref 106, .ref 107, .ref 108, .int 0, .int 0, .int 0, .int 0, .int 0, .int 0, .int 0, .ref 109, .int 0, .int 0, .ref 110, .ref 111, .ref 112, .ref 113, .ref 114, .ref 115, .ref 116, .ref 117, .int 0, .int 0, .int (-1), .int (-1), .ref 118, .ref 119, .ref 120, .ref 121, .ref 122, .ref 123, .ref 124, .ref 125, .null, .null, .null, .null, .int 0, .null, .null, .null, .null, .null, .int 0, .int 0]) dX12_init_683 rfl fw_X12_107 rfl (Nat.le_of_ble_eq_true rfl) (fun _ => ⟨rfl, rfl⟩) rfl ?_
  refine J_aload_n dX12_init_686 rfl rfl ?_
  refine J_sipush (v := 1260) dX12_init_687 (by decide +kernel) ?_
  refine K_newa (t := 0) (N := 1260) (a0 := (1260, .inl (fun _ => 0))) (nh2 := 127) (ck2 := 28) (sk2 := 149875) dX12_init_690 rfl (jt1 98 rfl rfl) rfl (fun _ _ h9 => h9) (fun _ => rfl) (fun _ => rfl) (by decide +kernel) (by decide +kernel) (Nat.le_of_ble_eq_true rfl) (Nat.le_of_ble_eq_true rfl) (Nat.le_of_ble_eq_true rfl) rfl rfl rfl ?_
  refine K_putF (fs2 := [.int 0, .int 0, .ref 99, .ref 100, .ref 101, .ref 102, .ref 103, .ref 104, .ref 105, .int 0, .int (-1), .ref 106, .ref 107, .ref 108, .int 0, .int 0, .int 0, .int 0, .int 0, .int 0, .int 0, .ref 109, .int 0, .int 0, .ref 110, .ref 111, .ref 112, .ref 113, .ref 114, .ref 115, .ref 116, .ref 117, .int 0, .int 0, .int (-1), .int (-1), .ref 118, .ref 119, .ref 120, .ref 121, .ref 122, .ref 123, .ref 124, .ref 125, .ref 126, .null, .null, .null, .int 0, .null, .null, .null, .null, .null, .int 0, .int 0]) dX12_init_692 rfl fw_X12_110 rfl (Nat.le_of_ble_eq_true rfl) (fun _ => ⟨rfl, rfl⟩) rfl ?_
  refine J_aload_n dX12_init_695 rfl rfl ?_
  refine J_sipush (v := 1260) dX12_init_696 (by decide +kernel) ?_
  refine K_newa (t := 1) (N := 1260) (a0 := (1260, .inr (.inl (fun _ => 0)))) (nh2 := 128) (ck2 := 29) (sk2 := 151135) dX12_init_699 rfl (jt1 194 rfl rfl) rfl (fun _ _ h9 => h9) (fun _ => rfl) (fun _ => rfl) (by decide +kernel) (by decide +kernel) (Nat.le_of_ble_eq_true rfl) (Nat.le_of_ble_eq_true rfl) (Nat.le_of_ble_eq_true rfl) rfl rfl rfl ?_
  refine K_putF (fs2 := [.int 0, .int 0, .ref 99, .ref 100, .ref 101, .ref 102, .ref 103, .ref 104, .ref 105, .int 0, .int (-1), .ref 106, .ref 107, .ref 108, .int 0, .int 0, .int 0, .int 0, .int 0, .int 0, .int 0, .ref 109, .int 0, .int 0, .ref 110, .ref 111, .ref 112, .ref 113, .ref 114, .ref 115, .ref 116, .ref 117, .int 0, .int 0, .int (-1), .int (-1), .ref 118, .ref 119, .ref 120, .ref 121, .ref 122, .ref 123, .ref 124, .ref 125, .ref 126, .ref 127, .null, .null, .int 0, .null, .null, .null, .null, .null, .int 0, .int 0]) dX12_init_701 rfl fw_X12_113 rfl (Nat.le_of_ble_eq_true rfl) (fun _ => ⟨rfl, rfl⟩) rfl ?_
  refine J_aload_n dX12_init_704 rfl rfl ?_
  refine J_sipush (v := 1260) dX12_init_705 (by decide +kernel) ?_
  refine K_newa (t := 1) (N := 1260) (a0 := (1260, .inr (.inl (fun _ => 0)))) (nh2 := 129) (ck2 := 30) (sk2 := 152395) dX12_init_708 rfl (jt1 194 rfl rfl) rfl (fun _ _ h9 => h9) (fun _ => rfl) (fun _ => rfl) (by decide +kernel) (by decide +kernel) (Nat.le_of_ble_eq_true rfl) (Nat.le_of_ble_eq_true rfl) (Nat.le_of_ble_eq_true rfl) rfl rfl rfl ?_
  refine K_putF (fs2 := [.int 0, .int 0, .ref 99, .ref 100, .ref 101, .ref 102, .ref 103, .ref 104, .ref 105, .int 0, .int (-1), .ref 106, .ref 107, .ref 108, .int 0, .int 0, .int 0, .int 0, .int 0, .int 0, .int 0, .ref 109, .int 0, .int 0, .ref 110, .ref 111, .ref 112, .ref 113, .ref 114, .ref 115, .ref 116, .ref 117, .int 0, .int 0, .int (-1), .int (-1), .ref 118, .ref 119, .ref 120, .ref 121, .ref 122, .ref 123, .ref 124, .ref 125, .ref 126, .ref 127, .ref 128, .null, .int 0, .null, .null, .null, .null, .null, .int 0, .int 0]) dX12_init_710 rfl fw_X12_116 rfl (Nat.le_of_ble_eq_true rfl) (fun _ => ⟨rfl, rfl⟩) rfl ?_
  refine J_aload_n dX12_init_713 rfl rfl ?_
  refine J_ldc (v := 229376) dX12_init_714 (jt6 73 rfl rfl) ?_
  refine K_newa (t := 2) (N := 229376) (a0 := (229376, .inl (fun _ => 0))) (nh2 := 130) (ck2 := 31) (sk2 := 381771) dX12_init_716 rfl (jt1 119 rfl rfl) rfl (fun _ _ h9 => h9) (fun _ => rfl) (fun _ => rfl) (by decide +kernel) (by decide +kernel) (Nat.le_of_ble_eq_true rfl) (Nat.le_of_ble_eq_true rfl) (Nat.le_of_ble_eq_true rfl) rfl rfl rfl ?_
  refine K_putF (fs2 := [.int 0, .int 0, .ref 99, .ref 100, .ref 101, .ref 102, .ref 103, .ref 104, .ref 105, .int 0, .int (-1), .ref 106, .ref 107, .ref 108, .int 0, .int 0, .int 0, .int 0, .int 0, .int 0, .int 0, .ref 109, .int 0, .int 0, .ref 110, .ref 111, .ref 112, .ref 113, .ref 114, .ref 115, .ref 116, .ref 117, .int 0, .int 0, .int (-1), .int (-1), .ref 118, .ref 119, .ref 120, .ref 121, .ref 122, .ref 123, .ref 124, .ref 125, .ref 126, .ref 127, .ref 128, .ref 129, .int 0, .null, .null, .null, .null, .null, .int 0, .int 0]) dX12_init_718 rfl fw_X12_120 rfl (Nat.le_of_ble_eq_true rfl) (fun _ => ⟨rfl, rfl⟩) rfl ?_
  refine J_aload_n dX12_init_721 rfl rfl ?_
  refine J_sipush (v := 1260) dX12_init_722 (by decide +kernel) ?_
  refine K_newa (t := 2) (N := 1260) (a0 := (1260, .inl (fun _ => 0))) (nh2 := 131) (ck2 := 32) (sk2 := 383031) dX12_init_725 rfl (jt1 119 rfl rfl) rfl (fun _ _ h9 => h9) (fun _ => rfl) (fun _ => rfl) (by decide +kernel) (by decide +kernel) (Nat.le_of_ble_eq_true rfl) (Nat.le_of_ble_eq_true rfl) (Nat.le_of_ble_eq_true rfl) rfl rfl rfl ?_
  refine K_putF (fs2 := [.int 0, .int 0, .ref 99, .ref 100, .ref 101, .ref 102, .ref 103, .ref 104, .ref 105, .int 0, .int (-1), .ref 106, .ref 107, .ref 108, .int 0, .int 0, .int 0, .int 0, .int 0, .int 0, .int 0, .ref 109, .int 0, .int 0, .ref 110, .ref 111, .ref 112, .ref 113, .ref 114, .ref 115, .ref 116, .ref 117, .int 0, .int 0, .int (-1), .int (-1), .ref 118, .ref 119, .ref 120, .ref 121, .ref 122, .ref 123, .ref 124, .ref 125, .ref 126, .ref 127, .ref 128, .ref 129, .int 0, .ref 130, .null, .null, .null, .null, .int 0, .int 0]) dX12_init_727 rfl fw_X12_123 rfl (Nat.le_of_ble_eq_true rfl) (fun _ => ⟨rfl, rfl⟩) rfl ?_
  refine J_aload_n dX12_init_730 rfl rfl ?_
  refine J_sipush (v := 1261) dX12_init_731 (by decide +kernel) ?_
  refine K_newa (t := 0) (N := 1261) (a0 := (1261, .inl (fun _ => 0))) (nh2 := 132) (ck2 := 33) (sk2 := 384292) dX12_init_734 rfl (jt1 98 rfl rfl) rfl (fun _ _ h9 => h9) (fun _ => rfl) (fun _ => rfl) (by decide +kernel) (by decide +kernel) (Nat.le_of_ble_eq_true rfl) (Nat.le_of_ble_eq_true rfl) (Nat.le_of_ble_eq_true rfl) rfl rfl rfl ?_
  refine K_putF (fs2 := [.int 0, .int 0, .ref 99, .ref 100, .ref 101, .ref 102, .ref 103, .ref 104, .ref 105, .int 0, .int (-1), .ref 106, .ref 107, .ref 108, .int 0, .int 0, .int 0, .int 0, .int 0, .int 0, .int 0, .ref 109, .int 0, .int 0, .ref 110, .ref 111, .ref 112, .ref 113, .ref 114, .ref 115, .ref 116, .ref 117, .int 0, .int 0, .int (-1), .int (-1), .ref 118, .ref 119, .ref 120, .ref 121, .ref 122, .ref 123, .ref 124, .ref 125, .ref 126, .ref 127, .ref 128, .ref 129, .int 0, .ref 130, .ref 131, .null, .null, .null, .int 0, .int 0]) dX12_init_736 rfl fw_X12_126 rfl (Nat.le_of_ble_eq_true rfl) (fun _ => ⟨rfl, rfl⟩) rfl ?_
  refine J_aload_n dX12_init_739 rfl rfl ?_
  refine J_sipush (v := 1600) dX12_init_740 (by decide +kernel) ?_
  refine K_newa (t := 0) (N := 1600) (a0 := (1600, .inl (fun _ => 0))) (nh2 := 133) (ck2 := 34) (sk2 := 385892) dX12_init_743 rfl (jt1 98 rfl rfl) rfl (fun _ _ h9 => h9) (fun _ => rfl) (fun _ => rfl) (by decide +kernel) (by decide +kernel) (Nat.le_of_ble_eq_true rfl) (Nat.le_of_ble_eq_true rfl) (Nat.le_of_ble_eq_true rfl) rfl rfl rfl ?_
  refine K_putF (fs2 := [.int 0, .int 0, .ref 99, .ref 100, .ref 101, .ref 102, .ref 103, .ref 104, .ref 105, .int 0, .int (-1), .ref 106, .ref 107, .ref 108, .int 0, .int 0, .int 0, .int 0, .int 0, .int 0, .int 0, .ref 109, .int 0, .int 0, .ref 110, .ref 111, .ref 112, .ref 113, .ref 114, .ref 115, .ref 116, .ref 117, .int 0, .int 0, .int (-1), .int (-1), .ref 118, .ref 119, .ref 120, .ref 121, .ref 122, .ref 123, .ref 124, .ref 125, .ref 126, .ref 127, .ref 128, .ref 129, .int 0, .ref 130, .ref 131, .ref 132, .null, .null, .int 0, .int 0]) dX12_init_745 rfl fw_X12_129 rfl (Nat.le_of_ble_eq_true rfl) (fun _ => ⟨rfl, rfl⟩) rfl ?_
  refine J_aload_n dX12_init_748 rfl rfl ?_
  refine J_sipush (v := 1600) dX12_init_749 (by decide +kernel) ?_
  refine K_newa (t := 0) (N := 1600) (a0 := (1600, .inl (fun _ => 0))) (nh2 := 134) (ck2 := 35) (sk2 := 387492) dX12_init_752 rfl (jt1 98 rfl rfl) rfl (fun _ _ h9 => h9) (fun _ => rfl) (fun _ => rfl) (by decide +kernel) (by decide +kernel) (Nat.le_of_ble_eq_true rfl) (Nat.le_of_ble_eq_true rfl) (Nat.le_of_ble_eq_true rfl) rfl rfl rfl ?_
  refine K_putF (fs2 := [.int 0, .int 0, .ref 99, .ref 100, .ref 101, .ref 102, .ref 103, .ref 104, .ref 105, .int 0, .int (-1), .ref 106, .ref 107, .ref 108, .int 0, .int 0, .int 0, .int 0, .int 0, .int 0, .int 0, .ref 109, .int 0, .int 0, .ref 110, .ref 111, .ref 112, .ref 113, .ref 114, .ref 115, .ref 116, .ref 117, .int 0, .int 0, .int (-1), .int (-1), .ref 118, .ref 119, .ref 120, .ref 121, .ref 122, .ref 123, .ref 124, .ref 125, .ref 126, .ref 127, .ref 128, .ref 129, .int 0, .ref 130, .ref 131, .ref 132, .ref 133, .null, .int 0, .int 0]) dX12_init_754 rfl fw_X12_132 rfl (Nat.le_of_ble_eq_true rfl) (fun _ => ⟨rfl, rfl⟩) rfl ?_
  refine J_aload_n dX12_init_757 rfl rfl ?_
  refine J_sipush (v := 1260) dX12_init_758 (by decide +kernel) ?_
  refine K_newa (t := 0) (N := 1260) (a0 := (1260, .inl (fun _ => 0))) (nh2 := 135) (ck2 := 36) (sk2 := 388752) dX12_init_761 rfl (jt1 98 rfl rfl) rfl (fun _ _ h9 => h9) (fun _ => rfl) (fun _ => rfl) (by decide +kernel) (by decide +kernel) (Nat.le_of_ble_eq_true rfl) (Nat.le_of_ble_eq_true rfl) (Nat.le_of_ble_eq_true rfl) rfl rfl rfl ?_
  refine K_putF (fs2 := [.int 0, .int 0, .ref 99, .ref 100, .ref 101, .ref 102, .ref 103, .ref 104, .ref 105, .int 0, .int (-1), .ref 106, .ref 107, .ref 108, .int 0, .int 0, .int 0, .int 0, .int 0, .int 0, .int 0, .ref 109, .int 0, .int 0, .ref 110, .ref 111, .ref 112, .ref 113, .ref 114, .ref 115, .ref 116, .ref 117, .int 0, .int 0, .int (-1), .int (-1), .ref 118, .ref 119, .ref 120, .ref 121, .ref 122, .ref 123, .ref 124, .ref 125, .ref 126, .ref 127, .ref 128, .ref 129, .int 0, .ref 130, .ref 131, .ref 132, .ref 133, .ref 134, .int 0, .int 0]) dX12_init_763 rfl fw_X12_135 rfl (Nat.le_of_ble_eq_true rfl) (fun _ => ⟨rfl, rfl⟩) rfl ?_
  refine J_aload_n dX12_init_766 rfl rfl ?_
  refine J_get (v := .ref 100) dX12_init_767 fl_X12_20 rfl rfl ?_
  refine J_bipush (v := 63) dX12_init_770 (by decide +kernel) ?_
  refine J_iconst (v := (-1)) dX12_init_772 (by decide) ?_
  refine K_iast (i2 := 63) dX12_init_773 rfl rfl (jin (by decide +kernel)) (by decide +kernel) ?_
  refine J_mask (L2 := [(100, .inl (0, 4870, .inl (upd (fun _ => 0) 63 (-1)))), (98, .inr (12, [.int 0, .int 0, .ref 99, .ref 100, .ref 101, .ref 102, .ref 103, .ref 104, .ref 105, .int 0, .int (-1), .ref 106, .ref 107, .ref 108, .int 0, .int 0, .int 0, .int 0, .int 0, .int 0, .int 0, .ref 109, .int 0, .int 0, .ref 110, .ref 111, .ref 112, .ref 113, .ref 114, .ref 115, .ref 116, .ref 117, .int 0, .int 0, .int (-1), .int (-1), .ref 118, .ref 119, .ref 120, .ref 121, .ref 122, .ref 123, .ref 124, .ref 125, .ref 126, .ref 127, .ref 128, .ref 129, .int 0, .ref 130, .ref 131, .ref 132, .ref 133, .ref 134, .int 0, .int 0])), (134, .inl (0, 1260, .inl (fun _ => 0))), (133, .inl (0, 1600, .inl (fun _ => 0))), (132, .inl (0, 1600, .inl (fun _ => 0))), (131, .inl (0, 1261, .inl (fun _ => 0))), (130, .inl (2, 1260, .inl (fun _ => 0))), (129, .inl (2, 229376, .inl (fun _ => 0))), (128, .inl (1, 1260, .inr (.inl (fun _ => 0)))), (127, .inl (1, 1260, .inr (.inl (fun _ => 0)))), (126, .inl (0, 1260, .inl (fun _ => 0))), (125, .inl (0, 1260, .inl (fun _ => 0))), (124, .inl (2, 27720, .inl (fun _ => 0))), (123, .inl (0, 1260, .inl (fun _ => 0))), (122, .inl (2, 1260, .inl (fun _ => 0))), (121, .inl (0, 1260, .inl (fun _ => 0))), (120, .inl (0, 1260, .inl (fun _ => 0))), (119, .inl (1, 1260, .inr (.inl (fun _ => 0)))), (118, .inl (0, 1260, .inl (fun _ => 0))), (117, .inl (0, 7, .inl (fun _ => 0))), (116, .inl (0, 1260, .inl (fun _ => 0))), (115, .inl (0, 27720, .inl (fun _ => 0))), (114, .inl (0, 1260, .inl (fun _ => 0))), (113, .inl (0, 27720, .inl (fun _ => 0))), (112, .inl (0, 27720, .inl (fun _ => 0))), (111, .inl (0, 1260, .inl (fun _ => 0))), (110, .inl (0, 8820, .inl (fun _ => 0))), (109, .inl (0, 8, .inl (fun _ => 0))), (108, .inl (0, 401, .inl (fun _ => 0))), (107, .inl (0, 401, .inl (fun _ => 0))), (106, .inl (0, 401, .inl (fun _ => 0))), (105, .inl (0, 5, .inl (fun _ => 0))), (104, .inl (3, 400, .inl (fun _ => 0))), (103, .inl (3, 73, .inl (upd (upd (upd (upd (upd (upd (upd (upd (upd (upd (upd (upd (upd (upd (upd (upd (upd (upd (upd (upd (upd (upd (upd (upd (upd (upd (upd (upd (upd (upd (upd (upd (upd (upd (upd (upd (upd (upd (upd (upd (upd (upd (upd (upd (upd (upd (upd (upd (upd (upd (upd (upd (upd (upd (upd (upd (upd (upd (upd (upd (upd (upd (upd (upd (upd (upd (upd (upd (upd (upd (upd (upd (upd (fun _ => 0) 0 116) 1 97) 2 107) 3 101) 4 115) 5 32) 6 108) 7 101) 8 116) 9 115) 10 32) 11 98) 12 97) 13 114) 14 115) 15 32) 16 105) 17 102) 18 32) 19 111) 20 114) 21 32) 22 97) 23 110) 24 100) 25 32) 26 110) 27 111) 28 116) 29 32) 30 108) 31 101) 32 102) 33 116) 34 32) 35 114) 36 105) 37 103) 38 104) 39 116) 40 32) 41 111) 42 110) 43 101) 44 32) 45 111) 46 116) 47 104) 48 101) 49 114) 50 32) 51 97) 52 112) 53 97) 54 114) 55 116) 56 32) 57 102) 58 105) 59 114) 60 115) 61 116) 62 32) 63 98) 64 101) 65 97) 66 110) 67 115) 68 32) 69 100) 70 97) 71 121) 72 32))), (102, .inl (2, 2, .inl (fun _ => 0))), (101, .inl (0, 9740, .inl (fun _ => 0))), (99, .inl (0, 7, .inl (fun _ => 0)))]) (ks := [100, 98, 134, 98, 133, 98, 132, 98, 131, 98, 130, 98, 129, 98, 128, 98, 127, 98, 126, 98, 125, 98, 124, 98, 123, 98, 122, 98, 121, 98, 120, 98, 119, 98, 118, 98, 98, 98, 117, 98, 116, 98, 115, 98, 114, 98, 113, 98, 112, 98, 111, 98, 110, 98, 109, 98, 108, 98, 107, 98, 106, 98, 98, 105, 98, 104, 98, 103, 103, 103, 103, 103, 103, 103, 103, 103, 103, 103, 103, 103, 103, 103, 103, 103, 103, 103, 103, 103, 103, 103, 103, 103, 103, 103, 103, 103, 103, 103, 103, 103, 103, 103, 103, 103, 103, 103, 103, 103, 103, 103, 103, 103, 103, 103, 103, 103, 103, 103, 103, 103, 103, 103, 103, 103, 103, 103, 103, 103, 103, 103, 103, 103, 103, 103, 103, 103, 103, 103, 103, 103, 103, 98, 102, 98, 101, 98, 100, 98, 99]) [true, true, true, false, true, false, true, false, true, false, true, false, true, false, true, false, true, false, true, false, true, false, true, false, true, false, true, false, true, false, true, false, true, false, true, false, false, false, true, false, true, false, true, false, true, false, true, false, true, false, true, false, true, false, true, false, true, false, true, false, true, false, false, true, false, true, false, true, false, false, false, false, false, false, false, false, false, false, false, false, false, false, false, false, false, false, false, false, false, false, false, false, false, false, false, false, false, false, false, false, false, false, false, false, false, false, false, false, false, false, false, false, false, false, false, false, false, false, false, false, false, false, false, false, false, false, false, false, false, false, false, false, false, false, false, false, false, false, false, false, false, false, true, false, true, false, false, false, true] rfl (by decide +kernel) rfl ?_
  exact J_vret dX12_init_774 rfl (Nat.le_of_ble_eq_true rfl) (Nat.le_of_ble_eq_true rfl) ⟨rfl, rfl⟩
/-! The law's own words -/
def h0 : Nat → Option va_E := fun _ => none
/-- what is known at the law's start: the script of L ints xs at b -/
def lE (b L : Nat) (xs : Nat → Int32) (G : jG) : State → Array Value → Prop := fun s args => args = #[Value.ref b] ∧ va_X b L xs s s.heap ∧ b < s.heap.size ∧ G.2.2.1 = s.heap.size ∧ G.2.2.2 0 = b
def lQ : List Frame → Array Value → State → State → Prop := fun below args s => lw_Z below args s
/-- the script at i -/
def sx (xs : Nat → Int32) (i : Int) : Int := (xs i.toNat).toInt
theorem sx_zr (xs : Nat → Int32) (i : Int) : zr (sx xs i) := by
  have h1 := Int32.le_toInt (xs i.toNat)
  have h2 := Int32.toInt_lt (xs i.toNat)
  show zr (xs i.toNat).toInt
  omega
theorem sx_zI (xs : Nat → Int32) (i : Int) : zI (sx xs i) = xs i.toNat := Int32.ofInt_toInt _
section LR
variable {l : Launch} {G : jG} {M : jM} {R : Room} {b L : Nat} {xs : Nat → Int32} {Q : List Frame → Array Value → State → State → Prop} {h : jH} {ck sk pc : Nat} {ls : List (Option Value)} {st : List Value}
theorem L_slen {v : Int32} (hdg : decode M.2.1 pc = .ok (.arraylength, 1)) (hv : Int32.ofNat L = v) (kk : J l G M R (lE b L xs G) Q h ck sk (pc + 1) ls (.int v :: st)) : J l G M R (lE b L xs G) Q h ck sk pc ls (.retAddr 0 :: st) := by
  intro p e s m args below meth c H locs la X hE hP hS hL
  subst hv
  have hk := kk p e s m args below meth c H locs la X hE hP hS hL
  obtain ⟨h1, h2, h3, h4, h5⟩ := hE
  have hbA : ¬ jA G b := fun q => by
    have q : G.2.2.1 ≤ b := q
    omega
  show W p l e R s m args below meth c H locs ck sk (Q below args s) (F0 m pc la (.ref (G.2.2.2 0) :: st.map (pv G)))
  rw [h5]
  exact va_slen X.1 X.2.1 h2 h3 hbA hS hdg hk
theorem L_sld {i2 : Nat} {i v : Int32} (hdg : decode M.2.1 pc = .ok (.iaload, 1)) (hin : vp_in i L) (hi2 : i.toNatClampNeg = i2) (hv : xs i2 = v) (kk : J l G M R (lE b L xs G) Q h ck sk (pc + 1) ls (.int v :: st)) : J l G M R (lE b L xs G) Q h ck sk pc ls (.int i :: .retAddr 0 :: st) := by
  intro p e s m args below meth c H locs la X hE hP hS hL
  subst hi2
  subst hv
  have hk := kk p e s m args below meth c H locs la X hE hP hS hL
  obtain ⟨h1, h2, h3, h4, h5⟩ := hE
  have hbA : ¬ jA G b := fun q => by
    have q : G.2.2.1 ≤ b := q
    omega
  show W p l e R s m args below meth c H locs ck sk (Q below args s) (F0 m pc la (.int i :: .ref (G.2.2.2 0) :: st.map (pv G)))
  rw [h5]
  exact va_sld X.1 X.2.1 h2 h3 hbA hS hin hdg hk
theorem L_sldz {i : Int} (hdg : decode M.2.1 pc = .ok (.iaload, 1)) (h0 : 0 ≤ i) (h1 : i < L) (hL : L ≤ 3072) (kk : J l G M R (lE b L xs G) Q h ck sk (pc + 1) ls (.int (zI (sx xs i)) :: st)) : J l G M R (lE b L xs G) Q h ck sk pc ls (.int (zI i) :: .retAddr 0 :: st) := by
  have hz : zr i := by omega
  refine L_sld (i2 := i.toNat) (v := xs i.toNat) hdg (zI_in hz h0 (by omega)) (zI_clamp hz) rfl ?_
  rw [← sx_zI xs i]
  exact kk
theorem L_ret (hdg : decode cL_law pc = .ok (.ireturn, 1)) (hc : ck ≤ 600000) (hs : sk ≤ 7302250) : J l G ML_law room_1 (lE b L xs G) lQ h ck sk pc ls [.int 1] := by
  intro p e s m args below meth c H locs la X hE hP hS hL
  obtain ⟨h1, h2, h3, h4, h5⟩ := hE
  subst h1
  refine va_forget (fun q hq => ?_) ?_
  · have := hS.2.2 q hq
    have h6 : G.2.2.1 ≤ q.base := this
    omega
  refine W.widen (k := 600000) (n := 7302250) hc hs ?_
  exact lw_ret X.1 X.2.1 X.2.2.1 X.2.2.2.2.2.2.2.1 hdg
end LR

def L0 : List (Nat × va_E) := [(100, .inl (0, 4870, .inl (upd (fun _ => 0) 63 (-1)))), (98, .inr (12, [.int 0, .int 0, .ref 99, .ref 100, .ref 101, .ref 102, .ref 103, .ref 104, .ref 105, .int 0, .int (-1), .ref 106, .ref 107, .ref 108, .int 0, .int 0, .int 0, .int 0, .int 0, .int 0, .int 0, .ref 109, .int 0, .int 0, .ref 110, .ref 111, .ref 112, .ref 113, .ref 114, .ref 115, .ref 116, .ref 117, .int 0, .int 0, .int (-1), .int (-1), .ref 118, .ref 119, .ref 120, .ref 121, .ref 122, .ref 123, .ref 124, .ref 125, .ref 126, .ref 127, .ref 128, .ref 129, .int 0, .ref 130, .ref 131, .ref 132, .ref 133, .ref 134, .int 0, .int 0])), (134, .inl (0, 1260, .inl (fun _ => 0))), (133, .inl (0, 1600, .inl (fun _ => 0))), (132, .inl (0, 1600, .inl (fun _ => 0))), (131, .inl (0, 1261, .inl (fun _ => 0))), (130, .inl (2, 1260, .inl (fun _ => 0))), (129, .inl (2, 229376, .inl (fun _ => 0))), (128, .inl (1, 1260, .inr (.inl (fun _ => 0)))), (127, .inl (1, 1260, .inr (.inl (fun _ => 0)))), (126, .inl (0, 1260, .inl (fun _ => 0))), (125, .inl (0, 1260, .inl (fun _ => 0))), (124, .inl (2, 27720, .inl (fun _ => 0))), (123, .inl (0, 1260, .inl (fun _ => 0))), (122, .inl (2, 1260, .inl (fun _ => 0))), (121, .inl (0, 1260, .inl (fun _ => 0))), (120, .inl (0, 1260, .inl (fun _ => 0))), (119, .inl (1, 1260, .inr (.inl (fun _ => 0)))), (118, .inl (0, 1260, .inl (fun _ => 0))), (117, .inl (0, 7, .inl (fun _ => 0))), (116, .inl (0, 1260, .inl (fun _ => 0))), (115, .inl (0, 27720, .inl (fun _ => 0))), (114, .inl (0, 1260, .inl (fun _ => 0))), (113, .inl (0, 27720, .inl (fun _ => 0))), (112, .inl (0, 27720, .inl (fun _ => 0))), (111, .inl (0, 1260, .inl (fun _ => 0))), (110, .inl (0, 8820, .inl (fun _ => 0))), (109, .inl (0, 8, .inl (fun _ => 0))), (108, .inl (0, 401, .inl (fun _ => 0))), (107, .inl (0, 401, .inl (fun _ => 0))), (106, .inl (0, 401, .inl (fun _ => 0))), (105, .inl (0, 5, .inl (fun _ => 0))), (104, .inl (3, 400, .inl (fun _ => 0))), (103, .inl (3, 73, .inl (upd (upd (upd (upd (upd (upd (upd (upd (upd (upd (upd (upd (upd (upd (upd (upd (upd (upd (upd (upd (upd (upd (upd (upd (upd (upd (upd (upd (upd (upd (upd (upd (upd (upd (upd (upd (upd (upd (upd (upd (upd (upd (upd (upd (upd (upd (upd (upd (upd (upd (upd (upd (upd (upd (upd (upd (upd (upd (upd (upd (upd (upd (upd (upd (upd (upd (upd (upd (upd (upd (upd (upd (upd (fun _ => 0) 0 116) 1 97) 2 107) 3 101) 4 115) 5 32) 6 108) 7 101) 8 116) 9 115) 10 32) 11 98) 12 97) 13 114) 14 115) 15 32) 16 105) 17 102) 18 32) 19 111) 20 114) 21 32) 22 97) 23 110) 24 100) 25 32) 26 110) 27 111) 28 116) 29 32) 30 108) 31 101) 32 102) 33 116) 34 32) 35 114) 36 105) 37 103) 38 104) 39 116) 40 32) 41 111) 42 110) 43 101) 44 32) 45 111) 46 116) 47 104) 48 101) 49 114) 50 32) 51 97) 52 112) 53 97) 54 114) 55 116) 56 32) 57 102) 58 105) 59 114) 60 115) 61 116) 62 32) 63 98) 64 101) 65 97) 66 110) 67 115) 68 32) 69 100) 70 97) 71 121) 72 32))), (102, .inl (2, 2, .inl (fun _ => 0))), (101, .inl (0, 9740, .inl (fun _ => 0))), (99, .inl (0, 7, .inl (fun _ => 0))), (51, .inr (0, [.ref 52, .ref 53, .int 1, .int 0])), (52, .inl (0, 1260, .inl (upd (fun _ => 0) 0 0))), (0, .inr (11, [.ref 1, .ref 17, .ref 50, .ref 51, .ref 54, .ref 57, .ref 65, .ref 75, .ref 81, .ref 85, .ref 88, .ref 93, .ref 96, .int 0, .int (-1), .ref 97, .int 0])), (97, .inl (0, 1260, .inl (fun _ => 0))), (96, .inl (0, 5, .inl (fun _ => 0))), (93, .inr (4, [.ref 51, .ref 57, .ref 94, .ref 95, .int 0])), (95, .inl (0, 0, .inl (fun _ => 0))), (94, .inl (0, 0, .inl (fun _ => 0))), (88, .inr (6, [.ref 1, .ref 51, .ref 57, .ref 65, .ref 89, .ref 90, .int 0, .int (-1), .ref 91, .ref 92, .int (-1), .int (-1), .int (-1)])), (92, .inl (0, 1260, .inl (fun _ => 0))), (91, .inl (0, 1260, .inl (fun _ => 0))), (90, .inl (0, 1260, .inl (fun _ => 0))), (89, .inl (2, 1260, .inl (fun _ => 0))), (85, .inr (2, [.ref 1, .ref 51, .ref 86, .ref 87])), (87, .inl (0, 12, .inl (fun _ => 0))), (86, .inl (0, 12, .inl (fun _ => 0))), (81, .inr (7, [.ref 51, .ref 57, .ref 82, .ref 83, .ref 84, .int 0, .int (-1)])), (84, .inl (0, 0, .inl (fun _ => 0))), (83, .inl (0, 14, .inl (fun _ => 0))), (82, .inl (0, 14, .inl (fun _ => 0))), (75, .inr (3, [.ref 51, .ref 57, .ref 76, .ref 77, .ref 78, .ref 79, .ref 80, .int 0])), (80, .inl (0, 1260, .inl (fun _ => 0))), (79, .inl (0, 1260, .inl (fun _ => 0))), (78, .inl (0, 1261, .inl (fun _ => 0))), (77, .inl (0, 0, .inl (fun _ => 0))), (76, .inl (0, 0, .inl (fun _ => 0))), (65, .inr (10, [.ref 51, .ref 57, .ref 66, .ref 67, .ref 68, .int 0, .int (-1), .int (-1), .ref 69, .ref 70, .ref 71, .ref 72, .int 0, .int (-1), .int (-1), .ref 73, .ref 74])), (74, .inl (1, 1260, .inr (.inl (fun _ => 0)))), (73, .inl (1, 1260, .inr (.inl (fun _ => 0)))), (72, .inl (0, 1260, .inl (fun _ => 0))), (71, .inl (0, 1260, .inl (fun _ => 0))), (70, .inl (0, 100, .inl (fun _ => 0))), (69, .inl (0, 1260, .inl (fun _ => 0))), (68, .inl (0, 1260, .inl (fun _ => 0))), (67, .inl (0, 1260, .inl (fun _ => 0))), (66, .inl (0, 1260, .inl (fun _ => 0))), (57, .inr (9, [.ref 1, .ref 51, .ref 58, .ref 61, .ref 62, .ref 63, .ref 64, .int 0, .int 1, .int 1])), (64, .inl (0, 2625, .inl (fun _ => 0))), (63, .inl (0, 0, .inl (fun _ => 0))), (62, .inl (0, 1260, .inl (fun _ => 0))), (61, .inl (0, 0, .inl (fun _ => 0))), (58, .inr (1, [.ref 59, .ref 60, .int 0, .int 0, .int 0, .int 0, .int 0, .int 1])), (60, .inl (1, 64, .inr (.inl (fun _ => 0)))), (59, .inl (0, 8, .inl (fun _ => 0))), (54, .inr (5, [.ref 55, .int 0, .int 17, .int 0, .int 0, .int 0, .int 0, .int (-1), .ref 56, .int 0])), (56, .inl (0, 412, .inl (fun _ => 0))), (55, .inl (0, 400, .inl (fun _ => 0))), (53, .inl (0, 7, .inl (fun _ => 0))), (50, .inl (2, 2, .inl (fun _ => 0))), (17, .inl (4, 2, .inr (.inr (.inr (.inr (va_up (va_up (fun _ => none) 0 (some 18)) 1 (some 34))))))), (34, .inr (8, [.ref 35, .ref 36, .ref 37, .int 0, .int (-1), .ref 44, .ref 45, .int 0, .ref 46, .ref 47, .int 0, .ref 48, .ref 49, .int 0])), (49, .inl (0, 12, .inl (fun _ => 0))), (48, .inl (0, 12, .inl (fun _ => 0))), (47, .inl (0, 6, .inl (fun _ => 0))), (46, .inl (0, 6, .inl (fun _ => 0))), (45, .inl (0, 8, .inl (fun _ => 0))), (44, .inl (0, 8, .inl (fun _ => 0))), (43, .inl (0, 0, .inl (fun _ => 0))), (42, .inl (0, 0, .inl (fun _ => 0))), (41, .inl (0, 0, .inl (fun _ => 0))), (40, .inl (0, 0, .inl (fun _ => 0))), (39, .inl (0, 0, .inl (fun _ => 0))), (38, .inl (0, 0, .inl (fun _ => 0))), (37, .inl (5, 6, .inr (.inr (.inr (.inr (fun i => if i < 6 then some (37 + 1 + i) else none)))))), (36, .inl (0, 2, .inl (fun _ => 0))), (35, .inl (0, 5, .inl (fun _ => 0))), (18, .inr (8, [.ref 19, .ref 20, .ref 21, .int 0, .int (-1), .ref 28, .ref 29, .int 0, .ref 30, .ref 31, .int 0, .ref 32, .ref 33, .int 0])), (33, .inl (0, 12, .inl (fun _ => 0))), (32, .inl (0, 12, .inl (fun _ => 0))), (31, .inl (0, 6, .inl (fun _ => 0))), (30, .inl (0, 6, .inl (fun _ => 0))), (29, .inl (0, 8, .inl (fun _ => 0))), (28, .inl (0, 8, .inl (fun _ => 0))), (27, .inl (0, 0, .inl (fun _ => 0))), (26, .inl (0, 0, .inl (fun _ => 0))), (25, .inl (0, 0, .inl (fun _ => 0))), (24, .inl (0, 0, .inl (fun _ => 0))), (23, .inl (0, 0, .inl (fun _ => 0))), (22, .inl (0, 0, .inl (fun _ => 0))), (21, .inl (5, 6, .inr (.inr (.inr (.inr (fun i => if i < 6 then some (21 + 1 + i) else none)))))), (20, .inl (0, 2, .inl (fun _ => 0))), (19, .inl (0, 5, .inl (fun _ => 0))), (1, .inr (8, [.ref 2, .ref 3, .ref 4, .int 0, .int (-1), .ref 11, .ref 12, .int 0, .ref 13, .ref 14, .int 0, .ref 15, .ref 16, .int 0])), (16, .inl (0, 12, .inl (fun _ => 0))), (15, .inl (0, 12, .inl (fun _ => 0))), (14, .inl (0, 6, .inl (fun _ => 0))), (13, .inl (0, 6, .inl (fun _ => 0))), (12, .inl (0, 8, .inl (fun _ => 0))), (11, .inl (0, 8, .inl (fun _ => 0))), (10, .inl (0, 0, .inl (fun _ => 0))), (9, .inl (0, 0, .inl (fun _ => 0))), (8, .inl (0, 0, .inl (fun _ => 0))), (7, .inl (0, 0, .inl (fun _ => 0))), (6, .inl (0, 0, .inl (fun _ => 0))), (5, .inl (0, 0, .inl (fun _ => 0))), (4, .inl (5, 6, .inr (.inr (.inr (.inr (fun i => if i < 6 then some (4 + 1 + i) else none)))))), (3, .inl (0, 2, .inl (fun _ => 0))), (2, .inl (0, 5, .inl (fun _ => 0)))]
def H0 : Nat → Option va_E := hc h0 L0
set_option maxRecDepth 100000 in
theorem H0_0 : H0 0 = some (.inr (11, [.ref 1, .ref 17, .ref 50, .ref 51, .ref 54, .ref 57, .ref 65, .ref 75, .ref 81, .ref 85, .ref 88, .ref 93, .ref 96, .int 0, .int (-1), .ref 97, .int 0])) := rfl
set_option maxRecDepth 100000 in
theorem H0_1 : H0 1 = some (.inr (8, [.ref 2, .ref 3, .ref 4, .int 0, .int (-1), .ref 11, .ref 12, .int 0, .ref 13, .ref 14, .int 0, .ref 15, .ref 16, .int 0])) := rfl
set_option maxRecDepth 100000 in
theorem H0_2 : H0 2 = some (.inl (0, 5, .inl (fun _ => 0))) := rfl
set_option maxRecDepth 100000 in
theorem H0_3 : H0 3 = some (.inl (0, 2, .inl (fun _ => 0))) := rfl
set_option maxRecDepth 100000 in
theorem H0_4 : H0 4 = some (.inl (5, 6, .inr (.inr (.inr (.inr (fun i => if i < 6 then some (4 + 1 + i) else none)))))) := rfl
set_option maxRecDepth 100000 in
theorem H0_5 : H0 5 = some (.inl (0, 0, .inl (fun _ => 0))) := rfl
set_option maxRecDepth 100000 in
theorem H0_6 : H0 6 = some (.inl (0, 0, .inl (fun _ => 0))) := rfl
set_option maxRecDepth 100000 in
theorem H0_7 : H0 7 = some (.inl (0, 0, .inl (fun _ => 0))) := rfl
set_option maxRecDepth 100000 in
theorem H0_8 : H0 8 = some (.inl (0, 0, .inl (fun _ => 0))) := rfl
set_option maxRecDepth 100000 in
theorem H0_9 : H0 9 = some (.inl (0, 0, .inl (fun _ => 0))) := rfl
set_option maxRecDepth 100000 in
theorem H0_10 : H0 10 = some (.inl (0, 0, .inl (fun _ => 0))) := rfl
set_option maxRecDepth 100000 in
theorem H0_11 : H0 11 = some (.inl (0, 8, .inl (fun _ => 0))) := rfl
set_option maxRecDepth 100000 in
theorem H0_12 : H0 12 = some (.inl (0, 8, .inl (fun _ => 0))) := rfl
set_option maxRecDepth 100000 in
theorem H0_13 : H0 13 = some (.inl (0, 6, .inl (fun _ => 0))) := rfl
set_option maxRecDepth 100000 in
theorem H0_14 : H0 14 = some (.inl (0, 6, .inl (fun _ => 0))) := rfl
set_option maxRecDepth 100000 in
theorem H0_15 : H0 15 = some (.inl (0, 12, .inl (fun _ => 0))) := rfl
set_option maxRecDepth 100000 in
theorem H0_16 : H0 16 = some (.inl (0, 12, .inl (fun _ => 0))) := rfl
set_option maxRecDepth 100000 in
theorem H0_17 : H0 17 = some (.inl (4, 2, .inr (.inr (.inr (.inr (va_up (va_up (fun _ => none) 0 (some 18)) 1 (some 34))))))) := rfl
set_option maxRecDepth 100000 in
theorem H0_18 : H0 18 = some (.inr (8, [.ref 19, .ref 20, .ref 21, .int 0, .int (-1), .ref 28, .ref 29, .int 0, .ref 30, .ref 31, .int 0, .ref 32, .ref 33, .int 0])) := rfl
set_option maxRecDepth 100000 in
theorem H0_19 : H0 19 = some (.inl (0, 5, .inl (fun _ => 0))) := rfl
set_option maxRecDepth 100000 in
theorem H0_20 : H0 20 = some (.inl (0, 2, .inl (fun _ => 0))) := rfl
set_option maxRecDepth 100000 in
theorem H0_21 : H0 21 = some (.inl (5, 6, .inr (.inr (.inr (.inr (fun i => if i < 6 then some (21 + 1 + i) else none)))))) := rfl
set_option maxRecDepth 100000 in
theorem H0_22 : H0 22 = some (.inl (0, 0, .inl (fun _ => 0))) := rfl
set_option maxRecDepth 100000 in
theorem H0_23 : H0 23 = some (.inl (0, 0, .inl (fun _ => 0))) := rfl
set_option maxRecDepth 100000 in
theorem H0_24 : H0 24 = some (.inl (0, 0, .inl (fun _ => 0))) := rfl
set_option maxRecDepth 100000 in
theorem H0_25 : H0 25 = some (.inl (0, 0, .inl (fun _ => 0))) := rfl
set_option maxRecDepth 100000 in
theorem H0_26 : H0 26 = some (.inl (0, 0, .inl (fun _ => 0))) := rfl
set_option maxRecDepth 100000 in
theorem H0_27 : H0 27 = some (.inl (0, 0, .inl (fun _ => 0))) := rfl
set_option maxRecDepth 100000 in
theorem H0_28 : H0 28 = some (.inl (0, 8, .inl (fun _ => 0))) := rfl
set_option maxRecDepth 100000 in
theorem H0_29 : H0 29 = some (.inl (0, 8, .inl (fun _ => 0))) := rfl
set_option maxRecDepth 100000 in
theorem H0_30 : H0 30 = some (.inl (0, 6, .inl (fun _ => 0))) := rfl
set_option maxRecDepth 100000 in
theorem H0_31 : H0 31 = some (.inl (0, 6, .inl (fun _ => 0))) := rfl
set_option maxRecDepth 100000 in
theorem H0_32 : H0 32 = some (.inl (0, 12, .inl (fun _ => 0))) := rfl
set_option maxRecDepth 100000 in
theorem H0_33 : H0 33 = some (.inl (0, 12, .inl (fun _ => 0))) := rfl
set_option maxRecDepth 100000 in
theorem H0_34 : H0 34 = some (.inr (8, [.ref 35, .ref 36, .ref 37, .int 0, .int (-1), .ref 44, .ref 45, .int 0, .ref 46, .ref 47, .int 0, .ref 48, .ref 49, .int 0])) := rfl
set_option maxRecDepth 100000 in
theorem H0_35 : H0 35 = some (.inl (0, 5, .inl (fun _ => 0))) := rfl
set_option maxRecDepth 100000 in
theorem H0_36 : H0 36 = some (.inl (0, 2, .inl (fun _ => 0))) := rfl
set_option maxRecDepth 100000 in
theorem H0_37 : H0 37 = some (.inl (5, 6, .inr (.inr (.inr (.inr (fun i => if i < 6 then some (37 + 1 + i) else none)))))) := rfl
set_option maxRecDepth 100000 in
theorem H0_38 : H0 38 = some (.inl (0, 0, .inl (fun _ => 0))) := rfl
set_option maxRecDepth 100000 in
theorem H0_39 : H0 39 = some (.inl (0, 0, .inl (fun _ => 0))) := rfl
set_option maxRecDepth 100000 in
theorem H0_40 : H0 40 = some (.inl (0, 0, .inl (fun _ => 0))) := rfl
set_option maxRecDepth 100000 in
theorem H0_41 : H0 41 = some (.inl (0, 0, .inl (fun _ => 0))) := rfl
set_option maxRecDepth 100000 in
theorem H0_42 : H0 42 = some (.inl (0, 0, .inl (fun _ => 0))) := rfl
set_option maxRecDepth 100000 in
theorem H0_43 : H0 43 = some (.inl (0, 0, .inl (fun _ => 0))) := rfl
set_option maxRecDepth 100000 in
theorem H0_44 : H0 44 = some (.inl (0, 8, .inl (fun _ => 0))) := rfl
set_option maxRecDepth 100000 in
theorem H0_45 : H0 45 = some (.inl (0, 8, .inl (fun _ => 0))) := rfl
set_option maxRecDepth 100000 in
theorem H0_46 : H0 46 = some (.inl (0, 6, .inl (fun _ => 0))) := rfl
set_option maxRecDepth 100000 in
theorem H0_47 : H0 47 = some (.inl (0, 6, .inl (fun _ => 0))) := rfl
set_option maxRecDepth 100000 in
theorem H0_48 : H0 48 = some (.inl (0, 12, .inl (fun _ => 0))) := rfl
set_option maxRecDepth 100000 in
theorem H0_49 : H0 49 = some (.inl (0, 12, .inl (fun _ => 0))) := rfl
set_option maxRecDepth 100000 in
theorem H0_50 : H0 50 = some (.inl (2, 2, .inl (fun _ => 0))) := rfl
set_option maxRecDepth 100000 in
theorem H0_51 : H0 51 = some (.inr (0, [.ref 52, .ref 53, .int 1, .int 0])) := rfl
set_option maxRecDepth 100000 in
theorem H0_52 : H0 52 = some (.inl (0, 1260, .inl (upd (fun _ => 0) 0 0))) := rfl
set_option maxRecDepth 100000 in
theorem H0_53 : H0 53 = some (.inl (0, 7, .inl (fun _ => 0))) := rfl
set_option maxRecDepth 100000 in
theorem H0_54 : H0 54 = some (.inr (5, [.ref 55, .int 0, .int 17, .int 0, .int 0, .int 0, .int 0, .int (-1), .ref 56, .int 0])) := rfl
set_option maxRecDepth 100000 in
theorem H0_55 : H0 55 = some (.inl (0, 400, .inl (fun _ => 0))) := rfl
set_option maxRecDepth 100000 in
theorem H0_56 : H0 56 = some (.inl (0, 412, .inl (fun _ => 0))) := rfl
set_option maxRecDepth 100000 in
theorem H0_57 : H0 57 = some (.inr (9, [.ref 1, .ref 51, .ref 58, .ref 61, .ref 62, .ref 63, .ref 64, .int 0, .int 1, .int 1])) := rfl
set_option maxRecDepth 100000 in
theorem H0_58 : H0 58 = some (.inr (1, [.ref 59, .ref 60, .int 0, .int 0, .int 0, .int 0, .int 0, .int 1])) := rfl
set_option maxRecDepth 100000 in
theorem H0_59 : H0 59 = some (.inl (0, 8, .inl (fun _ => 0))) := rfl
set_option maxRecDepth 100000 in
theorem H0_60 : H0 60 = some (.inl (1, 64, .inr (.inl (fun _ => 0)))) := rfl
set_option maxRecDepth 100000 in
theorem H0_61 : H0 61 = some (.inl (0, 0, .inl (fun _ => 0))) := rfl
set_option maxRecDepth 100000 in
theorem H0_62 : H0 62 = some (.inl (0, 1260, .inl (fun _ => 0))) := rfl
set_option maxRecDepth 100000 in
theorem H0_63 : H0 63 = some (.inl (0, 0, .inl (fun _ => 0))) := rfl
set_option maxRecDepth 100000 in
theorem H0_64 : H0 64 = some (.inl (0, 2625, .inl (fun _ => 0))) := rfl
set_option maxRecDepth 100000 in
theorem H0_65 : H0 65 = some (.inr (10, [.ref 51, .ref 57, .ref 66, .ref 67, .ref 68, .int 0, .int (-1), .int (-1), .ref 69, .ref 70, .ref 71, .ref 72, .int 0, .int (-1), .int (-1), .ref 73, .ref 74])) := rfl
set_option maxRecDepth 100000 in
theorem H0_66 : H0 66 = some (.inl (0, 1260, .inl (fun _ => 0))) := rfl
set_option maxRecDepth 100000 in
theorem H0_67 : H0 67 = some (.inl (0, 1260, .inl (fun _ => 0))) := rfl
set_option maxRecDepth 100000 in
theorem H0_68 : H0 68 = some (.inl (0, 1260, .inl (fun _ => 0))) := rfl
set_option maxRecDepth 100000 in
theorem H0_69 : H0 69 = some (.inl (0, 1260, .inl (fun _ => 0))) := rfl
set_option maxRecDepth 100000 in
theorem H0_70 : H0 70 = some (.inl (0, 100, .inl (fun _ => 0))) := rfl
set_option maxRecDepth 100000 in
theorem H0_71 : H0 71 = some (.inl (0, 1260, .inl (fun _ => 0))) := rfl
set_option maxRecDepth 100000 in
theorem H0_72 : H0 72 = some (.inl (0, 1260, .inl (fun _ => 0))) := rfl
set_option maxRecDepth 100000 in
theorem H0_73 : H0 73 = some (.inl (1, 1260, .inr (.inl (fun _ => 0)))) := rfl
set_option maxRecDepth 100000 in
theorem H0_74 : H0 74 = some (.inl (1, 1260, .inr (.inl (fun _ => 0)))) := rfl
set_option maxRecDepth 100000 in
theorem H0_75 : H0 75 = some (.inr (3, [.ref 51, .ref 57, .ref 76, .ref 77, .ref 78, .ref 79, .ref 80, .int 0])) := rfl
set_option maxRecDepth 100000 in
theorem H0_76 : H0 76 = some (.inl (0, 0, .inl (fun _ => 0))) := rfl
set_option maxRecDepth 100000 in
theorem H0_77 : H0 77 = some (.inl (0, 0, .inl (fun _ => 0))) := rfl
set_option maxRecDepth 100000 in
theorem H0_78 : H0 78 = some (.inl (0, 1261, .inl (fun _ => 0))) := rfl
set_option maxRecDepth 100000 in
theorem H0_79 : H0 79 = some (.inl (0, 1260, .inl (fun _ => 0))) := rfl
set_option maxRecDepth 100000 in
theorem H0_80 : H0 80 = some (.inl (0, 1260, .inl (fun _ => 0))) := rfl
set_option maxRecDepth 100000 in
theorem H0_81 : H0 81 = some (.inr (7, [.ref 51, .ref 57, .ref 82, .ref 83, .ref 84, .int 0, .int (-1)])) := rfl
set_option maxRecDepth 100000 in
theorem H0_82 : H0 82 = some (.inl (0, 14, .inl (fun _ => 0))) := rfl
set_option maxRecDepth 100000 in
theorem H0_83 : H0 83 = some (.inl (0, 14, .inl (fun _ => 0))) := rfl
set_option maxRecDepth 100000 in
theorem H0_84 : H0 84 = some (.inl (0, 0, .inl (fun _ => 0))) := rfl
set_option maxRecDepth 100000 in
theorem H0_85 : H0 85 = some (.inr (2, [.ref 1, .ref 51, .ref 86, .ref 87])) := rfl
set_option maxRecDepth 100000 in
theorem H0_86 : H0 86 = some (.inl (0, 12, .inl (fun _ => 0))) := rfl
set_option maxRecDepth 100000 in
theorem H0_87 : H0 87 = some (.inl (0, 12, .inl (fun _ => 0))) := rfl
set_option maxRecDepth 100000 in
theorem H0_88 : H0 88 = some (.inr (6, [.ref 1, .ref 51, .ref 57, .ref 65, .ref 89, .ref 90, .int 0, .int (-1), .ref 91, .ref 92, .int (-1), .int (-1), .int (-1)])) := rfl
set_option maxRecDepth 100000 in
theorem H0_89 : H0 89 = some (.inl (2, 1260, .inl (fun _ => 0))) := rfl
set_option maxRecDepth 100000 in
theorem H0_90 : H0 90 = some (.inl (0, 1260, .inl (fun _ => 0))) := rfl
set_option maxRecDepth 100000 in
theorem H0_91 : H0 91 = some (.inl (0, 1260, .inl (fun _ => 0))) := rfl
set_option maxRecDepth 100000 in
theorem H0_92 : H0 92 = some (.inl (0, 1260, .inl (fun _ => 0))) := rfl
set_option maxRecDepth 100000 in
theorem H0_93 : H0 93 = some (.inr (4, [.ref 51, .ref 57, .ref 94, .ref 95, .int 0])) := rfl
set_option maxRecDepth 100000 in
theorem H0_94 : H0 94 = some (.inl (0, 0, .inl (fun _ => 0))) := rfl
set_option maxRecDepth 100000 in
theorem H0_95 : H0 95 = some (.inl (0, 0, .inl (fun _ => 0))) := rfl
set_option maxRecDepth 100000 in
theorem H0_96 : H0 96 = some (.inl (0, 5, .inl (fun _ => 0))) := rfl
set_option maxRecDepth 100000 in
theorem H0_97 : H0 97 = some (.inl (0, 1260, .inl (fun _ => 0))) := rfl
set_option maxRecDepth 100000 in
theorem H0_98 : H0 98 = some (.inr (12, [.int 0, .int 0, .ref 99, .ref 100, .ref 101, .ref 102, .ref 103, .ref 104, .ref 105, .int 0, .int (-1), .ref 106, .ref 107, .ref 108, .int 0, .int 0, .int 0, .int 0, .int 0, .int 0, .int 0, .ref 109, .int 0, .int 0, .ref 110, .ref 111, .ref 112, .ref 113, .ref 114, .ref 115, .ref 116, .ref 117, .int 0, .int 0, .int (-1), .int (-1), .ref 118, .ref 119, .ref 120, .ref 121, .ref 122, .ref 123, .ref 124, .ref 125, .ref 126, .ref 127, .ref 128, .ref 129, .int 0, .ref 130, .ref 131, .ref 132, .ref 133, .ref 134, .int 0, .int 0])) := rfl
set_option maxRecDepth 100000 in
theorem H0_99 : H0 99 = some (.inl (0, 7, .inl (fun _ => 0))) := rfl
set_option maxRecDepth 100000 in
theorem H0_100 : H0 100 = some (.inl (0, 4870, .inl (upd (fun _ => 0) 63 (-1)))) := rfl
set_option maxRecDepth 100000 in
theorem H0_101 : H0 101 = some (.inl (0, 9740, .inl (fun _ => 0))) := rfl
set_option maxRecDepth 100000 in
theorem H0_102 : H0 102 = some (.inl (2, 2, .inl (fun _ => 0))) := rfl
set_option maxRecDepth 100000 in
theorem H0_103 : H0 103 = some (.inl (3, 73, .inl (upd (upd (upd (upd (upd (upd (upd (upd (upd (upd (upd (upd (upd (upd (upd (upd (upd (upd (upd (upd (upd (upd (upd (upd (upd (upd (upd (upd (upd (upd (upd (upd (upd (upd (upd (upd (upd (upd (upd (upd (upd (upd (upd (upd (upd (upd (upd (upd (upd (upd (upd (upd (upd (upd (upd (upd (upd (upd (upd (upd (upd (upd (upd (upd (upd (upd (upd (upd (upd (upd (upd (upd (upd (fun _ => 0) 0 116) 1 97) 2 107) 3 101) 4 115) 5 32) 6 108) 7 101) 8 116) 9 115) 10 32) 11 98) 12 97) 13 114) 14 115) 15 32) 16 105) 17 102) 18 32) 19 111) 20 114) 21 32) 22 97) 23 110) 24 100) 25 32) 26 110) 27 111) 28 116) 29 32) 30 108) 31 101) 32 102) 33 116) 34 32) 35 114) 36 105) 37 103) 38 104) 39 116) 40 32) 41 111) 42 110) 43 101) 44 32) 45 111) 46 116) 47 104) 48 101) 49 114) 50 32) 51 97) 52 112) 53 97) 54 114) 55 116) 56 32) 57 102) 58 105) 59 114) 60 115) 61 116) 62 32) 63 98) 64 101) 65 97) 66 110) 67 115) 68 32) 69 100) 70 97) 71 121) 72 32))) := rfl
set_option maxRecDepth 100000 in
theorem H0_104 : H0 104 = some (.inl (3, 400, .inl (fun _ => 0))) := rfl
set_option maxRecDepth 100000 in
theorem H0_105 : H0 105 = some (.inl (0, 5, .inl (fun _ => 0))) := rfl
set_option maxRecDepth 100000 in
theorem H0_106 : H0 106 = some (.inl (0, 401, .inl (fun _ => 0))) := rfl
set_option maxRecDepth 100000 in
theorem H0_107 : H0 107 = some (.inl (0, 401, .inl (fun _ => 0))) := rfl
set_option maxRecDepth 100000 in
theorem H0_108 : H0 108 = some (.inl (0, 401, .inl (fun _ => 0))) := rfl
set_option maxRecDepth 100000 in
theorem H0_109 : H0 109 = some (.inl (0, 8, .inl (fun _ => 0))) := rfl
set_option maxRecDepth 100000 in
theorem H0_110 : H0 110 = some (.inl (0, 8820, .inl (fun _ => 0))) := rfl
set_option maxRecDepth 100000 in
theorem H0_111 : H0 111 = some (.inl (0, 1260, .inl (fun _ => 0))) := rfl
set_option maxRecDepth 100000 in
theorem H0_112 : H0 112 = some (.inl (0, 27720, .inl (fun _ => 0))) := rfl
set_option maxRecDepth 100000 in
theorem H0_113 : H0 113 = some (.inl (0, 27720, .inl (fun _ => 0))) := rfl
set_option maxRecDepth 100000 in
theorem H0_114 : H0 114 = some (.inl (0, 1260, .inl (fun _ => 0))) := rfl
set_option maxRecDepth 100000 in
theorem H0_115 : H0 115 = some (.inl (0, 27720, .inl (fun _ => 0))) := rfl
set_option maxRecDepth 100000 in
theorem H0_116 : H0 116 = some (.inl (0, 1260, .inl (fun _ => 0))) := rfl
set_option maxRecDepth 100000 in
theorem H0_117 : H0 117 = some (.inl (0, 7, .inl (fun _ => 0))) := rfl
set_option maxRecDepth 100000 in
theorem H0_118 : H0 118 = some (.inl (0, 1260, .inl (fun _ => 0))) := rfl
set_option maxRecDepth 100000 in
theorem H0_119 : H0 119 = some (.inl (1, 1260, .inr (.inl (fun _ => 0)))) := rfl
set_option maxRecDepth 100000 in
theorem H0_120 : H0 120 = some (.inl (0, 1260, .inl (fun _ => 0))) := rfl
set_option maxRecDepth 100000 in
theorem H0_121 : H0 121 = some (.inl (0, 1260, .inl (fun _ => 0))) := rfl
set_option maxRecDepth 100000 in
theorem H0_122 : H0 122 = some (.inl (2, 1260, .inl (fun _ => 0))) := rfl
set_option maxRecDepth 100000 in
theorem H0_123 : H0 123 = some (.inl (0, 1260, .inl (fun _ => 0))) := rfl
set_option maxRecDepth 100000 in
theorem H0_124 : H0 124 = some (.inl (2, 27720, .inl (fun _ => 0))) := rfl
set_option maxRecDepth 100000 in
theorem H0_125 : H0 125 = some (.inl (0, 1260, .inl (fun _ => 0))) := rfl
set_option maxRecDepth 100000 in
theorem H0_126 : H0 126 = some (.inl (0, 1260, .inl (fun _ => 0))) := rfl
set_option maxRecDepth 100000 in
theorem H0_127 : H0 127 = some (.inl (1, 1260, .inr (.inl (fun _ => 0)))) := rfl
set_option maxRecDepth 100000 in
theorem H0_128 : H0 128 = some (.inl (1, 1260, .inr (.inl (fun _ => 0)))) := rfl
set_option maxRecDepth 100000 in
theorem H0_129 : H0 129 = some (.inl (2, 229376, .inl (fun _ => 0))) := rfl
set_option maxRecDepth 100000 in
theorem H0_130 : H0 130 = some (.inl (2, 1260, .inl (fun _ => 0))) := rfl
set_option maxRecDepth 100000 in
theorem H0_131 : H0 131 = some (.inl (0, 1261, .inl (fun _ => 0))) := rfl
set_option maxRecDepth 100000 in
theorem H0_132 : H0 132 = some (.inl (0, 1600, .inl (fun _ => 0))) := rfl
set_option maxRecDepth 100000 in
theorem H0_133 : H0 133 = some (.inl (0, 1600, .inl (fun _ => 0))) := rfl
set_option maxRecDepth 100000 in
theorem H0_134 : H0 134 = some (.inl (0, 1260, .inl (fun _ => 0))) := rfl
set_option maxHeartbeats 4000000 in
set_option maxRecDepth 100000 in
theorem law_at18 {l : Launch} {G : jG} {b L : Nat} {xs : Nat → Int32} (k : J l G ML_law room_1 (lE b L xs G) lQ (135, H0) 135 415506 18 [some (.retAddr 0), some (.ref 0), some (.ref 98), some (.int 0)] []) : J l G ML_law room_1 (lE b L xs G) lQ (0, h0) 0 0 0 [some (.retAddr 0), none, none, none] [] := by
  refine J_hc0 ?_
  refine K_new (nh2 := 1) (ck2 := 1) (sk2 := 17) dL_law_0 nw_L_7 (fun _ => rfl) (Nat.le_of_ble_eq_true rfl) (Nat.le_of_ble_eq_true rfl) rfl rfl rfl ?_
  refine J_dup dL_law_3 rfl ?_
  refine J_callI (st := [.ref 0]) dL_law_4 ci_L_9 (c_X11_init_1 rfl) rfl rfl (Nat.le_of_ble_eq_true rfl) ⟨(Nat.le_of_ble_eq_true rfl), (Nat.le_of_ble_eq_true rfl)⟩ ⟨(Nat.le_of_ble_eq_true rfl), (Nat.le_of_ble_eq_true rfl)⟩ (fun r h9 hp => ?_)
  obtain ⟨rfl, rfl⟩ := hp
  refine J_nf (nh2 := 98) (ck2 := 98) (sk2 := 26698) (st2 := [.ref 0]) rfl rfl rfl rfl ?_
  refine J_app (L3 := [(51, .inr (0, [.ref 52, .ref 53, .int 1, .int 0])), (52, .inl (0, 1260, .inl (upd (fun _ => 0) 0 0))), (0, .inr (11, [.ref 1, .ref 17, .ref 50, .ref 51, .ref 54, .ref 57, .ref 65, .ref 75, .ref 81, .ref 85, .ref 88, .ref 93, .ref 96, .int 0, .int (-1), .ref 97, .int 0])), (97, .inl (0, 1260, .inl (fun _ => 0))), (96, .inl (0, 5, .inl (fun _ => 0))), (93, .inr (4, [.ref 51, .ref 57, .ref 94, .ref 95, .int 0])), (95, .inl (0, 0, .inl (fun _ => 0))), (94, .inl (0, 0, .inl (fun _ => 0))), (88, .inr (6, [.ref 1, .ref 51, .ref 57, .ref 65, .ref 89, .ref 90, .int 0, .int (-1), .ref 91, .ref 92, .int (-1), .int (-1), .int (-1)])), (92, .inl (0, 1260, .inl (fun _ => 0))), (91, .inl (0, 1260, .inl (fun _ => 0))), (90, .inl (0, 1260, .inl (fun _ => 0))), (89, .inl (2, 1260, .inl (fun _ => 0))), (85, .inr (2, [.ref 1, .ref 51, .ref 86, .ref 87])), (87, .inl (0, 12, .inl (fun _ => 0))), (86, .inl (0, 12, .inl (fun _ => 0))), (81, .inr (7, [.ref 51, .ref 57, .ref 82, .ref 83, .ref 84, .int 0, .int (-1)])), (84, .inl (0, 0, .inl (fun _ => 0))), (83, .inl (0, 14, .inl (fun _ => 0))), (82, .inl (0, 14, .inl (fun _ => 0))), (75, .inr (3, [.ref 51, .ref 57, .ref 76, .ref 77, .ref 78, .ref 79, .ref 80, .int 0])), (80, .inl (0, 1260, .inl (fun _ => 0))), (79, .inl (0, 1260, .inl (fun _ => 0))), (78, .inl (0, 1261, .inl (fun _ => 0))), (77, .inl (0, 0, .inl (fun _ => 0))), (76, .inl (0, 0, .inl (fun _ => 0))), (65, .inr (10, [.ref 51, .ref 57, .ref 66, .ref 67, .ref 68, .int 0, .int (-1), .int (-1), .ref 69, .ref 70, .ref 71, .ref 72, .int 0, .int (-1), .int (-1), .ref 73, .ref 74])), (74, .inl (1, 1260, .inr (.inl (fun _ => 0)))), (73, .inl (1, 1260, .inr (.inl (fun _ => 0)))), (72, .inl (0, 1260, .inl (fun _ => 0))), (71, .inl (0, 1260, .inl (fun _ => 0))), (70, .inl (0, 100, .inl (fun _ => 0))), (69, .inl (0, 1260, .inl (fun _ => 0))), (68, .inl (0, 1260, .inl (fun _ => 0))), (67, .inl (0, 1260, .inl (fun _ => 0))), (66, .inl (0, 1260, .inl (fun _ => 0))), (57, .inr (9, [.ref 1, .ref 51, .ref 58, .ref 61, .ref 62, .ref 63, .ref 64, .int 0, .int 1, .int 1])), (64, .inl (0, 2625, .inl (fun _ => 0))), (63, .inl (0, 0, .inl (fun _ => 0))), (62, .inl (0, 1260, .inl (fun _ => 0))), (61, .inl (0, 0, .inl (fun _ => 0))), (58, .inr (1, [.ref 59, .ref 60, .int 0, .int 0, .int 0, .int 0, .int 0, .int 1])), (60, .inl (1, 64, .inr (.inl (fun _ => 0)))), (59, .inl (0, 8, .inl (fun _ => 0))), (54, .inr (5, [.ref 55, .int 0, .int 17, .int 0, .int 0, .int 0, .int 0, .int (-1), .ref 56, .int 0])), (56, .inl (0, 412, .inl (fun _ => 0))), (55, .inl (0, 400, .inl (fun _ => 0))), (53, .inl (0, 7, .inl (fun _ => 0))), (50, .inl (2, 2, .inl (fun _ => 0))), (17, .inl (4, 2, .inr (.inr (.inr (.inr (va_up (va_up (fun _ => none) 0 (some 18)) 1 (some 34))))))), (34, .inr (8, [.ref 35, .ref 36, .ref 37, .int 0, .int (-1), .ref 44, .ref 45, .int 0, .ref 46, .ref 47, .int 0, .ref 48, .ref 49, .int 0])), (49, .inl (0, 12, .inl (fun _ => 0))), (48, .inl (0, 12, .inl (fun _ => 0))), (47, .inl (0, 6, .inl (fun _ => 0))), (46, .inl (0, 6, .inl (fun _ => 0))), (45, .inl (0, 8, .inl (fun _ => 0))), (44, .inl (0, 8, .inl (fun _ => 0))), (43, .inl (0, 0, .inl (fun _ => 0))), (42, .inl (0, 0, .inl (fun _ => 0))), (41, .inl (0, 0, .inl (fun _ => 0))), (40, .inl (0, 0, .inl (fun _ => 0))), (39, .inl (0, 0, .inl (fun _ => 0))), (38, .inl (0, 0, .inl (fun _ => 0))), (37, .inl (5, 6, .inr (.inr (.inr (.inr (fun i => if i < 6 then some (37 + 1 + i) else none)))))), (36, .inl (0, 2, .inl (fun _ => 0))), (35, .inl (0, 5, .inl (fun _ => 0))), (18, .inr (8, [.ref 19, .ref 20, .ref 21, .int 0, .int (-1), .ref 28, .ref 29, .int 0, .ref 30, .ref 31, .int 0, .ref 32, .ref 33, .int 0])), (33, .inl (0, 12, .inl (fun _ => 0))), (32, .inl (0, 12, .inl (fun _ => 0))), (31, .inl (0, 6, .inl (fun _ => 0))), (30, .inl (0, 6, .inl (fun _ => 0))), (29, .inl (0, 8, .inl (fun _ => 0))), (28, .inl (0, 8, .inl (fun _ => 0))), (27, .inl (0, 0, .inl (fun _ => 0))), (26, .inl (0, 0, .inl (fun _ => 0))), (25, .inl (0, 0, .inl (fun _ => 0))), (24, .inl (0, 0, .inl (fun _ => 0))), (23, .inl (0, 0, .inl (fun _ => 0))), (22, .inl (0, 0, .inl (fun _ => 0))), (21, .inl (5, 6, .inr (.inr (.inr (.inr (fun i => if i < 6 then some (21 + 1 + i) else none)))))), (20, .inl (0, 2, .inl (fun _ => 0))), (19, .inl (0, 5, .inl (fun _ => 0))), (1, .inr (8, [.ref 2, .ref 3, .ref 4, .int 0, .int (-1), .ref 11, .ref 12, .int 0, .ref 13, .ref 14, .int 0, .ref 15, .ref 16, .int 0])), (16, .inl (0, 12, .inl (fun _ => 0))), (15, .inl (0, 12, .inl (fun _ => 0))), (14, .inl (0, 6, .inl (fun _ => 0))), (13, .inl (0, 6, .inl (fun _ => 0))), (12, .inl (0, 8, .inl (fun _ => 0))), (11, .inl (0, 8, .inl (fun _ => 0))), (10, .inl (0, 0, .inl (fun _ => 0))), (9, .inl (0, 0, .inl (fun _ => 0))), (8, .inl (0, 0, .inl (fun _ => 0))), (7, .inl (0, 0, .inl (fun _ => 0))), (6, .inl (0, 0, .inl (fun _ => 0))), (5, .inl (0, 0, .inl (fun _ => 0))), (4, .inl (5, 6, .inr (.inr (.inr (.inr (fun i => if i < 6 then some (4 + 1 + i) else none)))))), (3, .inl (0, 2, .inl (fun _ => 0))), (2, .inl (0, 5, .inl (fun _ => 0))), (0, .inr (11, [.null, .null, .null, .null, .null, .null, .null, .null, .null, .null, .null, .null, .null, .int 0, .int 0, .null, .int 0]))]) rfl ?_
  refine J_astore_n dL_law_7 rfl (Nat.le_of_ble_eq_true rfl) rfl ?_
  refine K_new (nh2 := 99) (ck2 := 99) (sk2 := 26754) dL_law_8 nw_L_10 (fun _ => rfl) (Nat.le_of_ble_eq_true rfl) (Nat.le_of_ble_eq_true rfl) rfl rfl rfl ?_
  refine J_dup dL_law_11 rfl ?_
  refine J_callI (st := [.ref 98]) dL_law_12 ci_L_12 (c_X12_init_1 rfl) rfl rfl (Nat.le_of_ble_eq_true rfl) ⟨(Nat.le_of_ble_eq_true rfl), (Nat.le_of_ble_eq_true rfl)⟩ ⟨(Nat.le_of_ble_eq_true rfl), (Nat.le_of_ble_eq_true rfl)⟩ (fun r h9 hp => ?_)
  obtain ⟨rfl, rfl⟩ := hp
  refine J_nf (nh2 := 135) (ck2 := 135) (sk2 := 415506) (st2 := [.ref 98]) rfl rfl rfl rfl ?_
  refine J_app (L3 := [(100, .inl (0, 4870, .inl (upd (fun _ => 0) 63 (-1)))), (98, .inr (12, [.int 0, .int 0, .ref 99, .ref 100, .ref 101, .ref 102, .ref 103, .ref 104, .ref 105, .int 0, .int (-1), .ref 106, .ref 107, .ref 108, .int 0, .int 0, .int 0, .int 0, .int 0, .int 0, .int 0, .ref 109, .int 0, .int 0, .ref 110, .ref 111, .ref 112, .ref 113, .ref 114, .ref 115, .ref 116, .ref 117, .int 0, .int 0, .int (-1), .int (-1), .ref 118, .ref 119, .ref 120, .ref 121, .ref 122, .ref 123, .ref 124, .ref 125, .ref 126, .ref 127, .ref 128, .ref 129, .int 0, .ref 130, .ref 131, .ref 132, .ref 133, .ref 134, .int 0, .int 0])), (134, .inl (0, 1260, .inl (fun _ => 0))), (133, .inl (0, 1600, .inl (fun _ => 0))), (132, .inl (0, 1600, .inl (fun _ => 0))), (131, .inl (0, 1261, .inl (fun _ => 0))), (130, .inl (2, 1260, .inl (fun _ => 0))), (129, .inl (2, 229376, .inl (fun _ => 0))), (128, .inl (1, 1260, .inr (.inl (fun _ => 0)))), (127, .inl (1, 1260, .inr (.inl (fun _ => 0)))), (126, .inl (0, 1260, .inl (fun _ => 0))), (125, .inl (0, 1260, .inl (fun _ => 0))), (124, .inl (2, 27720, .inl (fun _ => 0))), (123, .inl (0, 1260, .inl (fun _ => 0))), (122, .inl (2, 1260, .inl (fun _ => 0))), (121, .inl (0, 1260, .inl (fun _ => 0))), (120, .inl (0, 1260, .inl (fun _ => 0))), (119, .inl (1, 1260, .inr (.inl (fun _ => 0)))), (118, .inl (0, 1260, .inl (fun _ => 0))), (117, .inl (0, 7, .inl (fun _ => 0))), (116, .inl (0, 1260, .inl (fun _ => 0))), (115, .inl (0, 27720, .inl (fun _ => 0))), (114, .inl (0, 1260, .inl (fun _ => 0))), (113, .inl (0, 27720, .inl (fun _ => 0))), (112, .inl (0, 27720, .inl (fun _ => 0))), (111, .inl (0, 1260, .inl (fun _ => 0))), (110, .inl (0, 8820, .inl (fun _ => 0))), (109, .inl (0, 8, .inl (fun _ => 0))), (108, .inl (0, 401, .inl (fun _ => 0))), (107, .inl (0, 401, .inl (fun _ => 0))), (106, .inl (0, 401, .inl (fun _ => 0))), (105, .inl (0, 5, .inl (fun _ => 0))), (104, .inl (3, 400, .inl (fun _ => 0))), (103, .inl (3, 73, .inl (upd (upd (upd (upd (upd (upd (upd (upd (upd (upd (upd (upd (upd (upd (upd (upd (upd (upd (upd (upd (upd (upd (upd (upd (upd (upd (upd (upd (upd (upd (upd (upd (upd (upd (upd (upd (upd (upd (upd (upd (upd (upd (upd (upd (upd (upd (upd (upd (upd (upd (upd (upd (upd (upd (upd (upd (upd (upd (upd (upd (upd (upd (upd (upd (upd (upd (upd (upd (upd (upd (upd (upd (upd (fun _ => 0) 0 116) 1 97) 2 107) 3 101) 4 115) 5 32) 6 108) 7 101) 8 116) 9 115) 10 32) 11 98) 12 97) 13 114) 14 115) 15 32) 16 105) 17 102) 18 32) 19 111) 20 114) 21 32) 22 97) 23 110) 24 100) 25 32) 26 110) 27 111) 28 116) 29 32) 30 108) 31 101) 32 102) 33 116) 34 32) 35 114) 36 105) 37 103) 38 104) 39 116) 40 32) 41 111) 42 110) 43 101) 44 32) 45 111) 46 116) 47 104) 48 101) 49 114) 50 32) 51 97) 52 112) 53 97) 54 114) 55 116) 56 32) 57 102) 58 105) 59 114) 60 115) 61 116) 62 32) 63 98) 64 101) 65 97) 66 110) 67 115) 68 32) 69 100) 70 97) 71 121) 72 32))), (102, .inl (2, 2, .inl (fun _ => 0))), (101, .inl (0, 9740, .inl (fun _ => 0))), (99, .inl (0, 7, .inl (fun _ => 0))), (98, .inr (12, [.int 0, .int 0, .null, .null, .null, .null, .null, .null, .null, .int 0, .int 0, .null, .null, .null, .int 0, .int 0, .int 0, .int 0, .int 0, .int 0, .int 0, .null, .int 0, .int 0, .null, .null, .null, .null, .null, .null, .null, .null, .int 0, .int 0, .int 0, .int 0, .null, .null, .null, .null, .null, .null, .null, .null, .null, .null, .null, .null, .int 0, .null, .null, .null, .null, .null, .int 0, .int 0])), (51, .inr (0, [.ref 52, .ref 53, .int 1, .int 0])), (52, .inl (0, 1260, .inl (upd (fun _ => 0) 0 0))), (0, .inr (11, [.ref 1, .ref 17, .ref 50, .ref 51, .ref 54, .ref 57, .ref 65, .ref 75, .ref 81, .ref 85, .ref 88, .ref 93, .ref 96, .int 0, .int (-1), .ref 97, .int 0])), (97, .inl (0, 1260, .inl (fun _ => 0))), (96, .inl (0, 5, .inl (fun _ => 0))), (93, .inr (4, [.ref 51, .ref 57, .ref 94, .ref 95, .int 0])), (95, .inl (0, 0, .inl (fun _ => 0))), (94, .inl (0, 0, .inl (fun _ => 0))), (88, .inr (6, [.ref 1, .ref 51, .ref 57, .ref 65, .ref 89, .ref 90, .int 0, .int (-1), .ref 91, .ref 92, .int (-1), .int (-1), .int (-1)])), (92, .inl (0, 1260, .inl (fun _ => 0))), (91, .inl (0, 1260, .inl (fun _ => 0))), (90, .inl (0, 1260, .inl (fun _ => 0))), (89, .inl (2, 1260, .inl (fun _ => 0))), (85, .inr (2, [.ref 1, .ref 51, .ref 86, .ref 87])), (87, .inl (0, 12, .inl (fun _ => 0))), (86, .inl (0, 12, .inl (fun _ => 0))), (81, .inr (7, [.ref 51, .ref 57, .ref 82, .ref 83, .ref 84, .int 0, .int (-1)])), (84, .inl (0, 0, .inl (fun _ => 0))), (83, .inl (0, 14, .inl (fun _ => 0))), (82, .inl (0, 14, .inl (fun _ => 0))), (75, .inr (3, [.ref 51, .ref 57, .ref 76, .ref 77, .ref 78, .ref 79, .ref 80, .int 0])), (80, .inl (0, 1260, .inl (fun _ => 0))), (79, .inl (0, 1260, .inl (fun _ => 0))), (78, .inl (0, 1261, .inl (fun _ => 0))), (77, .inl (0, 0, .inl (fun _ => 0))), (76, .inl (0, 0, .inl (fun _ => 0))), (65, .inr (10, [.ref 51, .ref 57, .ref 66, .ref 67, .ref 68, .int 0, .int (-1), .int (-1), .ref 69, .ref 70, .ref 71, .ref 72, .int 0, .int (-1), .int (-1), .ref 73, .ref 74])), (74, .inl (1, 1260, .inr (.inl (fun _ => 0)))), (73, .inl (1, 1260, .inr (.inl (fun _ => 0)))), (72, .inl (0, 1260, .inl (fun _ => 0))), (71, .inl (0, 1260, .inl (fun _ => 0))), (70, .inl (0, 100, .inl (fun _ => 0))), (69, .inl (0, 1260, .inl (fun _ => 0))), (68, .inl (0, 1260, .inl (fun _ => 0))), (67, .inl (0, 1260, .inl (fun _ => 0))), (66, .inl (0, 1260, .inl (fun _ => 0))), (57, .inr (9, [.ref 1, .ref 51, .ref 58, .ref 61, .ref 62, .ref 63, .ref 64, .int 0, .int 1, .int 1])), (64, .inl (0, 2625, .inl (fun _ => 0))), (63, .inl (0, 0, .inl (fun _ => 0))), (62, .inl (0, 1260, .inl (fun _ => 0))), (61, .inl (0, 0, .inl (fun _ => 0))), (58, .inr (1, [.ref 59, .ref 60, .int 0, .int 0, .int 0, .int 0, .int 0, .int 1])), (60, .inl (1, 64, .inr (.inl (fun _ => 0)))), (59, .inl (0, 8, .inl (fun _ => 0))), (54, .inr (5, [.ref 55, .int 0, .int 17, .int 0, .int 0, .int 0, .int 0, .int (-1), .ref 56, .int 0])), (56, .inl (0, 412, .inl (fun _ => 0))), (55, .inl (0, 400, .inl (fun _ => 0))), (53, .inl (0, 7, .inl (fun _ => 0))), (50, .inl (2, 2, .inl (fun _ => 0))), (17, .inl (4, 2, .inr (.inr (.inr (.inr (va_up (va_up (fun _ => none) 0 (some 18)) 1 (some 34))))))), (34, .inr (8, [.ref 35, .ref 36, .ref 37, .int 0, .int (-1), .ref 44, .ref 45, .int 0, .ref 46, .ref 47, .int 0, .ref 48, .ref 49, .int 0])), (49, .inl (0, 12, .inl (fun _ => 0))), (48, .inl (0, 12, .inl (fun _ => 0))), (47, .inl (0, 6, .inl (fun _ => 0))), (46, .inl (0, 6, .inl (fun _ => 0))), (45, .inl (0, 8, .inl (fun _ => 0))), (44, .inl (0, 8, .inl (fun _ => 0))), (43, .inl (0, 0, .inl (fun _ => 0))), (42, .inl (0, 0, .inl (fun _ => 0))), (41, .inl (0, 0, .inl (fun _ => 0))), (40, .inl (0, 0, .inl (fun _ => 0))), (39, .inl (0, 0, .inl (fun _ => 0))), (38, .inl (0, 0, .inl (fun _ => 0))), (37, .inl (5, 6, .inr (.inr (.inr (.inr (fun i => if i < 6 then some (37 + 1 + i) else none)))))), (36, .inl (0, 2, .inl (fun _ => 0))), (35, .inl (0, 5, .inl (fun _ => 0))), (18, .inr (8, [.ref 19, .ref 20, .ref 21, .int 0, .int (-1), .ref 28, .ref 29, .int 0, .ref 30, .ref 31, .int 0, .ref 32, .ref 33, .int 0])), (33, .inl (0, 12, .inl (fun _ => 0))), (32, .inl (0, 12, .inl (fun _ => 0))), (31, .inl (0, 6, .inl (fun _ => 0))), (30, .inl (0, 6, .inl (fun _ => 0))), (29, .inl (0, 8, .inl (fun _ => 0))), (28, .inl (0, 8, .inl (fun _ => 0))), (27, .inl (0, 0, .inl (fun _ => 0))), (26, .inl (0, 0, .inl (fun _ => 0))), (25, .inl (0, 0, .inl (fun _ => 0))), (24, .inl (0, 0, .inl (fun _ => 0))), (23, .inl (0, 0, .inl (fun _ => 0))), (22, .inl (0, 0, .inl (fun _ => 0))), (21, .inl (5, 6, .inr (.inr (.inr (.inr (fun i => if i < 6 then some (21 + 1 + i) else none)))))), (20, .inl (0, 2, .inl (fun _ => 0))), (19, .inl (0, 5, .inl (fun _ => 0))), (1, .inr (8, [.ref 2, .ref 3, .ref 4, .int 0, .int (-1), .ref 11, .ref 12, .int 0, .ref 13, .ref 14, .int 0, .ref 15, .ref 16, .int 0])), (16, .inl (0, 12, .inl (fun _ => 0))), (15, .inl (0, 12, .inl (fun _ => 0))), (14, .inl (0, 6, .inl (fun _ => 0))), (13, .inl (0, 6, .inl (fun _ => 0))), (12, .inl (0, 8, .inl (fun _ => 0))), (11, .inl (0, 8, .inl (fun _ => 0))), (10, .inl (0, 0, .inl (fun _ => 0))), (9, .inl (0, 0, .inl (fun _ => 0))), (8, .inl (0, 0, .inl (fun _ => 0))), (7, .inl (0, 0, .inl (fun _ => 0))), (6, .inl (0, 0, .inl (fun _ => 0))), (5, .inl (0, 0, .inl (fun _ => 0))), (4, .inl (5, 6, .inr (.inr (.inr (.inr (fun i => if i < 6 then some (4 + 1 + i) else none)))))), (3, .inl (0, 2, .inl (fun _ => 0))), (2, .inl (0, 5, .inl (fun _ => 0))), (0, .inr (11, [.null, .null, .null, .null, .null, .null, .null, .null, .null, .null, .null, .null, .null, .int 0, .int 0, .null, .int 0]))]) rfl ?_
  refine J_astore_n dL_law_15 rfl (Nat.le_of_ble_eq_true rfl) rfl ?_
  refine J_iconst (v := 0) dL_law_16 (by decide) ?_
  refine J_istore_n dL_law_17 rfl (Nat.le_of_ble_eq_true rfl) rfl ?_
  refine J_mask (L2 := [(100, .inl (0, 4870, .inl (upd (fun _ => 0) 63 (-1)))), (98, .inr (12, [.int 0, .int 0, .ref 99, .ref 100, .ref 101, .ref 102, .ref 103, .ref 104, .ref 105, .int 0, .int (-1), .ref 106, .ref 107, .ref 108, .int 0, .int 0, .int 0, .int 0, .int 0, .int 0, .int 0, .ref 109, .int 0, .int 0, .ref 110, .ref 111, .ref 112, .ref 113, .ref 114, .ref 115, .ref 116, .ref 117, .int 0, .int 0, .int (-1), .int (-1), .ref 118, .ref 119, .ref 120, .ref 121, .ref 122, .ref 123, .ref 124, .ref 125, .ref 126, .ref 127, .ref 128, .ref 129, .int 0, .ref 130, .ref 131, .ref 132, .ref 133, .ref 134, .int 0, .int 0])), (134, .inl (0, 1260, .inl (fun _ => 0))), (133, .inl (0, 1600, .inl (fun _ => 0))), (132, .inl (0, 1600, .inl (fun _ => 0))), (131, .inl (0, 1261, .inl (fun _ => 0))), (130, .inl (2, 1260, .inl (fun _ => 0))), (129, .inl (2, 229376, .inl (fun _ => 0))), (128, .inl (1, 1260, .inr (.inl (fun _ => 0)))), (127, .inl (1, 1260, .inr (.inl (fun _ => 0)))), (126, .inl (0, 1260, .inl (fun _ => 0))), (125, .inl (0, 1260, .inl (fun _ => 0))), (124, .inl (2, 27720, .inl (fun _ => 0))), (123, .inl (0, 1260, .inl (fun _ => 0))), (122, .inl (2, 1260, .inl (fun _ => 0))), (121, .inl (0, 1260, .inl (fun _ => 0))), (120, .inl (0, 1260, .inl (fun _ => 0))), (119, .inl (1, 1260, .inr (.inl (fun _ => 0)))), (118, .inl (0, 1260, .inl (fun _ => 0))), (117, .inl (0, 7, .inl (fun _ => 0))), (116, .inl (0, 1260, .inl (fun _ => 0))), (115, .inl (0, 27720, .inl (fun _ => 0))), (114, .inl (0, 1260, .inl (fun _ => 0))), (113, .inl (0, 27720, .inl (fun _ => 0))), (112, .inl (0, 27720, .inl (fun _ => 0))), (111, .inl (0, 1260, .inl (fun _ => 0))), (110, .inl (0, 8820, .inl (fun _ => 0))), (109, .inl (0, 8, .inl (fun _ => 0))), (108, .inl (0, 401, .inl (fun _ => 0))), (107, .inl (0, 401, .inl (fun _ => 0))), (106, .inl (0, 401, .inl (fun _ => 0))), (105, .inl (0, 5, .inl (fun _ => 0))), (104, .inl (3, 400, .inl (fun _ => 0))), (103, .inl (3, 73, .inl (upd (upd (upd (upd (upd (upd (upd (upd (upd (upd (upd (upd (upd (upd (upd (upd (upd (upd (upd (upd (upd (upd (upd (upd (upd (upd (upd (upd (upd (upd (upd (upd (upd (upd (upd (upd (upd (upd (upd (upd (upd (upd (upd (upd (upd (upd (upd (upd (upd (upd (upd (upd (upd (upd (upd (upd (upd (upd (upd (upd (upd (upd (upd (upd (upd (upd (upd (upd (upd (upd (upd (upd (upd (fun _ => 0) 0 116) 1 97) 2 107) 3 101) 4 115) 5 32) 6 108) 7 101) 8 116) 9 115) 10 32) 11 98) 12 97) 13 114) 14 115) 15 32) 16 105) 17 102) 18 32) 19 111) 20 114) 21 32) 22 97) 23 110) 24 100) 25 32) 26 110) 27 111) 28 116) 29 32) 30 108) 31 101) 32 102) 33 116) 34 32) 35 114) 36 105) 37 103) 38 104) 39 116) 40 32) 41 111) 42 110) 43 101) 44 32) 45 111) 46 116) 47 104) 48 101) 49 114) 50 32) 51 97) 52 112) 53 97) 54 114) 55 116) 56 32) 57 102) 58 105) 59 114) 60 115) 61 116) 62 32) 63 98) 64 101) 65 97) 66 110) 67 115) 68 32) 69 100) 70 97) 71 121) 72 32))), (102, .inl (2, 2, .inl (fun _ => 0))), (101, .inl (0, 9740, .inl (fun _ => 0))), (99, .inl (0, 7, .inl (fun _ => 0))), (51, .inr (0, [.ref 52, .ref 53, .int 1, .int 0])), (52, .inl (0, 1260, .inl (upd (fun _ => 0) 0 0))), (0, .inr (11, [.ref 1, .ref 17, .ref 50, .ref 51, .ref 54, .ref 57, .ref 65, .ref 75, .ref 81, .ref 85, .ref 88, .ref 93, .ref 96, .int 0, .int (-1), .ref 97, .int 0])), (97, .inl (0, 1260, .inl (fun _ => 0))), (96, .inl (0, 5, .inl (fun _ => 0))), (93, .inr (4, [.ref 51, .ref 57, .ref 94, .ref 95, .int 0])), (95, .inl (0, 0, .inl (fun _ => 0))), (94, .inl (0, 0, .inl (fun _ => 0))), (88, .inr (6, [.ref 1, .ref 51, .ref 57, .ref 65, .ref 89, .ref 90, .int 0, .int (-1), .ref 91, .ref 92, .int (-1), .int (-1), .int (-1)])), (92, .inl (0, 1260, .inl (fun _ => 0))), (91, .inl (0, 1260, .inl (fun _ => 0))), (90, .inl (0, 1260, .inl (fun _ => 0))), (89, .inl (2, 1260, .inl (fun _ => 0))), (85, .inr (2, [.ref 1, .ref 51, .ref 86, .ref 87])), (87, .inl (0, 12, .inl (fun _ => 0))), (86, .inl (0, 12, .inl (fun _ => 0))), (81, .inr (7, [.ref 51, .ref 57, .ref 82, .ref 83, .ref 84, .int 0, .int (-1)])), (84, .inl (0, 0, .inl (fun _ => 0))), (83, .inl (0, 14, .inl (fun _ => 0))), (82, .inl (0, 14, .inl (fun _ => 0))), (75, .inr (3, [.ref 51, .ref 57, .ref 76, .ref 77, .ref 78, .ref 79, .ref 80, .int 0])), (80, .inl (0, 1260, .inl (fun _ => 0))), (79, .inl (0, 1260, .inl (fun _ => 0))), (78, .inl (0, 1261, .inl (fun _ => 0))), (77, .inl (0, 0, .inl (fun _ => 0))), (76, .inl (0, 0, .inl (fun _ => 0))), (65, .inr (10, [.ref 51, .ref 57, .ref 66, .ref 67, .ref 68, .int 0, .int (-1), .int (-1), .ref 69, .ref 70, .ref 71, .ref 72, .int 0, .int (-1), .int (-1), .ref 73, .ref 74])), (74, .inl (1, 1260, .inr (.inl (fun _ => 0)))), (73, .inl (1, 1260, .inr (.inl (fun _ => 0)))), (72, .inl (0, 1260, .inl (fun _ => 0))), (71, .inl (0, 1260, .inl (fun _ => 0))), (70, .inl (0, 100, .inl (fun _ => 0))), (69, .inl (0, 1260, .inl (fun _ => 0))), (68, .inl (0, 1260, .inl (fun _ => 0))), (67, .inl (0, 1260, .inl (fun _ => 0))), (66, .inl (0, 1260, .inl (fun _ => 0))), (57, .inr (9, [.ref 1, .ref 51, .ref 58, .ref 61, .ref 62, .ref 63, .ref 64, .int 0, .int 1, .int 1])), (64, .inl (0, 2625, .inl (fun _ => 0))), (63, .inl (0, 0, .inl (fun _ => 0))), (62, .inl (0, 1260, .inl (fun _ => 0))), (61, .inl (0, 0, .inl (fun _ => 0))), (58, .inr (1, [.ref 59, .ref 60, .int 0, .int 0, .int 0, .int 0, .int 0, .int 1])), (60, .inl (1, 64, .inr (.inl (fun _ => 0)))), (59, .inl (0, 8, .inl (fun _ => 0))), (54, .inr (5, [.ref 55, .int 0, .int 17, .int 0, .int 0, .int 0, .int 0, .int (-1), .ref 56, .int 0])), (56, .inl (0, 412, .inl (fun _ => 0))), (55, .inl (0, 400, .inl (fun _ => 0))), (53, .inl (0, 7, .inl (fun _ => 0))), (50, .inl (2, 2, .inl (fun _ => 0))), (17, .inl (4, 2, .inr (.inr (.inr (.inr (va_up (va_up (fun _ => none) 0 (some 18)) 1 (some 34))))))), (34, .inr (8, [.ref 35, .ref 36, .ref 37, .int 0, .int (-1), .ref 44, .ref 45, .int 0, .ref 46, .ref 47, .int 0, .ref 48, .ref 49, .int 0])), (49, .inl (0, 12, .inl (fun _ => 0))), (48, .inl (0, 12, .inl (fun _ => 0))), (47, .inl (0, 6, .inl (fun _ => 0))), (46, .inl (0, 6, .inl (fun _ => 0))), (45, .inl (0, 8, .inl (fun _ => 0))), (44, .inl (0, 8, .inl (fun _ => 0))), (43, .inl (0, 0, .inl (fun _ => 0))), (42, .inl (0, 0, .inl (fun _ => 0))), (41, .inl (0, 0, .inl (fun _ => 0))), (40, .inl (0, 0, .inl (fun _ => 0))), (39, .inl (0, 0, .inl (fun _ => 0))), (38, .inl (0, 0, .inl (fun _ => 0))), (37, .inl (5, 6, .inr (.inr (.inr (.inr (fun i => if i < 6 then some (37 + 1 + i) else none)))))), (36, .inl (0, 2, .inl (fun _ => 0))), (35, .inl (0, 5, .inl (fun _ => 0))), (18, .inr (8, [.ref 19, .ref 20, .ref 21, .int 0, .int (-1), .ref 28, .ref 29, .int 0, .ref 30, .ref 31, .int 0, .ref 32, .ref 33, .int 0])), (33, .inl (0, 12, .inl (fun _ => 0))), (32, .inl (0, 12, .inl (fun _ => 0))), (31, .inl (0, 6, .inl (fun _ => 0))), (30, .inl (0, 6, .inl (fun _ => 0))), (29, .inl (0, 8, .inl (fun _ => 0))), (28, .inl (0, 8, .inl (fun _ => 0))), (27, .inl (0, 0, .inl (fun _ => 0))), (26, .inl (0, 0, .inl (fun _ => 0))), (25, .inl (0, 0, .inl (fun _ => 0))), (24, .inl (0, 0, .inl (fun _ => 0))), (23, .inl (0, 0, .inl (fun _ => 0))), (22, .inl (0, 0, .inl (fun _ => 0))), (21, .inl (5, 6, .inr (.inr (.inr (.inr (fun i => if i < 6 then some (21 + 1 + i) else none)))))), (20, .inl (0, 2, .inl (fun _ => 0))), (19, .inl (0, 5, .inl (fun _ => 0))), (1, .inr (8, [.ref 2, .ref 3, .ref 4, .int 0, .int (-1), .ref 11, .ref 12, .int 0, .ref 13, .ref 14, .int 0, .ref 15, .ref 16, .int 0])), (16, .inl (0, 12, .inl (fun _ => 0))), (15, .inl (0, 12, .inl (fun _ => 0))), (14, .inl (0, 6, .inl (fun _ => 0))), (13, .inl (0, 6, .inl (fun _ => 0))), (12, .inl (0, 8, .inl (fun _ => 0))), (11, .inl (0, 8, .inl (fun _ => 0))), (10, .inl (0, 0, .inl (fun _ => 0))), (9, .inl (0, 0, .inl (fun _ => 0))), (8, .inl (0, 0, .inl (fun _ => 0))), (7, .inl (0, 0, .inl (fun _ => 0))), (6, .inl (0, 0, .inl (fun _ => 0))), (5, .inl (0, 0, .inl (fun _ => 0))), (4, .inl (5, 6, .inr (.inr (.inr (.inr (fun i => if i < 6 then some (4 + 1 + i) else none)))))), (3, .inl (0, 2, .inl (fun _ => 0))), (2, .inl (0, 5, .inl (fun _ => 0)))]) (ks := [100, 98, 134, 133, 132, 131, 130, 129, 128, 127, 126, 125, 124, 123, 122, 121, 120, 119, 118, 117, 116, 115, 114, 113, 112, 111, 110, 109, 108, 107, 106, 105, 104, 103, 102, 101, 99, 98, 51, 52, 0, 97, 96, 93, 95, 94, 88, 92, 91, 90, 89, 85, 87, 86, 81, 84, 83, 82, 75, 80, 79, 78, 77, 76, 65, 74, 73, 72, 71, 70, 69, 68, 67, 66, 57, 64, 63, 62, 61, 58, 60, 59, 54, 56, 55, 53, 50, 17, 34, 49, 48, 47, 46, 45, 44, 43, 42, 41, 40, 39, 38, 37, 36, 35, 18, 33, 32, 31, 30, 29, 28, 27, 26, 25, 24, 23, 22, 21, 20, 19, 1, 16, 15, 14, 13, 12, 11, 10, 9, 8, 7, 6, 5, 4, 3, 2, 0]) [true, true, true, true, true, true, true, true, true, true, true, true, true, true, true, true, true, true, true, true, true, true, true, true, true, true, true, true, true, true, true, true, true, true, true, true, true, false, true, true, true, true, true, true, true, true, true, true, true, true, true, true, true, true, true, true, true, true, true, true, true, true, true, true, true, true, true, true, true, true, true, true, true, true, true, true, true, true, true, true, true, true, true, true, true, true, true, true, true, true, true, true, true, true, true, true, true, true, true, true, true, true, true, true, true, true, true, true, true, true, true, true, true, true, true, true, true, true, true, true, true, true, true, true, true, true, true, true, true, true, true, true, true, true, true, true, false] rfl (by decide +kernel) rfl ?_
  refine J_hp (fh2 := H0) rfl ?_
  exact k
