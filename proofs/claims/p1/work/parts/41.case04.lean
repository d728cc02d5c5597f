/-! the law's cases -/
set_option maxHeartbeats 4000000 in
set_option maxRecDepth 100000 in
theorem law_case_31 {l : Launch} {G : jG} {b : Nat} {xs : Nat → Int32} (x1 : Int32) (hx1 : xs 1 = x1) : J l G ML_law room_1 (lE b 6 xs G) lQ (135, H0) 135 415506 1116 [some (.retAddr 0), some (.ref 0), some (.ref 98), some (.int 0)] [] := by
  have r1 := i32_rng x1
  rcases i_cut x1.toInt 0 with h_0 | h_0
  · have b1 : (-2147483648) ≤ x1.toInt ∧ x1.toInt ≤ (-1) := ⟨by omega, by omega⟩
    refine J_hc0 ?_
    refine J_aload_n dL_law_1116 rfl rfl ?_
    refine J_sload_n dL_law_1117 rfl rfl ?_
    refine J_iload_n dL_law_1118 rfl rfl ?_
    refine J_iconst (v := 1) dL_law_1119 (by decide) ?_
    refine J_iadd (z := 1) dL_law_1120 (by decide +kernel) ?_
    refine L_sld (i2 := 1) (v := x1) dL_law_1121 (jin (by decide +kernel)) (by decide +kernel) hx1 ?_
    refine J_callV (st := []) dL_law_1122 cv_L_144 (c_X11_drawn_2 (x1) b1 H0_0) H0_0 rfl rfl (Nat.le_of_ble_eq_true rfl) ⟨(Nat.le_of_ble_eq_true rfl), (Nat.le_of_ble_eq_true rfl)⟩ ⟨(Nat.le_of_ble_eq_true rfl), (Nat.le_of_ble_eq_true rfl)⟩ (fun r h9 hp => ?_)
    obtain ⟨rfl, rfl⟩ := hp
    refine J_nf (nh2 := 135) (ck2 := 135) (sk2 := 415506) (st2 := [.int (-1)]) rfl rfl rfl rfl ?_
    refine J_aload_n dL_law_1125 rfl rfl ?_
    refine J_sload_n dL_law_1126 rfl rfl ?_
    refine J_iload_n dL_law_1127 rfl rfl ?_
    refine J_iconst (v := 1) dL_law_1128 (by decide) ?_
    refine J_iadd (z := 1) dL_law_1129 (by decide +kernel) ?_
    refine L_sld (i2 := 1) (v := x1) dL_law_1130 (jin (by decide +kernel)) (by decide +kernel) hx1 ?_
    refine J_callV (st := [.int (-1)]) dL_law_1131 cv_L_147 (c_X12_drawn_1 (x1) b1 H0_98) H0_98 rfl rfl (Nat.le_of_ble_eq_true rfl) ⟨(Nat.le_of_ble_eq_true rfl), (Nat.le_of_ble_eq_true rfl)⟩ ⟨(Nat.le_of_ble_eq_true rfl), (Nat.le_of_ble_eq_true rfl)⟩ (fun r h9 hp => ?_)
    obtain ⟨rfl, rfl⟩ := hp
    refine J_nf (nh2 := 135) (ck2 := 135) (sk2 := 415506) (st2 := [.int (-1), .int (-1)]) rfl rfl rfl rfl ?_
    refine J_icmp_eq (tgt := 1221) dL_law_1134 (by decide) (fun _ => ?_) (fun q => absurd (by decide +kernel) q)
    exact law_tail (Nat.le_of_ble_eq_true rfl) (Nat.le_of_ble_eq_true rfl)
  · have b1 : 0 ≤ x1.toInt ∧ x1.toInt ≤ 2147483647 := ⟨by omega, by omega⟩
    refine J_hc0 ?_
    refine J_aload_n dL_law_1116 rfl rfl ?_
    refine J_sload_n dL_law_1117 rfl rfl ?_
    refine J_iload_n dL_law_1118 rfl rfl ?_
    refine J_iconst (v := 1) dL_law_1119 (by decide) ?_
    refine J_iadd (z := 1) dL_law_1120 (by decide +kernel) ?_
    refine L_sld (i2 := 1) (v := x1) dL_law_1121 (jin (by decide +kernel)) (by decide +kernel) hx1 ?_
    refine J_callV (st := []) dL_law_1122 cv_L_144 (c_X11_drawn_3 (x1) b1 H0_0) H0_0 rfl rfl (Nat.le_of_ble_eq_true rfl) ⟨(Nat.le_of_ble_eq_true rfl), (Nat.le_of_ble_eq_true rfl)⟩ ⟨(Nat.le_of_ble_eq_true rfl), (Nat.le_of_ble_eq_true rfl)⟩ (fun r h9 hp => ?_)
    obtain ⟨rfl, rfl⟩ := hp
    refine J_nf (nh2 := 135) (ck2 := 135) (sk2 := 415506) (st2 := [.int (-1)]) rfl rfl rfl rfl ?_
    refine J_aload_n dL_law_1125 rfl rfl ?_
    refine J_sload_n dL_law_1126 rfl rfl ?_
    refine J_iload_n dL_law_1127 rfl rfl ?_
    refine J_iconst (v := 1) dL_law_1128 (by decide) ?_
    refine J_iadd (z := 1) dL_law_1129 (by decide +kernel) ?_
    refine L_sld (i2 := 1) (v := x1) dL_law_1130 (jin (by decide +kernel)) (by decide +kernel) hx1 ?_
    refine J_callV (st := [.int (-1)]) dL_law_1131 cv_L_147 (c_X12_drawn_2 (x1) b1 H0_98) H0_98 rfl rfl (Nat.le_of_ble_eq_true rfl) ⟨(Nat.le_of_ble_eq_true rfl), (Nat.le_of_ble_eq_true rfl)⟩ ⟨(Nat.le_of_ble_eq_true rfl), (Nat.le_of_ble_eq_true rfl)⟩ (fun r h9 hp => ?_)
    obtain ⟨rfl, rfl⟩ := hp
    refine J_nf (nh2 := 135) (ck2 := 135) (sk2 := 415506) (st2 := [.int (-1), .int (-1)]) rfl rfl rfl rfl ?_
    refine J_icmp_eq (tgt := 1221) dL_law_1134 (by decide) (fun _ => ?_) (fun q => absurd (by decide +kernel) q)
    exact law_tail (Nat.le_of_ble_eq_true rfl) (Nat.le_of_ble_eq_true rfl)
set_option maxHeartbeats 4000000 in
set_option maxRecDepth 100000 in
theorem law_case_32 {l : Launch} {G : jG} {b : Nat} {xs : Nat → Int32} (x1 : Int32) (hx1 : xs 1 = x1) : J l G ML_law room_1 (lE b 6 xs G) lQ (135, H0) 135 415506 1139 [some (.retAddr 0), some (.ref 0), some (.ref 98), some (.int 0)] [] := by
  have r1 := i32_rng x1
  rcases i_cut x1.toInt 0 with h_0 | h_0
  · have b1 : (-2147483648) ≤ x1.toInt ∧ x1.toInt ≤ (-1) := ⟨by omega, by omega⟩
    refine J_hc0 ?_
    refine J_aload_n dL_law_1139 rfl rfl ?_
    refine J_sload_n dL_law_1140 rfl rfl ?_
    refine J_iload_n dL_law_1141 rfl rfl ?_
    refine J_iconst (v := 1) dL_law_1142 (by decide) ?_
    refine J_iadd (z := 1) dL_law_1143 (by decide +kernel) ?_
    refine L_sld (i2 := 1) (v := x1) dL_law_1144 (jin (by decide +kernel)) (by decide +kernel) hx1 ?_
    refine J_callV (st := []) dL_law_1145 cv_L_148 (c_X11_image_1 (x1) b1 H0_0 H0_96) H0_0 rfl rfl (Nat.le_of_ble_eq_true rfl) ⟨(Nat.le_of_ble_eq_true rfl), (Nat.le_of_ble_eq_true rfl)⟩ ⟨(Nat.le_of_ble_eq_true rfl), (Nat.le_of_ble_eq_true rfl)⟩ (fun r h9 hp => ?_)
    obtain ⟨rfl, rfl⟩ := hp
    refine J_nf (nh2 := 135) (ck2 := 135) (sk2 := 415506) (st2 := [.int (-1)]) rfl rfl rfl rfl ?_
    refine J_app (L3 := [(96, .inl (0, 5, .inl (upd (fun _ => 0) 0 1))), (0, .inr (11, [.ref 1, .ref 17, .ref 50, .ref 51, .ref 54, .ref 57, .ref 65, .ref 75, .ref 81, .ref 85, .ref 88, .ref 93, .ref 96, .int (-1), .int (-1), .ref 97, .int 0]))]) rfl ?_
    refine J_aload_n dL_law_1148 rfl rfl ?_
    refine J_sload_n dL_law_1149 rfl rfl ?_
    refine J_iload_n dL_law_1150 rfl rfl ?_
    refine J_iconst (v := 1) dL_law_1151 (by decide) ?_
    refine J_iadd (z := 1) dL_law_1152 (by decide +kernel) ?_
    refine L_sld (i2 := 1) (v := x1) dL_law_1153 (jin (by decide +kernel)) (by decide +kernel) hx1 ?_
    refine J_callV (st := [.int (-1)]) dL_law_1154 cv_L_151 (c_X12_image_1 (x1) b1 H0_98 H0_99) H0_98 rfl rfl (Nat.le_of_ble_eq_true rfl) ⟨(Nat.le_of_ble_eq_true rfl), (Nat.le_of_ble_eq_true rfl)⟩ ⟨(Nat.le_of_ble_eq_true rfl), (Nat.le_of_ble_eq_true rfl)⟩ (fun r h9 hp => ?_)
    obtain ⟨rfl, rfl⟩ := hp
    refine J_nf (nh2 := 135) (ck2 := 135) (sk2 := 415506) (st2 := [.int (-1), .int (-1)]) rfl rfl rfl rfl ?_
    refine J_app (L3 := [(99, .inl (0, 7, .inl (upd (fun _ => 0) 1 1))), (98, .inr (12, [.int (-1), .int 0, .ref 99, .ref 100, .ref 101, .ref 102, .ref 103, .ref 104, .ref 105, .int 0, .int (-1), .ref 106, .ref 107, .ref 108, .int 0, .int 0, .int 0, .int 0, .int 0, .int 0, .int 0, .ref 109, .int 0, .int 0, .ref 110, .ref 111, .ref 112, .ref 113, .ref 114, .ref 115, .ref 116, .ref 117, .int 0, .int 0, .int (-1), .int (-1), .ref 118, .ref 119, .ref 120, .ref 121, .ref 122, .ref 123, .ref 124, .ref 125, .ref 126, .ref 127, .ref 128, .ref 129, .int 0, .ref 130, .ref 131, .ref 132, .ref 133, .ref 134, .int 0, .int 0])), (96, .inl (0, 5, .inl (upd (fun _ => 0) 0 1))), (0, .inr (11, [.ref 1, .ref 17, .ref 50, .ref 51, .ref 54, .ref 57, .ref 65, .ref 75, .ref 81, .ref 85, .ref 88, .ref 93, .ref 96, .int (-1), .int (-1), .ref 97, .int 0]))]) rfl ?_
    refine J_icmp_eq (tgt := 1221) dL_law_1157 (by decide) (fun _ => ?_) (fun q => absurd (by decide +kernel) q)
    exact law_tail (Nat.le_of_ble_eq_true rfl) (Nat.le_of_ble_eq_true rfl)
  · rcases i_cut x1.toInt 2 with h_1 | h_1
    · rcases i_cut x1.toInt 1 with h_2 | h_2
      · obtain rfl : x1 = 0 := by rw [fa_eq, kc_0]; omega
        refine J_hc0 ?_
        refine J_aload_n dL_law_1139 rfl rfl ?_
        refine J_sload_n dL_law_1140 rfl rfl ?_
        refine J_iload_n dL_law_1141 rfl rfl ?_
        refine J_iconst (v := 1) dL_law_1142 (by decide) ?_
        refine J_iadd (z := 1) dL_law_1143 (by decide +kernel) ?_
        refine L_sld (i2 := 1) (v := 0) dL_law_1144 (jin (by decide +kernel)) (by decide +kernel) hx1 ?_
        refine J_callV (st := []) dL_law_1145 cv_L_148 (c_X11_image_2 H0_0 H0_1 H0_2 H0_3 H0_4 H0_5 H0_6 H0_7 H0_8 H0_9 H0_10 H0_11 H0_12 H0_13 H0_14 H0_15 H0_16 H0_17 H0_18 H0_19 H0_20 H0_21 H0_28 H0_29 H0_30 H0_31 H0_32 H0_33 H0_50) H0_0 rfl rfl (Nat.le_of_ble_eq_true rfl) ⟨(Nat.le_of_ble_eq_true rfl), (Nat.le_of_ble_eq_true rfl)⟩ ⟨(Nat.le_of_ble_eq_true rfl), (Nat.le_of_ble_eq_true rfl)⟩ (fun r h9 hp => ?_)
        obtain ⟨rfl, rfl⟩ := hp
        refine J_nf (nh2 := 135) (ck2 := 135) (sk2 := 415506) (st2 := [.int 0]) rfl rfl rfl rfl ?_
        refine J_app (L3 := [(0, .inr (11, [.ref 1, .ref 17, .ref 50, .ref 51, .ref 54, .ref 57, .ref 65, .ref 75, .ref 81, .ref 85, .ref 88, .ref 93, .ref 96, .int 0, .int (-1), .ref 97, .int 0])), (50, .inl (2, 2, .inl (upd (fun _ => 0) 0 1))), (18, .inr (8, [.ref 19, .ref 20, .ref 21, .int 0, .int (-1), .ref 28, .ref 29, .int 0, .ref 30, .ref 31, .int 0, .ref 32, .ref 33, .int 0])), (33, .inl (0, 12, .inl (va_cpy (fun _ => 0) (fun _ => 0) 0 0 12))), (32, .inl (0, 12, .inl (va_cpy (fun _ => 0) (fun _ => 0) 0 0 12))), (31, .inl (0, 6, .inl (va_cpy (fun _ => 0) (fun _ => 0) 0 0 6))), (30, .inl (0, 6, .inl (va_cpy (fun _ => 0) (fun _ => 0) 0 0 6))), (29, .inl (0, 8, .inl (va_cpy (fun _ => 0) (fun _ => 0) 0 0 8))), (28, .inl (0, 8, .inl (va_cpy (fun _ => 0) (fun _ => 0) 0 0 8))), (21, .inl (5, 6, .inr (.inr (.inr (.inr (va_up (va_up (va_up (va_up (va_up (va_up (fun i => if i < 6 then some (21 + 1 + i) else none) 0 (some 5)) 1 (some 6)) 2 (some 7)) 3 (some 8)) 4 (some 9)) 5 (some 10))))))), (20, .inl (0, 2, .inl (va_cpy (fun _ => 0) (fun _ => 0) 0 0 2))), (19, .inl (0, 5, .inl (va_cpy (fun _ => 0) (fun _ => 0) 0 0 5)))]) rfl ?_
        refine J_aload_n dL_law_1148 rfl rfl ?_
        refine J_sload_n dL_law_1149 rfl rfl ?_
        refine J_iload_n dL_law_1150 rfl rfl ?_
        refine J_iconst (v := 1) dL_law_1151 (by decide) ?_
        refine J_iadd (z := 1) dL_law_1152 (by decide +kernel) ?_
        refine L_sld (i2 := 1) (v := 0) dL_law_1153 (jin (by decide +kernel)) (by decide +kernel) hx1 ?_
        refine J_callV (st := [.int 0]) dL_law_1154 cv_L_151 (c_X12_image_loop0 H0_98 H0_100 H0_101 H0_102) H0_98 rfl rfl (Nat.le_of_ble_eq_true rfl) ⟨(Nat.le_of_ble_eq_true rfl), (Nat.le_of_ble_eq_true rfl)⟩ ⟨(Nat.le_of_ble_eq_true rfl), (Nat.le_of_ble_eq_true rfl)⟩ (fun r h9 hp => ?_)
        obtain ⟨rfl, gm, rfl⟩ := hp
        refine J_nf (nh2 := 135) (ck2 := 135) (sk2 := 415506) (st2 := [.int 0, .int 0]) rfl rfl rfl rfl ?_
        refine J_app (L3 := [(98, .inr (12, [.int 0, .int 1, .ref 99, .ref 100, .ref 101, .ref 102, .ref 103, .ref 104, .ref 105, .int 0, .int (-1), .ref 106, .ref 107, .ref 108, .int 0, .int 0, .int 0, .int 0, .int 0, .int 0, .int 0, .ref 109, .int 0, .int 0, .ref 110, .ref 111, .ref 112, .ref 113, .ref 114, .ref 115, .ref 116, .ref 117, .int 0, .int 0, .int (-1), .int (-1), .ref 118, .ref 119, .ref 120, .ref 121, .ref 122, .ref 123, .ref 124, .ref 125, .ref 126, .ref 127, .ref 128, .ref 129, .int 0, .ref 130, .ref 131, .ref 132, .ref 133, .ref 134, .int 0, .int 0])), (102, .inl (2, 2, .inl (upd (fun _ => 0) 0 1))), (101, .inl (0, 9740, .inl gm)), (0, .inr (11, [.ref 1, .ref 17, .ref 50, .ref 51, .ref 54, .ref 57, .ref 65, .ref 75, .ref 81, .ref 85, .ref 88, .ref 93, .ref 96, .int 0, .int (-1), .ref 97, .int 0])), (50, .inl (2, 2, .inl (upd (fun _ => 0) 0 1))), (18, .inr (8, [.ref 19, .ref 20, .ref 21, .int 0, .int (-1), .ref 28, .ref 29, .int 0, .ref 30, .ref 31, .int 0, .ref 32, .ref 33, .int 0])), (33, .inl (0, 12, .inl (va_cpy (fun _ => 0) (fun _ => 0) 0 0 12))), (32, .inl (0, 12, .inl (va_cpy (fun _ => 0) (fun _ => 0) 0 0 12))), (31, .inl (0, 6, .inl (va_cpy (fun _ => 0) (fun _ => 0) 0 0 6))), (30, .inl (0, 6, .inl (va_cpy (fun _ => 0) (fun _ => 0) 0 0 6))), (29, .inl (0, 8, .inl (va_cpy (fun _ => 0) (fun _ => 0) 0 0 8))), (28, .inl (0, 8, .inl (va_cpy (fun _ => 0) (fun _ => 0) 0 0 8))), (21, .inl (5, 6, .inr (.inr (.inr (.inr (va_up (va_up (va_up (va_up (va_up (va_up (fun i => if i < 6 then some (21 + 1 + i) else none) 0 (some 5)) 1 (some 6)) 2 (some 7)) 3 (some 8)) 4 (some 9)) 5 (some 10))))))), (20, .inl (0, 2, .inl (va_cpy (fun _ => 0) (fun _ => 0) 0 0 2))), (19, .inl (0, 5, .inl (va_cpy (fun _ => 0) (fun _ => 0) 0 0 5)))]) rfl ?_
        refine J_icmp_eq (tgt := 1221) dL_law_1157 (by decide) (fun _ => ?_) (fun q => absurd (by decide +kernel) q)
        exact law_tail (Nat.le_of_ble_eq_true rfl) (Nat.le_of_ble_eq_true rfl)
      · obtain rfl : x1 = 1 := by rw [fa_eq, kc_1]; omega
        refine J_hc0 ?_
        refine J_aload_n dL_law_1139 rfl rfl ?_
        refine J_sload_n dL_law_1140 rfl rfl ?_
        refine J_iload_n dL_law_1141 rfl rfl ?_
        refine J_iconst (v := 1) dL_law_1142 (by decide) ?_
        refine J_iadd (z := 1) dL_law_1143 (by decide +kernel) ?_
        refine L_sld (i2 := 1) (v := 1) dL_law_1144 (jin (by decide +kernel)) (by decide +kernel) hx1 ?_
        refine J_callV (st := []) dL_law_1145 cv_L_148 (c_X11_image_3 H0_0 H0_1 H0_2 H0_3 H0_4 H0_5 H0_6 H0_7 H0_8 H0_9 H0_10 H0_11 H0_12 H0_13 H0_14 H0_15 H0_16 H0_17 H0_34 H0_35 H0_36 H0_37 H0_44 H0_45 H0_46 H0_47 H0_48 H0_49 H0_50) H0_0 rfl rfl (Nat.le_of_ble_eq_true rfl) ⟨(Nat.le_of_ble_eq_true rfl), (Nat.le_of_ble_eq_true rfl)⟩ ⟨(Nat.le_of_ble_eq_true rfl), (Nat.le_of_ble_eq_true rfl)⟩ (fun r h9 hp => ?_)
        obtain ⟨rfl, rfl⟩ := hp
        refine J_nf (nh2 := 135) (ck2 := 135) (sk2 := 415506) (st2 := [.int 0]) rfl rfl rfl rfl ?_
        refine J_app (L3 := [(0, .inr (11, [.ref 1, .ref 17, .ref 50, .ref 51, .ref 54, .ref 57, .ref 65, .ref 75, .ref 81, .ref 85, .ref 88, .ref 93, .ref 96, .int 0, .int (-1), .ref 97, .int 0])), (50, .inl (2, 2, .inl (upd (fun _ => 0) 1 1))), (34, .inr (8, [.ref 35, .ref 36, .ref 37, .int 0, .int (-1), .ref 44, .ref 45, .int 0, .ref 46, .ref 47, .int 0, .ref 48, .ref 49, .int 0])), (49, .inl (0, 12, .inl (va_cpy (fun _ => 0) (fun _ => 0) 0 0 12))), (48, .inl (0, 12, .inl (va_cpy (fun _ => 0) (fun _ => 0) 0 0 12))), (47, .inl (0, 6, .inl (va_cpy (fun _ => 0) (fun _ => 0) 0 0 6))), (46, .inl (0, 6, .inl (va_cpy (fun _ => 0) (fun _ => 0) 0 0 6))), (45, .inl (0, 8, .inl (va_cpy (fun _ => 0) (fun _ => 0) 0 0 8))), (44, .inl (0, 8, .inl (va_cpy (fun _ => 0) (fun _ => 0) 0 0 8))), (37, .inl (5, 6, .inr (.inr (.inr (.inr (va_up (va_up (va_up (va_up (va_up (va_up (fun i => if i < 6 then some (37 + 1 + i) else none) 0 (some 5)) 1 (some 6)) 2 (some 7)) 3 (some 8)) 4 (some 9)) 5 (some 10))))))), (36, .inl (0, 2, .inl (va_cpy (fun _ => 0) (fun _ => 0) 0 0 2))), (35, .inl (0, 5, .inl (va_cpy (fun _ => 0) (fun _ => 0) 0 0 5)))]) rfl ?_
        refine J_aload_n dL_law_1148 rfl rfl ?_
        refine J_sload_n dL_law_1149 rfl rfl ?_
        refine J_iload_n dL_law_1150 rfl rfl ?_
        refine J_iconst (v := 1) dL_law_1151 (by decide) ?_
        refine J_iadd (z := 1) dL_law_1152 (by decide +kernel) ?_
        refine L_sld (i2 := 1) (v := 1) dL_law_1153 (jin (by decide +kernel)) (by decide +kernel) hx1 ?_
        refine J_callV (st := [.int 0]) dL_law_1154 cv_L_151 (c_X12_image_loop1 H0_98 H0_100 H0_101 H0_102) H0_98 rfl rfl (Nat.le_of_ble_eq_true rfl) ⟨(Nat.le_of_ble_eq_true rfl), (Nat.le_of_ble_eq_true rfl)⟩ ⟨(Nat.le_of_ble_eq_true rfl), (Nat.le_of_ble_eq_true rfl)⟩ (fun r h9 hp => ?_)
        obtain ⟨rfl, gm, rfl⟩ := hp
        refine J_nf (nh2 := 135) (ck2 := 135) (sk2 := 415506) (st2 := [.int 0, .int 0]) rfl rfl rfl rfl ?_
        refine J_app (L3 := [(98, .inr (12, [.int 0, .int 1, .ref 99, .ref 100, .ref 101, .ref 102, .ref 103, .ref 104, .ref 105, .int 0, .int (-1), .ref 106, .ref 107, .ref 108, .int 0, .int 0, .int 0, .int 0, .int 0, .int 0, .int 0, .ref 109, .int 0, .int 0, .ref 110, .ref 111, .ref 112, .ref 113, .ref 114, .ref 115, .ref 116, .ref 117, .int 0, .int 0, .int (-1), .int (-1), .ref 118, .ref 119, .ref 120, .ref 121, .ref 122, .ref 123, .ref 124, .ref 125, .ref 126, .ref 127, .ref 128, .ref 129, .int 0, .ref 130, .ref 131, .ref 132, .ref 133, .ref 134, .int 0, .int 0])), (102, .inl (2, 2, .inl (upd (fun _ => 0) 1 1))), (101, .inl (0, 9740, .inl gm)), (0, .inr (11, [.ref 1, .ref 17, .ref 50, .ref 51, .ref 54, .ref 57, .ref 65, .ref 75, .ref 81, .ref 85, .ref 88, .ref 93, .ref 96, .int 0, .int (-1), .ref 97, .int 0])), (50, .inl (2, 2, .inl (upd (fun _ => 0) 1 1))), (34, .inr (8, [.ref 35, .ref 36, .ref 37, .int 0, .int (-1), .ref 44, .ref 45, .int 0, .ref 46, .ref 47, .int 0, .ref 48, .ref 49, .int 0])), (49, .inl (0, 12, .inl (va_cpy (fun _ => 0) (fun _ => 0) 0 0 12))), (48, .inl (0, 12, .inl (va_cpy (fun _ => 0) (fun _ => 0) 0 0 12))), (47, .inl (0, 6, .inl (va_cpy (fun _ => 0) (fun _ => 0) 0 0 6))), (46, .inl (0, 6, .inl (va_cpy (fun _ => 0) (fun _ => 0) 0 0 6))), (45, .inl (0, 8, .inl (va_cpy (fun _ => 0) (fun _ => 0) 0 0 8))), (44, .inl (0, 8, .inl (va_cpy (fun _ => 0) (fun _ => 0) 0 0 8))), (37, .inl (5, 6, .inr (.inr (.inr (.inr (va_up (va_up (va_up (va_up (va_up (va_up (fun i => if i < 6 then some (37 + 1 + i) else none) 0 (some 5)) 1 (some 6)) 2 (some 7)) 3 (some 8)) 4 (some 9)) 5 (some 10))))))), (36, .inl (0, 2, .inl (va_cpy (fun _ => 0) (fun _ => 0) 0 0 2))), (35, .inl (0, 5, .inl (va_cpy (fun _ => 0) (fun _ => 0) 0 0 5)))]) rfl ?_
        refine J_icmp_eq (tgt := 1221) dL_law_1157 (by decide) (fun _ => ?_) (fun q => absurd (by decide +kernel) q)
        exact law_tail (Nat.le_of_ble_eq_true rfl) (Nat.le_of_ble_eq_true rfl)
    · have b1 : 2 ≤ x1.toInt ∧ x1.toInt ≤ 2147483647 := ⟨by omega, by omega⟩
      refine J_hc0 ?_
      refine J_aload_n dL_law_1139 rfl rfl ?_
      refine J_sload_n dL_law_1140 rfl rfl ?_
      refine J_iload_n dL_law_1141 rfl rfl ?_
      refine J_iconst (v := 1) dL_law_1142 (by decide) ?_
      refine J_iadd (z := 1) dL_law_1143 (by decide +kernel) ?_
      refine L_sld (i2 := 1) (v := x1) dL_law_1144 (jin (by decide +kernel)) (by decide +kernel) hx1 ?_
      refine J_callV (st := []) dL_law_1145 cv_L_148 (c_X11_image_4 (x1) b1 H0_0 H0_96) H0_0 rfl rfl (Nat.le_of_ble_eq_true rfl) ⟨(Nat.le_of_ble_eq_true rfl), (Nat.le_of_ble_eq_true rfl)⟩ ⟨(Nat.le_of_ble_eq_true rfl), (Nat.le_of_ble_eq_true rfl)⟩ (fun r h9 hp => ?_)
      obtain ⟨rfl, rfl⟩ := hp
      refine J_nf (nh2 := 135) (ck2 := 135) (sk2 := 415506) (st2 := [.int (-1)]) rfl rfl rfl rfl ?_
      refine J_app (L3 := [(96, .inl (0, 5, .inl (upd (fun _ => 0) 0 1))), (0, .inr (11, [.ref 1, .ref 17, .ref 50, .ref 51, .ref 54, .ref 57, .ref 65, .ref 75, .ref 81, .ref 85, .ref 88, .ref 93, .ref 96, .int (-1), .int (-1), .ref 97, .int 0]))]) rfl ?_
      refine J_aload_n dL_law_1148 rfl rfl ?_
      refine J_sload_n dL_law_1149 rfl rfl ?_
      refine J_iload_n dL_law_1150 rfl rfl ?_
      refine J_iconst (v := 1) dL_law_1151 (by decide) ?_
      refine J_iadd (z := 1) dL_law_1152 (by decide +kernel) ?_
      refine L_sld (i2 := 1) (v := x1) dL_law_1153 (jin (by decide +kernel)) (by decide +kernel) hx1 ?_
      refine J_callV (st := [.int (-1)]) dL_law_1154 cv_L_151 (c_X12_image_2 (x1) b1 H0_98 H0_99) H0_98 rfl rfl (Nat.le_of_ble_eq_true rfl) ⟨(Nat.le_of_ble_eq_true rfl), (Nat.le_of_ble_eq_true rfl)⟩ ⟨(Nat.le_of_ble_eq_true rfl), (Nat.le_of_ble_eq_true rfl)⟩ (fun r h9 hp => ?_)
      obtain ⟨rfl, rfl⟩ := hp
      refine J_nf (nh2 := 135) (ck2 := 135) (sk2 := 415506) (st2 := [.int (-1), .int (-1)]) rfl rfl rfl rfl ?_
      refine J_app (L3 := [(99, .inl (0, 7, .inl (upd (fun _ => 0) 1 1))), (98, .inr (12, [.int (-1), .int 0, .ref 99, .ref 100, .ref 101, .ref 102, .ref 103, .ref 104, .ref 105, .int 0, .int (-1), .ref 106, .ref 107, .ref 108, .int 0, .int 0, .int 0, .int 0, .int 0, .int 0, .int 0, .ref 109, .int 0, .int 0, .ref 110, .ref 111, .ref 112, .ref 113, .ref 114, .ref 115, .ref 116, .ref 117, .int 0, .int 0, .int (-1), .int (-1), .ref 118, .ref 119, .ref 120, .ref 121, .ref 122, .ref 123, .ref 124, .ref 125, .ref 126, .ref 127, .ref 128, .ref 129, .int 0, .ref 130, .ref 131, .ref 132, .ref 133, .ref 134, .int 0, .int 0])), (96, .inl (0, 5, .inl (upd (fun _ => 0) 0 1))), (0, .inr (11, [.ref 1, .ref 17, .ref 50, .ref 51, .ref 54, .ref 57, .ref 65, .ref 75, .ref 81, .ref 85, .ref 88, .ref 93, .ref 96, .int (-1), .int (-1), .ref 97, .int 0]))]) rfl ?_
      refine J_icmp_eq (tgt := 1221) dL_law_1157 (by decide) (fun _ => ?_) (fun q => absurd (by decide +kernel) q)
      exact law_tail (Nat.le_of_ble_eq_true rfl) (Nat.le_of_ble_eq_true rfl)
set_option maxHeartbeats 4000000 in
set_option maxRecDepth 100000 in
theorem law_case_33 {l : Launch} {G : jG} {b : Nat} {xs : Nat → Int32} (x1 : Int32) (hx1 : xs 1 = x1) : J l G ML_law room_1 (lE b 6 xs G) lQ (135, H0) 135 415506 1162 [some (.retAddr 0), some (.ref 0), some (.ref 98), some (.int 0)] [] := by
  have r1 := i32_rng x1
  rcases i_cut x1.toInt 0 with h_0 | h_0
  · have b1 : (-2147483648) ≤ x1.toInt ∧ x1.toInt ≤ (-1) := ⟨by omega, by omega⟩
    refine J_hc0 ?_
    refine J_aload_n dL_law_1162 rfl rfl ?_
    refine J_sload_n dL_law_1163 rfl rfl ?_
    refine J_iload_n dL_law_1164 rfl rfl ?_
    refine J_iconst (v := 1) dL_law_1165 (by decide) ?_
    refine J_iadd (z := 1) dL_law_1166 (by decide +kernel) ?_
    refine L_sld (i2 := 1) (v := x1) dL_law_1167 (jin (by decide +kernel)) (by decide +kernel) hx1 ?_
    refine J_callV (st := []) dL_law_1168 cv_L_152 (c_X11_back_1 (x1) b1 H0_0 H0_96) H0_0 rfl rfl (Nat.le_of_ble_eq_true rfl) ⟨(Nat.le_of_ble_eq_true rfl), (Nat.le_of_ble_eq_true rfl)⟩ ⟨(Nat.le_of_ble_eq_true rfl), (Nat.le_of_ble_eq_true rfl)⟩ (fun r h9 hp => ?_)
    obtain ⟨rfl, rfl⟩ := hp
    refine J_nf (nh2 := 135) (ck2 := 135) (sk2 := 415506) (st2 := [.int (-1)]) rfl rfl rfl rfl ?_
    refine J_app (L3 := [(96, .inl (0, 5, .inl (upd (fun _ => 0) 0 1))), (0, .inr (11, [.ref 1, .ref 17, .ref 50, .ref 51, .ref 54, .ref 57, .ref 65, .ref 75, .ref 81, .ref 85, .ref 88, .ref 93, .ref 96, .int (-1), .int (-1), .ref 97, .int 0]))]) rfl ?_
    refine J_aload_n dL_law_1171 rfl rfl ?_
    refine J_sload_n dL_law_1172 rfl rfl ?_
    refine J_iload_n dL_law_1173 rfl rfl ?_
    refine J_iconst (v := 1) dL_law_1174 (by decide) ?_
    refine J_iadd (z := 1) dL_law_1175 (by decide +kernel) ?_
    refine L_sld (i2 := 1) (v := x1) dL_law_1176 (jin (by decide +kernel)) (by decide +kernel) hx1 ?_
    refine J_callV (st := [.int (-1)]) dL_law_1177 cv_L_155 (c_X12_back_1 (x1) b1 H0_98 H0_99) H0_98 rfl rfl (Nat.le_of_ble_eq_true rfl) ⟨(Nat.le_of_ble_eq_true rfl), (Nat.le_of_ble_eq_true rfl)⟩ ⟨(Nat.le_of_ble_eq_true rfl), (Nat.le_of_ble_eq_true rfl)⟩ (fun r h9 hp => ?_)
    obtain ⟨rfl, rfl⟩ := hp
    refine J_nf (nh2 := 135) (ck2 := 135) (sk2 := 415506) (st2 := [.int (-1), .int (-1)]) rfl rfl rfl rfl ?_
    refine J_app (L3 := [(99, .inl (0, 7, .inl (upd (fun _ => 0) 1 1))), (98, .inr (12, [.int (-1), .int 0, .ref 99, .ref 100, .ref 101, .ref 102, .ref 103, .ref 104, .ref 105, .int 0, .int (-1), .ref 106, .ref 107, .ref 108, .int 0, .int 0, .int 0, .int 0, .int 0, .int 0, .int 0, .ref 109, .int 0, .int 0, .ref 110, .ref 111, .ref 112, .ref 113, .ref 114, .ref 115, .ref 116, .ref 117, .int 0, .int 0, .int (-1), .int (-1), .ref 118, .ref 119, .ref 120, .ref 121, .ref 122, .ref 123, .ref 124, .ref 125, .ref 126, .ref 127, .ref 128, .ref 129, .int 0, .ref 130, .ref 131, .ref 132, .ref 133, .ref 134, .int 0, .int 0])), (96, .inl (0, 5, .inl (upd (fun _ => 0) 0 1))), (0, .inr (11, [.ref 1, .ref 17, .ref 50, .ref 51, .ref 54, .ref 57, .ref 65, .ref 75, .ref 81, .ref 85, .ref 88, .ref 93, .ref 96, .int (-1), .int (-1), .ref 97, .int 0]))]) rfl ?_
    refine J_icmp_eq (tgt := 1221) dL_law_1180 (by decide) (fun _ => ?_) (fun q => absurd (by decide +kernel) q)
    exact law_tail (Nat.le_of_ble_eq_true rfl) (Nat.le_of_ble_eq_true rfl)
  · rcases i_cut x1.toInt 2 with h_1 | h_1
    · rcases i_cut x1.toInt 1 with h_2 | h_2
      · obtain rfl : x1 = 0 := by rw [fa_eq, kc_0]; omega
        refine J_hc0 ?_
        refine J_aload_n dL_law_1162 rfl rfl ?_
        refine J_sload_n dL_law_1163 rfl rfl ?_
        refine J_iload_n dL_law_1164 rfl rfl ?_
        refine J_iconst (v := 1) dL_law_1165 (by decide) ?_
        refine J_iadd (z := 1) dL_law_1166 (by decide +kernel) ?_
        refine L_sld (i2 := 1) (v := 0) dL_law_1167 (jin (by decide +kernel)) (by decide +kernel) hx1 ?_
        refine J_callV (st := []) dL_law_1168 cv_L_152 (c_X11_back_2 H0_0 H0_50 H0_96) H0_0 rfl rfl (Nat.le_of_ble_eq_true rfl) ⟨(Nat.le_of_ble_eq_true rfl), (Nat.le_of_ble_eq_true rfl)⟩ ⟨(Nat.le_of_ble_eq_true rfl), (Nat.le_of_ble_eq_true rfl)⟩ (fun r h9 hp => ?_)
        obtain ⟨rfl, rfl⟩ := hp
        refine J_nf (nh2 := 135) (ck2 := 135) (sk2 := 415506) (st2 := [.int (-2)]) rfl rfl rfl rfl ?_
        refine J_app (L3 := [(96, .inl (0, 5, .inl (upd (fun _ => 0) 1 1))), (0, .inr (11, [.ref 1, .ref 17, .ref 50, .ref 51, .ref 54, .ref 57, .ref 65, .ref 75, .ref 81, .ref 85, .ref 88, .ref 93, .ref 96, .int (-2), .int (-1), .ref 97, .int 0]))]) rfl ?_
        refine J_aload_n dL_law_1171 rfl rfl ?_
        refine J_sload_n dL_law_1172 rfl rfl ?_
        refine J_iload_n dL_law_1173 rfl rfl ?_
        refine J_iconst (v := 1) dL_law_1174 (by decide) ?_
        refine J_iadd (z := 1) dL_law_1175 (by decide +kernel) ?_
        refine L_sld (i2 := 1) (v := 0) dL_law_1176 (jin (by decide +kernel)) (by decide +kernel) hx1 ?_
        refine J_callV (st := [.int (-2)]) dL_law_1177 cv_L_155 (c_X12_back_2 H0_98 H0_99 H0_102) H0_98 rfl rfl (Nat.le_of_ble_eq_true rfl) ⟨(Nat.le_of_ble_eq_true rfl), (Nat.le_of_ble_eq_true rfl)⟩ ⟨(Nat.le_of_ble_eq_true rfl), (Nat.le_of_ble_eq_true rfl)⟩ (fun r h9 hp => ?_)
        obtain ⟨rfl, rfl⟩ := hp
        refine J_nf (nh2 := 135) (ck2 := 135) (sk2 := 415506) (st2 := [.int (-2), .int (-2)]) rfl rfl rfl rfl ?_
        refine J_app (L3 := [(99, .inl (0, 7, .inl (upd (fun _ => 0) 2 1))), (98, .inr (12, [.int (-2), .int 0, .ref 99, .ref 100, .ref 101, .ref 102, .ref 103, .ref 104, .ref 105, .int 0, .int (-1), .ref 106, .ref 107, .ref 108, .int 0, .int 0, .int 0, .int 0, .int 0, .int 0, .int 0, .ref 109, .int 0, .int 0, .ref 110, .ref 111, .ref 112, .ref 113, .ref 114, .ref 115, .ref 116, .ref 117, .int 0, .int 0, .int (-1), .int (-1), .ref 118, .ref 119, .ref 120, .ref 121, .ref 122, .ref 123, .ref 124, .ref 125, .ref 126, .ref 127, .ref 128, .ref 129, .int 0, .ref 130, .ref 131, .ref 132, .ref 133, .ref 134, .int 0, .int 0])), (96, .inl (0, 5, .inl (upd (fun _ => 0) 1 1))), (0, .inr (11, [.ref 1, .ref 17, .ref 50, .ref 51, .ref 54, .ref 57, .ref 65, .ref 75, .ref 81, .ref 85, .ref 88, .ref 93, .ref 96, .int (-2), .int (-1), .ref 97, .int 0]))]) rfl ?_
        refine J_icmp_eq (tgt := 1221) dL_law_1180 (by decide) (fun _ => ?_) (fun q => absurd (by decide +kernel) q)
        exact law_tail (Nat.le_of_ble_eq_true rfl) (Nat.le_of_ble_eq_true rfl)
      · obtain rfl : x1 = 1 := by rw [fa_eq, kc_1]; omega
        refine J_hc0 ?_
        refine J_aload_n dL_law_1162 rfl rfl ?_
        refine J_sload_n dL_law_1163 rfl rfl ?_
        refine J_iload_n dL_law_1164 rfl rfl ?_
        refine J_iconst (v := 1) dL_law_1165 (by decide) ?_
        refine J_iadd (z := 1) dL_law_1166 (by decide +kernel) ?_
        refine L_sld (i2 := 1) (v := 1) dL_law_1167 (jin (by decide +kernel)) (by decide +kernel) hx1 ?_
        refine J_callV (st := []) dL_law_1168 cv_L_152 (c_X11_back_3 H0_0 H0_50 H0_96) H0_0 rfl rfl (Nat.le_of_ble_eq_true rfl) ⟨(Nat.le_of_ble_eq_true rfl), (Nat.le_of_ble_eq_true rfl)⟩ ⟨(Nat.le_of_ble_eq_true rfl), (Nat.le_of_ble_eq_true rfl)⟩ (fun r h9 hp => ?_)
        obtain ⟨rfl, rfl⟩ := hp
        refine J_nf (nh2 := 135) (ck2 := 135) (sk2 := 415506) (st2 := [.int (-2)]) rfl rfl rfl rfl ?_
        refine J_app (L3 := [(96, .inl (0, 5, .inl (upd (fun _ => 0) 1 1))), (0, .inr (11, [.ref 1, .ref 17, .ref 50, .ref 51, .ref 54, .ref 57, .ref 65, .ref 75, .ref 81, .ref 85, .ref 88, .ref 93, .ref 96, .int (-2), .int (-1), .ref 97, .int 0]))]) rfl ?_
        refine J_aload_n dL_law_1171 rfl rfl ?_
        refine J_sload_n dL_law_1172 rfl rfl ?_
        refine J_iload_n dL_law_1173 rfl rfl ?_
        refine J_iconst (v := 1) dL_law_1174 (by decide) ?_
        refine J_iadd (z := 1) dL_law_1175 (by decide +kernel) ?_
        refine L_sld (i2 := 1) (v := 1) dL_law_1176 (jin (by decide +kernel)) (by decide +kernel) hx1 ?_
        refine J_callV (st := [.int (-2)]) dL_law_1177 cv_L_155 (c_X12_back_3 H0_98 H0_99 H0_102) H0_98 rfl rfl (Nat.le_of_ble_eq_true rfl) ⟨(Nat.le_of_ble_eq_true rfl), (Nat.le_of_ble_eq_true rfl)⟩ ⟨(Nat.le_of_ble_eq_true rfl), (Nat.le_of_ble_eq_true rfl)⟩ (fun r h9 hp => ?_)
        obtain ⟨rfl, rfl⟩ := hp
        refine J_nf (nh2 := 135) (ck2 := 135) (sk2 := 415506) (st2 := [.int (-2), .int (-2)]) rfl rfl rfl rfl ?_
        refine J_app (L3 := [(99, .inl (0, 7, .inl (upd (fun _ => 0) 2 1))), (98, .inr (12, [.int (-2), .int 0, .ref 99, .ref 100, .ref 101, .ref 102, .ref 103, .ref 104, .ref 105, .int 0, .int (-1), .ref 106, .ref 107, .ref 108, .int 0, .int 0, .int 0, .int 0, .int 0, .int 0, .int 0, .ref 109, .int 0, .int 0, .ref 110, .ref 111, .ref 112, .ref 113, .ref 114, .ref 115, .ref 116, .ref 117, .int 0, .int 0, .int (-1), .int (-1), .ref 118, .ref 119, .ref 120, .ref 121, .ref 122, .ref 123, .ref 124, .ref 125, .ref 126, .ref 127, .ref 128, .ref 129, .int 0, .ref 130, .ref 131, .ref 132, .ref 133, .ref 134, .int 0, .int 0])), (96, .inl (0, 5, .inl (upd (fun _ => 0) 1 1))), (0, .inr (11, [.ref 1, .ref 17, .ref 50, .ref 51, .ref 54, .ref 57, .ref 65, .ref 75, .ref 81, .ref 85, .ref 88, .ref 93, .ref 96, .int (-2), .int (-1), .ref 97, .int 0]))]) rfl ?_
        refine J_icmp_eq (tgt := 1221) dL_law_1180 (by decide) (fun _ => ?_) (fun q => absurd (by decide +kernel) q)
        exact law_tail (Nat.le_of_ble_eq_true rfl) (Nat.le_of_ble_eq_true rfl)
    · have b1 : 2 ≤ x1.toInt ∧ x1.toInt ≤ 2147483647 := ⟨by omega, by omega⟩
      refine J_hc0 ?_
      refine J_aload_n dL_law_1162 rfl rfl ?_
      refine J_sload_n dL_law_1163 rfl rfl ?_
      refine J_iload_n dL_law_1164 rfl rfl ?_
      refine J_iconst (v := 1) dL_law_1165 (by decide) ?_
      refine J_iadd (z := 1) dL_law_1166 (by decide +kernel) ?_
      refine L_sld (i2 := 1) (v := x1) dL_law_1167 (jin (by decide +kernel)) (by decide +kernel) hx1 ?_
      refine J_callV (st := []) dL_law_1168 cv_L_152 (c_X11_back_4 (x1) b1 H0_0 H0_96) H0_0 rfl rfl (Nat.le_of_ble_eq_true rfl) ⟨(Nat.le_of_ble_eq_true rfl), (Nat.le_of_ble_eq_true rfl)⟩ ⟨(Nat.le_of_ble_eq_true rfl), (Nat.le_of_ble_eq_true rfl)⟩ (fun r h9 hp => ?_)
      obtain ⟨rfl, rfl⟩ := hp
      refine J_nf (nh2 := 135) (ck2 := 135) (sk2 := 415506) (st2 := [.int (-1)]) rfl rfl rfl rfl ?_
      refine J_app (L3 := [(96, .inl (0, 5, .inl (upd (fun _ => 0) 0 1))), (0, .inr (11, [.ref 1, .ref 17, .ref 50, .ref 51, .ref 54, .ref 57, .ref 65, .ref 75, .ref 81, .ref 85, .ref 88, .ref 93, .ref 96, .int (-1), .int (-1), .ref 97, .int 0]))]) rfl ?_
      refine J_aload_n dL_law_1171 rfl rfl ?_
      refine J_sload_n dL_law_1172 rfl rfl ?_
      refine J_iload_n dL_law_1173 rfl rfl ?_
      refine J_iconst (v := 1) dL_law_1174 (by decide) ?_
      refine J_iadd (z := 1) dL_law_1175 (by decide +kernel) ?_
      refine L_sld (i2 := 1) (v := x1) dL_law_1176 (jin (by decide +kernel)) (by decide +kernel) hx1 ?_
      refine J_callV (st := [.int (-1)]) dL_law_1177 cv_L_155 (c_X12_back_4 (x1) b1 H0_98 H0_99) H0_98 rfl rfl (Nat.le_of_ble_eq_true rfl) ⟨(Nat.le_of_ble_eq_true rfl), (Nat.le_of_ble_eq_true rfl)⟩ ⟨(Nat.le_of_ble_eq_true rfl), (Nat.le_of_ble_eq_true rfl)⟩ (fun r h9 hp => ?_)
      obtain ⟨rfl, rfl⟩ := hp
      refine J_nf (nh2 := 135) (ck2 := 135) (sk2 := 415506) (st2 := [.int (-1), .int (-1)]) rfl rfl rfl rfl ?_
      refine J_app (L3 := [(99, .inl (0, 7, .inl (upd (fun _ => 0) 1 1))), (98, .inr (12, [.int (-1), .int 0, .ref 99, .ref 100, .ref 101, .ref 102, .ref 103, .ref 104, .ref 105, .int 0, .int (-1), .ref 106, .ref 107, .ref 108, .int 0, .int 0, .int 0, .int 0, .int 0, .int 0, .int 0, .ref 109, .int 0, .int 0, .ref 110, .ref 111, .ref 112, .ref 113, .ref 114, .ref 115, .ref 116, .ref 117, .int 0, .int 0, .int (-1), .int (-1), .ref 118, .ref 119, .ref 120, .ref 121, .ref 122, .ref 123, .ref 124, .ref 125, .ref 126, .ref 127, .ref 128, .ref 129, .int 0, .ref 130, .ref 131, .ref 132, .ref 133, .ref 134, .int 0, .int 0])), (96, .inl (0, 5, .inl (upd (fun _ => 0) 0 1))), (0, .inr (11, [.ref 1, .ref 17, .ref 50, .ref 51, .ref 54, .ref 57, .ref 65, .ref 75, .ref 81, .ref 85, .ref 88, .ref 93, .ref 96, .int (-1), .int (-1), .ref 97, .int 0]))]) rfl ?_
      refine J_icmp_eq (tgt := 1221) dL_law_1180 (by decide) (fun _ => ?_) (fun q => absurd (by decide +kernel) q)
      exact law_tail (Nat.le_of_ble_eq_true rfl) (Nat.le_of_ble_eq_true rfl)
set_option maxHeartbeats 4000000 in
set_option maxRecDepth 100000 in
theorem law_case_34 {l : Launch} {G : jG} {b : Nat} {xs : Nat → Int32} (x1 : Int32) (hx1 : xs 1 = x1) : J l G ML_law room_1 (lE b 6 xs G) lQ (135, H0) 135 415506 1185 [some (.retAddr 0), some (.ref 0), some (.ref 98), some (.int 0)] [] := by
  have r1 := i32_rng x1
  rcases i_cut x1.toInt 1 with h_0 | h_0
  · rcases i_cut x1.toInt 0 with h_1 | h_1
    · have b1 : (-2147483648) ≤ x1.toInt ∧ x1.toInt ≤ (-1) := ⟨by omega, by omega⟩
      refine J_hc0 ?_
      refine J_aload_n dL_law_1185 rfl rfl ?_
      refine J_sload_n dL_law_1186 rfl rfl ?_
      refine J_iload_n dL_law_1187 rfl rfl ?_
      refine J_iconst (v := 1) dL_law_1188 (by decide) ?_
      refine J_iadd (z := 1) dL_law_1189 (by decide +kernel) ?_
      refine L_sld (i2 := 1) (v := x1) dL_law_1190 (jin (by decide +kernel)) (by decide +kernel) hx1 ?_
      refine J_callV (st := []) dL_law_1191 cv_L_156 (c_X11_count_1 (x1) b1) H0_0 rfl rfl (Nat.le_of_ble_eq_true rfl) ⟨(Nat.le_of_ble_eq_true rfl), (Nat.le_of_ble_eq_true rfl)⟩ ⟨(Nat.le_of_ble_eq_true rfl), (Nat.le_of_ble_eq_true rfl)⟩ (fun r h9 hp => ?_)
      obtain ⟨rfl, rfl⟩ := hp
      refine J_nf (nh2 := 135) (ck2 := 135) (sk2 := 415506) (st2 := [.int (-1)]) rfl rfl rfl rfl ?_
      refine J_aload_n dL_law_1194 rfl rfl ?_
      refine J_sload_n dL_law_1195 rfl rfl ?_
      refine J_iload_n dL_law_1196 rfl rfl ?_
      refine J_iconst (v := 1) dL_law_1197 (by decide) ?_
      refine J_iadd (z := 1) dL_law_1198 (by decide +kernel) ?_
      refine L_sld (i2 := 1) (v := x1) dL_law_1199 (jin (by decide +kernel)) (by decide +kernel) hx1 ?_
      refine J_callV (st := [.int (-1)]) dL_law_1200 cv_L_159 (c_X12_count_1 (x1) b1) H0_98 rfl rfl (Nat.le_of_ble_eq_true rfl) ⟨(Nat.le_of_ble_eq_true rfl), (Nat.le_of_ble_eq_true rfl)⟩ ⟨(Nat.le_of_ble_eq_true rfl), (Nat.le_of_ble_eq_true rfl)⟩ (fun r h9 hp => ?_)
      obtain ⟨rfl, rfl⟩ := hp
      refine J_nf (nh2 := 135) (ck2 := 135) (sk2 := 415506) (st2 := [.int (-1), .int (-1)]) rfl rfl rfl rfl ?_
      refine J_icmp_eq (tgt := 1221) dL_law_1203 (by decide) (fun _ => ?_) (fun q => absurd (by decide +kernel) q)
      exact law_tail (Nat.le_of_ble_eq_true rfl) (Nat.le_of_ble_eq_true rfl)
    · obtain rfl : x1 = 0 := by rw [fa_eq, kc_0]; omega
      refine J_hc0 ?_
      refine J_aload_n dL_law_1185 rfl rfl ?_
      refine J_sload_n dL_law_1186 rfl rfl ?_
      refine J_iload_n dL_law_1187 rfl rfl ?_
      refine J_iconst (v := 1) dL_law_1188 (by decide) ?_
      refine J_iadd (z := 1) dL_law_1189 (by decide +kernel) ?_
      refine L_sld (i2 := 1) (v := 0) dL_law_1190 (jin (by decide +kernel)) (by decide +kernel) hx1 ?_
      refine J_callV (st := []) dL_law_1191 cv_L_156 (c_X11_count_2 H0_0 H0_51) H0_0 rfl rfl (Nat.le_of_ble_eq_true rfl) ⟨(Nat.le_of_ble_eq_true rfl), (Nat.le_of_ble_eq_true rfl)⟩ ⟨(Nat.le_of_ble_eq_true rfl), (Nat.le_of_ble_eq_true rfl)⟩ (fun r h9 hp => ?_)
      obtain ⟨rfl, rfl⟩ := hp
      refine J_nf (nh2 := 135) (ck2 := 135) (sk2 := 415506) (st2 := [.int 0]) rfl rfl rfl rfl ?_
      refine J_aload_n dL_law_1194 rfl rfl ?_
      refine J_sload_n dL_law_1195 rfl rfl ?_
      refine J_iload_n dL_law_1196 rfl rfl ?_
      refine J_iconst (v := 1) dL_law_1197 (by decide) ?_
      refine J_iadd (z := 1) dL_law_1198 (by decide +kernel) ?_
      refine L_sld (i2 := 1) (v := 0) dL_law_1199 (jin (by decide +kernel)) (by decide +kernel) hx1 ?_
      refine J_callV (st := [.int 0]) dL_law_1200 cv_L_159 (c_X12_count_2 H0_98 H0_100) H0_98 rfl rfl (Nat.le_of_ble_eq_true rfl) ⟨(Nat.le_of_ble_eq_true rfl), (Nat.le_of_ble_eq_true rfl)⟩ ⟨(Nat.le_of_ble_eq_true rfl), (Nat.le_of_ble_eq_true rfl)⟩ (fun r h9 hp => ?_)
      obtain ⟨rfl, rfl⟩ := hp
      refine J_nf (nh2 := 135) (ck2 := 135) (sk2 := 415506) (st2 := [.int 0, .int 0]) rfl rfl rfl rfl ?_
      refine J_icmp_eq (tgt := 1221) dL_law_1203 (by decide) (fun _ => ?_) (fun q => absurd (by decide +kernel) q)
      exact law_tail (Nat.le_of_ble_eq_true rfl) (Nat.le_of_ble_eq_true rfl)
  · rcases i_cut x1.toInt 6 with h_1 | h_1
    · rcases i_cut x1.toInt 2 with h_2 | h_2
      · obtain rfl : x1 = 1 := by rw [fa_eq, kc_1]; omega
        refine J_hc0 ?_
        refine J_aload_n dL_law_1185 rfl rfl ?_
        refine J_sload_n dL_law_1186 rfl rfl ?_
        refine J_iload_n dL_law_1187 rfl rfl ?_
        refine J_iconst (v := 1) dL_law_1188 (by decide) ?_
        refine J_iadd (z := 1) dL_law_1189 (by decide +kernel) ?_
        refine L_sld (i2 := 1) (v := 1) dL_law_1190 (jin (by decide +kernel)) (by decide +kernel) hx1 ?_
        refine J_callV (st := []) dL_law_1191 cv_L_156 (c_X11_count_3 H0_0 H0_1 H0_2) H0_0 rfl rfl (Nat.le_of_ble_eq_true rfl) ⟨(Nat.le_of_ble_eq_true rfl), (Nat.le_of_ble_eq_true rfl)⟩ ⟨(Nat.le_of_ble_eq_true rfl), (Nat.le_of_ble_eq_true rfl)⟩ (fun r h9 hp => ?_)
        obtain ⟨rfl, rfl⟩ := hp
        refine J_nf (nh2 := 135) (ck2 := 135) (sk2 := 415506) (st2 := [.int 0]) rfl rfl rfl rfl ?_
        refine J_aload_n dL_law_1194 rfl rfl ?_
        refine J_sload_n dL_law_1195 rfl rfl ?_
        refine J_iload_n dL_law_1196 rfl rfl ?_
        refine J_iconst (v := 1) dL_law_1197 (by decide) ?_
        refine J_iadd (z := 1) dL_law_1198 (by decide +kernel) ?_
        refine L_sld (i2 := 1) (v := 1) dL_law_1199 (jin (by decide +kernel)) (by decide +kernel) hx1 ?_
        refine J_callV (st := [.int 0]) dL_law_1200 cv_L_159 (c_X12_count_3 H0_98 H0_100) H0_98 rfl rfl (Nat.le_of_ble_eq_true rfl) ⟨(Nat.le_of_ble_eq_true rfl), (Nat.le_of_ble_eq_true rfl)⟩ ⟨(Nat.le_of_ble_eq_true rfl), (Nat.le_of_ble_eq_true rfl)⟩ (fun r h9 hp => ?_)
        obtain ⟨rfl, rfl⟩ := hp
        refine J_nf (nh2 := 135) (ck2 := 135) (sk2 := 415506) (st2 := [.int 0, .int 0]) rfl rfl rfl rfl ?_
        refine J_icmp_eq (tgt := 1221) dL_law_1203 (by decide) (fun _ => ?_) (fun q => absurd (by decide +kernel) q)
        exact law_tail (Nat.le_of_ble_eq_true rfl) (Nat.le_of_ble_eq_true rfl)
      · rcases i_cut x1.toInt 3 with h_3 | h_3
        · obtain rfl : x1 = 2 := by rw [fa_eq, kc_2]; omega
          refine J_hc0 ?_
          refine J_aload_n dL_law_1185 rfl rfl ?_
          refine J_sload_n dL_law_1186 rfl rfl ?_
          refine J_iload_n dL_law_1187 rfl rfl ?_
          refine J_iconst (v := 1) dL_law_1188 (by decide) ?_
          refine J_iadd (z := 1) dL_law_1189 (by decide +kernel) ?_
          refine L_sld (i2 := 1) (v := 2) dL_law_1190 (jin (by decide +kernel)) (by decide +kernel) hx1 ?_
          refine J_callV (st := []) dL_law_1191 cv_L_156 (c_X11_count_4 H0_0 H0_1 H0_2) H0_0 rfl rfl (Nat.le_of_ble_eq_true rfl) ⟨(Nat.le_of_ble_eq_true rfl), (Nat.le_of_ble_eq_true rfl)⟩ ⟨(Nat.le_of_ble_eq_true rfl), (Nat.le_of_ble_eq_true rfl)⟩ (fun r h9 hp => ?_)
          obtain ⟨rfl, rfl⟩ := hp
          refine J_nf (nh2 := 135) (ck2 := 135) (sk2 := 415506) (st2 := [.int 0]) rfl rfl rfl rfl ?_
          refine J_aload_n dL_law_1194 rfl rfl ?_
          refine J_sload_n dL_law_1195 rfl rfl ?_
          refine J_iload_n dL_law_1196 rfl rfl ?_
          refine J_iconst (v := 1) dL_law_1197 (by decide) ?_
          refine J_iadd (z := 1) dL_law_1198 (by decide +kernel) ?_
          refine L_sld (i2 := 1) (v := 2) dL_law_1199 (jin (by decide +kernel)) (by decide +kernel) hx1 ?_
          refine J_callV (st := [.int 0]) dL_law_1200 cv_L_159 (c_X12_count_4 H0_98 H0_100) H0_98 rfl rfl (Nat.le_of_ble_eq_true rfl) ⟨(Nat.le_of_ble_eq_true rfl), (Nat.le_of_ble_eq_true rfl)⟩ ⟨(Nat.le_of_ble_eq_true rfl), (Nat.le_of_ble_eq_true rfl)⟩ (fun r h9 hp => ?_)
          obtain ⟨rfl, rfl⟩ := hp
          refine J_nf (nh2 := 135) (ck2 := 135) (sk2 := 415506) (st2 := [.int 0, .int 0]) rfl rfl rfl rfl ?_
          refine J_icmp_eq (tgt := 1221) dL_law_1203 (by decide) (fun _ => ?_) (fun q => absurd (by decide +kernel) q)
          exact law_tail (Nat.le_of_ble_eq_true rfl) (Nat.le_of_ble_eq_true rfl)
        · rcases i_cut x1.toInt 4 with h_4 | h_4
          · obtain rfl : x1 = 3 := by rw [fa_eq, kc_3]; omega
            refine J_hc0 ?_
            refine J_aload_n dL_law_1185 rfl rfl ?_
            refine J_sload_n dL_law_1186 rfl rfl ?_
            refine J_iload_n dL_law_1187 rfl rfl ?_
            refine J_iconst (v := 1) dL_law_1188 (by decide) ?_
            refine J_iadd (z := 1) dL_law_1189 (by decide +kernel) ?_
            refine L_sld (i2 := 1) (v := 3) dL_law_1190 (jin (by decide +kernel)) (by decide +kernel) hx1 ?_
            refine J_callV (st := []) dL_law_1191 cv_L_156 (c_X11_count_5 H0_0 H0_1 H0_2) H0_0 rfl rfl (Nat.le_of_ble_eq_true rfl) ⟨(Nat.le_of_ble_eq_true rfl), (Nat.le_of_ble_eq_true rfl)⟩ ⟨(Nat.le_of_ble_eq_true rfl), (Nat.le_of_ble_eq_true rfl)⟩ (fun r h9 hp => ?_)
            obtain ⟨rfl, rfl⟩ := hp
            refine J_nf (nh2 := 135) (ck2 := 135) (sk2 := 415506) (st2 := [.int 0]) rfl rfl rfl rfl ?_
            refine J_aload_n dL_law_1194 rfl rfl ?_
            refine J_sload_n dL_law_1195 rfl rfl ?_
            refine J_iload_n dL_law_1196 rfl rfl ?_
            refine J_iconst (v := 1) dL_law_1197 (by decide) ?_
            refine J_iadd (z := 1) dL_law_1198 (by decide +kernel) ?_
            refine L_sld (i2 := 1) (v := 3) dL_law_1199 (jin (by decide +kernel)) (by decide +kernel) hx1 ?_
            refine J_callV (st := [.int 0]) dL_law_1200 cv_L_159 (c_X12_count_5 H0_98 H0_100) H0_98 rfl rfl (Nat.le_of_ble_eq_true rfl) ⟨(Nat.le_of_ble_eq_true rfl), (Nat.le_of_ble_eq_true rfl)⟩ ⟨(Nat.le_of_ble_eq_true rfl), (Nat.le_of_ble_eq_true rfl)⟩ (fun r h9 hp => ?_)
            obtain ⟨rfl, rfl⟩ := hp
            refine J_nf (nh2 := 135) (ck2 := 135) (sk2 := 415506) (st2 := [.int 0, .int 0]) rfl rfl rfl rfl ?_
            refine J_icmp_eq (tgt := 1221) dL_law_1203 (by decide) (fun _ => ?_) (fun q => absurd (by decide +kernel) q)
            exact law_tail (Nat.le_of_ble_eq_true rfl) (Nat.le_of_ble_eq_true rfl)
          · rcases i_cut x1.toInt 5 with h_5 | h_5
            · obtain rfl : x1 = 4 := by rw [fa_eq, kc_4]; omega
              refine J_hc0 ?_
              refine J_aload_n dL_law_1185 rfl rfl ?_
              refine J_sload_n dL_law_1186 rfl rfl ?_
              refine J_iload_n dL_law_1187 rfl rfl ?_
              refine J_iconst (v := 1) dL_law_1188 (by decide) ?_
              refine J_iadd (z := 1) dL_law_1189 (by decide +kernel) ?_
              refine L_sld (i2 := 1) (v := 4) dL_law_1190 (jin (by decide +kernel)) (by decide +kernel) hx1 ?_
              refine J_callV (st := []) dL_law_1191 cv_L_156 (c_X11_count_6 H0_0 H0_1 H0_2) H0_0 rfl rfl (Nat.le_of_ble_eq_true rfl) ⟨(Nat.le_of_ble_eq_true rfl), (Nat.le_of_ble_eq_true rfl)⟩ ⟨(Nat.le_of_ble_eq_true rfl), (Nat.le_of_ble_eq_true rfl)⟩ (fun r h9 hp => ?_)
              obtain ⟨rfl, rfl⟩ := hp
              refine J_nf (nh2 := 135) (ck2 := 135) (sk2 := 415506) (st2 := [.int 0]) rfl rfl rfl rfl ?_
              refine J_aload_n dL_law_1194 rfl rfl ?_
              refine J_sload_n dL_law_1195 rfl rfl ?_
              refine J_iload_n dL_law_1196 rfl rfl ?_
              refine J_iconst (v := 1) dL_law_1197 (by decide) ?_
              refine J_iadd (z := 1) dL_law_1198 (by decide +kernel) ?_
              refine L_sld (i2 := 1) (v := 4) dL_law_1199 (jin (by decide +kernel)) (by decide +kernel) hx1 ?_
              refine J_callV (st := [.int 0]) dL_law_1200 cv_L_159 (c_X12_count_6 H0_98 H0_100) H0_98 rfl rfl (Nat.le_of_ble_eq_true rfl) ⟨(Nat.le_of_ble_eq_true rfl), (Nat.le_of_ble_eq_true rfl)⟩ ⟨(Nat.le_of_ble_eq_true rfl), (Nat.le_of_ble_eq_true rfl)⟩ (fun r h9 hp => ?_)
              obtain ⟨rfl, rfl⟩ := hp
              refine J_nf (nh2 := 135) (ck2 := 135) (sk2 := 415506) (st2 := [.int 0, .int 0]) rfl rfl rfl rfl ?_
              refine J_icmp_eq (tgt := 1221) dL_law_1203 (by decide) (fun _ => ?_) (fun q => absurd (by decide +kernel) q)
              exact law_tail (Nat.le_of_ble_eq_true rfl) (Nat.le_of_ble_eq_true rfl)
            · obtain rfl : x1 = 5 := by rw [fa_eq, kc_5]; omega
              refine J_hc0 ?_
              refine J_aload_n dL_law_1185 rfl rfl ?_
              refine J_sload_n dL_law_1186 rfl rfl ?_
              refine J_iload_n dL_law_1187 rfl rfl ?_
              refine J_iconst (v := 1) dL_law_1188 (by decide) ?_
              refine J_iadd (z := 1) dL_law_1189 (by decide +kernel) ?_
              refine L_sld (i2 := 1) (v := 5) dL_law_1190 (jin (by decide +kernel)) (by decide +kernel) hx1 ?_
              refine J_callV (st := []) dL_law_1191 cv_L_156 (c_X11_count_7 H0_0 H0_1 H0_2) H0_0 rfl rfl (Nat.le_of_ble_eq_true rfl) ⟨(Nat.le_of_ble_eq_true rfl), (Nat.le_of_ble_eq_true rfl)⟩ ⟨(Nat.le_of_ble_eq_true rfl), (Nat.le_of_ble_eq_true rfl)⟩ (fun r h9 hp => ?_)
              obtain ⟨rfl, rfl⟩ := hp
              refine J_nf (nh2 := 135) (ck2 := 135) (sk2 := 415506) (st2 := [.int 0]) rfl rfl rfl rfl ?_
              refine J_aload_n dL_law_1194 rfl rfl ?_
              refine J_sload_n dL_law_1195 rfl rfl ?_
              refine J_iload_n dL_law_1196 rfl rfl ?_
              refine J_iconst (v := 1) dL_law_1197 (by decide) ?_
              refine J_iadd (z := 1) dL_law_1198 (by decide +kernel) ?_
              refine L_sld (i2 := 1) (v := 5) dL_law_1199 (jin (by decide +kernel)) (by decide +kernel) hx1 ?_
              refine J_callV (st := [.int 0]) dL_law_1200 cv_L_159 (c_X12_count_7 H0_98 H0_100) H0_98 rfl rfl (Nat.le_of_ble_eq_true rfl) ⟨(Nat.le_of_ble_eq_true rfl), (Nat.le_of_ble_eq_true rfl)⟩ ⟨(Nat.le_of_ble_eq_true rfl), (Nat.le_of_ble_eq_true rfl)⟩ (fun r h9 hp => ?_)
              obtain ⟨rfl, rfl⟩ := hp
              refine J_nf (nh2 := 135) (ck2 := 135) (sk2 := 415506) (st2 := [.int 0, .int 0]) rfl rfl rfl rfl ?_
              refine J_icmp_eq (tgt := 1221) dL_law_1203 (by decide) (fun _ => ?_) (fun q => absurd (by decide +kernel) q)
              exact law_tail (Nat.le_of_ble_eq_true rfl) (Nat.le_of_ble_eq_true rfl)
    · rcases i_cut x1.toInt 11 with h_2 | h_2
      · rcases i_cut x1.toInt 7 with h_3 | h_3
        · obtain rfl : x1 = 6 := by rw [fa_eq, kc_6]; omega
          refine J_hc0 ?_
          refine J_aload_n dL_law_1185 rfl rfl ?_
          refine J_sload_n dL_law_1186 rfl rfl ?_
          refine J_iload_n dL_law_1187 rfl rfl ?_
          refine J_iconst (v := 1) dL_law_1188 (by decide) ?_
          refine J_iadd (z := 1) dL_law_1189 (by decide +kernel) ?_
          refine L_sld (i2 := 1) (v := 6) dL_law_1190 (jin (by decide +kernel)) (by decide +kernel) hx1 ?_
          refine J_callV (st := []) dL_law_1191 cv_L_156 (c_X11_count_8 H0_0 H0_1) H0_0 rfl rfl (Nat.le_of_ble_eq_true rfl) ⟨(Nat.le_of_ble_eq_true rfl), (Nat.le_of_ble_eq_true rfl)⟩ ⟨(Nat.le_of_ble_eq_true rfl), (Nat.le_of_ble_eq_true rfl)⟩ (fun r h9 hp => ?_)
          obtain ⟨rfl, rfl⟩ := hp
          refine J_nf (nh2 := 135) (ck2 := 135) (sk2 := 415506) (st2 := [.int 0]) rfl rfl rfl rfl ?_
          refine J_aload_n dL_law_1194 rfl rfl ?_
          refine J_sload_n dL_law_1195 rfl rfl ?_
          refine J_iload_n dL_law_1196 rfl rfl ?_
          refine J_iconst (v := 1) dL_law_1197 (by decide) ?_
          refine J_iadd (z := 1) dL_law_1198 (by decide +kernel) ?_
          refine L_sld (i2 := 1) (v := 6) dL_law_1199 (jin (by decide +kernel)) (by decide +kernel) hx1 ?_
          refine J_callV (st := [.int 0]) dL_law_1200 cv_L_159 (c_X12_count_8 H0_98 H0_100) H0_98 rfl rfl (Nat.le_of_ble_eq_true rfl) ⟨(Nat.le_of_ble_eq_true rfl), (Nat.le_of_ble_eq_true rfl)⟩ ⟨(Nat.le_of_ble_eq_true rfl), (Nat.le_of_ble_eq_true rfl)⟩ (fun r h9 hp => ?_)
          obtain ⟨rfl, rfl⟩ := hp
          refine J_nf (nh2 := 135) (ck2 := 135) (sk2 := 415506) (st2 := [.int 0, .int 0]) rfl rfl rfl rfl ?_
          refine J_icmp_eq (tgt := 1221) dL_law_1203 (by decide) (fun _ => ?_) (fun q => absurd (by decide +kernel) q)
          exact law_tail (Nat.le_of_ble_eq_true rfl) (Nat.le_of_ble_eq_true rfl)
        · rcases i_cut x1.toInt 8 with h_4 | h_4
          · obtain rfl : x1 = 7 := by rw [fa_eq, kc_7]; omega
            refine J_hc0 ?_
            refine J_aload_n dL_law_1185 rfl rfl ?_
            refine J_sload_n dL_law_1186 rfl rfl ?_
            refine J_iload_n dL_law_1187 rfl rfl ?_
            refine J_iconst (v := 1) dL_law_1188 (by decide) ?_
            refine J_iadd (z := 1) dL_law_1189 (by decide +kernel) ?_
            refine L_sld (i2 := 1) (v := 7) dL_law_1190 (jin (by decide +kernel)) (by decide +kernel) hx1 ?_
            refine J_callV (st := []) dL_law_1191 cv_L_156 (c_X11_count_9 H0_0 H0_1) H0_0 rfl rfl (Nat.le_of_ble_eq_true rfl) ⟨(Nat.le_of_ble_eq_true rfl), (Nat.le_of_ble_eq_true rfl)⟩ ⟨(Nat.le_of_ble_eq_true rfl), (Nat.le_of_ble_eq_true rfl)⟩ (fun r h9 hp => ?_)
            obtain ⟨rfl, rfl⟩ := hp
            refine J_nf (nh2 := 135) (ck2 := 135) (sk2 := 415506) (st2 := [.int 0]) rfl rfl rfl rfl ?_
            refine J_aload_n dL_law_1194 rfl rfl ?_
            refine J_sload_n dL_law_1195 rfl rfl ?_
            refine J_iload_n dL_law_1196 rfl rfl ?_
            refine J_iconst (v := 1) dL_law_1197 (by decide) ?_
            refine J_iadd (z := 1) dL_law_1198 (by decide +kernel) ?_
            refine L_sld (i2 := 1) (v := 7) dL_law_1199 (jin (by decide +kernel)) (by decide +kernel) hx1 ?_
            refine J_callV (st := [.int 0]) dL_law_1200 cv_L_159 (c_X12_count_9 H0_98 H0_100) H0_98 rfl rfl (Nat.le_of_ble_eq_true rfl) ⟨(Nat.le_of_ble_eq_true rfl), (Nat.le_of_ble_eq_true rfl)⟩ ⟨(Nat.le_of_ble_eq_true rfl), (Nat.le_of_ble_eq_true rfl)⟩ (fun r h9 hp => ?_)
            obtain ⟨rfl, rfl⟩ := hp
            refine J_nf (nh2 := 135) (ck2 := 135) (sk2 := 415506) (st2 := [.int 0, .int 0]) rfl rfl rfl rfl ?_
            refine J_icmp_eq (tgt := 1221) dL_law_1203 (by decide) (fun _ => ?_) (fun q => absurd (by decide +kernel) q)
            exact law_tail (Nat.le_of_ble_eq_true rfl) (Nat.le_of_ble_eq_true rfl)
          · rcases i_cut x1.toInt 9 with h_5 | h_5
            · obtain rfl : x1 = 8 := by rw [fa_eq, kc_8]; omega
              refine J_hc0 ?_
              refine J_aload_n dL_law_1185 rfl rfl ?_
              refine J_sload_n dL_law_1186 rfl rfl ?_
              refine J_iload_n dL_law_1187 rfl rfl ?_
              refine J_iconst (v := 1) dL_law_1188 (by decide) ?_
              refine J_iadd (z := 1) dL_law_1189 (by decide +kernel) ?_
              refine L_sld (i2 := 1) (v := 8) dL_law_1190 (jin (by decide +kernel)) (by decide +kernel) hx1 ?_
              refine J_callV (st := []) dL_law_1191 cv_L_156 (c_X11_count_10 H0_0 H0_1) H0_0 rfl rfl (Nat.le_of_ble_eq_true rfl) ⟨(Nat.le_of_ble_eq_true rfl), (Nat.le_of_ble_eq_true rfl)⟩ ⟨(Nat.le_of_ble_eq_true rfl), (Nat.le_of_ble_eq_true rfl)⟩ (fun r h9 hp => ?_)
              obtain ⟨rfl, rfl⟩ := hp
              refine J_nf (nh2 := 135) (ck2 := 135) (sk2 := 415506) (st2 := [.int 0]) rfl rfl rfl rfl ?_
              refine J_aload_n dL_law_1194 rfl rfl ?_
              refine J_sload_n dL_law_1195 rfl rfl ?_
              refine J_iload_n dL_law_1196 rfl rfl ?_
              refine J_iconst (v := 1) dL_law_1197 (by decide) ?_
              refine J_iadd (z := 1) dL_law_1198 (by decide +kernel) ?_
              refine L_sld (i2 := 1) (v := 8) dL_law_1199 (jin (by decide +kernel)) (by decide +kernel) hx1 ?_
              refine J_callV (st := [.int 0]) dL_law_1200 cv_L_159 (c_X12_count_10 H0_98 H0_100) H0_98 rfl rfl (Nat.le_of_ble_eq_true rfl) ⟨(Nat.le_of_ble_eq_true rfl), (Nat.le_of_ble_eq_true rfl)⟩ ⟨(Nat.le_of_ble_eq_true rfl), (Nat.le_of_ble_eq_true rfl)⟩ (fun r h9 hp => ?_)
              obtain ⟨rfl, rfl⟩ := hp
              refine J_nf (nh2 := 135) (ck2 := 135) (sk2 := 415506) (st2 := [.int 0, .int 0]) rfl rfl rfl rfl ?_
              refine J_icmp_eq (tgt := 1221) dL_law_1203 (by decide) (fun _ => ?_) (fun q => absurd (by decide +kernel) q)
              exact law_tail (Nat.le_of_ble_eq_true rfl) (Nat.le_of_ble_eq_true rfl)
            · rcases i_cut x1.toInt 10 with h_6 | h_6
              · obtain rfl : x1 = 9 := by rw [fa_eq, kc_9]; omega
                refine J_hc0 ?_
                refine J_aload_n dL_law_1185 rfl rfl ?_
                refine J_sload_n dL_law_1186 rfl rfl ?_
                refine J_iload_n dL_law_1187 rfl rfl ?_
                refine J_iconst (v := 1) dL_law_1188 (by decide) ?_
                refine J_iadd (z := 1) dL_law_1189 (by decide +kernel) ?_
                refine L_sld (i2 := 1) (v := 9) dL_law_1190 (jin (by decide +kernel)) (by decide +kernel) hx1 ?_
                refine J_callV (st := []) dL_law_1191 cv_L_156 (c_X11_count_11 H0_0 H0_1) H0_0 rfl rfl (Nat.le_of_ble_eq_true rfl) ⟨(Nat.le_of_ble_eq_true rfl), (Nat.le_of_ble_eq_true rfl)⟩ ⟨(Nat.le_of_ble_eq_true rfl), (Nat.le_of_ble_eq_true rfl)⟩ (fun r h9 hp => ?_)
                obtain ⟨rfl, rfl⟩ := hp
                refine J_nf (nh2 := 135) (ck2 := 135) (sk2 := 415506) (st2 := [.int 0]) rfl rfl rfl rfl ?_
                refine J_aload_n dL_law_1194 rfl rfl ?_
                refine J_sload_n dL_law_1195 rfl rfl ?_
                refine J_iload_n dL_law_1196 rfl rfl ?_
                refine J_iconst (v := 1) dL_law_1197 (by decide) ?_
                refine J_iadd (z := 1) dL_law_1198 (by decide +kernel) ?_
                refine L_sld (i2 := 1) (v := 9) dL_law_1199 (jin (by decide +kernel)) (by decide +kernel) hx1 ?_
                refine J_callV (st := [.int 0]) dL_law_1200 cv_L_159 (c_X12_count_11 H0_98 H0_100) H0_98 rfl rfl (Nat.le_of_ble_eq_true rfl) ⟨(Nat.le_of_ble_eq_true rfl), (Nat.le_of_ble_eq_true rfl)⟩ ⟨(Nat.le_of_ble_eq_true rfl), (Nat.le_of_ble_eq_true rfl)⟩ (fun r h9 hp => ?_)
                obtain ⟨rfl, rfl⟩ := hp
                refine J_nf (nh2 := 135) (ck2 := 135) (sk2 := 415506) (st2 := [.int 0, .int 0]) rfl rfl rfl rfl ?_
                refine J_icmp_eq (tgt := 1221) dL_law_1203 (by decide) (fun _ => ?_) (fun q => absurd (by decide +kernel) q)
                exact law_tail (Nat.le_of_ble_eq_true rfl) (Nat.le_of_ble_eq_true rfl)
              · obtain rfl : x1 = 10 := by rw [fa_eq, kc_10]; omega
                refine J_hc0 ?_
                refine J_aload_n dL_law_1185 rfl rfl ?_
                refine J_sload_n dL_law_1186 rfl rfl ?_
                refine J_iload_n dL_law_1187 rfl rfl ?_
                refine J_iconst (v := 1) dL_law_1188 (by decide) ?_
                refine J_iadd (z := 1) dL_law_1189 (by decide +kernel) ?_
                refine L_sld (i2 := 1) (v := 10) dL_law_1190 (jin (by decide +kernel)) (by decide +kernel) hx1 ?_
                refine J_callV (st := []) dL_law_1191 cv_L_156 (c_X11_count_12 H0_0 H0_54) H0_0 rfl rfl (Nat.le_of_ble_eq_true rfl) ⟨(Nat.le_of_ble_eq_true rfl), (Nat.le_of_ble_eq_true rfl)⟩ ⟨(Nat.le_of_ble_eq_true rfl), (Nat.le_of_ble_eq_true rfl)⟩ (fun r h9 hp => ?_)
                obtain ⟨rfl, rfl⟩ := hp
                refine J_nf (nh2 := 135) (ck2 := 135) (sk2 := 415506) (st2 := [.int 0]) rfl rfl rfl rfl ?_
                refine J_aload_n dL_law_1194 rfl rfl ?_
                refine J_sload_n dL_law_1195 rfl rfl ?_
                refine J_iload_n dL_law_1196 rfl rfl ?_
                refine J_iconst (v := 1) dL_law_1197 (by decide) ?_
                refine J_iadd (z := 1) dL_law_1198 (by decide +kernel) ?_
                refine L_sld (i2 := 1) (v := 10) dL_law_1199 (jin (by decide +kernel)) (by decide +kernel) hx1 ?_
                refine J_callV (st := [.int 0]) dL_law_1200 cv_L_159 (c_X12_count_12 H0_98) H0_98 rfl rfl (Nat.le_of_ble_eq_true rfl) ⟨(Nat.le_of_ble_eq_true rfl), (Nat.le_of_ble_eq_true rfl)⟩ ⟨(Nat.le_of_ble_eq_true rfl), (Nat.le_of_ble_eq_true rfl)⟩ (fun r h9 hp => ?_)
                obtain ⟨rfl, rfl⟩ := hp
                refine J_nf (nh2 := 135) (ck2 := 135) (sk2 := 415506) (st2 := [.int 0, .int 0]) rfl rfl rfl rfl ?_
                refine J_icmp_eq (tgt := 1221) dL_law_1203 (by decide) (fun _ => ?_) (fun q => absurd (by decide +kernel) q)
                exact law_tail (Nat.le_of_ble_eq_true rfl) (Nat.le_of_ble_eq_true rfl)
      · rcases i_cut x1.toInt 16 with h_3 | h_3
        · rcases i_cut x1.toInt 12 with h_4 | h_4
          · obtain rfl : x1 = 11 := by rw [fa_eq, kc_11]; omega
            refine J_hc0 ?_
            refine J_aload_n dL_law_1185 rfl rfl ?_
            refine J_sload_n dL_law_1186 rfl rfl ?_
            refine J_iload_n dL_law_1187 rfl rfl ?_
            refine J_iconst (v := 1) dL_law_1188 (by decide) ?_
            refine J_iadd (z := 1) dL_law_1189 (by decide +kernel) ?_
            refine L_sld (i2 := 1) (v := 11) dL_law_1190 (jin (by decide +kernel)) (by decide +kernel) hx1 ?_
            refine J_callV (st := []) dL_law_1191 cv_L_156 (c_X11_count_13 H0_0 H0_96) H0_0 rfl rfl (Nat.le_of_ble_eq_true rfl) ⟨(Nat.le_of_ble_eq_true rfl), (Nat.le_of_ble_eq_true rfl)⟩ ⟨(Nat.le_of_ble_eq_true rfl), (Nat.le_of_ble_eq_true rfl)⟩ (fun r h9 hp => ?_)
            obtain ⟨rfl, rfl⟩ := hp
            refine J_nf (nh2 := 135) (ck2 := 135) (sk2 := 415506) (st2 := [.int 0]) rfl rfl rfl rfl ?_
            refine J_aload_n dL_law_1194 rfl rfl ?_
            refine J_sload_n dL_law_1195 rfl rfl ?_
            refine J_iload_n dL_law_1196 rfl rfl ?_
            refine J_iconst (v := 1) dL_law_1197 (by decide) ?_
            refine J_iadd (z := 1) dL_law_1198 (by decide +kernel) ?_
            refine L_sld (i2 := 1) (v := 11) dL_law_1199 (jin (by decide +kernel)) (by decide +kernel) hx1 ?_
            refine J_callV (st := [.int 0]) dL_law_1200 cv_L_159 (c_X12_count_13 H0_98 H0_99) H0_98 rfl rfl (Nat.le_of_ble_eq_true rfl) ⟨(Nat.le_of_ble_eq_true rfl), (Nat.le_of_ble_eq_true rfl)⟩ ⟨(Nat.le_of_ble_eq_true rfl), (Nat.le_of_ble_eq_true rfl)⟩ (fun r h9 hp => ?_)
            obtain ⟨rfl, rfl⟩ := hp
            refine J_nf (nh2 := 135) (ck2 := 135) (sk2 := 415506) (st2 := [.int 0, .int 0]) rfl rfl rfl rfl ?_
            refine J_icmp_eq (tgt := 1221) dL_law_1203 (by decide) (fun _ => ?_) (fun q => absurd (by decide +kernel) q)
            exact law_tail (Nat.le_of_ble_eq_true rfl) (Nat.le_of_ble_eq_true rfl)
          · rcases i_cut x1.toInt 13 with h_5 | h_5
            · obtain rfl : x1 = 12 := by rw [fa_eq, kc_12]; omega
              refine J_hc0 ?_
              refine J_aload_n dL_law_1185 rfl rfl ?_
              refine J_sload_n dL_law_1186 rfl rfl ?_
              refine J_iload_n dL_law_1187 rfl rfl ?_
              refine J_iconst (v := 1) dL_law_1188 (by decide) ?_
              refine J_iadd (z := 1) dL_law_1189 (by decide +kernel) ?_
              refine L_sld (i2 := 1) (v := 12) dL_law_1190 (jin (by decide +kernel)) (by decide +kernel) hx1 ?_
              refine J_callV (st := []) dL_law_1191 cv_L_156 (c_X11_count_14 H0_0 H0_96) H0_0 rfl rfl (Nat.le_of_ble_eq_true rfl) ⟨(Nat.le_of_ble_eq_true rfl), (Nat.le_of_ble_eq_true rfl)⟩ ⟨(Nat.le_of_ble_eq_true rfl), (Nat.le_of_ble_eq_true rfl)⟩ (fun r h9 hp => ?_)
              obtain ⟨rfl, rfl⟩ := hp
              refine J_nf (nh2 := 135) (ck2 := 135) (sk2 := 415506) (st2 := [.int 0]) rfl rfl rfl rfl ?_
              refine J_aload_n dL_law_1194 rfl rfl ?_
              refine J_sload_n dL_law_1195 rfl rfl ?_
              refine J_iload_n dL_law_1196 rfl rfl ?_
              refine J_iconst (v := 1) dL_law_1197 (by decide) ?_
              refine J_iadd (z := 1) dL_law_1198 (by decide +kernel) ?_
              refine L_sld (i2 := 1) (v := 12) dL_law_1199 (jin (by decide +kernel)) (by decide +kernel) hx1 ?_
              refine J_callV (st := [.int 0]) dL_law_1200 cv_L_159 (c_X12_count_14 H0_98 H0_99) H0_98 rfl rfl (Nat.le_of_ble_eq_true rfl) ⟨(Nat.le_of_ble_eq_true rfl), (Nat.le_of_ble_eq_true rfl)⟩ ⟨(Nat.le_of_ble_eq_true rfl), (Nat.le_of_ble_eq_true rfl)⟩ (fun r h9 hp => ?_)
              obtain ⟨rfl, rfl⟩ := hp
              refine J_nf (nh2 := 135) (ck2 := 135) (sk2 := 415506) (st2 := [.int 0, .int 0]) rfl rfl rfl rfl ?_
              refine J_icmp_eq (tgt := 1221) dL_law_1203 (by decide) (fun _ => ?_) (fun q => absurd (by decide +kernel) q)
              exact law_tail (Nat.le_of_ble_eq_true rfl) (Nat.le_of_ble_eq_true rfl)
            · rcases i_cut x1.toInt 14 with h_6 | h_6
              · obtain rfl : x1 = 13 := by rw [fa_eq, kc_13]; omega
                refine J_hc0 ?_
                refine J_aload_n dL_law_1185 rfl rfl ?_
                refine J_sload_n dL_law_1186 rfl rfl ?_
                refine J_iload_n dL_law_1187 rfl rfl ?_
                refine J_iconst (v := 1) dL_law_1188 (by decide) ?_
                refine J_iadd (z := 1) dL_law_1189 (by decide +kernel) ?_
                refine L_sld (i2 := 1) (v := 13) dL_law_1190 (jin (by decide +kernel)) (by decide +kernel) hx1 ?_
                refine J_callV (st := []) dL_law_1191 cv_L_156 (c_X11_count_15 H0_0 H0_96) H0_0 rfl rfl (Nat.le_of_ble_eq_true rfl) ⟨(Nat.le_of_ble_eq_true rfl), (Nat.le_of_ble_eq_true rfl)⟩ ⟨(Nat.le_of_ble_eq_true rfl), (Nat.le_of_ble_eq_true rfl)⟩ (fun r h9 hp => ?_)
                obtain ⟨rfl, rfl⟩ := hp
                refine J_nf (nh2 := 135) (ck2 := 135) (sk2 := 415506) (st2 := [.int 0]) rfl rfl rfl rfl ?_
                refine J_aload_n dL_law_1194 rfl rfl ?_
                refine J_sload_n dL_law_1195 rfl rfl ?_
                refine J_iload_n dL_law_1196 rfl rfl ?_
                refine J_iconst (v := 1) dL_law_1197 (by decide) ?_
                refine J_iadd (z := 1) dL_law_1198 (by decide +kernel) ?_
                refine L_sld (i2 := 1) (v := 13) dL_law_1199 (jin (by decide +kernel)) (by decide +kernel) hx1 ?_
                refine J_callV (st := [.int 0]) dL_law_1200 cv_L_159 (c_X12_count_15 H0_98 H0_99) H0_98 rfl rfl (Nat.le_of_ble_eq_true rfl) ⟨(Nat.le_of_ble_eq_true rfl), (Nat.le_of_ble_eq_true rfl)⟩ ⟨(Nat.le_of_ble_eq_true rfl), (Nat.le_of_ble_eq_true rfl)⟩ (fun r h9 hp => ?_)
                obtain ⟨rfl, rfl⟩ := hp
                refine J_nf (nh2 := 135) (ck2 := 135) (sk2 := 415506) (st2 := [.int 0, .int 0]) rfl rfl rfl rfl ?_
                refine J_icmp_eq (tgt := 1221) dL_law_1203 (by decide) (fun _ => ?_) (fun q => absurd (by decide +kernel) q)
                exact law_tail (Nat.le_of_ble_eq_true rfl) (Nat.le_of_ble_eq_true rfl)
              · rcases i_cut x1.toInt 15 with h_7 | h_7
                · obtain rfl : x1 = 14 := by rw [fa_eq, kc_14]; omega
                  refine J_hc0 ?_
                  refine J_aload_n dL_law_1185 rfl rfl ?_
                  refine J_sload_n dL_law_1186 rfl rfl ?_
                  refine J_iload_n dL_law_1187 rfl rfl ?_
                  refine J_iconst (v := 1) dL_law_1188 (by decide) ?_
                  refine J_iadd (z := 1) dL_law_1189 (by decide +kernel) ?_
                  refine L_sld (i2 := 1) (v := 14) dL_law_1190 (jin (by decide +kernel)) (by decide +kernel) hx1 ?_
                  refine J_callV (st := []) dL_law_1191 cv_L_156 (c_X11_count_16 H0_0 H0_96) H0_0 rfl rfl (Nat.le_of_ble_eq_true rfl) ⟨(Nat.le_of_ble_eq_true rfl), (Nat.le_of_ble_eq_true rfl)⟩ ⟨(Nat.le_of_ble_eq_true rfl), (Nat.le_of_ble_eq_true rfl)⟩ (fun r h9 hp => ?_)
                  obtain ⟨rfl, rfl⟩ := hp
                  refine J_nf (nh2 := 135) (ck2 := 135) (sk2 := 415506) (st2 := [.int 0]) rfl rfl rfl rfl ?_
                  refine J_aload_n dL_law_1194 rfl rfl ?_
                  refine J_sload_n dL_law_1195 rfl rfl ?_
                  refine J_iload_n dL_law_1196 rfl rfl ?_
                  refine J_iconst (v := 1) dL_law_1197 (by decide) ?_
                  refine J_iadd (z := 1) dL_law_1198 (by decide +kernel) ?_
                  refine L_sld (i2 := 1) (v := 14) dL_law_1199 (jin (by decide +kernel)) (by decide +kernel) hx1 ?_
                  refine J_callV (st := [.int 0]) dL_law_1200 cv_L_159 (c_X12_count_16 H0_98 H0_99) H0_98 rfl rfl (Nat.le_of_ble_eq_true rfl) ⟨(Nat.le_of_ble_eq_true rfl), (Nat.le_of_ble_eq_true rfl)⟩ ⟨(Nat.le_of_ble_eq_true rfl), (Nat.le_of_ble_eq_true rfl)⟩ (fun r h9 hp => ?_)
                  obtain ⟨rfl, rfl⟩ := hp
                  refine J_nf (nh2 := 135) (ck2 := 135) (sk2 := 415506) (st2 := [.int 0, .int 0]) rfl rfl rfl rfl ?_
                  refine J_icmp_eq (tgt := 1221) dL_law_1203 (by decide) (fun _ => ?_) (fun q => absurd (by decide +kernel) q)
                  exact law_tail (Nat.le_of_ble_eq_true rfl) (Nat.le_of_ble_eq_true rfl)
                · obtain rfl : x1 = 15 := by rw [fa_eq, kc_15]; omega
                  refine J_hc0 ?_
                  refine J_aload_n dL_law_1185 rfl rfl ?_
                  refine J_sload_n dL_law_1186 rfl rfl ?_
                  refine J_iload_n dL_law_1187 rfl rfl ?_
                  refine J_iconst (v := 1) dL_law_1188 (by decide) ?_
                  refine J_iadd (z := 1) dL_law_1189 (by decide +kernel) ?_
                  refine L_sld (i2 := 1) (v := 15) dL_law_1190 (jin (by decide +kernel)) (by decide +kernel) hx1 ?_
                  refine J_callV (st := []) dL_law_1191 cv_L_156 (c_X11_count_17 H0_0 H0_96) H0_0 rfl rfl (Nat.le_of_ble_eq_true rfl) ⟨(Nat.le_of_ble_eq_true rfl), (Nat.le_of_ble_eq_true rfl)⟩ ⟨(Nat.le_of_ble_eq_true rfl), (Nat.le_of_ble_eq_true rfl)⟩ (fun r h9 hp => ?_)
                  obtain ⟨rfl, rfl⟩ := hp
                  refine J_nf (nh2 := 135) (ck2 := 135) (sk2 := 415506) (st2 := [.int 0]) rfl rfl rfl rfl ?_
                  refine J_aload_n dL_law_1194 rfl rfl ?_
                  refine J_sload_n dL_law_1195 rfl rfl ?_
                  refine J_iload_n dL_law_1196 rfl rfl ?_
                  refine J_iconst (v := 1) dL_law_1197 (by decide) ?_
                  refine J_iadd (z := 1) dL_law_1198 (by decide +kernel) ?_
                  refine L_sld (i2 := 1) (v := 15) dL_law_1199 (jin (by decide +kernel)) (by decide +kernel) hx1 ?_
                  refine J_callV (st := [.int 0]) dL_law_1200 cv_L_159 (c_X12_count_17 H0_98 H0_99) H0_98 rfl rfl (Nat.le_of_ble_eq_true rfl) ⟨(Nat.le_of_ble_eq_true rfl), (Nat.le_of_ble_eq_true rfl)⟩ ⟨(Nat.le_of_ble_eq_true rfl), (Nat.le_of_ble_eq_true rfl)⟩ (fun r h9 hp => ?_)
                  obtain ⟨rfl, rfl⟩ := hp
                  refine J_nf (nh2 := 135) (ck2 := 135) (sk2 := 415506) (st2 := [.int 0, .int 0]) rfl rfl rfl rfl ?_
                  refine J_icmp_eq (tgt := 1221) dL_law_1203 (by decide) (fun _ => ?_) (fun q => absurd (by decide +kernel) q)
                  exact law_tail (Nat.le_of_ble_eq_true rfl) (Nat.le_of_ble_eq_true rfl)
        · rcases i_cut x1.toInt 17 with h_4 | h_4
          · obtain rfl : x1 = 16 := by rw [fa_eq, kc_16]; omega
            refine J_hc0 ?_
            refine J_aload_n dL_law_1185 rfl rfl ?_
            refine J_sload_n dL_law_1186 rfl rfl ?_
            refine J_iload_n dL_law_1187 rfl rfl ?_
            refine J_iconst (v := 1) dL_law_1188 (by decide) ?_
            refine J_iadd (z := 1) dL_law_1189 (by decide +kernel) ?_
            refine L_sld (i2 := 1) (v := 16) dL_law_1190 (jin (by decide +kernel)) (by decide +kernel) hx1 ?_
            refine J_callV (st := []) dL_law_1191 cv_L_156 (c_X11_count_18 H0_0 H0_1) H0_0 rfl rfl (Nat.le_of_ble_eq_true rfl) ⟨(Nat.le_of_ble_eq_true rfl), (Nat.le_of_ble_eq_true rfl)⟩ ⟨(Nat.le_of_ble_eq_true rfl), (Nat.le_of_ble_eq_true rfl)⟩ (fun r h9 hp => ?_)
            obtain ⟨rfl, rfl⟩ := hp
            refine J_nf (nh2 := 135) (ck2 := 135) (sk2 := 415506) (st2 := [.int (-1)]) rfl rfl rfl rfl ?_
            refine J_aload_n dL_law_1194 rfl rfl ?_
            refine J_sload_n dL_law_1195 rfl rfl ?_
            refine J_iload_n dL_law_1196 rfl rfl ?_
            refine J_iconst (v := 1) dL_law_1197 (by decide) ?_
            refine J_iadd (z := 1) dL_law_1198 (by decide +kernel) ?_
            refine L_sld (i2 := 1) (v := 16) dL_law_1199 (jin (by decide +kernel)) (by decide +kernel) hx1 ?_
            refine J_callV (st := [.int (-1)]) dL_law_1200 cv_L_159 (c_X12_count_18 H0_98 H0_100) H0_98 rfl rfl (Nat.le_of_ble_eq_true rfl) ⟨(Nat.le_of_ble_eq_true rfl), (Nat.le_of_ble_eq_true rfl)⟩ ⟨(Nat.le_of_ble_eq_true rfl), (Nat.le_of_ble_eq_true rfl)⟩ (fun r h9 hp => ?_)
            obtain ⟨rfl, rfl⟩ := hp
            refine J_nf (nh2 := 135) (ck2 := 135) (sk2 := 415506) (st2 := [.int (-1), .int (-1)]) rfl rfl rfl rfl ?_
            refine J_icmp_eq (tgt := 1221) dL_law_1203 (by decide) (fun _ => ?_) (fun q => absurd (by decide +kernel) q)
            exact law_tail (Nat.le_of_ble_eq_true rfl) (Nat.le_of_ble_eq_true rfl)
          · rcases i_cut x1.toInt 18 with h_5 | h_5
            · obtain rfl : x1 = 17 := by rw [fa_eq, kc_17]; omega
              refine J_hc0 ?_
              refine J_aload_n dL_law_1185 rfl rfl ?_
              refine J_sload_n dL_law_1186 rfl rfl ?_
              refine J_iload_n dL_law_1187 rfl rfl ?_
              refine J_iconst (v := 1) dL_law_1188 (by decide) ?_
              refine J_iadd (z := 1) dL_law_1189 (by decide +kernel) ?_
              refine L_sld (i2 := 1) (v := 17) dL_law_1190 (jin (by decide +kernel)) (by decide +kernel) hx1 ?_
              refine J_callV (st := []) dL_law_1191 cv_L_156 (c_X11_count_19 H0_0 H0_1 H0_3) H0_0 rfl rfl (Nat.le_of_ble_eq_true rfl) ⟨(Nat.le_of_ble_eq_true rfl), (Nat.le_of_ble_eq_true rfl)⟩ ⟨(Nat.le_of_ble_eq_true rfl), (Nat.le_of_ble_eq_true rfl)⟩ (fun r h9 hp => ?_)
              obtain ⟨rfl, rfl⟩ := hp
              refine J_nf (nh2 := 135) (ck2 := 135) (sk2 := 415506) (st2 := [.int 0]) rfl rfl rfl rfl ?_
              refine J_aload_n dL_law_1194 rfl rfl ?_
              refine J_sload_n dL_law_1195 rfl rfl ?_
              refine J_iload_n dL_law_1196 rfl rfl ?_
              refine J_iconst (v := 1) dL_law_1197 (by decide) ?_
              refine J_iadd (z := 1) dL_law_1198 (by decide +kernel) ?_
              refine L_sld (i2 := 1) (v := 17) dL_law_1199 (jin (by decide +kernel)) (by decide +kernel) hx1 ?_
              refine J_callV (st := [.int 0]) dL_law_1200 cv_L_159 (c_X12_count_19 H0_98 H0_100) H0_98 rfl rfl (Nat.le_of_ble_eq_true rfl) ⟨(Nat.le_of_ble_eq_true rfl), (Nat.le_of_ble_eq_true rfl)⟩ ⟨(Nat.le_of_ble_eq_true rfl), (Nat.le_of_ble_eq_true rfl)⟩ (fun r h9 hp => ?_)
              obtain ⟨rfl, rfl⟩ := hp
              refine J_nf (nh2 := 135) (ck2 := 135) (sk2 := 415506) (st2 := [.int 0, .int 0]) rfl rfl rfl rfl ?_
              refine J_icmp_eq (tgt := 1221) dL_law_1203 (by decide) (fun _ => ?_) (fun q => absurd (by decide +kernel) q)
              exact law_tail (Nat.le_of_ble_eq_true rfl) (Nat.le_of_ble_eq_true rfl)
            · rcases i_cut x1.toInt 19 with h_6 | h_6
              · obtain rfl : x1 = 18 := by rw [fa_eq, kc_18]; omega
                refine J_hc0 ?_
                refine J_aload_n dL_law_1185 rfl rfl ?_
                refine J_sload_n dL_law_1186 rfl rfl ?_
                refine J_iload_n dL_law_1187 rfl rfl ?_
                refine J_iconst (v := 1) dL_law_1188 (by decide) ?_
                refine J_iadd (z := 1) dL_law_1189 (by decide +kernel) ?_
                refine L_sld (i2 := 1) (v := 18) dL_law_1190 (jin (by decide +kernel)) (by decide +kernel) hx1 ?_
                refine J_callV (st := []) dL_law_1191 cv_L_156 (c_X11_count_20 H0_0 H0_1 H0_3) H0_0 rfl rfl (Nat.le_of_ble_eq_true rfl) ⟨(Nat.le_of_ble_eq_true rfl), (Nat.le_of_ble_eq_true rfl)⟩ ⟨(Nat.le_of_ble_eq_true rfl), (Nat.le_of_ble_eq_true rfl)⟩ (fun r h9 hp => ?_)
                obtain ⟨rfl, rfl⟩ := hp
                refine J_nf (nh2 := 135) (ck2 := 135) (sk2 := 415506) (st2 := [.int 0]) rfl rfl rfl rfl ?_
                refine J_aload_n dL_law_1194 rfl rfl ?_
                refine J_sload_n dL_law_1195 rfl rfl ?_
                refine J_iload_n dL_law_1196 rfl rfl ?_
                refine J_iconst (v := 1) dL_law_1197 (by decide) ?_
                refine J_iadd (z := 1) dL_law_1198 (by decide +kernel) ?_
                refine L_sld (i2 := 1) (v := 18) dL_law_1199 (jin (by decide +kernel)) (by decide +kernel) hx1 ?_
                refine J_callV (st := [.int 0]) dL_law_1200 cv_L_159 (c_X12_count_20 H0_98 H0_100) H0_98 rfl rfl (Nat.le_of_ble_eq_true rfl) ⟨(Nat.le_of_ble_eq_true rfl), (Nat.le_of_ble_eq_true rfl)⟩ ⟨(Nat.le_of_ble_eq_true rfl), (Nat.le_of_ble_eq_true rfl)⟩ (fun r h9 hp => ?_)
                obtain ⟨rfl, rfl⟩ := hp
                refine J_nf (nh2 := 135) (ck2 := 135) (sk2 := 415506) (st2 := [.int 0, .int 0]) rfl rfl rfl rfl ?_
                refine J_icmp_eq (tgt := 1221) dL_law_1203 (by decide) (fun _ => ?_) (fun q => absurd (by decide +kernel) q)
                exact law_tail (Nat.le_of_ble_eq_true rfl) (Nat.le_of_ble_eq_true rfl)
              · have b1 : 19 ≤ x1.toInt ∧ x1.toInt ≤ 2147483647 := ⟨by omega, by omega⟩
                refine J_hc0 ?_
                refine J_aload_n dL_law_1185 rfl rfl ?_
                refine J_sload_n dL_law_1186 rfl rfl ?_
                refine J_iload_n dL_law_1187 rfl rfl ?_
                refine J_iconst (v := 1) dL_law_1188 (by decide) ?_
                refine J_iadd (z := 1) dL_law_1189 (by decide +kernel) ?_
                refine L_sld (i2 := 1) (v := x1) dL_law_1190 (jin (by decide +kernel)) (by decide +kernel) hx1 ?_
                refine J_callV (st := []) dL_law_1191 cv_L_156 (c_X11_count_21 (x1) b1) H0_0 rfl rfl (Nat.le_of_ble_eq_true rfl) ⟨(Nat.le_of_ble_eq_true rfl), (Nat.le_of_ble_eq_true rfl)⟩ ⟨(Nat.le_of_ble_eq_true rfl), (Nat.le_of_ble_eq_true rfl)⟩ (fun r h9 hp => ?_)
                obtain ⟨rfl, rfl⟩ := hp
                refine J_nf (nh2 := 135) (ck2 := 135) (sk2 := 415506) (st2 := [.int (-1)]) rfl rfl rfl rfl ?_
                refine J_aload_n dL_law_1194 rfl rfl ?_
                refine J_sload_n dL_law_1195 rfl rfl ?_
                refine J_iload_n dL_law_1196 rfl rfl ?_
                refine J_iconst (v := 1) dL_law_1197 (by decide) ?_
                refine J_iadd (z := 1) dL_law_1198 (by decide +kernel) ?_
                refine L_sld (i2 := 1) (v := x1) dL_law_1199 (jin (by decide +kernel)) (by decide +kernel) hx1 ?_
                refine J_callV (st := [.int (-1)]) dL_law_1200 cv_L_159 (c_X12_count_21 (x1) b1) H0_98 rfl rfl (Nat.le_of_ble_eq_true rfl) ⟨(Nat.le_of_ble_eq_true rfl), (Nat.le_of_ble_eq_true rfl)⟩ ⟨(Nat.le_of_ble_eq_true rfl), (Nat.le_of_ble_eq_true rfl)⟩ (fun r h9 hp => ?_)
                obtain ⟨rfl, rfl⟩ := hp
                refine J_nf (nh2 := 135) (ck2 := 135) (sk2 := 415506) (st2 := [.int (-1), .int (-1)]) rfl rfl rfl rfl ?_
                refine J_icmp_eq (tgt := 1221) dL_law_1203 (by decide) (fun _ => ?_) (fun q => absurd (by decide +kernel) q)
                exact law_tail (Nat.le_of_ble_eq_true rfl) (Nat.le_of_ble_eq_true rfl)
set_option maxHeartbeats 4000000 in
set_option maxRecDepth 100000 in
theorem law_case_35 {l : Launch} {G : jG} {b : Nat} {xs : Nat → Int32}  : J l G ML_law room_1 (lE b 6 xs G) lQ (135, H0) 135 415506 1208 [some (.retAddr 0), some (.ref 0), some (.ref 98), some (.int 0)] [] := by
  refine J_hc0 ?_
  refine J_aload_n dL_law_1208 rfl rfl ?_
  refine J_callV (st := []) dL_law_1209 cv_L_160 (c_X11_status_1 H0_0) H0_0 rfl rfl (Nat.le_of_ble_eq_true rfl) ⟨(Nat.le_of_ble_eq_true rfl), (Nat.le_of_ble_eq_true rfl)⟩ ⟨(Nat.le_of_ble_eq_true rfl), (Nat.le_of_ble_eq_true rfl)⟩ (fun r h9 hp => ?_)
  obtain ⟨rfl, rfl⟩ := hp
  refine J_nf (nh2 := 135) (ck2 := 135) (sk2 := 415506) (st2 := [.int 0]) rfl rfl rfl rfl ?_
  refine J_aload_n dL_law_1212 rfl rfl ?_
  refine J_callV (st := [.int 0]) dL_law_1213 cv_L_163 (c_X12_status_1 H0_98) H0_98 rfl rfl (Nat.le_of_ble_eq_true rfl) ⟨(Nat.le_of_ble_eq_true rfl), (Nat.le_of_ble_eq_true rfl)⟩ ⟨(Nat.le_of_ble_eq_true rfl), (Nat.le_of_ble_eq_true rfl)⟩ (fun r h9 hp => ?_)
  obtain ⟨rfl, rfl⟩ := hp
  refine J_nf (nh2 := 135) (ck2 := 135) (sk2 := 415506) (st2 := [.int 0, .int 0]) rfl rfl rfl rfl ?_
  refine J_icmp_eq (tgt := 1221) dL_law_1216 (by decide) (fun _ => ?_) (fun q => absurd (by decide +kernel) q)
  exact law_tail (Nat.le_of_ble_eq_true rfl) (Nat.le_of_ble_eq_true rfl)
