/-! contracts at fresh objects: written by wip/tools/law.py -/
set_option maxHeartbeats 4000000 in
set_option maxRecDepth 100000 in
theorem c_X8_init_1 {l : Launch} {G : jG} {fh : Nat → Option va_E} (hk1 : fh 1 = some (.inr (8, [.null, .null, .null, .int 0, .int 0, .null, .null, .int 0, .null, .null, .int 0, .null, .null, .int 0]))) : JM l G yX8_init MX8_init { frames := 1, cells := 15, slots := 65, locals := 12 } [.ref 1] (2, fh) (fun r h9 => r = none ∧ h9 = (17, hc fh [(1, .inr (8, [.ref 2, .ref 3, .ref 4, .int 0, .int (-1), .ref 11, .ref 12, .int 0, .ref 13, .ref 14, .int 0, .ref 15, .ref 16, .int 0])), (16, .inl (0, 12, .inl (fun _ => 0))), (15, .inl (0, 12, .inl (fun _ => 0))), (14, .inl (0, 6, .inl (fun _ => 0))), (13, .inl (0, 6, .inl (fun _ => 0))), (12, .inl (0, 8, .inl (fun _ => 0))), (11, .inl (0, 8, .inl (fun _ => 0))), (10, .inl (0, 0, .inl (fun _ => 0))), (9, .inl (0, 0, .inl (fun _ => 0))), (8, .inl (0, 0, .inl (fun _ => 0))), (7, .inl (0, 0, .inl (fun _ => 0))), (6, .inl (0, 0, .inl (fun _ => 0))), (5, .inl (0, 0, .inl (fun _ => 0))), (4, .inl (5, 6, .inr (.inr (.inr (.inr (fun i => if i < 6 then some (4 + 1 + i) else none)))))), (3, .inl (0, 2, .inl (fun _ => 0))), (2, .inl (0, 5, .inl (fun _ => 0)))])) := by
  refine JM.of (by decide) rfl (fun _ => rfl) (Nat.le_of_ble_eq_true rfl) ⟨0, rfl⟩ ?_
  refine J_hc0 (J_ls (ls2 := [some (.ref 1)]) rfl ?_)
  refine J_aload_n dX8_init_0 rfl rfl ?_
  refine J_objInit dX8_init_1 (jt1 34 rfl rfl) (jt1 27 rfl rfl) (jt1 28 rfl rfl) (Nat.le_of_ble_eq_true rfl) (Nat.le_of_ble_eq_true rfl) ?_
  refine J_aload_n dX8_init_4 rfl rfl ?_
  refine J_iconst (v := 5) dX8_init_5 (by decide) ?_
  refine K_newa (t := 0) (N := 5) (a0 := (5, .inl (fun _ => 0))) (nh2 := 3) (ck2 := 1) (sk2 := 5) dX8_init_6 rfl (jt1 98 rfl rfl) rfl (fun _ _ h9 => h9) (fun _ => rfl) (fun _ => rfl) (by decide +kernel) (by decide +kernel) (Nat.le_of_ble_eq_true rfl) (Nat.le_of_ble_eq_true rfl) (Nat.le_of_ble_eq_true rfl) rfl rfl rfl ?_
  refine K_putF (fs2 := [.ref 2, .null, .null, .int 0, .int 0, .null, .null, .int 0, .null, .null, .int 0, .null, .null, .int 0]) dX8_init_8 rfl fw_X8_9 hk1 (Nat.le_of_ble_eq_true rfl) (fun _ => ⟨rfl, rfl⟩) rfl ?_
  refine J_aload_n dX8_init_11 rfl rfl ?_
  refine J_iconst (v := 2) dX8_init_12 (by decide) ?_
  refine K_newa (t := 0) (N := 2) (a0 := (2, .inl (fun _ => 0))) (nh2 := 4) (ck2 := 2) (sk2 := 7) dX8_init_13 rfl (jt1 98 rfl rfl) rfl (fun _ _ h9 => h9) (fun _ => rfl) (fun _ => rfl) (by decide +kernel) (by decide +kernel) (Nat.le_of_ble_eq_true rfl) (Nat.le_of_ble_eq_true rfl) (Nat.le_of_ble_eq_true rfl) rfl rfl rfl ?_
  refine K_putF (fs2 := [.ref 2, .ref 3, .null, .int 0, .int 0, .null, .null, .int 0, .null, .null, .int 0, .null, .null, .int 0]) dX8_init_15 rfl fw_X8_15 rfl (Nat.le_of_ble_eq_true rfl) (fun _ => ⟨rfl, rfl⟩) rfl ?_
  refine J_aload_n dX8_init_18 rfl rfl ?_
  refine J_bipush (v := 6) dX8_init_19 (by decide +kernel) ?_
  refine J_iconst (v := 0) dX8_init_21 (by decide) ?_
  refine K_mna (N := 6) (K := 0) (nh2 := 11) (ck2 := 9) (sk2 := 13) (L2 := [(10, .inl (0, 0, .inl (fun _ => 0))), (9, .inl (0, 0, .inl (fun _ => 0))), (8, .inl (0, 0, .inl (fun _ => 0))), (7, .inl (0, 0, .inl (fun _ => 0))), (6, .inl (0, 0, .inl (fun _ => 0))), (5, .inl (0, 0, .inl (fun _ => 0))), (4, .inl (5, 6, .inr (.inr (.inr (.inr (fun i => if i < 6 then some (4 + 1 + i) else none)))))), (1, .inr (8, [.ref 2, .ref 3, .null, .int 0, .int 0, .null, .null, .int 0, .null, .null, .int 0, .null, .null, .int 0])), (3, .inl (0, 2, .inl (fun _ => 0))), (1, .inr (8, [.ref 2, .null, .null, .int 0, .int 0, .null, .null, .int 0, .null, .null, .int 0, .null, .null, .int 0])), (2, .inl (0, 5, .inl (fun _ => 0)))]) dX8_init_22 (jt1 35 rfl rfl) (jt1 98 rfl rfl) (by decide +kernel) (by decide +kernel) (by decide +kernel) (by decide +kernel) (Nat.le_of_ble_eq_true rfl) (Nat.le_of_ble_eq_true rfl) (Nat.le_of_ble_eq_true rfl) (Nat.le_of_ble_eq_true rfl) rfl rfl rfl rfl ?_
  refine K_putF (fs2 := [.ref 2, .ref 3, .ref 4, .int 0, .int 0, .null, .null, .int 0, .null, .null, .int 0, .null, .null, .int 0]) dX8_init_26 rfl fw_X8_20 rfl (Nat.le_of_ble_eq_true rfl) (fun _ => ⟨rfl, rfl⟩) rfl ?_
  refine J_aload_n dX8_init_29 rfl rfl ?_
  refine J_iconst (v := 0) dX8_init_30 (by decide) ?_
  refine K_put (fs2 := [.ref 2, .ref 3, .ref 4, .int 0, .int 0, .null, .null, .int 0, .null, .null, .int 0, .null, .null, .int 0]) dX8_init_31 fw_X8_23 rfl (Nat.le_of_ble_eq_true rfl) (fun _ => ⟨rfl, rfl⟩) rfl ?_
  refine J_aload_n dX8_init_34 rfl rfl ?_
  refine J_iconst (v := (-1)) dX8_init_35 (by decide) ?_
  refine K_put (fs2 := [.ref 2, .ref 3, .ref 4, .int 0, .int (-1), .null, .null, .int 0, .null, .null, .int 0, .null, .null, .int 0]) dX8_init_36 fw_X8_27 rfl (Nat.le_of_ble_eq_true rfl) (fun _ => ⟨rfl, rfl⟩) rfl ?_
  refine J_aload_n dX8_init_39 rfl rfl ?_
  refine J_bipush (v := 8) dX8_init_40 (by decide +kernel) ?_
  refine K_newa (t := 0) (N := 8) (a0 := (8, .inl (fun _ => 0))) (nh2 := 12) (ck2 := 10) (sk2 := 21) dX8_init_42 rfl (jt1 98 rfl rfl) rfl (fun _ _ h9 => h9) (fun _ => rfl) (fun _ => rfl) (by decide +kernel) (by decide +kernel) (Nat.le_of_ble_eq_true rfl) (Nat.le_of_ble_eq_true rfl) (Nat.le_of_ble_eq_true rfl) rfl rfl rfl ?_
  refine K_putF (fs2 := [.ref 2, .ref 3, .ref 4, .int 0, .int (-1), .ref 11, .null, .int 0, .null, .null, .int 0, .null, .null, .int 0]) dX8_init_44 rfl fw_X8_30 rfl (Nat.le_of_ble_eq_true rfl) (fun _ => ⟨rfl, rfl⟩) rfl ?_
  refine J_aload_n dX8_init_47 rfl rfl ?_
  refine J_bipush (v := 8) dX8_init_48 (by decide +kernel) ?_
  refine K_newa (t := 0) (N := 8) (a0 := (8, .inl (fun _ => 0))) (nh2 := 13) (ck2 := 11) (sk2 := 29) dX8_init_50 rfl (jt1 98 rfl rfl) rfl (fun _ _ h9 => h9) (fun _ => rfl) (fun _ => rfl) (by decide +kernel) (by decide +kernel) (Nat.le_of_ble_eq_true rfl) (Nat.le_of_ble_eq_true rfl) (Nat.le_of_ble_eq_true rfl) rfl rfl rfl ?_
  refine K_putF (fs2 := [.ref 2, .ref 3, .ref 4, .int 0, .int (-1), .ref 11, .ref 12, .int 0, .null, .null, .int 0, .null, .null, .int 0]) dX8_init_52 rfl fw_X8_33 rfl (Nat.le_of_ble_eq_true rfl) (fun _ => ⟨rfl, rfl⟩) rfl ?_
  refine J_aload_n dX8_init_55 rfl rfl ?_
  refine J_iconst (v := 0) dX8_init_56 (by decide) ?_
  refine K_put (fs2 := [.ref 2, .ref 3, .ref 4, .int 0, .int (-1), .ref 11, .ref 12, .int 0, .null, .null, .int 0, .null, .null, .int 0]) dX8_init_57 fw_X8_36 rfl (Nat.le_of_ble_eq_true rfl) (fun _ => ⟨rfl, rfl⟩) rfl ?_
  refine J_aload_n dX8_init_60 rfl rfl ?_
  refine J_bipush (v := 6) dX8_init_61 (by decide +kernel) ?_
  refine K_newa (t := 0) (N := 6) (a0 := (6, .inl (fun _ => 0))) (nh2 := 14) (ck2 := 12) (sk2 := 35) dX8_init_63 rfl (jt1 98 rfl rfl) rfl (fun _ _ h9 => h9) (fun _ => rfl) (fun _ => rfl) (by decide +kernel) (by decide +kernel) (Nat.le_of_ble_eq_true rfl) (Nat.le_of_ble_eq_true rfl) (Nat.le_of_ble_eq_true rfl) rfl rfl rfl ?_
  refine K_putF (fs2 := [.ref 2, .ref 3, .ref 4, .int 0, .int (-1), .ref 11, .ref 12, .int 0, .ref 13, .null, .int 0, .null, .null, .int 0]) dX8_init_65 rfl fw_X8_39 rfl (Nat.le_of_ble_eq_true rfl) (fun _ => ⟨rfl, rfl⟩) rfl ?_
  refine J_aload_n dX8_init_68 rfl rfl ?_
  refine J_bipush (v := 6) dX8_init_69 (by decide +kernel) ?_
  refine K_newa (t := 0) (N := 6) (a0 := (6, .inl (fun _ => 0))) (nh2 := 15) (ck2 := 13) (sk2 := 41) dX8_init_71 rfl (jt1 98 rfl rfl) rfl (fun _ _ h9 => h9) (fun _ => rfl) (fun _ => rfl) (by decide +kernel) (by decide +kernel) (Nat.le_of_ble_eq_true rfl) (Nat.le_of_ble_eq_true rfl) (Nat.le_of_ble_eq_true rfl) rfl rfl rfl ?_
  refine K_putF (fs2 := [.ref 2, .ref 3, .ref 4, .int 0, .int (-1), .ref 11, .ref 12, .int 0, .ref 13, .ref 14, .int 0, .null, .null, .int 0]) dX8_init_73 rfl fw_X8_42 rfl (Nat.le_of_ble_eq_true rfl) (fun _ => ⟨rfl, rfl⟩) rfl ?_
  refine J_aload_n dX8_init_76 rfl rfl ?_
  refine J_iconst (v := 0) dX8_init_77 (by decide) ?_
  refine K_put (fs2 := [.ref 2, .ref 3, .ref 4, .int 0, .int (-1), .ref 11, .ref 12, .int 0, .ref 13, .ref 14, .int 0, .null, .null, .int 0]) dX8_init_78 fw_X8_45 rfl (Nat.le_of_ble_eq_true rfl) (fun _ => ⟨rfl, rfl⟩) rfl ?_
  refine J_aload_n dX8_init_81 rfl rfl ?_
  refine J_bipush (v := 12) dX8_init_82 (by decide +kernel) ?_
  refine K_newa (t := 0) (N := 12) (a0 := (12, .inl (fun _ => 0))) (nh2 := 16) (ck2 := 14) (sk2 := 53) dX8_init_84 rfl (jt1 98 rfl rfl) rfl (fun _ _ h9 => h9) (fun _ => rfl) (fun _ => rfl) (by decide +kernel) (by decide +kernel) (Nat.le_of_ble_eq_true rfl) (Nat.le_of_ble_eq_true rfl) (Nat.le_of_ble_eq_true rfl) rfl rfl rfl ?_
  refine K_putF (fs2 := [.ref 2, .ref 3, .ref 4, .int 0, .int (-1), .ref 11, .ref 12, .int 0, .ref 13, .ref 14, .int 0, .ref 15, .null, .int 0]) dX8_init_86 rfl fw_X8_48 rfl (Nat.le_of_ble_eq_true rfl) (fun _ => ⟨rfl, rfl⟩) rfl ?_
  refine J_aload_n dX8_init_89 rfl rfl ?_
  refine J_bipush (v := 12) dX8_init_90 (by decide +kernel) ?_
  refine K_newa (t := 0) (N := 12) (a0 := (12, .inl (fun _ => 0))) (nh2 := 17) (ck2 := 15) (sk2 := 65) dX8_init_92 rfl (jt1 98 rfl rfl) rfl (fun _ _ h9 => h9) (fun _ => rfl) (fun _ => rfl) (by decide +kernel) (by decide +kernel) (Nat.le_of_ble_eq_true rfl) (Nat.le_of_ble_eq_true rfl) (Nat.le_of_ble_eq_true rfl) rfl rfl rfl ?_
  refine K_putF (fs2 := [.ref 2, .ref 3, .ref 4, .int 0, .int (-1), .ref 11, .ref 12, .int 0, .ref 13, .ref 14, .int 0, .ref 15, .ref 16, .int 0]) dX8_init_94 rfl fw_X8_51 rfl (Nat.le_of_ble_eq_true rfl) (fun _ => ⟨rfl, rfl⟩) rfl ?_
  refine J_aload_n dX8_init_97 rfl rfl ?_
  refine J_iconst (v := 0) dX8_init_98 (by decide) ?_
  refine K_put (fs2 := [.ref 2, .ref 3, .ref 4, .int 0, .int (-1), .ref 11, .ref 12, .int 0, .ref 13, .ref 14, .int 0, .ref 15, .ref 16, .int 0]) dX8_init_99 fw_X8_54 rfl (Nat.le_of_ble_eq_true rfl) (fun _ => ⟨rfl, rfl⟩) rfl ?_
  refine J_mask (L2 := [(1, .inr (8, [.ref 2, .ref 3, .ref 4, .int 0, .int (-1), .ref 11, .ref 12, .int 0, .ref 13, .ref 14, .int 0, .ref 15, .ref 16, .int 0])), (16, .inl (0, 12, .inl (fun _ => 0))), (15, .inl (0, 12, .inl (fun _ => 0))), (14, .inl (0, 6, .inl (fun _ => 0))), (13, .inl (0, 6, .inl (fun _ => 0))), (12, .inl (0, 8, .inl (fun _ => 0))), (11, .inl (0, 8, .inl (fun _ => 0))), (10, .inl (0, 0, .inl (fun _ => 0))), (9, .inl (0, 0, .inl (fun _ => 0))), (8, .inl (0, 0, .inl (fun _ => 0))), (7, .inl (0, 0, .inl (fun _ => 0))), (6, .inl (0, 0, .inl (fun _ => 0))), (5, .inl (0, 0, .inl (fun _ => 0))), (4, .inl (5, 6, .inr (.inr (.inr (.inr (fun i => if i < 6 then some (4 + 1 + i) else none)))))), (3, .inl (0, 2, .inl (fun _ => 0))), (2, .inl (0, 5, .inl (fun _ => 0)))]) (ks := [1, 1, 16, 1, 15, 1, 1, 14, 1, 13, 1, 1, 12, 1, 11, 1, 1, 1, 10, 9, 8, 7, 6, 5, 4, 1, 3, 1, 2]) [true, false, true, false, true, false, false, true, false, true, false, false, true, false, true, false, false, false, true, true, true, true, true, true, true, false, true, false, true] rfl (by decide +kernel) rfl ?_
  exact J_vret dX8_init_102 rfl (Nat.le_of_ble_eq_true rfl) (Nat.le_of_ble_eq_true rfl) ⟨rfl, rfl⟩
set_option maxHeartbeats 4000000 in
set_option maxRecDepth 100000 in
theorem c_X8_init_2 {l : Launch} {G : jG} {fh : Nat → Option va_E} (hk18 : fh 18 = some (.inr (8, [.null, .null, .null, .int 0, .int 0, .null, .null, .int 0, .null, .null, .int 0, .null, .null, .int 0]))) : JM l G yX8_init MX8_init { frames := 1, cells := 15, slots := 65, locals := 12 } [.ref 18] (19, fh) (fun r h9 => r = none ∧ h9 = (34, hc fh [(18, .inr (8, [.ref 19, .ref 20, .ref 21, .int 0, .int (-1), .ref 28, .ref 29, .int 0, .ref 30, .ref 31, .int 0, .ref 32, .ref 33, .int 0])), (33, .inl (0, 12, .inl (fun _ => 0))), (32, .inl (0, 12, .inl (fun _ => 0))), (31, .inl (0, 6, .inl (fun _ => 0))), (30, .inl (0, 6, .inl (fun _ => 0))), (29, .inl (0, 8, .inl (fun _ => 0))), (28, .inl (0, 8, .inl (fun _ => 0))), (27, .inl (0, 0, .inl (fun _ => 0))), (26, .inl (0, 0, .inl (fun _ => 0))), (25, .inl (0, 0, .inl (fun _ => 0))), (24, .inl (0, 0, .inl (fun _ => 0))), (23, .inl (0, 0, .inl (fun _ => 0))), (22, .inl (0, 0, .inl (fun _ => 0))), (21, .inl (5, 6, .inr (.inr (.inr (.inr (fun i => if i < 6 then some (21 + 1 + i) else none)))))), (20, .inl (0, 2, .inl (fun _ => 0))), (19, .inl (0, 5, .inl (fun _ => 0)))])) := by
  refine JM.of (by decide) rfl (fun _ => rfl) (Nat.le_of_ble_eq_true rfl) ⟨0, rfl⟩ ?_
  refine J_hc0 (J_ls (ls2 := [some (.ref 18)]) rfl ?_)
  refine J_aload_n dX8_init_0 rfl rfl ?_
  refine J_objInit dX8_init_1 (jt1 34 rfl rfl) (jt1 27 rfl rfl) (jt1 28 rfl rfl) (Nat.le_of_ble_eq_true rfl) (Nat.le_of_ble_eq_true rfl) ?_
  refine J_aload_n dX8_init_4 rfl rfl ?_
  refine J_iconst (v := 5) dX8_init_5 (by decide) ?_
  refine K_newa (t := 0) (N := 5) (a0 := (5, .inl (fun _ => 0))) (nh2 := 20) (ck2 := 1) (sk2 := 5) dX8_init_6 rfl (jt1 98 rfl rfl) rfl (fun _ _ h9 => h9) (fun _ => rfl) (fun _ => rfl) (by decide +kernel) (by decide +kernel) (Nat.le_of_ble_eq_true rfl) (Nat.le_of_ble_eq_true rfl) (Nat.le_of_ble_eq_true rfl) rfl rfl rfl ?_
  refine K_putF (fs2 := [.ref 19, .null, .null, .int 0, .int 0, .null, .null, .int 0, .null, .null, .int 0, .null, .null, .int 0]) dX8_init_8 rfl fw_X8_9 hk18 (Nat.le_of_ble_eq_true rfl) (fun _ => ⟨rfl, rfl⟩) rfl ?_
  refine J_aload_n dX8_init_11 rfl rfl ?_
  refine J_iconst (v := 2) dX8_init_12 (by decide) ?_
  refine K_newa (t := 0) (N := 2) (a0 := (2, .inl (fun _ => 0))) (nh2 := 21) (ck2 := 2) (sk2 := 7) dX8_init_13 rfl (jt1 98 rfl rfl) rfl (fun _ _ h9 => h9) (fun _ => rfl) (fun _ => rfl) (by decide +kernel) (by decide +kernel) (Nat.le_of_ble_eq_true rfl) (Nat.le_of_ble_eq_true rfl) (Nat.le_of_ble_eq_true rfl) rfl rfl rfl ?_
  refine K_putF (fs2 := [.ref 19, .ref 20, .null, .int 0, .int 0, .null, .null, .int 0, .null, .null, .int 0, .null, .null, .int 0]) dX8_init_15 rfl fw_X8_15 rfl (Nat.le_of_ble_eq_true rfl) (fun _ => ⟨rfl, rfl⟩) rfl ?_
  refine J_aload_n dX8_init_18 rfl rfl ?_
  refine J_bipush (v := 6) dX8_init_19 (by decide +kernel) ?_
  refine J_iconst (v := 0) dX8_init_21 (by decide) ?_
  refine K_mna (N := 6) (K := 0) (nh2 := 28) (ck2 := 9) (sk2 := 13) (L2 := [(27, .inl (0, 0, .inl (fun _ => 0))), (26, .inl (0, 0, .inl (fun _ => 0))), (25, .inl (0, 0, .inl (fun _ => 0))), (24, .inl (0, 0, .inl (fun _ => 0))), (23, .inl (0, 0, .inl (fun _ => 0))), (22, .inl (0, 0, .inl (fun _ => 0))), (21, .inl (5, 6, .inr (.inr (.inr (.inr (fun i => if i < 6 then some (21 + 1 + i) else none)))))), (18, .inr (8, [.ref 19, .ref 20, .null, .int 0, .int 0, .null, .null, .int 0, .null, .null, .int 0, .null, .null, .int 0])), (20, .inl (0, 2, .inl (fun _ => 0))), (18, .inr (8, [.ref 19, .null, .null, .int 0, .int 0, .null, .null, .int 0, .null, .null, .int 0, .null, .null, .int 0])), (19, .inl (0, 5, .inl (fun _ => 0)))]) dX8_init_22 (jt1 35 rfl rfl) (jt1 98 rfl rfl) (by decide +kernel) (by decide +kernel) (by decide +kernel) (by decide +kernel) (Nat.le_of_ble_eq_true rfl) (Nat.le_of_ble_eq_true rfl) (Nat.le_of_ble_eq_true rfl) (Nat.le_of_ble_eq_true rfl) rfl rfl rfl rfl ?_
  refine K_putF (fs2 := [.ref 19, .ref 20, .ref 21, .int 0, .int 0, .null, .null, .int 0, .null, .null, .int 0, .null, .null, .int 0]) dX8_init_26 rfl fw_X8_20 rfl (Nat.le_of_ble_eq_true rfl) (fun _ => ⟨rfl, rfl⟩) rfl ?_
  refine J_aload_n dX8_init_29 rfl rfl ?_
  refine J_iconst (v := 0) dX8_init_30 (by decide) ?_
  refine K_put (fs2 := [.ref 19, .ref 20, .ref 21, .int 0, .int 0, .null, .null, .int 0, .null, .null, .int 0, .null, .null, .int 0]) dX8_init_31 fw_X8_23 rfl (Nat.le_of_ble_eq_true rfl) (fun _ => ⟨rfl, rfl⟩) rfl ?_
  refine J_aload_n dX8_init_34 rfl rfl ?_
  refine J_iconst (v := (-1)) dX8_init_35 (by decide) ?_
  refine K_put (fs2 := [.ref 19, .ref 20, .ref 21, .int 0, .int (-1), .null, .null, .int 0, .null, .null, .int 0, .null, .null, .int 0]) dX8_init_36 fw_X8_27 rfl (Nat.le_of_ble_eq_true rfl) (fun _ => ⟨rfl, rfl⟩) rfl ?_
  refine J_aload_n dX8_init_39 rfl rfl ?_
  refine J_bipush (v := 8) dX8_init_40 (by decide +kernel) ?_
  refine K_newa (t := 0) (N := 8) (a0 := (8, .inl (fun _ => 0))) (nh2 := 29) (ck2 := 10) (sk2 := 21) dX8_init_42 rfl (jt1 98 rfl rfl) rfl (fun _ _ h9 => h9) (fun _ => rfl) (fun _ => rfl) (by decide +kernel) (by decide +kernel) (Nat.le_of_ble_eq_true rfl) (Nat.le_of_ble_eq_true rfl) (Nat.le_of_ble_eq_true rfl) rfl rfl rfl ?_
  refine K_putF (fs2 := [.ref 19, .ref 20, .ref 21, .int 0, .int (-1), .ref 28, .null, .int 0, .null, .null, .int 0, .null, .null, .int 0]) dX8_init_44 rfl fw_X8_30 rfl (Nat.le_of_ble_eq_true rfl) (fun _ => ⟨rfl, rfl⟩) rfl ?_
  refine J_aload_n dX8_init_47 rfl rfl ?_
  refine J_bipush (v := 8) dX8_init_48 (by decide +kernel) ?_
  refine K_newa (t := 0) (N := 8) (a0 := (8, .inl (fun _ => 0))) (nh2 := 30) (ck2 := 11) (sk2 := 29) dX8_init_50 rfl (jt1 98 rfl rfl) rfl (fun _ _ h9 => h9) (fun _ => rfl) (fun _ => rfl) (by decide +kernel) (by decide +kernel) (Nat.le_of_ble_eq_true rfl) (Nat.le_of_ble_eq_true rfl) (Nat.le_of_ble_eq_true rfl) rfl rfl rfl ?_
  refine K_putF (fs2 := [.ref 19, .ref 20, .ref 21, .int 0, .int (-1), .ref 28, .ref 29, .int 0, .null, .null, .int 0, .null, .null, .int 0]) dX8_init_52 rfl fw_X8_33 rfl (Nat.le_of_ble_eq_true rfl) (fun _ => ⟨rfl, rfl⟩) rfl ?_
  refine J_aload_n dX8_init_55 rfl rfl ?_
  refine J_iconst (v := 0) dX8_init_56 (by decide) ?_
  refine K_put (fs2 := [.ref 19, .ref 20, .ref 21, .int 0, .int (-1), .ref 28, .ref 29, .int 0, .null, .null, .int 0, .null, .null, .int 0]) dX8_init_57 fw_X8_36 rfl (Nat.le_of_ble_eq_true rfl) (fun _ => ⟨rfl, rfl⟩) rfl ?_
  refine J_aload_n dX8_init_60 rfl rfl ?_
  refine J_bipush (v := 6) dX8_init_61 (by decide +kernel) ?_
  refine K_newa (t := 0) (N := 6) (a0 := (6, .inl (fun _ => 0))) (nh2 := 31) (ck2 := 12) (sk2 := 35) dX8_init_63 rfl (jt1 98 rfl rfl) rfl (fun _ _ h9 => h9) (fun _ => rfl) (fun _ => rfl) (by decide +kernel) (by decide +kernel) (Nat.le_of_ble_eq_true rfl) (Nat.le_of_ble_eq_true rfl) (Nat.le_of_ble_eq_true rfl) rfl rfl rfl ?_
  refine K_putF (fs2 := [.ref 19, .ref 20, .ref 21, .int 0, .int (-1), .ref 28, .ref 29, .int 0, .ref 30, .null, .int 0, .null, .null, .int 0]) dX8_init_65 rfl fw_X8_39 rfl (Nat.le_of_ble_eq_true rfl) (fun _ => ⟨rfl, rfl⟩) rfl ?_
  refine J_aload_n dX8_init_68 rfl rfl ?_
  refine J_bipush (v := 6) dX8_init_69 (by decide +kernel) ?_
  refine K_newa (t := 0) (N := 6) (a0 := (6, .inl (fun _ => 0))) (nh2 := 32) (ck2 := 13) (sk2 := 41) dX8_init_71 rfl (jt1 98 rfl rfl) rfl (fun _ _ h9 => h9) (fun _ => rfl) (fun _ => rfl) (by decide +kernel) (by decide +kernel) (Nat.le_of_ble_eq_true rfl) (Nat.le_of_ble_eq_true rfl) (Nat.le_of_ble_eq_true rfl) rfl rfl rfl ?_
  refine K_putF (fs2 := [.ref 19, .ref 20, .ref 21, .int 0, .int (-1), .ref 28, .ref 29, .int 0, .ref 30, .ref 31, .int 0, .null, .null, .int 0]) dX8_init_73 rfl fw_X8_42 rfl (Nat.le_of_ble_eq_true rfl) (fun _ => ⟨rfl, rfl⟩) rfl ?_
  refine J_aload_n dX8_init_76 rfl rfl ?_
  refine J_iconst (v := 0) dX8_init_77 (by decide) ?_
  refine K_put (fs2 := [.ref 19, .ref 20, .ref 21, .int 0, .int (-1), .ref 28, .ref 29, .int 0, .ref 30, .ref 31, .int 0, .null, .null, .int 0]) dX8_init_78 fw_X8_45 rfl (Nat.le_of_ble_eq_true rfl) (fun _ => ⟨rfl, rfl⟩) rfl ?_
  refine J_aload_n dX8_init_81 rfl rfl ?_
  refine J_bipush (v := 12) dX8_init_82 (by decide +kernel) ?_
  refine K_newa (t := 0) (N := 12) (a0 := (12, .inl (fun _ => 0))) (nh2 := 33) (ck2 := 14) (sk2 := 53) dX8_init_84 rfl (jt1 98 rfl rfl) rfl (fun _ _ h9 => h9) (fun _ => rfl) (fun _ => rfl) (by decide +kernel) (by decide +kernel) (Nat.le_of_ble_eq_true rfl) (Nat.le_of_ble_eq_true rfl) (Nat.le_of_ble_eq_true rfl) rfl rfl rfl ?_
  refine K_putF (fs2 := [.ref 19, .ref 20, .ref 21, .int 0, .int (-1), .ref 28, .ref 29, .int 0, .ref 30, .ref 31, .int 0, .ref 32, .null, .int 0]) dX8_init_86 rfl fw_X8_48 rfl (Nat.le_of_ble_eq_true rfl) (fun _ => ⟨rfl, rfl⟩) rfl ?_
  refine J_aload_n dX8_init_89 rfl rfl ?_
  refine J_bipush (v := 12) dX8_init_90 (by decide +kernel) ?_
  refine K_newa (t := 0) (N := 12) (a0 := (12, .inl (fun _ => 0))) (nh2 := 34) (ck2 := 15) (sk2 := 65) dX8_init_92 rfl (jt1 98 rfl rfl) rfl (fun _ _ h9 => h9) (fun _ => rfl) (fun _ => rfl) (by decide +kernel) (by decide +kernel) (Nat.le_of_ble_eq_true rfl) (Nat.le_of_ble_eq_true rfl) (Nat.le_of_ble_eq_true rfl) rfl rfl rfl ?_
  refine K_putF (fs2 := [.ref 19, .ref 20, .ref 21, .int 0, .int (-1), .ref 28, .ref 29, .int 0, .ref 30, .ref 31, .int 0, .ref 32, .ref 33, .int 0]) dX8_init_94 rfl fw_X8_51 rfl (Nat.le_of_ble_eq_true rfl) (fun _ => ⟨rfl, rfl⟩) rfl ?_
  refine J_aload_n dX8_init_97 rfl rfl ?_
  refine J_iconst (v := 0) dX8_init_98 (by decide) ?_
  refine K_put (fs2 := [.ref 19, .ref 20, .ref 21, .int 0, .int (-1), .ref 28, .ref 29, .int 0, .ref 30, .ref 31, .int 0, .ref 32, .ref 33, .int 0]) dX8_init_99 fw_X8_54 rfl (Nat.le_of_ble_eq_true rfl) (fun _ => ⟨rfl, rfl⟩) rfl ?_
  refine J_mask (L2 := [(18, .inr (8, [.ref 19, .ref 20, .ref 21, .int 0, .int (-1), .ref 28, .ref 29, .int 0, .ref 30, .ref 31, .int 0, .ref 32, .ref 33, .int 0])), (33, .inl (0, 12, .inl (fun _ => 0))), (32, .inl (0, 12, .inl (fun _ => 0))), (31, .inl (0, 6, .inl (fun _ => 0))), (30, .inl (0, 6, .inl (fun _ => 0))), (29, .inl (0, 8, .inl (fun _ => 0))), (28, .inl (0, 8, .inl (fun _ => 0))), (27, .inl (0, 0, .inl (fun _ => 0))), (26, .inl (0, 0, .inl (fun _ => 0))), (25, .inl (0, 0, .inl (fun _ => 0))), (24, .inl (0, 0, .inl (fun _ => 0))), (23, .inl (0, 0, .inl (fun _ => 0))), (22, .inl (0, 0, .inl (fun _ => 0))), (21, .inl (5, 6, .inr (.inr (.inr (.inr (fun i => if i < 6 then some (21 + 1 + i) else none)))))), (20, .inl (0, 2, .inl (fun _ => 0))), (19, .inl (0, 5, .inl (fun _ => 0)))]) (ks := [18, 18, 33, 18, 32, 18, 18, 31, 18, 30, 18, 18, 29, 18, 28, 18, 18, 18, 27, 26, 25, 24, 23, 22, 21, 18, 20, 18, 19]) [true, false, true, false, true, false, false, true, false, true, false, false, true, false, true, false, false, false, true, true, true, true, true, true, true, false, true, false, true] rfl (by decide +kernel) rfl ?_
  exact J_vret dX8_init_102 rfl (Nat.le_of_ble_eq_true rfl) (Nat.le_of_ble_eq_true rfl) ⟨rfl, rfl⟩
set_option maxHeartbeats 4000000 in
set_option maxRecDepth 100000 in
theorem c_X8_init_3 {l : Launch} {G : jG} {fh : Nat → Option va_E} (hk34 : fh 34 = some (.inr (8, [.null, .null, .null, .int 0, .int 0, .null, .null, .int 0, .null, .null, .int 0, .null, .null, .int 0]))) : JM l G yX8_init MX8_init { frames := 1, cells := 15, slots := 65, locals := 12 } [.ref 34] (35, fh) (fun r h9 => r = none ∧ h9 = (50, hc fh [(34, .inr (8, [.ref 35, .ref 36, .ref 37, .int 0, .int (-1), .ref 44, .ref 45, .int 0, .ref 46, .ref 47, .int 0, .ref 48, .ref 49, .int 0])), (49, .inl (0, 12, .inl (fun _ => 0))), (48, .inl (0, 12, .inl (fun _ => 0))), (47, .inl (0, 6, .inl (fun _ => 0))), (46, .inl (0, 6, .inl (fun _ => 0))), (45, .inl (0, 8, .inl (fun _ => 0))), (44, .inl (0, 8, .inl (fun _ => 0))), (43, .inl (0, 0, .inl (fun _ => 0))), (42, .inl (0, 0, .inl (fun _ => 0))), (41, .inl (0, 0, .inl (fun _ => 0))), (40, .inl (0, 0, .inl (fun _ => 0))), (39, .inl (0, 0, .inl (fun _ => 0))), (38, .inl (0, 0, .inl (fun _ => 0))), (37, .inl (5, 6, .inr (.inr (.inr (.inr (fun i => if i < 6 then some (37 + 1 + i) else none)))))), (36, .inl (0, 2, .inl (fun _ => 0))), (35, .inl (0, 5, .inl (fun _ => 0)))])) := by
  refine JM.of (by decide) rfl (fun _ => rfl) (Nat.le_of_ble_eq_true rfl) ⟨0, rfl⟩ ?_
  refine J_hc0 (J_ls (ls2 := [some (.ref 34)]) rfl ?_)
  refine J_aload_n dX8_init_0 rfl rfl ?_
  refine J_objInit dX8_init_1 (jt1 34 rfl rfl) (jt1 27 rfl rfl) (jt1 28 rfl rfl) (Nat.le_of_ble_eq_true rfl) (Nat.le_of_ble_eq_true rfl) ?_
  refine J_aload_n dX8_init_4 rfl rfl ?_
  refine J_iconst (v := 5) dX8_init_5 (by decide) ?_
  refine K_newa (t := 0) (N := 5) (a0 := (5, .inl (fun _ => 0))) (nh2 := 36) (ck2 := 1) (sk2 := 5) dX8_init_6 rfl (jt1 98 rfl rfl) rfl (fun _ _ h9 => h9) (fun _ => rfl) (fun _ => rfl) (by decide +kernel) (by decide +kernel) (Nat.le_of_ble_eq_true rfl) (Nat.le_of_ble_eq_true rfl) (Nat.le_of_ble_eq_true rfl) rfl rfl rfl ?_
  refine K_putF (fs2 := [.ref 35, .null, .null, .int 0, .int 0, .null, .null, .int 0, .null, .null, .int 0, .null, .null, .int 0]) dX8_init_8 rfl fw_X8_9 hk34 (Nat.le_of_ble_eq_true rfl) (fun _ => ⟨rfl, rfl⟩) rfl ?_
  refine J_aload_n dX8_init_11 rfl rfl ?_
  refine J_iconst (v := 2) dX8_init_12 (by decide) ?_
  refine K_newa (t := 0) (N := 2) (a0 := (2, .inl (fun _ => 0))) (nh2 := 37) (ck2 := 2) (sk2 := 7) dX8_init_13 rfl (jt1 98 rfl rfl) rfl (fun _ _ h9 => h9) (fun _ => rfl) (fun _ => rfl) (by decide +kernel) (by decide +kernel) (Nat.le_of_ble_eq_true rfl) (Nat.le_of_ble_eq_true rfl) (Nat.le_of_ble_eq_true rfl) rfl rfl rfl ?_
  refine K_putF (fs2 := [.ref 35, .ref 36, .null, .int 0, .int 0, .null, .null, .int 0, .null, .null, .int 0, .null, .null, .int 0]) dX8_init_15 rfl fw_X8_15 rfl (Nat.le_of_ble_eq_true rfl) (fun _ => ⟨rfl, rfl⟩) rfl ?_
  refine J_aload_n dX8_init_18 rfl rfl ?_
  refine J_bipush (v := 6) dX8_init_19 (by decide +kernel) ?_
  refine J_iconst (v := 0) dX8_init_21 (by decide) ?_
  refine K_mna (N := 6) (K := 0) (nh2 := 44) (ck2 := 9) (sk2 := 13) (L2 := [(43, .inl (0, 0, .inl (fun _ => 0))), (42, .inl (0, 0, .inl (fun _ => 0))), (41, .inl (0, 0, .inl (fun _ => 0))), (40, .inl (0, 0, .inl (fun _ => 0))), (39, .inl (0, 0, .inl (fun _ => 0))), (38, .inl (0, 0, .inl (fun _ => 0))), (37, .inl (5, 6, .inr (.inr (.inr (.inr (fun i => if i < 6 then some (37 + 1 + i) else none)))))), (34, .inr (8, [.ref 35, .ref 36, .null, .int 0, .int 0, .null, .null, .int 0, .null, .null, .int 0, .null, .null, .int 0])), (36, .inl (0, 2, .inl (fun _ => 0))), (34, .inr (8, [.ref 35, .null, .null, .int 0, .int 0, .null, .null, .int 0, .null, .null, .int 0, .null, .null, .int 0])), (35, .inl (0, 5, .inl (fun _ => 0)))]) dX8_init_22 (jt1 35 rfl rfl) (jt1 98 rfl rfl) (by decide +kernel) (by decide +kernel) (by decide +kernel) (by decide +kernel) (Nat.le_of_ble_eq_true rfl) (Nat.le_of_ble_eq_true rfl) (Nat.le_of_ble_eq_true rfl) (Nat.le_of_ble_eq_true rfl) rfl rfl rfl rfl ?_
  refine K_putF (fs2 := [.ref 35, .ref 36, .ref 37, .int 0, .int 0, .null, .null, .int 0, .null, .null, .int 0, .null, .null, .int 0]) dX8_init_26 rfl fw_X8_20 rfl (Nat.le_of_ble_eq_true rfl) (fun _ => ⟨rfl, rfl⟩) rfl ?_
  refine J_aload_n dX8_init_29 rfl rfl ?_
  refine J_iconst (v := 0) dX8_init_30 (by decide) ?_
  refine K_put (fs2 := [.ref 35, .ref 36, .ref 37, .int 0, .int 0, .null, .null, .int 0, .null, .null, .int 0, .null, .null, .int 0]) dX8_init_31 fw_X8_23 rfl (Nat.le_of_ble_eq_true rfl) (fun _ => ⟨rfl, rfl⟩) rfl ?_
  refine J_aload_n dX8_init_34 rfl rfl ?_
  refine J_iconst (v := (-1)) dX8_init_35 (by decide) ?_
  refine K_put (fs2 := [.ref 35, .ref 36, .ref 37, .int 0, .int (-1), .null, .null, .int 0, .null, .null, .int 0, .null, .null, .int 0]) dX8_init_36 fw_X8_27 rfl (Nat.le_of_ble_eq_true rfl) (fun _ => ⟨rfl, rfl⟩) rfl ?_
  refine J_aload_n dX8_init_39 rfl rfl ?_
  refine J_bipush (v := 8) dX8_init_40 (by decide +kernel) ?_
  refine K_newa (t := 0) (N := 8) (a0 := (8, .inl (fun _ => 0))) (nh2 := 45) (ck2 := 10) (sk2 := 21) dX8_init_42 rfl (jt1 98 rfl rfl) rfl (fun _ _ h9 => h9) (fun _ => rfl) (fun _ => rfl) (by decide +kernel) (by decide +kernel) (Nat.le_of_ble_eq_true rfl) (Nat.le_of_ble_eq_true rfl) (Nat.le_of_ble_eq_true rfl) rfl rfl rfl ?_
  refine K_putF (fs2 := [.ref 35, .ref 36, .ref 37, .int 0, .int (-1), .ref 44, .null, .int 0, .null, .null, .int 0, .null, .null, .int 0]) dX8_init_44 rfl fw_X8_30 rfl (Nat.le_of_ble_eq_true rfl) (fun _ => ⟨rfl, rfl⟩) rfl ?_
  refine J_aload_n dX8_init_47 rfl rfl ?_
  refine J_bipush (v := 8) dX8_init_48 (by decide +kernel) ?_
  refine K_newa (t := 0) (N := 8) (a0 := (8, .inl (fun _ => 0))) (nh2 := 46) (ck2 := 11) (sk2 := 29) dX8_init_50 rfl (jt1 98 rfl rfl) rfl (fun _ _ h9 => h9) (fun _ => rfl) (fun _ => rfl) (by decide +kernel) (by decide +kernel) (Nat.le_of_ble_eq_true rfl) (Nat.le_of_ble_eq_true rfl) (Nat.le_of_ble_eq_true rfl) rfl rfl rfl ?_
  refine K_putF (fs2 := [.ref 35, .ref 36, .ref 37, .int 0, .int (-1), .ref 44, .ref 45, .int 0, .null, .null, .int 0, .null, .null, .int 0]) dX8_init_52 rfl fw_X8_33 rfl (Nat.le_of_ble_eq_true rfl) (fun _ => ⟨rfl, rfl⟩) rfl ?_
  refine J_aload_n dX8_init_55 rfl rfl ?_
  refine J_iconst (v := 0) dX8_init_56 (by decide) ?_
  refine K_put (fs2 := [.ref 35, .ref 36, .ref 37, .int 0, .int (-1), .ref 44, .ref 45, .int 0, .null, .null, .int 0, .null, .null, .int 0]) dX8_init_57 fw_X8_36 rfl (Nat.le_of_ble_eq_true rfl) (fun _ => ⟨rfl, rfl⟩) rfl ?_
  refine J_aload_n dX8_init_60 rfl rfl ?_
  refine J_bipush (v := 6) dX8_init_61 (by decide +kernel) ?_
  refine K_newa (t := 0) (N := 6) (a0 := (6, .inl (fun _ => 0))) (nh2 := 47) (ck2 := 12) (sk2 := 35) dX8_init_63 rfl (jt1 98 rfl rfl) rfl (fun _ _ h9 => h9) (fun _ => rfl) (fun _ => rfl) (by decide +kernel) (by decide +kernel) (Nat.le_of_ble_eq_true rfl) (Nat.le_of_ble_eq_true rfl) (Nat.le_of_ble_eq_true rfl) rfl rfl rfl ?_
  refine K_putF (fs2 := [.ref 35, .ref 36, .ref 37, .int 0, .int (-1), .ref 44, .ref 45, .int 0, .ref 46, .null, .int 0, .null, .null, .int 0]) dX8_init_65 rfl fw_X8_39 rfl (Nat.le_of_ble_eq_true rfl) (fun _ => ⟨rfl, rfl⟩) rfl ?_
  refine J_aload_n dX8_init_68 rfl rfl ?_
  refine J_bipush (v := 6) dX8_init_69 (by decide +kernel) ?_
  refine K_newa (t := 0) (N := 6) (a0 := (6, .inl (fun _ => 0))) (nh2 := 48) (ck2 := 13) (sk2 := 41) dX8_init_71 rfl (jt1 98 rfl rfl) rfl (fun _ _ h9 => h9) (fun _ => rfl) (fun _ => rfl) (by decide +kernel) (by decide +kernel) (Nat.le_of_ble_eq_true rfl) (Nat.le_of_ble_eq_true rfl) (Nat.le_of_ble_eq_true rfl) rfl rfl rfl ?_
  refine K_putF (fs2 := [.ref 35, .ref 36, .ref 37, .int 0, .int (-1), .ref 44, .ref 45, .int 0, .ref 46, .ref 47, .int 0, .null, .null, .int 0]) dX8_init_73 rfl fw_X8_42 rfl (Nat.le_of_ble_eq_true rfl) (fun _ => ⟨rfl, rfl⟩) rfl ?_
  refine J_aload_n dX8_init_76 rfl rfl ?_
  refine J_iconst (v := 0) dX8_init_77 (by decide) ?_
  refine K_put (fs2 := [.ref 35, .ref 36, .ref 37, .int 0, .int (-1), .ref 44, .ref 45, .int 0, .ref 46, .ref 47, .int 0, .null, .null, .int 0]) dX8_init_78 fw_X8_45 rfl (Nat.le_of_ble_eq_true rfl) (fun _ => ⟨rfl, rfl⟩) rfl ?_
  refine J_aload_n dX8_init_81 rfl rfl ?_
  refine J_bipush (v := 12) dX8_init_82 (by decide +kernel) ?_
  refine K_newa (t := 0) (N := 12) (a0 := (12, .inl (fun _ => 0))) (nh2 := 49) (ck2 := 14) (sk2 := 53) dX8_init_84 rfl (jt1 98 rfl rfl) rfl (fun _ _ h9 => h9) (fun _ => rfl) (fun _ => rfl) (by decide +kernel) (by decide +kernel) (Nat.le_of_ble_eq_true rfl) (Nat.le_of_ble_eq_true rfl) (Nat.le_of_ble_eq_true rfl) rfl rfl rfl ?_
  refine K_putF (fs2 := [.ref 35, .ref 36, .ref 37, .int 0, .int (-1), .ref 44, .ref 45, .int 0, .ref 46, .ref 47, .int 0, .ref 48, .null, .int 0]) dX8_init_86 rfl fw_X8_48 rfl (Nat.le_of_ble_eq_true rfl) (fun _ => ⟨rfl, rfl⟩) rfl ?_
  refine J_aload_n dX8_init_89 rfl rfl ?_
  refine J_bipush (v := 12) dX8_init_90 (by decide +kernel) ?_
  refine K_newa (t := 0) (N := 12) (a0 := (12, .inl (fun _ => 0))) (nh2 := 50) (ck2 := 15) (sk2 := 65) dX8_init_92 rfl (jt1 98 rfl rfl) rfl (fun _ _ h9 => h9) (fun _ => rfl) (fun _ => rfl) (by decide +kernel) (by decide +kernel) (Nat.le_of_ble_eq_true rfl) (Nat.le_of_ble_eq_true rfl) (Nat.le_of_ble_eq_true rfl) rfl rfl rfl ?_
  refine K_putF (fs2 := [.ref 35, .ref 36, .ref 37, .int 0, .int (-1), .ref 44, .ref 45, .int 0, .ref 46, .ref 47, .int 0, .ref 48, .ref 49, .int 0]) dX8_init_94 rfl fw_X8_51 rfl (Nat.le_of_ble_eq_true rfl) (fun _ => ⟨rfl, rfl⟩) rfl ?_
  refine J_aload_n dX8_init_97 rfl rfl ?_
  refine J_iconst (v := 0) dX8_init_98 (by decide) ?_
  refine K_put (fs2 := [.ref 35, .ref 36, .ref 37, .int 0, .int (-1), .ref 44, .ref 45, .int 0, .ref 46, .ref 47, .int 0, .ref 48, .ref 49, .int 0]) dX8_init_99 fw_X8_54 rfl (Nat.le_of_ble_eq_true rfl) (fun _ => ⟨rfl, rfl⟩) rfl ?_
  refine J_mask (L2 := [(34, .inr (8, [.ref 35, .ref 36, .ref 37, .int 0, .int (-1), .ref 44, .ref 45, .int 0, .ref 46, .ref 47, .int 0, .ref 48, .ref 49, .int 0])), (49, .inl (0, 12, .inl (fun _ => 0))), (48, .inl (0, 12, .inl (fun _ => 0))), (47, .inl (0, 6, .inl (fun _ => 0))), (46, .inl (0, 6, .inl (fun _ => 0))), (45, .inl (0, 8, .inl (fun _ => 0))), (44, .inl (0, 8, .inl (fun _ => 0))), (43, .inl (0, 0, .inl (fun _ => 0))), (42, .inl (0, 0, .inl (fun _ => 0))), (41, .inl (0, 0, .inl (fun _ => 0))), (40, .inl (0, 0, .inl (fun _ => 0))), (39, .inl (0, 0, .inl (fun _ => 0))), (38, .inl (0, 0, .inl (fun _ => 0))), (37, .inl (5, 6, .inr (.inr (.inr (.inr (fun i => if i < 6 then some (37 + 1 + i) else none)))))), (36, .inl (0, 2, .inl (fun _ => 0))), (35, .inl (0, 5, .inl (fun _ => 0)))]) (ks := [34, 34, 49, 34, 48, 34, 34, 47, 34, 46, 34, 34, 45, 34, 44, 34, 34, 34, 43, 42, 41, 40, 39, 38, 37, 34, 36, 34, 35]) [true, false, true, false, true, false, false, true, false, true, false, false, true, false, true, false, false, false, true, true, true, true, true, true, true, false, true, false, true] rfl (by decide +kernel) rfl ?_
  exact J_vret dX8_init_102 rfl (Nat.le_of_ble_eq_true rfl) (Nat.le_of_ble_eq_true rfl) ⟨rfl, rfl⟩
set_option maxHeartbeats 4000000 in
set_option maxRecDepth 100000 in
theorem c_X0_init_1 {l : Launch} {G : jG} {fh : Nat → Option va_E} (hk51 : fh 51 = some (.inr (0, [.null, .null, .int 0, .int 0]))) : JM l G yX0_init MX0_init { frames := 1, cells := 2, slots := 1267, locals := 12 } [.ref 51] (52, fh) (fun r h9 => r = none ∧ h9 = (54, hc fh [(51, .inr (0, [.ref 52, .ref 53, .int 0, .int 0])), (53, .inl (0, 7, .inl (fun _ => 0))), (52, .inl (0, 1260, .inl (fun _ => 0)))])) := by
  refine JM.of (by decide) rfl (fun _ => rfl) (Nat.le_of_ble_eq_true rfl) ⟨0, rfl⟩ ?_
  refine J_hc0 (J_ls (ls2 := [some (.ref 51)]) rfl ?_)
  refine J_aload_n dX0_init_0 rfl rfl ?_
  refine J_objInit dX0_init_1 (jt1 105 rfl rfl) (jt1 27 rfl rfl) (jt1 28 rfl rfl) (Nat.le_of_ble_eq_true rfl) (Nat.le_of_ble_eq_true rfl) ?_
  refine J_aload_n dX0_init_4 rfl rfl ?_
  refine J_sipush (v := 1260) dX0_init_5 (by decide +kernel) ?_
  refine K_newa (t := 0) (N := 1260) (a0 := (1260, .inl (fun _ => 0))) (nh2 := 53) (ck2 := 1) (sk2 := 1260) dX0_init_8 rfl (jt1 98 rfl rfl) rfl (fun _ _ h9 => h9) (fun _ => rfl) (fun _ => rfl) (by decide +kernel) (by decide +kernel) (Nat.le_of_ble_eq_true rfl) (Nat.le_of_ble_eq_true rfl) (Nat.le_of_ble_eq_true rfl) rfl rfl rfl ?_
  refine K_putF (fs2 := [.ref 52, .null, .int 0, .int 0]) dX0_init_10 rfl fw_X0_9 hk51 (Nat.le_of_ble_eq_true rfl) (fun _ => ⟨rfl, rfl⟩) rfl ?_
  refine J_aload_n dX0_init_13 rfl rfl ?_
  refine J_bipush (v := 7) dX0_init_14 (by decide +kernel) ?_
  refine K_newa (t := 0) (N := 7) (a0 := (7, .inl (fun _ => 0))) (nh2 := 54) (ck2 := 2) (sk2 := 1267) dX0_init_16 rfl (jt1 98 rfl rfl) rfl (fun _ _ h9 => h9) (fun _ => rfl) (fun _ => rfl) (by decide +kernel) (by decide +kernel) (Nat.le_of_ble_eq_true rfl) (Nat.le_of_ble_eq_true rfl) (Nat.le_of_ble_eq_true rfl) rfl rfl rfl ?_
  refine K_putF (fs2 := [.ref 52, .ref 53, .int 0, .int 0]) dX0_init_18 rfl fw_X0_15 rfl (Nat.le_of_ble_eq_true rfl) (fun _ => ⟨rfl, rfl⟩) rfl ?_
  refine J_aload_n dX0_init_21 rfl rfl ?_
  refine J_iconst (v := 0) dX0_init_22 (by decide) ?_
  refine K_put (fs2 := [.ref 52, .ref 53, .int 0, .int 0]) dX0_init_23 fw_X0_18 rfl (Nat.le_of_ble_eq_true rfl) (fun _ => ⟨rfl, rfl⟩) rfl ?_
  refine J_aload_n dX0_init_26 rfl rfl ?_
  refine J_iconst (v := 0) dX0_init_27 (by decide) ?_
  refine K_put (fs2 := [.ref 52, .ref 53, .int 0, .int 0]) dX0_init_28 fw_X0_22 rfl (Nat.le_of_ble_eq_true rfl) (fun _ => ⟨rfl, rfl⟩) rfl ?_
  refine J_mask (L2 := [(51, .inr (0, [.ref 52, .ref 53, .int 0, .int 0])), (53, .inl (0, 7, .inl (fun _ => 0))), (52, .inl (0, 1260, .inl (fun _ => 0)))]) (ks := [51, 51, 51, 53, 51, 52]) [true, false, false, true, false, true] rfl (by decide +kernel) rfl ?_
  exact J_vret dX0_init_31 rfl (Nat.le_of_ble_eq_true rfl) (Nat.le_of_ble_eq_true rfl) ⟨rfl, rfl⟩
set_option maxHeartbeats 4000000 in
set_option maxRecDepth 100000 in
theorem c_X5_init_1 {l : Launch} {G : jG} {fh : Nat → Option va_E} (hk54 : fh 54 = some (.inr (5, [.null, .int 0, .int 0, .int 0, .int 0, .int 0, .int 0, .int 0, .null, .int 0]))) : JM l G yX5_init MX5_init { frames := 1, cells := 2, slots := 812, locals := 12 } [.ref 54] (55, fh) (fun r h9 => r = none ∧ h9 = (57, hc fh [(54, .inr (5, [.ref 55, .int 0, .int 17, .int 0, .int 0, .int 0, .int 0, .int (-1), .ref 56, .int 0])), (56, .inl (0, 412, .inl (fun _ => 0))), (55, .inl (0, 400, .inl (fun _ => 0)))])) := by
  refine JM.of (by decide) rfl (fun _ => rfl) (Nat.le_of_ble_eq_true rfl) ⟨0, rfl⟩ ?_
  refine J_hc0 (J_ls (ls2 := [some (.ref 54)]) rfl ?_)
  refine J_aload_n dX5_init_0 rfl rfl ?_
  refine J_objInit dX5_init_1 (jt1 125 rfl rfl) (jt1 27 rfl rfl) (jt1 28 rfl rfl) (Nat.le_of_ble_eq_true rfl) (Nat.le_of_ble_eq_true rfl) ?_
  refine J_aload_n dX5_init_4 rfl rfl ?_
  refine J_sipush (v := 400) dX5_init_5 (by decide +kernel) ?_
  refine K_newa (t := 0) (N := 400) (a0 := (400, .inl (fun _ => 0))) (nh2 := 56) (ck2 := 1) (sk2 := 400) dX5_init_8 rfl (jt1 98 rfl rfl) rfl (fun _ _ h9 => h9) (fun _ => rfl) (fun _ => rfl) (by decide +kernel) (by decide +kernel) (Nat.le_of_ble_eq_true rfl) (Nat.le_of_ble_eq_true rfl) (Nat.le_of_ble_eq_true rfl) rfl rfl rfl ?_
  refine K_putF (fs2 := [.ref 55, .int 0, .int 0, .int 0, .int 0, .int 0, .int 0, .int 0, .null, .int 0]) dX5_init_10 rfl fw_X5_11 hk54 (Nat.le_of_ble_eq_true rfl) (fun _ => ⟨rfl, rfl⟩) rfl ?_
  refine J_aload_n dX5_init_13 rfl rfl ?_
  refine J_iconst (v := 0) dX5_init_14 (by decide) ?_
  refine K_put (fs2 := [.ref 55, .int 0, .int 0, .int 0, .int 0, .int 0, .int 0, .int 0, .null, .int 0]) dX5_init_15 fw_X5_15 rfl (Nat.le_of_ble_eq_true rfl) (fun _ => ⟨rfl, rfl⟩) rfl ?_
  refine J_aload_n dX5_init_18 rfl rfl ?_
  refine J_bipush (v := 17) dX5_init_19 (by decide +kernel) ?_
  refine K_put (fs2 := [.ref 55, .int 0, .int 17, .int 0, .int 0, .int 0, .int 0, .int 0, .null, .int 0]) dX5_init_21 fw_X5_19 rfl (Nat.le_of_ble_eq_true rfl) (fun _ => ⟨rfl, rfl⟩) rfl ?_
  refine J_aload_n dX5_init_24 rfl rfl ?_
  refine J_iconst (v := 0) dX5_init_25 (by decide) ?_
  refine K_put (fs2 := [.ref 55, .int 0, .int 17, .int 0, .int 0, .int 0, .int 0, .int 0, .null, .int 0]) dX5_init_26 fw_X5_22 rfl (Nat.le_of_ble_eq_true rfl) (fun _ => ⟨rfl, rfl⟩) rfl ?_
  refine J_aload_n dX5_init_29 rfl rfl ?_
  refine J_iconst (v := 0) dX5_init_30 (by decide) ?_
  refine K_put (fs2 := [.ref 55, .int 0, .int 17, .int 0, .int 0, .int 0, .int 0, .int 0, .null, .int 0]) dX5_init_31 fw_X5_25 rfl (Nat.le_of_ble_eq_true rfl) (fun _ => ⟨rfl, rfl⟩) rfl ?_
  refine J_aload_n dX5_init_34 rfl rfl ?_
  refine J_iconst (v := 0) dX5_init_35 (by decide) ?_
  refine K_put (fs2 := [.ref 55, .int 0, .int 17, .int 0, .int 0, .int 0, .int 0, .int 0, .null, .int 0]) dX5_init_36 fw_X5_28 rfl (Nat.le_of_ble_eq_true rfl) (fun _ => ⟨rfl, rfl⟩) rfl ?_
  refine J_aload_n dX5_init_39 rfl rfl ?_
  refine J_iconst (v := 0) dX5_init_40 (by decide) ?_
  refine K_put (fs2 := [.ref 55, .int 0, .int 17, .int 0, .int 0, .int 0, .int 0, .int 0, .null, .int 0]) dX5_init_41 fw_X5_31 rfl (Nat.le_of_ble_eq_true rfl) (fun _ => ⟨rfl, rfl⟩) rfl ?_
  refine J_aload_n dX5_init_44 rfl rfl ?_
  refine J_iconst (v := (-1)) dX5_init_45 (by decide) ?_
  refine K_put (fs2 := [.ref 55, .int 0, .int 17, .int 0, .int 0, .int 0, .int 0, .int (-1), .null, .int 0]) dX5_init_46 fw_X5_34 rfl (Nat.le_of_ble_eq_true rfl) (fun _ => ⟨rfl, rfl⟩) rfl ?_
  refine J_aload_n dX5_init_49 rfl rfl ?_
  refine J_sipush (v := 412) dX5_init_50 (by decide +kernel) ?_
  refine K_newa (t := 0) (N := 412) (a0 := (412, .inl (fun _ => 0))) (nh2 := 57) (ck2 := 2) (sk2 := 812) dX5_init_53 rfl (jt1 98 rfl rfl) rfl (fun _ _ h9 => h9) (fun _ => rfl) (fun _ => rfl) (by decide +kernel) (by decide +kernel) (Nat.le_of_ble_eq_true rfl) (Nat.le_of_ble_eq_true rfl) (Nat.le_of_ble_eq_true rfl) rfl rfl rfl ?_
  refine K_putF (fs2 := [.ref 55, .int 0, .int 17, .int 0, .int 0, .int 0, .int 0, .int (-1), .ref 56, .int 0]) dX5_init_55 rfl fw_X5_37 rfl (Nat.le_of_ble_eq_true rfl) (fun _ => ⟨rfl, rfl⟩) rfl ?_
  refine J_aload_n dX5_init_58 rfl rfl ?_
  refine J_iconst (v := 0) dX5_init_59 (by decide) ?_
  refine K_put (fs2 := [.ref 55, .int 0, .int 17, .int 0, .int 0, .int 0, .int 0, .int (-1), .ref 56, .int 0]) dX5_init_60 fw_X5_40 rfl (Nat.le_of_ble_eq_true rfl) (fun _ => ⟨rfl, rfl⟩) rfl ?_
  refine J_mask (L2 := [(54, .inr (5, [.ref 55, .int 0, .int 17, .int 0, .int 0, .int 0, .int 0, .int (-1), .ref 56, .int 0])), (56, .inl (0, 412, .inl (fun _ => 0))), (55, .inl (0, 400, .inl (fun _ => 0)))]) (ks := [54, 54, 56, 54, 54, 54, 54, 54, 54, 54, 54, 55]) [true, false, true, false, false, false, false, false, false, false, false, true] rfl (by decide +kernel) rfl ?_
  exact J_vret dX5_init_63 rfl (Nat.le_of_ble_eq_true rfl) (Nat.le_of_ble_eq_true rfl) ⟨rfl, rfl⟩
set_option maxHeartbeats 4000000 in
set_option maxRecDepth 100000 in
theorem c_X1_init_1 {l : Launch} {G : jG} {fh : Nat → Option va_E} (hk58 : fh 58 = some (.inr (1, [.null, .null, .int 0, .int 0, .int 0, .int 0, .int 0, .int 0]))) : JM l G yX1_init MX1_init { frames := 1, cells := 2, slots := 72, locals := 12 } [.ref 58] (59, fh) (fun r h9 => r = none ∧ h9 = (61, hc fh [(58, .inr (1, [.ref 59, .ref 60, .int 0, .int 0, .int 0, .int 0, .int 0, .int 1])), (60, .inl (1, 64, .inr (.inl (fun _ => 0)))), (59, .inl (0, 8, .inl (fun _ => 0)))])) := by
  refine JM.of (by decide) rfl (fun _ => rfl) (Nat.le_of_ble_eq_true rfl) ⟨0, rfl⟩ ?_
  refine J_hc0 (J_ls (ls2 := [some (.ref 58)]) rfl ?_)
  refine J_aload_n dX1_init_0 rfl rfl ?_
  refine J_objInit dX1_init_1 (jt1 168 rfl rfl) (jt1 27 rfl rfl) (jt1 28 rfl rfl) (Nat.le_of_ble_eq_true rfl) (Nat.le_of_ble_eq_true rfl) ?_
  refine J_aload_n dX1_init_4 rfl rfl ?_
  refine J_bipush (v := 8) dX1_init_5 (by decide +kernel) ?_
  refine K_newa (t := 0) (N := 8) (a0 := (8, .inl (fun _ => 0))) (nh2 := 60) (ck2 := 1) (sk2 := 8) dX1_init_7 rfl (jt1 98 rfl rfl) rfl (fun _ _ h9 => h9) (fun _ => rfl) (fun _ => rfl) (by decide +kernel) (by decide +kernel) (Nat.le_of_ble_eq_true rfl) (Nat.le_of_ble_eq_true rfl) (Nat.le_of_ble_eq_true rfl) rfl rfl rfl ?_
  refine K_putF (fs2 := [.ref 59, .null, .int 0, .int 0, .int 0, .int 0, .int 0, .int 0]) dX1_init_9 rfl fw_X1_9 hk58 (Nat.le_of_ble_eq_true rfl) (fun _ => ⟨rfl, rfl⟩) rfl ?_
  refine J_aload_n dX1_init_12 rfl rfl ?_
  refine J_bipush (v := 64) dX1_init_13 (by decide +kernel) ?_
  refine K_newa (t := 1) (N := 64) (a0 := (64, .inr (.inl (fun _ => 0)))) (nh2 := 61) (ck2 := 2) (sk2 := 72) dX1_init_15 rfl (jt1 194 rfl rfl) rfl (fun _ _ h9 => h9) (fun _ => rfl) (fun _ => rfl) (by decide +kernel) (by decide +kernel) (Nat.le_of_ble_eq_true rfl) (Nat.le_of_ble_eq_true rfl) (Nat.le_of_ble_eq_true rfl) rfl rfl rfl ?_
  refine K_putF (fs2 := [.ref 59, .ref 60, .int 0, .int 0, .int 0, .int 0, .int 0, .int 0]) dX1_init_17 rfl fw_X1_13 rfl (Nat.le_of_ble_eq_true rfl) (fun _ => ⟨rfl, rfl⟩) rfl ?_
  refine J_aload_n dX1_init_20 rfl rfl ?_
  refine J_iconst (v := 0) dX1_init_21 (by decide) ?_
  refine K_put (fs2 := [.ref 59, .ref 60, .int 0, .int 0, .int 0, .int 0, .int 0, .int 0]) dX1_init_22 fw_X1_17 rfl (Nat.le_of_ble_eq_true rfl) (fun _ => ⟨rfl, rfl⟩) rfl ?_
  refine J_aload_n dX1_init_25 rfl rfl ?_
  refine J_iconst (v := 0) dX1_init_26 (by decide) ?_
  refine K_put (fs2 := [.ref 59, .ref 60, .int 0, .int 0, .int 0, .int 0, .int 0, .int 0]) dX1_init_27 fw_X1_21 rfl (Nat.le_of_ble_eq_true rfl) jb0 rfl ?_
  refine J_aload_n dX1_init_30 rfl rfl ?_
  refine J_iconst (v := 0) dX1_init_31 (by decide) ?_
  refine K_put (fs2 := [.ref 59, .ref 60, .int 0, .int 0, .int 0, .int 0, .int 0, .int 0]) dX1_init_32 fw_X1_25 rfl (Nat.le_of_ble_eq_true rfl) jb0 rfl ?_
  refine J_aload_n dX1_init_35 rfl rfl ?_
  refine J_iconst (v := 0) dX1_init_36 (by decide) ?_
  refine K_put (fs2 := [.ref 59, .ref 60, .int 0, .int 0, .int 0, .int 0, .int 0, .int 0]) dX1_init_37 fw_X1_28 rfl (Nat.le_of_ble_eq_true rfl) jb0 rfl ?_
  refine J_aload_n dX1_init_40 rfl rfl ?_
  refine J_iconst (v := 0) dX1_init_41 (by decide) ?_
  refine K_put (fs2 := [.ref 59, .ref 60, .int 0, .int 0, .int 0, .int 0, .int 0, .int 0]) dX1_init_42 fw_X1_31 rfl (Nat.le_of_ble_eq_true rfl) jb0 rfl ?_
  refine J_aload_n dX1_init_45 rfl rfl ?_
  refine J_iconst (v := 1) dX1_init_46 (by decide) ?_
  refine K_put (fs2 := [.ref 59, .ref 60, .int 0, .int 0, .int 0, .int 0, .int 0, .int 1]) dX1_init_47 fw_X1_34 rfl (Nat.le_of_ble_eq_true rfl) (fun _ => ⟨rfl, rfl⟩) rfl ?_
  refine J_mask (L2 := [(58, .inr (1, [.ref 59, .ref 60, .int 0, .int 0, .int 0, .int 0, .int 0, .int 1])), (60, .inl (1, 64, .inr (.inl (fun _ => 0)))), (59, .inl (0, 8, .inl (fun _ => 0)))]) (ks := [58, 58, 58, 58, 58, 58, 58, 60, 58, 59]) [true, false, false, false, false, false, false, true, false, true] rfl (by decide +kernel) rfl ?_
  exact J_vret dX1_init_50 rfl (Nat.le_of_ble_eq_true rfl) (Nat.le_of_ble_eq_true rfl) ⟨rfl, rfl⟩
set_option maxHeartbeats 4000000 in
set_option maxRecDepth 100000 in
theorem c_X9_init_1 {l : Launch} {G : jG} {fh : Nat → Option va_E} (hk57 : fh 57 = some (.inr (9, [.null, .null, .null, .null, .null, .null, .null, .int 0, .int 0, .int 0]))) : JM l G yX9_init MX9_init { frames := 2, cells := 7, slots := 3965, locals := 32 } [.ref 57, .ref 1, .ref 51] (58, fh) (fun r h9 => r = none ∧ h9 = (65, hc fh [(57, .inr (9, [.ref 1, .ref 51, .ref 58, .ref 61, .ref 62, .ref 63, .ref 64, .int 0, .int 1, .int 1])), (64, .inl (0, 2625, .inl (fun _ => 0))), (63, .inl (0, 0, .inl (fun _ => 0))), (62, .inl (0, 1260, .inl (fun _ => 0))), (61, .inl (0, 0, .inl (fun _ => 0))), (58, .inr (1, [.ref 59, .ref 60, .int 0, .int 0, .int 0, .int 0, .int 0, .int 1])), (60, .inl (1, 64, .inr (.inl (fun _ => 0)))), (59, .inl (0, 8, .inl (fun _ => 0)))])) := by
  refine JM.of (by decide) rfl (fun _ => rfl) (Nat.le_of_ble_eq_true rfl) ⟨0, rfl⟩ ?_
  refine J_hc0 (J_ls (ls2 := [some (.ref 57), some (.ref 1), some (.ref 51)]) rfl ?_)
  refine J_aload_n dX9_init_0 rfl rfl ?_
  refine J_objInit dX9_init_1 (jt1 162 rfl rfl) (jt1 27 rfl rfl) (jt1 28 rfl rfl) (Nat.le_of_ble_eq_true rfl) (Nat.le_of_ble_eq_true rfl) ?_
  refine J_aload_n dX9_init_4 rfl rfl ?_
  refine K_new (nh2 := 59) (ck2 := 1) (sk2 := 8) dX9_init_5 nw_X9_9 (fun _ => rfl) (Nat.le_of_ble_eq_true rfl) (Nat.le_of_ble_eq_true rfl) rfl rfl rfl ?_
  refine J_dup dX9_init_8 rfl ?_
  refine J_callI (st := [.ref 58, .ref 57]) dX9_init_9 ci_X9_11 (c_X1_init_1 rfl) rfl rfl (Nat.le_of_ble_eq_true rfl) ⟨(Nat.le_of_ble_eq_true rfl), (Nat.le_of_ble_eq_true rfl)⟩ ⟨(Nat.le_of_ble_eq_true rfl), (Nat.le_of_ble_eq_true rfl)⟩ (fun r h9 hp => ?_)
  obtain ⟨rfl, rfl⟩ := hp
  refine J_nf (nh2 := 61) (ck2 := 3) (sk2 := 80) (st2 := [.ref 58, .ref 57]) rfl rfl rfl rfl ?_
  refine J_app (L3 := [(58, .inr (1, [.ref 59, .ref 60, .int 0, .int 0, .int 0, .int 0, .int 0, .int 1])), (60, .inl (1, 64, .inr (.inl (fun _ => 0)))), (59, .inl (0, 8, .inl (fun _ => 0))), (58, .inr (1, [.null, .null, .int 0, .int 0, .int 0, .int 0, .int 0, .int 0]))]) rfl ?_
  refine K_putF (fs2 := [.null, .null, .ref 58, .null, .null, .null, .null, .int 0, .int 0, .int 0]) dX9_init_12 rfl fw_X9_12 hk57 (Nat.le_of_ble_eq_true rfl) (fun _ => ⟨rfl, rfl⟩) rfl ?_
  refine J_aload_n dX9_init_15 rfl rfl ?_
  refine J_iconst (v := 0) dX9_init_16 (by decide) ?_
  refine K_newa (t := 0) (N := 0) (a0 := (0, .inl (fun _ => 0))) (nh2 := 62) (ck2 := 4) (sk2 := 80) dX9_init_17 rfl (jt1 98 rfl rfl) rfl (fun _ _ h9 => h9) (fun _ => rfl) (fun _ => rfl) (by decide +kernel) (by decide +kernel) (Nat.le_of_ble_eq_true rfl) (Nat.le_of_ble_eq_true rfl) (Nat.le_of_ble_eq_true rfl) rfl rfl rfl ?_
  refine K_putF (fs2 := [.null, .null, .ref 58, .ref 61, .null, .null, .null, .int 0, .int 0, .int 0]) dX9_init_19 rfl fw_X9_18 rfl (Nat.le_of_ble_eq_true rfl) (fun _ => ⟨rfl, rfl⟩) rfl ?_
  refine J_aload_n dX9_init_22 rfl rfl ?_
  refine J_sipush (v := 1260) dX9_init_23 (by decide +kernel) ?_
  refine K_newa (t := 0) (N := 1260) (a0 := (1260, .inl (fun _ => 0))) (nh2 := 63) (ck2 := 5) (sk2 := 1340) dX9_init_26 rfl (jt1 98 rfl rfl) rfl (fun _ _ h9 => h9) (fun _ => rfl) (fun _ => rfl) (by decide +kernel) (by decide +kernel) (Nat.le_of_ble_eq_true rfl) (Nat.le_of_ble_eq_true rfl) (Nat.le_of_ble_eq_true rfl) rfl rfl rfl ?_
  refine K_putF (fs2 := [.null, .null, .ref 58, .ref 61, .ref 62, .null, .null, .int 0, .int 0, .int 0]) dX9_init_28 rfl fw_X9_22 rfl (Nat.le_of_ble_eq_true rfl) (fun _ => ⟨rfl, rfl⟩) rfl ?_
  refine J_aload_n dX9_init_31 rfl rfl ?_
  refine J_iconst (v := 0) dX9_init_32 (by decide) ?_
  refine K_newa (t := 0) (N := 0) (a0 := (0, .inl (fun _ => 0))) (nh2 := 64) (ck2 := 6) (sk2 := 1340) dX9_init_33 rfl (jt1 98 rfl rfl) rfl (fun _ _ h9 => h9) (fun _ => rfl) (fun _ => rfl) (by decide +kernel) (by decide +kernel) (Nat.le_of_ble_eq_true rfl) (Nat.le_of_ble_eq_true rfl) (Nat.le_of_ble_eq_true rfl) rfl rfl rfl ?_
  refine K_put (fs2 := [.null, .null, .ref 58, .ref 61, .ref 62, .ref 63, .null, .int 0, .int 0, .int 0]) dX9_init_35 fw_X9_25 rfl (Nat.le_of_ble_eq_true rfl) (fun _ => ⟨rfl, rfl⟩) rfl ?_
  refine J_aload_n dX9_init_38 rfl rfl ?_
  refine J_sipush (v := 2625) dX9_init_39 (by decide +kernel) ?_
  refine K_newa (t := 0) (N := 2625) (a0 := (2625, .inl (fun _ => 0))) (nh2 := 65) (ck2 := 7) (sk2 := 3965) dX9_init_42 rfl (jt1 98 rfl rfl) rfl (fun _ _ h9 => h9) (fun _ => rfl) (fun _ => rfl) (by decide +kernel) (by decide +kernel) (Nat.le_of_ble_eq_true rfl) (Nat.le_of_ble_eq_true rfl) (Nat.le_of_ble_eq_true rfl) rfl rfl rfl ?_
  refine K_putF (fs2 := [.null, .null, .ref 58, .ref 61, .ref 62, .ref 63, .ref 64, .int 0, .int 0, .int 0]) dX9_init_44 rfl fw_X9_28 rfl (Nat.le_of_ble_eq_true rfl) (fun _ => ⟨rfl, rfl⟩) rfl ?_
  refine J_aload_n dX9_init_47 rfl rfl ?_
  refine J_iconst (v := 0) dX9_init_48 (by decide) ?_
  refine K_put (fs2 := [.null, .null, .ref 58, .ref 61, .ref 62, .ref 63, .ref 64, .int 0, .int 0, .int 0]) dX9_init_49 fw_X9_31 rfl (Nat.le_of_ble_eq_true rfl) (fun _ => ⟨rfl, rfl⟩) rfl ?_
  refine J_aload_n dX9_init_52 rfl rfl ?_
  refine J_iconst (v := 1) dX9_init_53 (by decide) ?_
  refine K_put (fs2 := [.null, .null, .ref 58, .ref 61, .ref 62, .ref 63, .ref 64, .int 0, .int 1, .int 0]) dX9_init_54 fw_X9_35 rfl (Nat.le_of_ble_eq_true rfl) jb1 rfl ?_
  refine J_aload_n dX9_init_57 rfl rfl ?_
  refine J_iconst (v := 1) dX9_init_58 (by decide) ?_
  refine K_put (fs2 := [.null, .null, .ref 58, .ref 61, .ref 62, .ref 63, .ref 64, .int 0, .int 1, .int 1]) dX9_init_59 fw_X9_39 rfl (Nat.le_of_ble_eq_true rfl) jb1 rfl ?_
  refine J_aload_n dX9_init_62 rfl rfl ?_
  refine J_aload_n dX9_init_63 rfl rfl ?_
  refine K_putF (fs2 := [.ref 1, .null, .ref 58, .ref 61, .ref 62, .ref 63, .ref 64, .int 0, .int 1, .int 1]) dX9_init_64 rfl fw_X9_42 rfl (Nat.le_of_ble_eq_true rfl) (fun _ => ⟨rfl, rfl⟩) rfl ?_
  refine J_aload_n dX9_init_67 rfl rfl ?_
  refine J_aload_n dX9_init_68 rfl rfl ?_
  refine K_putF (fs2 := [.ref 1, .ref 51, .ref 58, .ref 61, .ref 62, .ref 63, .ref 64, .int 0, .int 1, .int 1]) dX9_init_69 rfl fw_X9_46 rfl (Nat.le_of_ble_eq_true rfl) (fun _ => ⟨rfl, rfl⟩) rfl ?_
  refine J_mask (L2 := [(57, .inr (9, [.ref 1, .ref 51, .ref 58, .ref 61, .ref 62, .ref 63, .ref 64, .int 0, .int 1, .int 1])), (64, .inl (0, 2625, .inl (fun _ => 0))), (63, .inl (0, 0, .inl (fun _ => 0))), (62, .inl (0, 1260, .inl (fun _ => 0))), (61, .inl (0, 0, .inl (fun _ => 0))), (58, .inr (1, [.ref 59, .ref 60, .int 0, .int 0, .int 0, .int 0, .int 0, .int 1])), (60, .inl (1, 64, .inr (.inl (fun _ => 0)))), (59, .inl (0, 8, .inl (fun _ => 0)))]) (ks := [57, 57, 57, 57, 57, 57, 64, 57, 63, 57, 62, 57, 61, 57, 58, 60, 59, 58]) [true, false, false, false, false, false, true, false, true, false, true, false, true, false, true, true, true, false] rfl (by decide +kernel) rfl ?_
  exact J_vret dX9_init_72 rfl (Nat.le_of_ble_eq_true rfl) (Nat.le_of_ble_eq_true rfl) ⟨rfl, rfl⟩
set_option maxHeartbeats 4000000 in
set_option maxRecDepth 100000 in
theorem c_X10_init_1 {l : Launch} {G : jG} {fh : Nat → Option va_E} (hk65 : fh 65 = some (.inr (10, [.null, .null, .null, .null, .null, .int 0, .int 0, .int 0, .null, .null, .null, .null, .int 0, .int 0, .int 0, .null, .null]))) : JM l G yX10_init MX10_init { frames := 1, cells := 9, slots := 10180, locals := 12 } [.ref 65, .ref 51, .ref 57] (66, fh) (fun r h9 => r = none ∧ h9 = (75, hc fh [(65, .inr (10, [.ref 51, .ref 57, .ref 66, .ref 67, .ref 68, .int 0, .int (-1), .int (-1), .ref 69, .ref 70, .ref 71, .ref 72, .int 0, .int (-1), .int (-1), .ref 73, .ref 74])), (74, .inl (1, 1260, .inr (.inl (fun _ => 0)))), (73, .inl (1, 1260, .inr (.inl (fun _ => 0)))), (72, .inl (0, 1260, .inl (fun _ => 0))), (71, .inl (0, 1260, .inl (fun _ => 0))), (70, .inl (0, 100, .inl (fun _ => 0))), (69, .inl (0, 1260, .inl (fun _ => 0))), (68, .inl (0, 1260, .inl (fun _ => 0))), (67, .inl (0, 1260, .inl (fun _ => 0))), (66, .inl (0, 1260, .inl (fun _ => 0)))])) := by
  refine JM.of (by decide) rfl (fun _ => rfl) (Nat.le_of_ble_eq_true rfl) ⟨0, rfl⟩ ?_
  refine J_hc0 (J_ls (ls2 := [some (.ref 65), some (.ref 51), some (.ref 57)]) rfl ?_)
  refine J_aload_n dX10_init_0 rfl rfl ?_
  refine J_objInit dX10_init_1 (jt1 231 rfl rfl) (jt1 27 rfl rfl) (jt1 28 rfl rfl) (Nat.le_of_ble_eq_true rfl) (Nat.le_of_ble_eq_true rfl) ?_
  refine J_aload_n dX10_init_4 rfl rfl ?_
  refine J_sipush (v := 1260) dX10_init_5 (by decide +kernel) ?_
  refine K_newa (t := 0) (N := 1260) (a0 := (1260, .inl (fun _ => 0))) (nh2 := 67) (ck2 := 1) (sk2 := 1260) dX10_init_8 rfl (jt1 98 rfl rfl) rfl (fun _ _ h9 => h9) (fun _ => rfl) (fun _ => rfl) (by decide +kernel) (by decide +kernel) (Nat.le_of_ble_eq_true rfl) (Nat.le_of_ble_eq_true rfl) (Nat.le_of_ble_eq_true rfl) rfl rfl rfl ?_
  refine K_putF (fs2 := [.null, .null, .ref 66, .null, .null, .int 0, .int 0, .int 0, .null, .null, .null, .null, .int 0, .int 0, .int 0, .null, .null]) dX10_init_10 rfl fw_X10_9 hk65 (Nat.le_of_ble_eq_true rfl) (fun _ => ⟨rfl, rfl⟩) rfl ?_
  refine J_aload_n dX10_init_13 rfl rfl ?_
  refine J_sipush (v := 1260) dX10_init_14 (by decide +kernel) ?_
  refine K_newa (t := 0) (N := 1260) (a0 := (1260, .inl (fun _ => 0))) (nh2 := 68) (ck2 := 2) (sk2 := 2520) dX10_init_17 rfl (jt1 98 rfl rfl) rfl (fun _ _ h9 => h9) (fun _ => rfl) (fun _ => rfl) (by decide +kernel) (by decide +kernel) (Nat.le_of_ble_eq_true rfl) (Nat.le_of_ble_eq_true rfl) (Nat.le_of_ble_eq_true rfl) rfl rfl rfl ?_
  refine K_putF (fs2 := [.null, .null, .ref 66, .ref 67, .null, .int 0, .int 0, .int 0, .null, .null, .null, .null, .int 0, .int 0, .int 0, .null, .null]) dX10_init_19 rfl fw_X10_15 rfl (Nat.le_of_ble_eq_true rfl) (fun _ => ⟨rfl, rfl⟩) rfl ?_
  refine J_aload_n dX10_init_22 rfl rfl ?_
  refine J_sipush (v := 1260) dX10_init_23 (by decide +kernel) ?_
  refine K_newa (t := 0) (N := 1260) (a0 := (1260, .inl (fun _ => 0))) (nh2 := 69) (ck2 := 3) (sk2 := 3780) dX10_init_26 rfl (jt1 98 rfl rfl) rfl (fun _ _ h9 => h9) (fun _ => rfl) (fun _ => rfl) (by decide +kernel) (by decide +kernel) (Nat.le_of_ble_eq_true rfl) (Nat.le_of_ble_eq_true rfl) (Nat.le_of_ble_eq_true rfl) rfl rfl rfl ?_
  refine K_putF (fs2 := [.null, .null, .ref 66, .ref 67, .ref 68, .int 0, .int 0, .int 0, .null, .null, .null, .null, .int 0, .int 0, .int 0, .null, .null]) dX10_init_28 rfl fw_X10_18 rfl (Nat.le_of_ble_eq_true rfl) (fun _ => ⟨rfl, rfl⟩) rfl ?_
  refine J_aload_n dX10_init_31 rfl rfl ?_
  refine J_iconst (v := 0) dX10_init_32 (by decide) ?_
  refine K_put (fs2 := [.null, .null, .ref 66, .ref 67, .ref 68, .int 0, .int 0, .int 0, .null, .null, .null, .null, .int 0, .int 0, .int 0, .null, .null]) dX10_init_33 fw_X10_21 rfl (Nat.le_of_ble_eq_true rfl) (fun _ => ⟨rfl, rfl⟩) rfl ?_
  refine J_aload_n dX10_init_36 rfl rfl ?_
  refine J_iconst (v := (-1)) dX10_init_37 (by decide) ?_
  refine K_put (fs2 := [.null, .null, .ref 66, .ref 67, .ref 68, .int 0, .int (-1), .int 0, .null, .null, .null, .null, .int 0, .int 0, .int 0, .null, .null]) dX10_init_38 fw_X10_25 rfl (Nat.le_of_ble_eq_true rfl) (fun _ => ⟨rfl, rfl⟩) rfl ?_
  refine J_aload_n dX10_init_41 rfl rfl ?_
  refine J_iconst (v := (-1)) dX10_init_42 (by decide) ?_
  refine K_put (fs2 := [.null, .null, .ref 66, .ref 67, .ref 68, .int 0, .int (-1), .int (-1), .null, .null, .null, .null, .int 0, .int 0, .int 0, .null, .null]) dX10_init_43 fw_X10_28 rfl (Nat.le_of_ble_eq_true rfl) (fun _ => ⟨rfl, rfl⟩) rfl ?_
  refine J_aload_n dX10_init_46 rfl rfl ?_
  refine J_sipush (v := 1260) dX10_init_47 (by decide +kernel) ?_
  refine K_newa (t := 0) (N := 1260) (a0 := (1260, .inl (fun _ => 0))) (nh2 := 70) (ck2 := 4) (sk2 := 5040) dX10_init_50 rfl (jt1 98 rfl rfl) rfl (fun _ _ h9 => h9) (fun _ => rfl) (fun _ => rfl) (by decide +kernel) (by decide +kernel) (Nat.le_of_ble_eq_true rfl) (Nat.le_of_ble_eq_true rfl) (Nat.le_of_ble_eq_true rfl) rfl rfl rfl ?_
  refine K_putF (fs2 := [.null, .null, .ref 66, .ref 67, .ref 68, .int 0, .int (-1), .int (-1), .ref 69, .null, .null, .null, .int 0, .int 0, .int 0, .null, .null]) dX10_init_52 rfl fw_X10_31 rfl (Nat.le_of_ble_eq_true rfl) (fun _ => ⟨rfl, rfl⟩) rfl ?_
  refine J_aload_n dX10_init_55 rfl rfl ?_
  refine J_bipush (v := 100) dX10_init_56 (by decide +kernel) ?_
  refine K_newa (t := 0) (N := 100) (a0 := (100, .inl (fun _ => 0))) (nh2 := 71) (ck2 := 5) (sk2 := 5140) dX10_init_58 rfl (jt1 98 rfl rfl) rfl (fun _ _ h9 => h9) (fun _ => rfl) (fun _ => rfl) (by decide +kernel) (by decide +kernel) (Nat.le_of_ble_eq_true rfl) (Nat.le_of_ble_eq_true rfl) (Nat.le_of_ble_eq_true rfl) rfl rfl rfl ?_
  refine K_putF (fs2 := [.null, .null, .ref 66, .ref 67, .ref 68, .int 0, .int (-1), .int (-1), .ref 69, .ref 70, .null, .null, .int 0, .int 0, .int 0, .null, .null]) dX10_init_60 rfl fw_X10_34 rfl (Nat.le_of_ble_eq_true rfl) (fun _ => ⟨rfl, rfl⟩) rfl ?_
  refine J_aload_n dX10_init_63 rfl rfl ?_
  refine J_sipush (v := 1260) dX10_init_64 (by decide +kernel) ?_
  refine K_newa (t := 0) (N := 1260) (a0 := (1260, .inl (fun _ => 0))) (nh2 := 72) (ck2 := 6) (sk2 := 6400) dX10_init_67 rfl (jt1 98 rfl rfl) rfl (fun _ _ h9 => h9) (fun _ => rfl) (fun _ => rfl) (by decide +kernel) (by decide +kernel) (Nat.le_of_ble_eq_true rfl) (Nat.le_of_ble_eq_true rfl) (Nat.le_of_ble_eq_true rfl) rfl rfl rfl ?_
  refine K_putF (fs2 := [.null, .null, .ref 66, .ref 67, .ref 68, .int 0, .int (-1), .int (-1), .ref 69, .ref 70, .ref 71, .null, .int 0, .int 0, .int 0, .null, .null]) dX10_init_69 rfl fw_X10_37 rfl (Nat.le_of_ble_eq_true rfl) (fun _ => ⟨rfl, rfl⟩) rfl ?_
  refine J_aload_n dX10_init_72 rfl rfl ?_
  refine J_sipush (v := 1260) dX10_init_73 (by decide +kernel) ?_
  refine K_newa (t := 0) (N := 1260) (a0 := (1260, .inl (fun _ => 0))) (nh2 := 73) (ck2 := 7) (sk2 := 7660) dX10_init_76 rfl (jt1 98 rfl rfl) rfl (fun _ _ h9 => h9) (fun _ => rfl) (fun _ => rfl) (by decide +kernel) (by decide +kernel) (Nat.le_of_ble_eq_true rfl) (Nat.le_of_ble_eq_true rfl) (Nat.le_of_ble_eq_true rfl) rfl rfl rfl ?_
  refine K_putF (fs2 := [.null, .null, .ref 66, .ref 67, .ref 68, .int 0, .int (-1), .int (-1), .ref 69, .ref 70, .ref 71, .ref 72, .int 0, .int 0, .int 0, .null, .null]) dX10_init_78 rfl fw_X10_40 rfl (Nat.le_of_ble_eq_true rfl) (fun _ => ⟨rfl, rfl⟩) rfl ?_
  refine J_aload_n dX10_init_81 rfl rfl ?_
  refine J_iconst (v := 0) dX10_init_82 (by decide) ?_
  refine K_put (fs2 := [.null, .null, .ref 66, .ref 67, .ref 68, .int 0, .int (-1), .int (-1), .ref 69, .ref 70, .ref 71, .ref 72, .int 0, .int 0, .int 0, .null, .null]) dX10_init_83 fw_X10_43 rfl (Nat.le_of_ble_eq_true rfl) (fun _ => ⟨rfl, rfl⟩) rfl ?_
  refine J_aload_n dX10_init_86 rfl rfl ?_
  refine J_iconst (v := (-1)) dX10_init_87 (by decide) ?_
  refine K_put (fs2 := [.null, .null, .ref 66, .ref 67, .ref 68, .int 0, .int (-1), .int (-1), .ref 69, .ref 70, .ref 71, .ref 72, .int 0, .int (-1), .int 0, .null, .null]) dX10_init_88 fw_X10_46 rfl (Nat.le_of_ble_eq_true rfl) (fun _ => ⟨rfl, rfl⟩) rfl ?_
  refine J_aload_n dX10_init_91 rfl rfl ?_
  refine J_iconst (v := (-1)) dX10_init_92 (by decide) ?_
  refine K_put (fs2 := [.null, .null, .ref 66, .ref 67, .ref 68, .int 0, .int (-1), .int (-1), .ref 69, .ref 70, .ref 71, .ref 72, .int 0, .int (-1), .int (-1), .null, .null]) dX10_init_93 fw_X10_49 rfl (Nat.le_of_ble_eq_true rfl) (fun _ => ⟨rfl, rfl⟩) rfl ?_
  refine J_aload_n dX10_init_96 rfl rfl ?_
  refine J_sipush (v := 1260) dX10_init_97 (by decide +kernel) ?_
  refine K_newa (t := 1) (N := 1260) (a0 := (1260, .inr (.inl (fun _ => 0)))) (nh2 := 74) (ck2 := 8) (sk2 := 8920) dX10_init_100 rfl (jt1 194 rfl rfl) rfl (fun _ _ h9 => h9) (fun _ => rfl) (fun _ => rfl) (by decide +kernel) (by decide +kernel) (Nat.le_of_ble_eq_true rfl) (Nat.le_of_ble_eq_true rfl) (Nat.le_of_ble_eq_true rfl) rfl rfl rfl ?_
  refine K_put (fs2 := [.null, .null, .ref 66, .ref 67, .ref 68, .int 0, .int (-1), .int (-1), .ref 69, .ref 70, .ref 71, .ref 72, .int 0, .int (-1), .int (-1), .ref 73, .null]) dX10_init_102 fw_X10_52 rfl (Nat.le_of_ble_eq_true rfl) (fun _ => ⟨rfl, rfl⟩) rfl ?_
  refine J_aload_n dX10_init_105 rfl rfl ?_
  refine J_sipush (v := 1260) dX10_init_106 (by decide +kernel) ?_
  refine K_newa (t := 1) (N := 1260) (a0 := (1260, .inr (.inl (fun _ => 0)))) (nh2 := 75) (ck2 := 9) (sk2 := 10180) dX10_init_109 rfl (jt1 194 rfl rfl) rfl (fun _ _ h9 => h9) (fun _ => rfl) (fun _ => rfl) (by decide +kernel) (by decide +kernel) (Nat.le_of_ble_eq_true rfl) (Nat.le_of_ble_eq_true rfl) (Nat.le_of_ble_eq_true rfl) rfl rfl rfl ?_
  refine K_put (fs2 := [.null, .null, .ref 66, .ref 67, .ref 68, .int 0, .int (-1), .int (-1), .ref 69, .ref 70, .ref 71, .ref 72, .int 0, .int (-1), .int (-1), .ref 73, .ref 74]) dX10_init_111 fw_X10_56 rfl (Nat.le_of_ble_eq_true rfl) (fun _ => ⟨rfl, rfl⟩) rfl ?_
  refine J_aload_n dX10_init_114 rfl rfl ?_
  refine J_aload_n dX10_init_115 rfl rfl ?_
  refine K_putF (fs2 := [.ref 51, .null, .ref 66, .ref 67, .ref 68, .int 0, .int (-1), .int (-1), .ref 69, .ref 70, .ref 71, .ref 72, .int 0, .int (-1), .int (-1), .ref 73, .ref 74]) dX10_init_116 rfl fw_X10_59 rfl (Nat.le_of_ble_eq_true rfl) (fun _ => ⟨rfl, rfl⟩) rfl ?_
  refine J_aload_n dX10_init_119 rfl rfl ?_
  refine J_aload_n dX10_init_120 rfl rfl ?_
  refine K_putF (fs2 := [.ref 51, .ref 57, .ref 66, .ref 67, .ref 68, .int 0, .int (-1), .int (-1), .ref 69, .ref 70, .ref 71, .ref 72, .int 0, .int (-1), .int (-1), .ref 73, .ref 74]) dX10_init_121 rfl fw_X10_63 rfl (Nat.le_of_ble_eq_true rfl) (fun _ => ⟨rfl, rfl⟩) rfl ?_
  refine J_mask (L2 := [(65, .inr (10, [.ref 51, .ref 57, .ref 66, .ref 67, .ref 68, .int 0, .int (-1), .int (-1), .ref 69, .ref 70, .ref 71, .ref 72, .int 0, .int (-1), .int (-1), .ref 73, .ref 74])), (74, .inl (1, 1260, .inr (.inl (fun _ => 0)))), (73, .inl (1, 1260, .inr (.inl (fun _ => 0)))), (72, .inl (0, 1260, .inl (fun _ => 0))), (71, .inl (0, 1260, .inl (fun _ => 0))), (70, .inl (0, 100, .inl (fun _ => 0))), (69, .inl (0, 1260, .inl (fun _ => 0))), (68, .inl (0, 1260, .inl (fun _ => 0))), (67, .inl (0, 1260, .inl (fun _ => 0))), (66, .inl (0, 1260, .inl (fun _ => 0)))]) (ks := [65, 65, 65, 74, 65, 73, 65, 65, 65, 65, 72, 65, 71, 65, 70, 65, 69, 65, 65, 65, 65, 68, 65, 67, 65, 66]) [true, false, false, true, false, true, false, false, false, false, true, false, true, false, true, false, true, false, false, false, false, true, false, true, false, true] rfl (by decide +kernel) rfl ?_
  exact J_vret dX10_init_124 rfl (Nat.le_of_ble_eq_true rfl) (Nat.le_of_ble_eq_true rfl) ⟨rfl, rfl⟩
set_option maxHeartbeats 4000000 in
set_option maxRecDepth 100000 in
theorem c_X3_init_1 {l : Launch} {G : jG} {fh : Nat → Option va_E} (hk75 : fh 75 = some (.inr (3, [.null, .null, .null, .null, .null, .null, .null, .int 0]))) : JM l G yX3_init MX3_init { frames := 1, cells := 5, slots := 3781, locals := 12 } [.ref 75, .ref 51, .ref 57] (76, fh) (fun r h9 => r = none ∧ h9 = (81, hc fh [(75, .inr (3, [.ref 51, .ref 57, .ref 76, .ref 77, .ref 78, .ref 79, .ref 80, .int 0])), (80, .inl (0, 1260, .inl (fun _ => 0))), (79, .inl (0, 1260, .inl (fun _ => 0))), (78, .inl (0, 1261, .inl (fun _ => 0))), (77, .inl (0, 0, .inl (fun _ => 0))), (76, .inl (0, 0, .inl (fun _ => 0)))])) := by
  refine JM.of (by decide) rfl (fun _ => rfl) (Nat.le_of_ble_eq_true rfl) ⟨0, rfl⟩ ?_
  refine J_hc0 (J_ls (ls2 := [some (.ref 75), some (.ref 51), some (.ref 57)]) rfl ?_)
  refine J_aload_n dX3_init_0 rfl rfl ?_
  refine J_objInit dX3_init_1 (jt2 50 rfl rfl) (jt1 27 rfl rfl) (jt1 28 rfl rfl) (Nat.le_of_ble_eq_true rfl) (Nat.le_of_ble_eq_true rfl) ?_
  refine J_aload_n dX3_init_4 rfl rfl ?_
  refine J_iconst (v := 0) dX3_init_5 (by decide) ?_
  refine K_newa (t := 0) (N := 0) (a0 := (0, .inl (fun _ => 0))) (nh2 := 77) (ck2 := 1) (sk2 := 0) dX3_init_6 rfl (jt1 98 rfl rfl) rfl (fun _ _ h9 => h9) (fun _ => rfl) (fun _ => rfl) (by decide +kernel) (by decide +kernel) (Nat.le_of_ble_eq_true rfl) (Nat.le_of_ble_eq_true rfl) (Nat.le_of_ble_eq_true rfl) rfl rfl rfl ?_
  refine K_put (fs2 := [.null, .null, .ref 76, .null, .null, .null, .null, .int 0]) dX3_init_8 fw_X3_11 hk75 (Nat.le_of_ble_eq_true rfl) (fun _ => ⟨rfl, rfl⟩) rfl ?_
  refine J_aload_n dX3_init_11 rfl rfl ?_
  refine J_iconst (v := 0) dX3_init_12 (by decide) ?_
  refine K_newa (t := 0) (N := 0) (a0 := (0, .inl (fun _ => 0))) (nh2 := 78) (ck2 := 2) (sk2 := 0) dX3_init_13 rfl (jt1 98 rfl rfl) rfl (fun _ _ h9 => h9) (fun _ => rfl) (fun _ => rfl) (by decide +kernel) (by decide +kernel) (Nat.le_of_ble_eq_true rfl) (Nat.le_of_ble_eq_true rfl) (Nat.le_of_ble_eq_true rfl) rfl rfl rfl ?_
  refine K_put (fs2 := [.null, .null, .ref 76, .ref 77, .null, .null, .null, .int 0]) dX3_init_15 fw_X3_17 rfl (Nat.le_of_ble_eq_true rfl) (fun _ => ⟨rfl, rfl⟩) rfl ?_
  refine J_aload_n dX3_init_18 rfl rfl ?_
  refine J_sipush (v := 1261) dX3_init_19 (by decide +kernel) ?_
  refine K_newa (t := 0) (N := 1261) (a0 := (1261, .inl (fun _ => 0))) (nh2 := 79) (ck2 := 3) (sk2 := 1261) dX3_init_22 rfl (jt1 98 rfl rfl) rfl (fun _ _ h9 => h9) (fun _ => rfl) (fun _ => rfl) (by decide +kernel) (by decide +kernel) (Nat.le_of_ble_eq_true rfl) (Nat.le_of_ble_eq_true rfl) (Nat.le_of_ble_eq_true rfl) rfl rfl rfl ?_
  refine K_putF (fs2 := [.null, .null, .ref 76, .ref 77, .ref 78, .null, .null, .int 0]) dX3_init_24 rfl fw_X3_20 rfl (Nat.le_of_ble_eq_true rfl) (fun _ => ⟨rfl, rfl⟩) rfl ?_
  refine J_aload_n dX3_init_27 rfl rfl ?_
  refine J_sipush (v := 1260) dX3_init_28 (by decide +kernel) ?_
  refine K_newa (t := 0) (N := 1260) (a0 := (1260, .inl (fun _ => 0))) (nh2 := 80) (ck2 := 4) (sk2 := 2521) dX3_init_31 rfl (jt1 98 rfl rfl) rfl (fun _ _ h9 => h9) (fun _ => rfl) (fun _ => rfl) (by decide +kernel) (by decide +kernel) (Nat.le_of_ble_eq_true rfl) (Nat.le_of_ble_eq_true rfl) (Nat.le_of_ble_eq_true rfl) rfl rfl rfl ?_
  refine K_putF (fs2 := [.null, .null, .ref 76, .ref 77, .ref 78, .ref 79, .null, .int 0]) dX3_init_33 rfl fw_X3_23 rfl (Nat.le_of_ble_eq_true rfl) (fun _ => ⟨rfl, rfl⟩) rfl ?_
  refine J_aload_n dX3_init_36 rfl rfl ?_
  refine J_sipush (v := 1260) dX3_init_37 (by decide +kernel) ?_
  refine K_newa (t := 0) (N := 1260) (a0 := (1260, .inl (fun _ => 0))) (nh2 := 81) (ck2 := 5) (sk2 := 3781) dX3_init_40 rfl (jt1 98 rfl rfl) rfl (fun _ _ h9 => h9) (fun _ => rfl) (fun _ => rfl) (by decide +kernel) (by decide +kernel) (Nat.le_of_ble_eq_true rfl) (Nat.le_of_ble_eq_true rfl) (Nat.le_of_ble_eq_true rfl) rfl rfl rfl ?_
  refine K_putF (fs2 := [.null, .null, .ref 76, .ref 77, .ref 78, .ref 79, .ref 80, .int 0]) dX3_init_42 rfl fw_X3_26 rfl (Nat.le_of_ble_eq_true rfl) (fun _ => ⟨rfl, rfl⟩) rfl ?_
  refine J_aload_n dX3_init_45 rfl rfl ?_
  refine J_iconst (v := 0) dX3_init_46 (by decide) ?_
  refine K_put (fs2 := [.null, .null, .ref 76, .ref 77, .ref 78, .ref 79, .ref 80, .int 0]) dX3_init_47 fw_X3_29 rfl (Nat.le_of_ble_eq_true rfl) (fun _ => ⟨rfl, rfl⟩) rfl ?_
  refine J_aload_n dX3_init_50 rfl rfl ?_
  refine J_aload_n dX3_init_51 rfl rfl ?_
  refine K_putF (fs2 := [.ref 51, .null, .ref 76, .ref 77, .ref 78, .ref 79, .ref 80, .int 0]) dX3_init_52 rfl fw_X3_33 rfl (Nat.le_of_ble_eq_true rfl) (fun _ => ⟨rfl, rfl⟩) rfl ?_
  refine J_aload_n dX3_init_55 rfl rfl ?_
  refine J_aload_n dX3_init_56 rfl rfl ?_
  refine K_putF (fs2 := [.ref 51, .ref 57, .ref 76, .ref 77, .ref 78, .ref 79, .ref 80, .int 0]) dX3_init_57 rfl fw_X3_37 rfl (Nat.le_of_ble_eq_true rfl) (fun _ => ⟨rfl, rfl⟩) rfl ?_
  refine J_mask (L2 := [(75, .inr (3, [.ref 51, .ref 57, .ref 76, .ref 77, .ref 78, .ref 79, .ref 80, .int 0])), (80, .inl (0, 1260, .inl (fun _ => 0))), (79, .inl (0, 1260, .inl (fun _ => 0))), (78, .inl (0, 1261, .inl (fun _ => 0))), (77, .inl (0, 0, .inl (fun _ => 0))), (76, .inl (0, 0, .inl (fun _ => 0)))]) (ks := [75, 75, 75, 75, 80, 75, 79, 75, 78, 75, 77, 75, 76]) [true, false, false, false, true, false, true, false, true, false, true, false, true] rfl (by decide +kernel) rfl ?_
  exact J_vret dX3_init_60 rfl (Nat.le_of_ble_eq_true rfl) (Nat.le_of_ble_eq_true rfl) ⟨rfl, rfl⟩
set_option maxHeartbeats 4000000 in
set_option maxRecDepth 100000 in
theorem c_X7_init_1 {l : Launch} {G : jG} {fh : Nat → Option va_E} (hk81 : fh 81 = some (.inr (7, [.null, .null, .null, .null, .null, .int 0, .int 0]))) : JM l G yX7_init MX7_init { frames := 1, cells := 3, slots := 28, locals := 12 } [.ref 81, .ref 51, .ref 57] (82, fh) (fun r h9 => r = none ∧ h9 = (85, hc fh [(81, .inr (7, [.ref 51, .ref 57, .ref 82, .ref 83, .ref 84, .int 0, .int (-1)])), (84, .inl (0, 0, .inl (fun _ => 0))), (83, .inl (0, 14, .inl (fun _ => 0))), (82, .inl (0, 14, .inl (fun _ => 0)))])) := by
  refine JM.of (by decide) rfl (fun _ => rfl) (Nat.le_of_ble_eq_true rfl) ⟨0, rfl⟩ ?_
  refine J_hc0 (J_ls (ls2 := [some (.ref 81), some (.ref 51), some (.ref 57)]) rfl ?_)
  refine J_aload_n dX7_init_0 rfl rfl ?_
  refine J_objInit dX7_init_1 (jt2 81 rfl rfl) (jt1 27 rfl rfl) (jt1 28 rfl rfl) (Nat.le_of_ble_eq_true rfl) (Nat.le_of_ble_eq_true rfl) ?_
  refine J_aload_n dX7_init_4 rfl rfl ?_
  refine J_bipush (v := 14) dX7_init_5 (by decide +kernel) ?_
  refine K_newa (t := 0) (N := 14) (a0 := (14, .inl (fun _ => 0))) (nh2 := 83) (ck2 := 1) (sk2 := 14) dX7_init_7 rfl (jt1 98 rfl rfl) rfl (fun _ _ h9 => h9) (fun _ => rfl) (fun _ => rfl) (by decide +kernel) (by decide +kernel) (Nat.le_of_ble_eq_true rfl) (Nat.le_of_ble_eq_true rfl) (Nat.le_of_ble_eq_true rfl) rfl rfl rfl ?_
  refine K_putF (fs2 := [.null, .null, .ref 82, .null, .null, .int 0, .int 0]) dX7_init_9 rfl fw_X7_11 hk81 (Nat.le_of_ble_eq_true rfl) (fun _ => ⟨rfl, rfl⟩) rfl ?_
  refine J_aload_n dX7_init_12 rfl rfl ?_
  refine J_bipush (v := 14) dX7_init_13 (by decide +kernel) ?_
  refine K_newa (t := 0) (N := 14) (a0 := (14, .inl (fun _ => 0))) (nh2 := 84) (ck2 := 2) (sk2 := 28) dX7_init_15 rfl (jt1 98 rfl rfl) rfl (fun _ _ h9 => h9) (fun _ => rfl) (fun _ => rfl) (by decide +kernel) (by decide +kernel) (Nat.le_of_ble_eq_true rfl) (Nat.le_of_ble_eq_true rfl) (Nat.le_of_ble_eq_true rfl) rfl rfl rfl ?_
  refine K_putF (fs2 := [.null, .null, .ref 82, .ref 83, .null, .int 0, .int 0]) dX7_init_17 rfl fw_X7_15 rfl (Nat.le_of_ble_eq_true rfl) (fun _ => ⟨rfl, rfl⟩) rfl ?_
  refine J_aload_n dX7_init_20 rfl rfl ?_
  refine J_iconst (v := 0) dX7_init_21 (by decide) ?_
  refine K_newa (t := 0) (N := 0) (a0 := (0, .inl (fun _ => 0))) (nh2 := 85) (ck2 := 3) (sk2 := 28) dX7_init_22 rfl (jt1 98 rfl rfl) rfl (fun _ _ h9 => h9) (fun _ => rfl) (fun _ => rfl) (by decide +kernel) (by decide +kernel) (Nat.le_of_ble_eq_true rfl) (Nat.le_of_ble_eq_true rfl) (Nat.le_of_ble_eq_true rfl) rfl rfl rfl ?_
  refine K_put (fs2 := [.null, .null, .ref 82, .ref 83, .ref 84, .int 0, .int 0]) dX7_init_24 fw_X7_18 rfl (Nat.le_of_ble_eq_true rfl) (fun _ => ⟨rfl, rfl⟩) rfl ?_
  refine J_aload_n dX7_init_27 rfl rfl ?_
  refine J_iconst (v := 0) dX7_init_28 (by decide) ?_
  refine K_put (fs2 := [.null, .null, .ref 82, .ref 83, .ref 84, .int 0, .int 0]) dX7_init_29 fw_X7_21 rfl (Nat.le_of_ble_eq_true rfl) jb0 rfl ?_
  refine J_aload_n dX7_init_32 rfl rfl ?_
  refine J_iconst (v := (-1)) dX7_init_33 (by decide) ?_
  refine K_put (fs2 := [.null, .null, .ref 82, .ref 83, .ref 84, .int 0, .int (-1)]) dX7_init_34 fw_X7_25 rfl (Nat.le_of_ble_eq_true rfl) (fun _ => ⟨rfl, rfl⟩) rfl ?_
  refine J_aload_n dX7_init_37 rfl rfl ?_
  refine J_aload_n dX7_init_38 rfl rfl ?_
  refine K_putF (fs2 := [.ref 51, .null, .ref 82, .ref 83, .ref 84, .int 0, .int (-1)]) dX7_init_39 rfl fw_X7_29 rfl (Nat.le_of_ble_eq_true rfl) (fun _ => ⟨rfl, rfl⟩) rfl ?_
  refine J_aload_n dX7_init_42 rfl rfl ?_
  refine J_aload_n dX7_init_43 rfl rfl ?_
  refine K_putF (fs2 := [.ref 51, .ref 57, .ref 82, .ref 83, .ref 84, .int 0, .int (-1)]) dX7_init_44 rfl fw_X7_33 rfl (Nat.le_of_ble_eq_true rfl) (fun _ => ⟨rfl, rfl⟩) rfl ?_
  refine J_mask (L2 := [(81, .inr (7, [.ref 51, .ref 57, .ref 82, .ref 83, .ref 84, .int 0, .int (-1)])), (84, .inl (0, 0, .inl (fun _ => 0))), (83, .inl (0, 14, .inl (fun _ => 0))), (82, .inl (0, 14, .inl (fun _ => 0)))]) (ks := [81, 81, 81, 81, 81, 84, 81, 83, 81, 82]) [true, false, false, false, false, true, false, true, false, true] rfl (by decide +kernel) rfl ?_
  exact J_vret dX7_init_47 rfl (Nat.le_of_ble_eq_true rfl) (Nat.le_of_ble_eq_true rfl) ⟨rfl, rfl⟩
set_option maxHeartbeats 4000000 in
set_option maxRecDepth 100000 in
theorem c_X2_init_1 {l : Launch} {G : jG} {fh : Nat → Option va_E} (hk85 : fh 85 = some (.inr (2, [.null, .null, .null, .null]))) : JM l G yX2_init MX2_init { frames := 1, cells := 2, slots := 24, locals := 12 } [.ref 85, .ref 1, .ref 51] (86, fh) (fun r h9 => r = none ∧ h9 = (88, hc fh [(85, .inr (2, [.ref 1, .ref 51, .ref 86, .ref 87])), (87, .inl (0, 12, .inl (fun _ => 0))), (86, .inl (0, 12, .inl (fun _ => 0)))])) := by
  refine JM.of (by decide) rfl (fun _ => rfl) (Nat.le_of_ble_eq_true rfl) ⟨0, rfl⟩ ?_
  refine J_hc0 (J_ls (ls2 := [some (.ref 85), some (.ref 1), some (.ref 51)]) rfl ?_)
  refine J_aload_n dX2_init_0 rfl rfl ?_
  refine J_objInit dX2_init_1 (jt2 109 rfl rfl) (jt1 27 rfl rfl) (jt1 28 rfl rfl) (Nat.le_of_ble_eq_true rfl) (Nat.le_of_ble_eq_true rfl) ?_
  refine J_aload_n dX2_init_4 rfl rfl ?_
  refine J_bipush (v := 12) dX2_init_5 (by decide +kernel) ?_
  refine K_newa (t := 0) (N := 12) (a0 := (12, .inl (fun _ => 0))) (nh2 := 87) (ck2 := 1) (sk2 := 12) dX2_init_7 rfl (jt1 98 rfl rfl) rfl (fun _ _ h9 => h9) (fun _ => rfl) (fun _ => rfl) (by decide +kernel) (by decide +kernel) (Nat.le_of_ble_eq_true rfl) (Nat.le_of_ble_eq_true rfl) (Nat.le_of_ble_eq_true rfl) rfl rfl rfl ?_
  refine K_putF (fs2 := [.null, .null, .ref 86, .null]) dX2_init_9 rfl fw_X2_9 hk85 (Nat.le_of_ble_eq_true rfl) (fun _ => ⟨rfl, rfl⟩) rfl ?_
  refine J_aload_n dX2_init_12 rfl rfl ?_
  refine J_bipush (v := 12) dX2_init_13 (by decide +kernel) ?_
  refine K_newa (t := 0) (N := 12) (a0 := (12, .inl (fun _ => 0))) (nh2 := 88) (ck2 := 2) (sk2 := 24) dX2_init_15 rfl (jt1 98 rfl rfl) rfl (fun _ _ h9 => h9) (fun _ => rfl) (fun _ => rfl) (by decide +kernel) (by decide +kernel) (Nat.le_of_ble_eq_true rfl) (Nat.le_of_ble_eq_true rfl) (Nat.le_of_ble_eq_true rfl) rfl rfl rfl ?_
  refine K_putF (fs2 := [.null, .null, .ref 86, .ref 87]) dX2_init_17 rfl fw_X2_15 rfl (Nat.le_of_ble_eq_true rfl) (fun _ => ⟨rfl, rfl⟩) rfl ?_
  refine J_aload_n dX2_init_20 rfl rfl ?_
  refine J_aload_n dX2_init_21 rfl rfl ?_
  refine K_putF (fs2 := [.ref 1, .null, .ref 86, .ref 87]) dX2_init_22 rfl fw_X2_18 rfl (Nat.le_of_ble_eq_true rfl) (fun _ => ⟨rfl, rfl⟩) rfl ?_
  refine J_aload_n dX2_init_25 rfl rfl ?_
  refine J_aload_n dX2_init_26 rfl rfl ?_
  refine K_putF (fs2 := [.ref 1, .ref 51, .ref 86, .ref 87]) dX2_init_27 rfl fw_X2_22 rfl (Nat.le_of_ble_eq_true rfl) (fun _ => ⟨rfl, rfl⟩) rfl ?_
  refine J_mask (L2 := [(85, .inr (2, [.ref 1, .ref 51, .ref 86, .ref 87])), (87, .inl (0, 12, .inl (fun _ => 0))), (86, .inl (0, 12, .inl (fun _ => 0)))]) (ks := [85, 85, 85, 87, 85, 86]) [true, false, false, true, false, true] rfl (by decide +kernel) rfl ?_
  exact J_vret dX2_init_30 rfl (Nat.le_of_ble_eq_true rfl) (Nat.le_of_ble_eq_true rfl) ⟨rfl, rfl⟩
set_option maxHeartbeats 4000000 in
set_option maxRecDepth 100000 in
theorem c_X6_init_1 {l : Launch} {G : jG} {fh : Nat → Option va_E} (hk88 : fh 88 = some (.inr (6, [.null, .null, .null, .null, .null, .null, .int 0, .int 0, .null, .null, .int 0, .int 0, .int 0]))) : JM l G yX6_init MX6_init { frames := 1, cells := 4, slots := 5040, locals := 12 } [.ref 88, .ref 1, .ref 51, .ref 57, .ref 65] (89, fh) (fun r h9 => r = none ∧ h9 = (93, hc fh [(88, .inr (6, [.ref 1, .ref 51, .ref 57, .ref 65, .ref 89, .ref 90, .int 0, .int (-1), .ref 91, .ref 92, .int (-1), .int (-1), .int (-1)])), (92, .inl (0, 1260, .inl (fun _ => 0))), (91, .inl (0, 1260, .inl (fun _ => 0))), (90, .inl (0, 1260, .inl (fun _ => 0))), (89, .inl (2, 1260, .inl (fun _ => 0)))])) := by
  refine JM.of (by decide) rfl (fun _ => rfl) (Nat.le_of_ble_eq_true rfl) ⟨0, rfl⟩ ?_
  refine J_hc0 (J_ls (ls2 := [some (.ref 88), some (.ref 1), some (.ref 51), some (.ref 57), some (.ref 65)]) rfl ?_)
  refine J_aload_n dX6_init_0 rfl rfl ?_
  refine J_objInit dX6_init_1 (jt2 128 rfl rfl) (jt1 27 rfl rfl) (jt1 28 rfl rfl) (Nat.le_of_ble_eq_true rfl) (Nat.le_of_ble_eq_true rfl) ?_
  refine J_aload_n dX6_init_4 rfl rfl ?_
  refine J_sipush (v := 1260) dX6_init_5 (by decide +kernel) ?_
  refine K_newa (t := 2) (N := 1260) (a0 := (1260, .inl (fun _ => 0))) (nh2 := 90) (ck2 := 1) (sk2 := 1260) dX6_init_8 rfl (jt1 119 rfl rfl) rfl (fun _ _ h9 => h9) (fun _ => rfl) (fun _ => rfl) (by decide +kernel) (by decide +kernel) (Nat.le_of_ble_eq_true rfl) (Nat.le_of_ble_eq_true rfl) (Nat.le_of_ble_eq_true rfl) rfl rfl rfl ?_
  refine K_putF (fs2 := [.null, .null, .null, .null, .ref 89, .null, .int 0, .int 0, .null, .null, .int 0, .int 0, .int 0]) dX6_init_10 rfl fw_X6_9 hk88 (Nat.le_of_ble_eq_true rfl) (fun _ => ⟨rfl, rfl⟩) rfl ?_
  refine J_aload_n dX6_init_13 rfl rfl ?_
  refine J_sipush (v := 1260) dX6_init_14 (by decide +kernel) ?_
  refine K_newa (t := 0) (N := 1260) (a0 := (1260, .inl (fun _ => 0))) (nh2 := 91) (ck2 := 2) (sk2 := 2520) dX6_init_17 rfl (jt1 98 rfl rfl) rfl (fun _ _ h9 => h9) (fun _ => rfl) (fun _ => rfl) (by decide +kernel) (by decide +kernel) (Nat.le_of_ble_eq_true rfl) (Nat.le_of_ble_eq_true rfl) (Nat.le_of_ble_eq_true rfl) rfl rfl rfl ?_
  refine K_putF (fs2 := [.null, .null, .null, .null, .ref 89, .ref 90, .int 0, .int 0, .null, .null, .int 0, .int 0, .int 0]) dX6_init_19 rfl fw_X6_15 rfl (Nat.le_of_ble_eq_true rfl) (fun _ => ⟨rfl, rfl⟩) rfl ?_
  refine J_aload_n dX6_init_22 rfl rfl ?_
  refine J_iconst (v := 0) dX6_init_23 (by decide) ?_
  refine K_put (fs2 := [.null, .null, .null, .null, .ref 89, .ref 90, .int 0, .int 0, .null, .null, .int 0, .int 0, .int 0]) dX6_init_24 fw_X6_19 rfl (Nat.le_of_ble_eq_true rfl) (fun _ => ⟨rfl, rfl⟩) rfl ?_
  refine J_aload_n dX6_init_27 rfl rfl ?_
  refine J_iconst (v := (-1)) dX6_init_28 (by decide) ?_
  refine K_put (fs2 := [.null, .null, .null, .null, .ref 89, .ref 90, .int 0, .int (-1), .null, .null, .int 0, .int 0, .int 0]) dX6_init_29 fw_X6_23 rfl (Nat.le_of_ble_eq_true rfl) (fun _ => ⟨rfl, rfl⟩) rfl ?_
  refine J_aload_n dX6_init_32 rfl rfl ?_
  refine J_sipush (v := 1260) dX6_init_33 (by decide +kernel) ?_
  refine K_newa (t := 0) (N := 1260) (a0 := (1260, .inl (fun _ => 0))) (nh2 := 92) (ck2 := 3) (sk2 := 3780) dX6_init_36 rfl (jt1 98 rfl rfl) rfl (fun _ _ h9 => h9) (fun _ => rfl) (fun _ => rfl) (by decide +kernel) (by decide +kernel) (Nat.le_of_ble_eq_true rfl) (Nat.le_of_ble_eq_true rfl) (Nat.le_of_ble_eq_true rfl) rfl rfl rfl ?_
  refine K_putF (fs2 := [.null, .null, .null, .null, .ref 89, .ref 90, .int 0, .int (-1), .ref 91, .null, .int 0, .int 0, .int 0]) dX6_init_38 rfl fw_X6_26 rfl (Nat.le_of_ble_eq_true rfl) (fun _ => ⟨rfl, rfl⟩) rfl ?_
  refine J_aload_n dX6_init_41 rfl rfl ?_
  refine J_sipush (v := 1260) dX6_init_42 (by decide +kernel) ?_
  refine K_newa (t := 0) (N := 1260) (a0 := (1260, .inl (fun _ => 0))) (nh2 := 93) (ck2 := 4) (sk2 := 5040) dX6_init_45 rfl (jt1 98 rfl rfl) rfl (fun _ _ h9 => h9) (fun _ => rfl) (fun _ => rfl) (by decide +kernel) (by decide +kernel) (Nat.le_of_ble_eq_true rfl) (Nat.le_of_ble_eq_true rfl) (Nat.le_of_ble_eq_true rfl) rfl rfl rfl ?_
  refine K_putF (fs2 := [.null, .null, .null, .null, .ref 89, .ref 90, .int 0, .int (-1), .ref 91, .ref 92, .int 0, .int 0, .int 0]) dX6_init_47 rfl fw_X6_29 rfl (Nat.le_of_ble_eq_true rfl) (fun _ => ⟨rfl, rfl⟩) rfl ?_
  refine J_aload_n dX6_init_50 rfl rfl ?_
  refine J_iconst (v := (-1)) dX6_init_51 (by decide) ?_
  refine K_put (fs2 := [.null, .null, .null, .null, .ref 89, .ref 90, .int 0, .int (-1), .ref 91, .ref 92, .int (-1), .int 0, .int 0]) dX6_init_52 fw_X6_32 rfl (Nat.le_of_ble_eq_true rfl) (fun _ => ⟨rfl, rfl⟩) rfl ?_
  refine J_aload_n dX6_init_55 rfl rfl ?_
  refine J_iconst (v := (-1)) dX6_init_56 (by decide) ?_
  refine K_put (fs2 := [.null, .null, .null, .null, .ref 89, .ref 90, .int 0, .int (-1), .ref 91, .ref 92, .int (-1), .int (-1), .int 0]) dX6_init_57 fw_X6_35 rfl (Nat.le_of_ble_eq_true rfl) (fun _ => ⟨rfl, rfl⟩) rfl ?_
  refine J_aload_n dX6_init_60 rfl rfl ?_
  refine J_iconst (v := (-1)) dX6_init_61 (by decide) ?_
  refine K_put (fs2 := [.null, .null, .null, .null, .ref 89, .ref 90, .int 0, .int (-1), .ref 91, .ref 92, .int (-1), .int (-1), .int (-1)]) dX6_init_62 fw_X6_38 rfl (Nat.le_of_ble_eq_true rfl) (fun _ => ⟨rfl, rfl⟩) rfl ?_
  refine J_aload_n dX6_init_65 rfl rfl ?_
  refine J_aload_n dX6_init_66 rfl rfl ?_
  refine K_putF (fs2 := [.ref 1, .null, .null, .null, .ref 89, .ref 90, .int 0, .int (-1), .ref 91, .ref 92, .int (-1), .int (-1), .int (-1)]) dX6_init_67 rfl fw_X6_41 rfl (Nat.le_of_ble_eq_true rfl) (fun _ => ⟨rfl, rfl⟩) rfl ?_
  refine J_aload_n dX6_init_70 rfl rfl ?_
  refine J_aload_n dX6_init_71 rfl rfl ?_
  refine K_putF (fs2 := [.ref 1, .ref 51, .null, .null, .ref 89, .ref 90, .int 0, .int (-1), .ref 91, .ref 92, .int (-1), .int (-1), .int (-1)]) dX6_init_72 rfl fw_X6_45 rfl (Nat.le_of_ble_eq_true rfl) (fun _ => ⟨rfl, rfl⟩) rfl ?_
  refine J_aload_n dX6_init_75 rfl rfl ?_
  refine J_aload_n dX6_init_76 rfl rfl ?_
  refine K_putF (fs2 := [.ref 1, .ref 51, .ref 57, .null, .ref 89, .ref 90, .int 0, .int (-1), .ref 91, .ref 92, .int (-1), .int (-1), .int (-1)]) dX6_init_77 rfl fw_X6_49 rfl (Nat.le_of_ble_eq_true rfl) (fun _ => ⟨rfl, rfl⟩) rfl ?_
  refine J_aload_n dX6_init_80 rfl rfl ?_
  refine J_aload dX6_init_81 rfl ?_
  refine K_putF (fs2 := [.ref 1, .ref 51, .ref 57, .ref 65, .ref 89, .ref 90, .int 0, .int (-1), .ref 91, .ref 92, .int (-1), .int (-1), .int (-1)]) dX6_init_83 rfl fw_X6_53 rfl (Nat.le_of_ble_eq_true rfl) (fun _ => ⟨rfl, rfl⟩) rfl ?_
  refine J_mask (L2 := [(88, .inr (6, [.ref 1, .ref 51, .ref 57, .ref 65, .ref 89, .ref 90, .int 0, .int (-1), .ref 91, .ref 92, .int (-1), .int (-1), .int (-1)])), (92, .inl (0, 1260, .inl (fun _ => 0))), (91, .inl (0, 1260, .inl (fun _ => 0))), (90, .inl (0, 1260, .inl (fun _ => 0))), (89, .inl (2, 1260, .inl (fun _ => 0)))]) (ks := [88, 88, 88, 88, 88, 88, 88, 88, 92, 88, 91, 88, 88, 88, 90, 88, 89]) [true, false, false, false, false, false, false, false, true, false, true, false, false, false, true, false, true] rfl (by decide +kernel) rfl ?_
  exact J_vret dX6_init_86 rfl (Nat.le_of_ble_eq_true rfl) (Nat.le_of_ble_eq_true rfl) ⟨rfl, rfl⟩
set_option maxHeartbeats 4000000 in
set_option maxRecDepth 100000 in
theorem c_X4_init_1 {l : Launch} {G : jG} {fh : Nat → Option va_E} (hk93 : fh 93 = some (.inr (4, [.null, .null, .null, .null, .int 0]))) : JM l G yX4_init MX4_init { frames := 1, cells := 2, slots := 0, locals := 12 } [.ref 93, .ref 51, .ref 57] (94, fh) (fun r h9 => r = none ∧ h9 = (96, hc fh [(93, .inr (4, [.ref 51, .ref 57, .ref 94, .ref 95, .int 0])), (95, .inl (0, 0, .inl (fun _ => 0))), (94, .inl (0, 0, .inl (fun _ => 0)))])) := by
  refine JM.of (by decide) rfl (fun _ => rfl) (Nat.le_of_ble_eq_true rfl) ⟨0, rfl⟩ ?_
  refine J_hc0 (J_ls (ls2 := [some (.ref 93), some (.ref 51), some (.ref 57)]) rfl ?_)
  refine J_aload_n dX4_init_0 rfl rfl ?_
  refine J_objInit dX4_init_1 (jt2 174 rfl rfl) (jt1 27 rfl rfl) (jt1 28 rfl rfl) (Nat.le_of_ble_eq_true rfl) (Nat.le_of_ble_eq_true rfl) ?_
  refine J_aload_n dX4_init_4 rfl rfl ?_
  refine J_iconst (v := 0) dX4_init_5 (by decide) ?_
  refine K_newa (t := 0) (N := 0) (a0 := (0, .inl (fun _ => 0))) (nh2 := 95) (ck2 := 1) (sk2 := 0) dX4_init_6 rfl (jt1 98 rfl rfl) rfl (fun _ _ h9 => h9) (fun _ => rfl) (fun _ => rfl) (by decide +kernel) (by decide +kernel) (Nat.le_of_ble_eq_true rfl) (Nat.le_of_ble_eq_true rfl) (Nat.le_of_ble_eq_true rfl) rfl rfl rfl ?_
  refine K_put (fs2 := [.null, .null, .ref 94, .null, .int 0]) dX4_init_8 fw_X4_9 hk93 (Nat.le_of_ble_eq_true rfl) (fun _ => ⟨rfl, rfl⟩) rfl ?_
  refine J_aload_n dX4_init_11 rfl rfl ?_
  refine J_iconst (v := 0) dX4_init_12 (by decide) ?_
  refine K_newa (t := 0) (N := 0) (a0 := (0, .inl (fun _ => 0))) (nh2 := 96) (ck2 := 2) (sk2 := 0) dX4_init_13 rfl (jt1 98 rfl rfl) rfl (fun _ _ h9 => h9) (fun _ => rfl) (fun _ => rfl) (by decide +kernel) (by decide +kernel) (Nat.le_of_ble_eq_true rfl) (Nat.le_of_ble_eq_true rfl) (Nat.le_of_ble_eq_true rfl) rfl rfl rfl ?_
  refine K_put (fs2 := [.null, .null, .ref 94, .ref 95, .int 0]) dX4_init_15 fw_X4_15 rfl (Nat.le_of_ble_eq_true rfl) (fun _ => ⟨rfl, rfl⟩) rfl ?_
  refine J_aload_n dX4_init_18 rfl rfl ?_
  refine J_iconst (v := 0) dX4_init_19 (by decide) ?_
  refine K_put (fs2 := [.null, .null, .ref 94, .ref 95, .int 0]) dX4_init_20 fw_X4_18 rfl (Nat.le_of_ble_eq_true rfl) (fun _ => ⟨rfl, rfl⟩) rfl ?_
  refine J_aload_n dX4_init_23 rfl rfl ?_
  refine J_aload_n dX4_init_24 rfl rfl ?_
  refine K_putF (fs2 := [.ref 51, .null, .ref 94, .ref 95, .int 0]) dX4_init_25 rfl fw_X4_22 rfl (Nat.le_of_ble_eq_true rfl) (fun _ => ⟨rfl, rfl⟩) rfl ?_
  refine J_aload_n dX4_init_28 rfl rfl ?_
  refine J_aload_n dX4_init_29 rfl rfl ?_
  refine K_putF (fs2 := [.ref 51, .ref 57, .ref 94, .ref 95, .int 0]) dX4_init_30 rfl fw_X4_26 rfl (Nat.le_of_ble_eq_true rfl) (fun _ => ⟨rfl, rfl⟩) rfl ?_
  refine J_mask (L2 := [(93, .inr (4, [.ref 51, .ref 57, .ref 94, .ref 95, .int 0])), (95, .inl (0, 0, .inl (fun _ => 0))), (94, .inl (0, 0, .inl (fun _ => 0)))]) (ks := [93, 93, 93, 93, 95, 93, 94]) [true, false, false, false, true, false, true] rfl (by decide +kernel) rfl ?_
  exact J_vret dX4_init_33 rfl (Nat.le_of_ble_eq_true rfl) (Nat.le_of_ble_eq_true rfl) ⟨rfl, rfl⟩
set_option maxHeartbeats 4000000 in
set_option maxRecDepth 100000 in
theorem c_X0_packed_1 {l : Launch} {G : jG} {nh : Nat} {fh : Nat → Option va_E} (hk51 : fh 51 = some (.inr (0, [.ref 52, .ref 53, .int 0, .int 0]))) : JM l G yX0_packed MX0_packed { frames := 0, cells := 0, slots := 0, locals := 0 } [.ref 51] (nh, fh) (fun r h9 => r = some (.int 0) ∧ h9 = (nh, fh)) := by
  refine JM.of (by decide) rfl (fun h => by cases h) (Nat.le_of_ble_eq_true rfl) ⟨2, rfl⟩ ?_
  refine J_hc0 (J_ls (ls2 := [some (.ref 51), none, none]) rfl ?_)
  refine J_iconst (v := 0) dX0_packed_0 (by decide) ?_
  refine J_istore_n dX0_packed_1 rfl (Nat.le_of_ble_eq_true rfl) rfl ?_
  refine J_iconst (v := 0) dX0_packed_2 (by decide) ?_
  refine J_istore_n dX0_packed_3 rfl (Nat.le_of_ble_eq_true rfl) rfl ?_
  refine J_iload_n dX0_packed_4 rfl rfl ?_
  refine J_aload_n dX0_packed_5 rfl rfl ?_
  refine J_get (v := .int 0) dX0_packed_6 fl_X0_22 hk51 rfl ?_
  refine J_icmp_ge (tgt := 29) dX0_packed_9 (by decide) (fun _ => ?_) (fun q => absurd (by decide +kernel) q)
  refine J_iload_n dX0_packed_29 rfl rfl ?_
  exact J_iret dX0_packed_30 rfl rfl (Nat.le_of_ble_eq_true rfl) (Nat.le_of_ble_eq_true rfl) ⟨rfl, rfl⟩
set_option maxHeartbeats 4000000 in
set_option maxRecDepth 100000 in
theorem c_X0_nextOrder_1 {l : Launch} {G : jG} {nh : Nat} {fh : Nat → Option va_E} (hk51 : fh 51 = some (.inr (0, [.ref 52, .ref 53, .int 1, .int 0]))) : JM l G yX0_nextOrder MX0_nextOrder { frames := 0, cells := 0, slots := 0, locals := 0 } [.ref 51] (nh, fh) (fun r h9 => r = some (.int 0) ∧ h9 = (nh, fh)) := by
  refine JM.of (by decide) rfl (fun h => by cases h) (Nat.le_of_ble_eq_true rfl) ⟨4, rfl⟩ ?_
  refine J_hc0 (J_ls (ls2 := [some (.ref 51), none, none, none, none]) rfl ?_)
  refine J_aload_n dX0_nextOrder_0 rfl rfl ?_
  refine J_get (v := .int 0) dX0_nextOrder_1 fl_X0_22 hk51 rfl ?_
  refine J_iconst (v := 2) dX0_nextOrder_4 (by decide) ?_
  refine J_isub (z := (-2)) dX0_nextOrder_5 (by decide +kernel) ?_
  refine J_istore_n dX0_nextOrder_6 rfl (Nat.le_of_ble_eq_true rfl) rfl ?_
  refine J_iload_n dX0_nextOrder_7 rfl rfl ?_
  refine J_if_lt (tgt := 34) dX0_nextOrder_8 (by decide) (fun _ => ?_) (fun q => absurd (by decide +kernel) q)
  refine J_iload_n dX0_nextOrder_34 rfl rfl ?_
  refine J_if_ge (tgt := 40) dX0_nextOrder_35 (by decide) (fun q => absurd q (by decide +kernel)) (fun _ => ?_)
  refine J_iconst (v := 0) dX0_nextOrder_38 (by decide) ?_
  exact J_iret dX0_nextOrder_39 rfl (by decide +kernel) (Nat.le_of_ble_eq_true rfl) (Nat.le_of_ble_eq_true rfl) ⟨rfl, rfl⟩
set_option maxHeartbeats 4000000 in
set_option maxRecDepth 100000 in
theorem c_X0_settle_1 {l : Launch} {G : jG} {nh : Nat} {fh : Nat → Option va_E} (hk2 : fh 2 = some (.inl (0, 5, .inl (fun _ => 0)))) (hk51 : fh 51 = some (.inr (0, [.ref 52, .ref 53, .int 0, .int 0]))) (hk52 : fh 52 = some (.inl (0, 1260, .inl (fun _ => 0)))) : JM l G yX0_settle MX0_settle { frames := 1, cells := 0, slots := 0, locals := 24 } [.ref 51, .ref 2] (nh, fh) (fun r h9 => r = none ∧ h9 = (nh, hc fh [(51, .inr (0, [.ref 52, .ref 53, .int 1, .int 0])), (52, .inl (0, 1260, .inl (upd (fun _ => 0) 0 0)))])) := by
  refine JM.of (by decide) rfl (fun h => by cases h) (Nat.le_of_ble_eq_true rfl) ⟨2, rfl⟩ ?_
  refine J_hc0 (J_ls (ls2 := [some (.ref 51), some (.ref 2), none, none]) rfl ?_)
  refine J_aload_n dX0_settle_0 rfl rfl ?_
  refine J_iconst (v := 0) dX0_settle_1 (by decide) ?_
  refine K_put (fs2 := [.ref 52, .ref 53, .int 0, .int 0]) dX0_settle_2 fw_X0_22 hk51 (Nat.le_of_ble_eq_true rfl) (fun _ => ⟨rfl, rfl⟩) rfl ?_
  refine J_iconst (v := 0) dX0_settle_5 (by decide) ?_
  refine J_istore_n dX0_settle_6 rfl (Nat.le_of_ble_eq_true rfl) rfl ?_
  refine J_iload_n dX0_settle_7 rfl rfl ?_
  refine J_iconst (v := 5) dX0_settle_8 (by decide) ?_
  refine J_icmp_ge (tgt := 62) dX0_settle_9 (by decide) (fun q => absurd q (by decide +kernel)) (fun _ => ?_)
  refine J_iconst (v := 0) dX0_settle_12 (by decide) ?_
  refine J_istore_n dX0_settle_13 rfl (Nat.le_of_ble_eq_true rfl) rfl ?_
  refine J_iload_n dX0_settle_14 rfl rfl ?_
  refine J_aload_n dX0_settle_15 rfl rfl ?_
  refine J_iload_n dX0_settle_16 rfl rfl ?_
  refine J_iald (i2 := 0) (v := 0) dX0_settle_17 hk2 rfl (jin (by decide +kernel)) (by decide +kernel) rfl ?_
  refine J_icmp_ge (tgt := 56) dX0_settle_18 (by decide) (fun _ => ?_) (fun q => absurd (by decide +kernel) q)
  refine J_iinc (v := 1) dX0_settle_56 rfl (by decide +kernel) (Nat.le_of_ble_eq_true rfl) rfl ?_
  refine J_ls (ls2 := [some (.ref 51), some (.ref 2), some (.int 1), some (.int 0)]) rfl ?_
  refine J_goto (tgt := 7) dX0_settle_59 (by decide) ?_
  refine J_iload_n dX0_settle_7 rfl rfl ?_
  refine J_iconst (v := 5) dX0_settle_8 (by decide) ?_
  refine J_icmp_ge (tgt := 62) dX0_settle_9 (by decide) (fun q => absurd q (by decide +kernel)) (fun _ => ?_)
  refine J_iconst (v := 0) dX0_settle_12 (by decide) ?_
  refine J_istore_n dX0_settle_13 rfl (Nat.le_of_ble_eq_true rfl) rfl ?_
  refine J_iload_n dX0_settle_14 rfl rfl ?_
  refine J_aload_n dX0_settle_15 rfl rfl ?_
  refine J_iload_n dX0_settle_16 rfl rfl ?_
  refine J_iald (i2 := 1) (v := 0) dX0_settle_17 hk2 rfl (jin (by decide +kernel)) (by decide +kernel) rfl ?_
  refine J_icmp_ge (tgt := 56) dX0_settle_18 (by decide) (fun _ => ?_) (fun q => absurd (by decide +kernel) q)
  refine J_iinc (v := 2) dX0_settle_56 rfl (by decide +kernel) (Nat.le_of_ble_eq_true rfl) rfl ?_
  refine J_ls (ls2 := [some (.ref 51), some (.ref 2), some (.int 2), some (.int 0)]) rfl ?_
  refine J_goto (tgt := 7) dX0_settle_59 (by decide) ?_
  refine J_iload_n dX0_settle_7 rfl rfl ?_
  refine J_iconst (v := 5) dX0_settle_8 (by decide) ?_
  refine J_icmp_ge (tgt := 62) dX0_settle_9 (by decide) (fun q => absurd q (by decide +kernel)) (fun _ => ?_)
  refine J_iconst (v := 0) dX0_settle_12 (by decide) ?_
  refine J_istore_n dX0_settle_13 rfl (Nat.le_of_ble_eq_true rfl) rfl ?_
  refine J_iload_n dX0_settle_14 rfl rfl ?_
  refine J_aload_n dX0_settle_15 rfl rfl ?_
  refine J_iload_n dX0_settle_16 rfl rfl ?_
  refine J_iald (i2 := 2) (v := 0) dX0_settle_17 hk2 rfl (jin (by decide +kernel)) (by decide +kernel) rfl ?_
  refine J_icmp_ge (tgt := 56) dX0_settle_18 (by decide) (fun _ => ?_) (fun q => absurd (by decide +kernel) q)
  refine J_iinc (v := 3) dX0_settle_56 rfl (by decide +kernel) (Nat.le_of_ble_eq_true rfl) rfl ?_
  refine J_ls (ls2 := [some (.ref 51), some (.ref 2), some (.int 3), some (.int 0)]) rfl ?_
  refine J_goto (tgt := 7) dX0_settle_59 (by decide) ?_
  refine J_iload_n dX0_settle_7 rfl rfl ?_
  refine J_iconst (v := 5) dX0_settle_8 (by decide) ?_
  refine J_icmp_ge (tgt := 62) dX0_settle_9 (by decide) (fun q => absurd q (by decide +kernel)) (fun _ => ?_)
  refine J_iconst (v := 0) dX0_settle_12 (by decide) ?_
  refine J_istore_n dX0_settle_13 rfl (Nat.le_of_ble_eq_true rfl) rfl ?_
  refine J_iload_n dX0_settle_14 rfl rfl ?_
  refine J_aload_n dX0_settle_15 rfl rfl ?_
  refine J_iload_n dX0_settle_16 rfl rfl ?_
  refine J_iald (i2 := 3) (v := 0) dX0_settle_17 hk2 rfl (jin (by decide +kernel)) (by decide +kernel) rfl ?_
  refine J_icmp_ge (tgt := 56) dX0_settle_18 (by decide) (fun _ => ?_) (fun q => absurd (by decide +kernel) q)
  refine J_iinc (v := 4) dX0_settle_56 rfl (by decide +kernel) (Nat.le_of_ble_eq_true rfl) rfl ?_
  refine J_ls (ls2 := [some (.ref 51), some (.ref 2), some (.int 4), some (.int 0)]) rfl ?_
  refine J_goto (tgt := 7) dX0_settle_59 (by decide) ?_
  refine J_iload_n dX0_settle_7 rfl rfl ?_
  refine J_iconst (v := 5) dX0_settle_8 (by decide) ?_
  refine J_icmp_ge (tgt := 62) dX0_settle_9 (by decide) (fun q => absurd q (by decide +kernel)) (fun _ => ?_)
  refine J_iconst (v := 0) dX0_settle_12 (by decide) ?_
  refine J_istore_n dX0_settle_13 rfl (Nat.le_of_ble_eq_true rfl) rfl ?_
  refine J_iload_n dX0_settle_14 rfl rfl ?_
  refine J_aload_n dX0_settle_15 rfl rfl ?_
  refine J_iload_n dX0_settle_16 rfl rfl ?_
  refine J_iald (i2 := 4) (v := 0) dX0_settle_17 hk2 rfl (jin (by decide +kernel)) (by decide +kernel) rfl ?_
  refine J_icmp_ge (tgt := 56) dX0_settle_18 (by decide) (fun _ => ?_) (fun q => absurd (by decide +kernel) q)
  refine J_iinc (v := 5) dX0_settle_56 rfl (by decide +kernel) (Nat.le_of_ble_eq_true rfl) rfl ?_
  refine J_ls (ls2 := [some (.ref 51), some (.ref 2), some (.int 5), some (.int 0)]) rfl ?_
  refine J_goto (tgt := 7) dX0_settle_59 (by decide) ?_
  refine J_iload_n dX0_settle_7 rfl rfl ?_
  refine J_iconst (v := 5) dX0_settle_8 (by decide) ?_
  refine J_icmp_ge (tgt := 62) dX0_settle_9 (by decide) (fun _ => ?_) (fun q => absurd (by decide +kernel) q)
  refine J_aload_n dX0_settle_62 rfl rfl ?_
  refine J_iconst (v := 0) dX0_settle_63 (by decide) ?_
  refine K_put (fs2 := [.ref 52, .ref 53, .int 0, .int 0]) dX0_settle_64 fw_X0_18 rfl (Nat.le_of_ble_eq_true rfl) (fun _ => ⟨rfl, rfl⟩) rfl ?_
  refine J_iconst (v := 1) dX0_settle_67 (by decide) ?_
  refine J_istore_n dX0_settle_68 rfl (Nat.le_of_ble_eq_true rfl) rfl ?_
  refine J_iconst (v := 0) dX0_settle_69 (by decide) ?_
  refine J_istore_n dX0_settle_70 rfl (Nat.le_of_ble_eq_true rfl) rfl ?_
  refine J_iload_n dX0_settle_71 rfl rfl ?_
  refine J_sipush (v := 1260) dX0_settle_72 (by decide +kernel) ?_
  refine J_icmp_ge (tgt := 116) dX0_settle_75 (by decide) (fun q => absurd q (by decide +kernel)) (fun _ => ?_)
  refine J_iload_n dX0_settle_78 rfl rfl ?_
  refine J_if_eq (tgt := 116) dX0_settle_79 (by decide) (fun q => absurd q (by decide +kernel)) (fun _ => ?_)
  refine J_aload_n dX0_settle_82 rfl rfl ?_
  refine J_get (v := .ref 52) dX0_settle_83 fl_X0_9 rfl rfl ?_
  refine J_aload_n dX0_settle_86 rfl rfl ?_
  refine J_get (v := .int 0) dX0_settle_87 fl_X0_18 rfl rfl ?_
  refine J_aload_n dX0_settle_90 rfl rfl ?_
  refine J_callV (st := [.int 0, .ref 52]) dX0_settle_91 cv_X0_25 (c_X0_packed_1 rfl) rfl rfl rfl (Nat.le_of_ble_eq_true rfl) ⟨(Nat.le_of_ble_eq_true rfl), (Nat.le_of_ble_eq_true rfl)⟩ ⟨(Nat.le_of_ble_eq_true rfl), (Nat.le_of_ble_eq_true rfl)⟩ (fun r h9 hp => ?_)
  obtain ⟨rfl, rfl⟩ := hp
  refine J_nf (nh2 := nh) (ck2 := 0) (sk2 := 0) (st2 := [.int 0, .int 0, .ref 52]) rfl rfl rfl rfl ?_
  refine K_iast (i2 := 0) dX0_settle_94 hk52 rfl (jin (by decide +kernel)) (by decide +kernel) ?_
  refine J_aload_n dX0_settle_95 rfl rfl ?_
  refine J_dup dX0_settle_96 rfl ?_
  refine J_get (v := .int 0) dX0_settle_97 fl_X0_18 rfl rfl ?_
  refine J_iconst (v := 1) dX0_settle_100 (by decide) ?_
  refine J_iadd (z := 1) dX0_settle_101 (by decide +kernel) ?_
  refine K_put (fs2 := [.ref 52, .ref 53, .int 1, .int 0]) dX0_settle_102 fw_X0_18 rfl (Nat.le_of_ble_eq_true rfl) (fun _ => ⟨rfl, rfl⟩) rfl ?_
  refine J_aload_n dX0_settle_105 rfl rfl ?_
  refine J_callV (st := []) dX0_settle_106 cv_X0_29 (c_X0_nextOrder_1 rfl) rfl rfl rfl (Nat.le_of_ble_eq_true rfl) ⟨(Nat.le_of_ble_eq_true rfl), (Nat.le_of_ble_eq_true rfl)⟩ ⟨(Nat.le_of_ble_eq_true rfl), (Nat.le_of_ble_eq_true rfl)⟩ (fun r h9 hp => ?_)
  obtain ⟨rfl, rfl⟩ := hp
  refine J_nf (nh2 := nh) (ck2 := 0) (sk2 := 0) (st2 := [.int 0]) rfl rfl rfl rfl ?_
  refine J_istore_n dX0_settle_109 rfl (Nat.le_of_ble_eq_true rfl) rfl ?_
  refine J_iinc (v := 1) dX0_settle_110 rfl (by decide +kernel) (Nat.le_of_ble_eq_true rfl) rfl ?_
  refine J_ls (ls2 := [some (.ref 51), some (.ref 2), some (.int 0), some (.int 1)]) rfl ?_
  refine J_goto (tgt := 71) dX0_settle_113 (by decide) ?_
  refine J_iload_n dX0_settle_71 rfl rfl ?_
  refine J_sipush (v := 1260) dX0_settle_72 (by decide +kernel) ?_
  refine J_icmp_ge (tgt := 116) dX0_settle_75 (by decide) (fun q => absurd q (by decide +kernel)) (fun _ => ?_)
  refine J_iload_n dX0_settle_78 rfl rfl ?_
  refine J_if_eq (tgt := 116) dX0_settle_79 (by decide) (fun _ => ?_) (fun q => absurd (by decide +kernel) q)
  refine J_mask (L2 := [(51, .inr (0, [.ref 52, .ref 53, .int 1, .int 0])), (52, .inl (0, 1260, .inl (upd (fun _ => 0) 0 0)))]) (ks := [51, 52, 51, 51]) [true, true, false, false] rfl (by decide +kernel) rfl ?_
  exact J_vret dX0_settle_116 rfl (Nat.le_of_ble_eq_true rfl) (Nat.le_of_ble_eq_true rfl) ⟨rfl, rfl⟩
set_option maxHeartbeats 4000000 in
set_option maxRecDepth 100000 in
theorem c_X11_init_1 {l : Launch} {G : jG} {fh : Nat → Option va_E} (hk0 : fh 0 = some (.inr (11, [.null, .null, .null, .null, .null, .null, .null, .null, .null, .null, .null, .null, .null, .int 0, .int 0, .null, .int 0]))) : JM l G yX11_init MX11_init { frames := 3, cells := 97, slots := 26681, locals := 54 } [.ref 0] (1, fh) (fun r h9 => r = none ∧ h9 = (98, hc fh [(51, .inr (0, [.ref 52, .ref 53, .int 1, .int 0])), (52, .inl (0, 1260, .inl (upd (fun _ => 0) 0 0))), (0, .inr (11, [.ref 1, .ref 17, .ref 50, .ref 51, .ref 54, .ref 57, .ref 65, .ref 75, .ref 81, .ref 85, .ref 88, .ref 93, .ref 96, .int 0, .int (-1), .ref 97, .int 0])), (97, .inl (0, 1260, .inl (fun _ => 0))), (96, .inl (0, 5, .inl (fun _ => 0))), (93, .inr (4, [.ref 51, .ref 57, .ref 94, .ref 95, .int 0])), (95, .inl (0, 0, .inl (fun _ => 0))), (94, .inl (0, 0, .inl (fun _ => 0))), (88, .inr (6, [.ref 1, .ref 51, .ref 57, .ref 65, .ref 89, .ref 90, .int 0, .int (-1), .ref 91, .ref 92, .int (-1), .int (-1), .int (-1)])), (92, .inl (0, 1260, .inl (fun _ => 0))), (91, .inl (0, 1260, .inl (fun _ => 0))), (90, .inl (0, 1260, .inl (fun _ => 0))), (89, .inl (2, 1260, .inl (fun _ => 0))), (85, .inr (2, [.ref 1, .ref 51, .ref 86, .ref 87])), (87, .inl (0, 12, .inl (fun _ => 0))), (86, .inl (0, 12, .inl (fun _ => 0))), (81, .inr (7, [.ref 51, .ref 57, .ref 82, .ref 83, .ref 84, .int 0, .int (-1)])), (84, .inl (0, 0, .inl (fun _ => 0))), (83, .inl (0, 14, .inl (fun _ => 0))), (82, .inl (0, 14, .inl (fun _ => 0))), (75, .inr (3, [.ref 51, .ref 57, .ref 76, .ref 77, .ref 78, .ref 79, .ref 80, .int 0])), (80, .inl (0, 1260, .inl (fun _ => 0))), (79, .inl (0, 1260, .inl (fun _ => 0))), (78, .inl (0, 1261, .inl (fun _ => 0))), (77, .inl (0, 0, .inl (fun _ => 0))), (76, .inl (0, 0, .inl (fun _ => 0))), (65, .inr (10, [.ref 51, .ref 57, .ref 66, .ref 67, .ref 68, .int 0, .int (-1), .int (-1), .ref 69, .ref 70, .ref 71, .ref 72, .int 0, .int (-1), .int (-1), .ref 73, .ref 74])), (74, .inl (1, 1260, .inr (.inl (fun _ => 0)))), (73, .inl (1, 1260, .inr (.inl (fun _ => 0)))), (72, .inl (0, 1260, .inl (fun _ => 0))), (71, .inl (0, 1260, .inl (fun _ => 0))), (70, .inl (0, 100, .inl (fun _ => 0))), (69, .inl (0, 1260, .inl (fun _ => 0))), (68, .inl (0, 1260, .inl (fun _ => 0))), (67, .inl (0, 1260, .inl (fun _ => 0))), (66, .inl (0, 1260, .inl (fun _ => 0))), (57, .inr (9, [.ref 1, .ref 51, .ref 58, .ref 61, .ref 62, .ref 63, .ref 64, .int 0, .int 1, .int 1])), (64, .inl (0, 2625, .inl (fun _ => 0))), (63, .inl (0, 0, .inl (fun _ => 0))), (62, .inl (0, 1260, .inl (fun _ => 0))), (61, .inl (0, 0, .inl (fun _ => 0))), (58, .inr (1, [.ref 59, .ref 60, .int 0, .int 0, .int 0, .int 0, .int 0, .int 1])), (60, .inl (1, 64, .inr (.inl (fun _ => 0)))), (59, .inl (0, 8, .inl (fun _ => 0))), (54, .inr (5, [.ref 55, .int 0, .int 17, .int 0, .int 0, .int 0, .int 0, .int (-1), .ref 56, .int 0])), (56, .inl (0, 412, .inl (fun _ => 0))), (55, .inl (0, 400, .inl (fun _ => 0))), (53, .inl (0, 7, .inl (fun _ => 0))), (50, .inl (2, 2, .inl (fun _ => 0))), (17, .inl (4, 2, .inr (.inr (.inr (.inr (va_up (va_up (fun _ => none) 0 (some 18)) 1 (some 34))))))), (34, .inr (8, [.ref 35, .ref 36, .ref 37, .int 0, .int (-1), .ref 44, .ref 45, .int 0, .ref 46, .ref 47, .int 0, .ref 48, .ref 49, .int 0])), (49, .inl (0, 12, .inl (fun _ => 0))), (48, .inl (0, 12, .inl (fun _ => 0))), (47, .inl (0, 6, .inl (fun _ => 0))), (46, .inl (0, 6, .inl (fun _ => 0))), (45, .inl (0, 8, .inl (fun _ => 0))), (44, .inl (0, 8, .inl (fun _ => 0))), (43, .inl (0, 0, .inl (fun _ => 0))), (42, .inl (0, 0, .inl (fun _ => 0))), (41, .inl (0, 0, .inl (fun _ => 0))), (40, .inl (0, 0, .inl (fun _ => 0))), (39, .inl (0, 0, .inl (fun _ => 0))), (38, .inl (0, 0, .inl (fun _ => 0))), (37, .inl (5, 6, .inr (.inr (.inr (.inr (fun i => if i < 6 then some (37 + 1 + i) else none)))))), (36, .inl (0, 2, .inl (fun _ => 0))), (35, .inl (0, 5, .inl (fun _ => 0))), (18, .inr (8, [.ref 19, .ref 20, .ref 21, .int 0, .int (-1), .ref 28, .ref 29, .int 0, .ref 30, .ref 31, .int 0, .ref 32, .ref 33, .int 0])), (33, .inl (0, 12, .inl (fun _ => 0))), (32, .inl (0, 12, .inl (fun _ => 0))), (31, .inl (0, 6, .inl (fun _ => 0))), (30, .inl (0, 6, .inl (fun _ => 0))), (29, .inl (0, 8, .inl (fun _ => 0))), (28, .inl (0, 8, .inl (fun _ => 0))), (27, .inl (0, 0, .inl (fun _ => 0))), (26, .inl (0, 0, .inl (fun _ => 0))), (25, .inl (0, 0, .inl (fun _ => 0))), (24, .inl (0, 0, .inl (fun _ => 0))), (23, .inl (0, 0, .inl (fun _ => 0))), (22, .inl (0, 0, .inl (fun _ => 0))), (21, .inl (5, 6, .inr (.inr (.inr (.inr (fun i => if i < 6 then some (21 + 1 + i) else none)))))), (20, .inl (0, 2, .inl (fun _ => 0))), (19, .inl (0, 5, .inl (fun _ => 0))), (1, .inr (8, [.ref 2, .ref 3, .ref 4, .int 0, .int (-1), .ref 11, .ref 12, .int 0, .ref 13, .ref 14, .int 0, .ref 15, .ref 16, .int 0])), (16, .inl (0, 12, .inl (fun _ => 0))), (15, .inl (0, 12, .inl (fun _ => 0))), (14, .inl (0, 6, .inl (fun _ => 0))), (13, .inl (0, 6, .inl (fun _ => 0))), (12, .inl (0, 8, .inl (fun _ => 0))), (11, .inl (0, 8, .inl (fun _ => 0))), (10, .inl (0, 0, .inl (fun _ => 0))), (9, .inl (0, 0, .inl (fun _ => 0))), (8, .inl (0, 0, .inl (fun _ => 0))), (7, .inl (0, 0, .inl (fun _ => 0))), (6, .inl (0, 0, .inl (fun _ => 0))), (5, .inl (0, 0, .inl (fun _ => 0))), (4, .inl (5, 6, .inr (.inr (.inr (.inr (fun i => if i < 6 then some (4 + 1 + i) else none)))))), (3, .inl (0, 2, .inl (fun _ => 0))), (2, .inl (0, 5, .inl (fun _ => 0)))])) := by
  refine JM.of (by decide) rfl (fun _ => rfl) (Nat.le_of_ble_eq_true rfl) ⟨0, rfl⟩ ?_
  refine J_hc0 (J_ls (ls2 := [some (.ref 0)]) rfl ?_)
  refine J_aload_n dX11_init_0 rfl rfl ?_
  refine J_objInit dX11_init_1 (jt1 26 rfl rfl) (jt1 27 rfl rfl) (jt1 28 rfl rfl) (Nat.le_of_ble_eq_true rfl) (Nat.le_of_ble_eq_true rfl) ?_
  refine J_aload_n dX11_init_4 rfl rfl ?_
  refine K_new (nh2 := 2) (ck2 := 1) (sk2 := 14) dX11_init_5 nw_X11_7 (fun _ => rfl) (Nat.le_of_ble_eq_true rfl) (Nat.le_of_ble_eq_true rfl) rfl rfl rfl ?_
  refine J_dup dX11_init_8 rfl ?_
  refine J_callI (st := [.ref 1, .ref 0]) dX11_init_9 ci_X11_9 (c_X8_init_1 rfl) rfl rfl (Nat.le_of_ble_eq_true rfl) ⟨(Nat.le_of_ble_eq_true rfl), (Nat.le_of_ble_eq_true rfl)⟩ ⟨(Nat.le_of_ble_eq_true rfl), (Nat.le_of_ble_eq_true rfl)⟩ (fun r h9 hp => ?_)
  obtain ⟨rfl, rfl⟩ := hp
  refine J_nf (nh2 := 17) (ck2 := 16) (sk2 := 79) (st2 := [.ref 1, .ref 0]) rfl rfl rfl rfl ?_
  refine J_app (L3 := [(1, .inr (8, [.ref 2, .ref 3, .ref 4, .int 0, .int (-1), .ref 11, .ref 12, .int 0, .ref 13, .ref 14, .int 0, .ref 15, .ref 16, .int 0])), (16, .inl (0, 12, .inl (fun _ => 0))), (15, .inl (0, 12, .inl (fun _ => 0))), (14, .inl (0, 6, .inl (fun _ => 0))), (13, .inl (0, 6, .inl (fun _ => 0))), (12, .inl (0, 8, .inl (fun _ => 0))), (11, .inl (0, 8, .inl (fun _ => 0))), (10, .inl (0, 0, .inl (fun _ => 0))), (9, .inl (0, 0, .inl (fun _ => 0))), (8, .inl (0, 0, .inl (fun _ => 0))), (7, .inl (0, 0, .inl (fun _ => 0))), (6, .inl (0, 0, .inl (fun _ => 0))), (5, .inl (0, 0, .inl (fun _ => 0))), (4, .inl (5, 6, .inr (.inr (.inr (.inr (fun i => if i < 6 then some (4 + 1 + i) else none)))))), (3, .inl (0, 2, .inl (fun _ => 0))), (2, .inl (0, 5, .inl (fun _ => 0))), (1, .inr (8, [.null, .null, .null, .int 0, .int 0, .null, .null, .int 0, .null, .null, .int 0, .null, .null, .int 0]))]) rfl ?_
  refine K_putF (fs2 := [.ref 1, .null, .null, .null, .null, .null, .null, .null, .null, .null, .null, .null, .null, .int 0, .int 0, .null, .int 0]) dX11_init_12 rfl fw_X11_10 hk0 (Nat.le_of_ble_eq_true rfl) (fun _ => ⟨rfl, rfl⟩) rfl ?_
  refine J_aload_n dX11_init_15 rfl rfl ?_
  refine J_iconst (v := 2) dX11_init_16 (by decide) ?_
  refine K_anew (t := 4) (N := 2) (nh2 := 18) (ck2 := 17) (sk2 := 81) dX11_init_17 (jt1 29 rfl rfl) rfl (by decide +kernel) (by decide +kernel) (Nat.le_of_ble_eq_true rfl) (Nat.le_of_ble_eq_true rfl) (Nat.le_of_ble_eq_true rfl) rfl rfl rfl ?_
  refine J_dup dX11_init_20 rfl ?_
  refine J_iconst (v := 0) dX11_init_21 (by decide) ?_
  refine K_new (nh2 := 19) (ck2 := 18) (sk2 := 95) dX11_init_22 nw_X11_7 (fun _ => rfl) (Nat.le_of_ble_eq_true rfl) (Nat.le_of_ble_eq_true rfl) rfl rfl rfl ?_
  refine J_dup dX11_init_25 rfl ?_
  refine J_callI (st := [.ref 18, .int 0, .ref 17, .ref 17, .ref 0]) dX11_init_26 ci_X11_9 (c_X8_init_2 rfl) rfl rfl (Nat.le_of_ble_eq_true rfl) ⟨(Nat.le_of_ble_eq_true rfl), (Nat.le_of_ble_eq_true rfl)⟩ ⟨(Nat.le_of_ble_eq_true rfl), (Nat.le_of_ble_eq_true rfl)⟩ (fun r h9 hp => ?_)
  obtain ⟨rfl, rfl⟩ := hp
  refine J_nf (nh2 := 34) (ck2 := 33) (sk2 := 160) (st2 := [.ref 18, .int 0, .ref 17, .ref 17, .ref 0]) rfl rfl rfl rfl ?_
  refine J_app (L3 := [(18, .inr (8, [.ref 19, .ref 20, .ref 21, .int 0, .int (-1), .ref 28, .ref 29, .int 0, .ref 30, .ref 31, .int 0, .ref 32, .ref 33, .int 0])), (33, .inl (0, 12, .inl (fun _ => 0))), (32, .inl (0, 12, .inl (fun _ => 0))), (31, .inl (0, 6, .inl (fun _ => 0))), (30, .inl (0, 6, .inl (fun _ => 0))), (29, .inl (0, 8, .inl (fun _ => 0))), (28, .inl (0, 8, .inl (fun _ => 0))), (27, .inl (0, 0, .inl (fun _ => 0))), (26, .inl (0, 0, .inl (fun _ => 0))), (25, .inl (0, 0, .inl (fun _ => 0))), (24, .inl (0, 0, .inl (fun _ => 0))), (23, .inl (0, 0, .inl (fun _ => 0))), (22, .inl (0, 0, .inl (fun _ => 0))), (21, .inl (5, 6, .inr (.inr (.inr (.inr (fun i => if i < 6 then some (21 + 1 + i) else none)))))), (20, .inl (0, 2, .inl (fun _ => 0))), (19, .inl (0, 5, .inl (fun _ => 0))), (18, .inr (8, [.null, .null, .null, .int 0, .int 0, .null, .null, .int 0, .null, .null, .int 0, .null, .null, .int 0])), (17, .inl (4, 2, .inr (.inr (.inr (.inr (fun _ => none)))))), (0, .inr (11, [.ref 1, .null, .null, .null, .null, .null, .null, .null, .null, .null, .null, .null, .null, .int 0, .int 0, .null, .int 0])), (1, .inr (8, [.ref 2, .ref 3, .ref 4, .int 0, .int (-1), .ref 11, .ref 12, .int 0, .ref 13, .ref 14, .int 0, .ref 15, .ref 16, .int 0])), (16, .inl (0, 12, .inl (fun _ => 0))), (15, .inl (0, 12, .inl (fun _ => 0))), (14, .inl (0, 6, .inl (fun _ => 0))), (13, .inl (0, 6, .inl (fun _ => 0))), (12, .inl (0, 8, .inl (fun _ => 0))), (11, .inl (0, 8, .inl (fun _ => 0))), (10, .inl (0, 0, .inl (fun _ => 0))), (9, .inl (0, 0, .inl (fun _ => 0))), (8, .inl (0, 0, .inl (fun _ => 0))), (7, .inl (0, 0, .inl (fun _ => 0))), (6, .inl (0, 0, .inl (fun _ => 0))), (5, .inl (0, 0, .inl (fun _ => 0))), (4, .inl (5, 6, .inr (.inr (.inr (.inr (fun i => if i < 6 then some (4 + 1 + i) else none)))))), (3, .inl (0, 2, .inl (fun _ => 0))), (2, .inl (0, 5, .inl (fun _ => 0))), (1, .inr (8, [.null, .null, .null, .int 0, .int 0, .null, .null, .int 0, .null, .null, .int 0, .null, .null, .int 0]))]) rfl ?_
  refine K_aastO (ci := 8) (i2 := 0) dX11_init_29 rfl rfl rfl rfl (jin (by decide +kernel)) (by decide +kernel) ?_
  refine J_dup dX11_init_30 rfl ?_
  refine J_iconst (v := 1) dX11_init_31 (by decide) ?_
  refine K_new (nh2 := 35) (ck2 := 34) (sk2 := 174) dX11_init_32 nw_X11_7 (fun _ => rfl) (Nat.le_of_ble_eq_true rfl) (Nat.le_of_ble_eq_true rfl) rfl rfl rfl ?_
  refine J_dup dX11_init_35 rfl ?_
  refine J_callI (st := [.ref 34, .int 1, .ref 17, .ref 17, .ref 0]) dX11_init_36 ci_X11_9 (c_X8_init_3 rfl) rfl rfl (Nat.le_of_ble_eq_true rfl) ⟨(Nat.le_of_ble_eq_true rfl), (Nat.le_of_ble_eq_true rfl)⟩ ⟨(Nat.le_of_ble_eq_true rfl), (Nat.le_of_ble_eq_true rfl)⟩ (fun r h9 hp => ?_)
  obtain ⟨rfl, rfl⟩ := hp
  refine J_nf (nh2 := 50) (ck2 := 49) (sk2 := 239) (st2 := [.ref 34, .int 1, .ref 17, .ref 17, .ref 0]) rfl rfl rfl rfl ?_
  refine J_app (L3 := [(34, .inr (8, [.ref 35, .ref 36, .ref 37, .int 0, .int (-1), .ref 44, .ref 45, .int 0, .ref 46, .ref 47, .int 0, .ref 48, .ref 49, .int 0])), (49, .inl (0, 12, .inl (fun _ => 0))), (48, .inl (0, 12, .inl (fun _ => 0))), (47, .inl (0, 6, .inl (fun _ => 0))), (46, .inl (0, 6, .inl (fun _ => 0))), (45, .inl (0, 8, .inl (fun _ => 0))), (44, .inl (0, 8, .inl (fun _ => 0))), (43, .inl (0, 0, .inl (fun _ => 0))), (42, .inl (0, 0, .inl (fun _ => 0))), (41, .inl (0, 0, .inl (fun _ => 0))), (40, .inl (0, 0, .inl (fun _ => 0))), (39, .inl (0, 0, .inl (fun _ => 0))), (38, .inl (0, 0, .inl (fun _ => 0))), (37, .inl (5, 6, .inr (.inr (.inr (.inr (fun i => if i < 6 then some (37 + 1 + i) else none)))))), (36, .inl (0, 2, .inl (fun _ => 0))), (35, .inl (0, 5, .inl (fun _ => 0))), (34, .inr (8, [.null, .null, .null, .int 0, .int 0, .null, .null, .int 0, .null, .null, .int 0, .null, .null, .int 0])), (17, .inl (4, 2, .inr (.inr (.inr (.inr (va_up (fun _ => none) 0 (some 18))))))), (18, .inr (8, [.ref 19, .ref 20, .ref 21, .int 0, .int (-1), .ref 28, .ref 29, .int 0, .ref 30, .ref 31, .int 0, .ref 32, .ref 33, .int 0])), (33, .inl (0, 12, .inl (fun _ => 0))), (32, .inl (0, 12, .inl (fun _ => 0))), (31, .inl (0, 6, .inl (fun _ => 0))), (30, .inl (0, 6, .inl (fun _ => 0))), (29, .inl (0, 8, .inl (fun _ => 0))), (28, .inl (0, 8, .inl (fun _ => 0))), (27, .inl (0, 0, .inl (fun _ => 0))), (26, .inl (0, 0, .inl (fun _ => 0))), (25, .inl (0, 0, .inl (fun _ => 0))), (24, .inl (0, 0, .inl (fun _ => 0))), (23, .inl (0, 0, .inl (fun _ => 0))), (22, .inl (0, 0, .inl (fun _ => 0))), (21, .inl (5, 6, .inr (.inr (.inr (.inr (fun i => if i < 6 then some (21 + 1 + i) else none)))))), (20, .inl (0, 2, .inl (fun _ => 0))), (19, .inl (0, 5, .inl (fun _ => 0))), (18, .inr (8, [.null, .null, .null, .int 0, .int 0, .null, .null, .int 0, .null, .null, .int 0, .null, .null, .int 0])), (17, .inl (4, 2, .inr (.inr (.inr (.inr (fun _ => none)))))), (0, .inr (11, [.ref 1, .null, .null, .null, .null, .null, .null, .null, .null, .null, .null, .null, .null, .int 0, .int 0, .null, .int 0])), (1, .inr (8, [.ref 2, .ref 3, .ref 4, .int 0, .int (-1), .ref 11, .ref 12, .int 0, .ref 13, .ref 14, .int 0, .ref 15, .ref 16, .int 0])), (16, .inl (0, 12, .inl (fun _ => 0))), (15, .inl (0, 12, .inl (fun _ => 0))), (14, .inl (0, 6, .inl (fun _ => 0))), (13, .inl (0, 6, .inl (fun _ => 0))), (12, .inl (0, 8, .inl (fun _ => 0))), (11, .inl (0, 8, .inl (fun _ => 0))), (10, .inl (0, 0, .inl (fun _ => 0))), (9, .inl (0, 0, .inl (fun _ => 0))), (8, .inl (0, 0, .inl (fun _ => 0))), (7, .inl (0, 0, .inl (fun _ => 0))), (6, .inl (0, 0, .inl (fun _ => 0))), (5, .inl (0, 0, .inl (fun _ => 0))), (4, .inl (5, 6, .inr (.inr (.inr (.inr (fun i => if i < 6 then some (4 + 1 + i) else none)))))), (3, .inl (0, 2, .inl (fun _ => 0))), (2, .inl (0, 5, .inl (fun _ => 0))), (1, .inr (8, [.null, .null, .null, .int 0, .int 0, .null, .null, .int 0, .null, .null, .int 0, .null, .null, .int 0]))]) rfl ?_
  refine K_aastO (ci := 8) (i2 := 1) dX11_init_39 rfl rfl rfl rfl (jin (by decide +kernel)) (by decide +kernel) ?_
  refine K_putF (fs2 := [.ref 1, .ref 17, .null, .null, .null, .null, .null, .null, .null, .null, .null, .null, .null, .int 0, .int 0, .null, .int 0]) dX11_init_40 rfl fw_X11_16 rfl (Nat.le_of_ble_eq_true rfl) (fun _ => ⟨rfl, rfl⟩) rfl ?_
  refine J_aload_n dX11_init_43 rfl rfl ?_
  refine J_iconst (v := 2) dX11_init_44 (by decide) ?_
  refine K_newa (t := 2) (N := 2) (a0 := (2, .inl (fun _ => 0))) (nh2 := 51) (ck2 := 50) (sk2 := 241) dX11_init_45 rfl (jt1 119 rfl rfl) rfl (fun _ _ h9 => h9) (fun _ => rfl) (fun _ => rfl) (by decide +kernel) (by decide +kernel) (Nat.le_of_ble_eq_true rfl) (Nat.le_of_ble_eq_true rfl) (Nat.le_of_ble_eq_true rfl) rfl rfl rfl ?_
  refine K_putF (fs2 := [.ref 1, .ref 17, .ref 50, .null, .null, .null, .null, .null, .null, .null, .null, .null, .null, .int 0, .int 0, .null, .int 0]) dX11_init_47 rfl fw_X11_20 rfl (Nat.le_of_ble_eq_true rfl) (fun _ => ⟨rfl, rfl⟩) rfl ?_
  refine J_aload_n dX11_init_50 rfl rfl ?_
  refine K_new (nh2 := 52) (ck2 := 51) (sk2 := 245) dX11_init_51 nw_X11_24 (fun _ => rfl) (Nat.le_of_ble_eq_true rfl) (Nat.le_of_ble_eq_true rfl) rfl rfl rfl ?_
  refine J_dup dX11_init_54 rfl ?_
  refine J_callI (st := [.ref 51, .ref 0]) dX11_init_55 ci_X11_26 (c_X0_init_1 rfl) rfl rfl (Nat.le_of_ble_eq_true rfl) ⟨(Nat.le_of_ble_eq_true rfl), (Nat.le_of_ble_eq_true rfl)⟩ ⟨(Nat.le_of_ble_eq_true rfl), (Nat.le_of_ble_eq_true rfl)⟩ (fun r h9 hp => ?_)
  obtain ⟨rfl, rfl⟩ := hp
  refine J_nf (nh2 := 54) (ck2 := 53) (sk2 := 1512) (st2 := [.ref 51, .ref 0]) rfl rfl rfl rfl ?_
  refine J_app (L3 := [(51, .inr (0, [.ref 52, .ref 53, .int 0, .int 0])), (53, .inl (0, 7, .inl (fun _ => 0))), (52, .inl (0, 1260, .inl (fun _ => 0))), (51, .inr (0, [.null, .null, .int 0, .int 0])), (0, .inr (11, [.ref 1, .ref 17, .ref 50, .null, .null, .null, .null, .null, .null, .null, .null, .null, .null, .int 0, .int 0, .null, .int 0])), (50, .inl (2, 2, .inl (fun _ => 0))), (0, .inr (11, [.ref 1, .ref 17, .null, .null, .null, .null, .null, .null, .null, .null, .null, .null, .null, .int 0, .int 0, .null, .int 0])), (17, .inl (4, 2, .inr (.inr (.inr (.inr (va_up (va_up (fun _ => none) 0 (some 18)) 1 (some 34))))))), (34, .inr (8, [.ref 35, .ref 36, .ref 37, .int 0, .int (-1), .ref 44, .ref 45, .int 0, .ref 46, .ref 47, .int 0, .ref 48, .ref 49, .int 0])), (49, .inl (0, 12, .inl (fun _ => 0))), (48, .inl (0, 12, .inl (fun _ => 0))), (47, .inl (0, 6, .inl (fun _ => 0))), (46, .inl (0, 6, .inl (fun _ => 0))), (45, .inl (0, 8, .inl (fun _ => 0))), (44, .inl (0, 8, .inl (fun _ => 0))), (43, .inl (0, 0, .inl (fun _ => 0))), (42, .inl (0, 0, .inl (fun _ => 0))), (41, .inl (0, 0, .inl (fun _ => 0))), (40, .inl (0, 0, .inl (fun _ => 0))), (39, .inl (0, 0, .inl (fun _ => 0))), (38, .inl (0, 0, .inl (fun _ => 0))), (37, .inl (5, 6, .inr (.inr (.inr (.inr (fun i => if i < 6 then some (37 + 1 + i) else none)))))), (36, .inl (0, 2, .inl (fun _ => 0))), (35, .inl (0, 5, .inl (fun _ => 0))), (34, .inr (8, [.null, .null, .null, .int 0, .int 0, .null, .null, .int 0, .null, .null, .int 0, .null, .null, .int 0])), (17, .inl (4, 2, .inr (.inr (.inr (.inr (va_up (fun _ => none) 0 (some 18))))))), (18, .inr (8, [.ref 19, .ref 20, .ref 21, .int 0, .int (-1), .ref 28, .ref 29, .int 0, .ref 30, .ref 31, .int 0, .ref 32, .ref 33, .int 0])), (33, .inl (0, 12, .inl (fun _ => 0))), (32, .inl (0, 12, .inl (fun _ => 0))), (31, .inl (0, 6, .inl (fun _ => 0))), (30, .inl (0, 6, .inl (fun _ => 0))), (29, .inl (0, 8, .inl (fun _ => 0))), (28, .inl (0, 8, .inl (fun _ => 0))), (27, .inl (0, 0, .inl (fun _ => 0))), (26, .inl (0, 0, .inl (fun _ => 0))), (25, .inl (0, 0, .inl (fun _ => 0))), (24, .inl (0, 0, .inl (fun _ => 0))), (23, .inl (0, 0, .inl (fun _ => 0))), (22, .inl (0, 0, .inl (fun _ => 0))), (21, .inl (5, 6, .inr (.inr (.inr (.inr (fun i => if i < 6 then some (21 + 1 + i) else none)))))), (20, .inl (0, 2, .inl (fun _ => 0))), (19, .inl (0, 5, .inl (fun _ => 0))), (18, .inr (8, [.null, .null, .null, .int 0, .int 0, .null, .null, .int 0, .null, .null, .int 0, .null, .null, .int 0])), (17, .inl (4, 2, .inr (.inr (.inr (.inr (fun _ => none)))))), (0, .inr (11, [.ref 1, .null, .null, .null, .null, .null, .null, .null, .null, .null, .null, .null, .null, .int 0, .int 0, .null, .int 0])), (1, .inr (8, [.ref 2, .ref 3, .ref 4, .int 0, .int (-1), .ref 11, .ref 12, .int 0, .ref 13, .ref 14, .int 0, .ref 15, .ref 16, .int 0])), (16, .inl (0, 12, .inl (fun _ => 0))), (15, .inl (0, 12, .inl (fun _ => 0))), (14, .inl (0, 6, .inl (fun _ => 0))), (13, .inl (0, 6, .inl (fun _ => 0))), (12, .inl (0, 8, .inl (fun _ => 0))), (11, .inl (0, 8, .inl (fun _ => 0))), (10, .inl (0, 0, .inl (fun _ => 0))), (9, .inl (0, 0, .inl (fun _ => 0))), (8, .inl (0, 0, .inl (fun _ => 0))), (7, .inl (0, 0, .inl (fun _ => 0))), (6, .inl (0, 0, .inl (fun _ => 0))), (5, .inl (0, 0, .inl (fun _ => 0))), (4, .inl (5, 6, .inr (.inr (.inr (.inr (fun i => if i < 6 then some (4 + 1 + i) else none)))))), (3, .inl (0, 2, .inl (fun _ => 0))), (2, .inl (0, 5, .inl (fun _ => 0))), (1, .inr (8, [.null, .null, .null, .int 0, .int 0, .null, .null, .int 0, .null, .null, .int 0, .null, .null, .int 0]))]) rfl ?_
  refine K_putF (fs2 := [.ref 1, .ref 17, .ref 50, .ref 51, .null, .null, .null, .null, .null, .null, .null, .null, .null, .int 0, .int 0, .null, .int 0]) dX11_init_58 rfl fw_X11_27 rfl (Nat.le_of_ble_eq_true rfl) (fun _ => ⟨rfl, rfl⟩) rfl ?_
  refine J_aload_n dX11_init_61 rfl rfl ?_
  refine K_new (nh2 := 55) (ck2 := 54) (sk2 := 1522) dX11_init_62 nw_X11_31 (fun _ => rfl) (Nat.le_of_ble_eq_true rfl) (Nat.le_of_ble_eq_true rfl) rfl rfl rfl ?_
  refine J_dup dX11_init_65 rfl ?_
  refine J_callI (st := [.ref 54, .ref 0]) dX11_init_66 ci_X11_33 (c_X5_init_1 rfl) rfl rfl (Nat.le_of_ble_eq_true rfl) ⟨(Nat.le_of_ble_eq_true rfl), (Nat.le_of_ble_eq_true rfl)⟩ ⟨(Nat.le_of_ble_eq_true rfl), (Nat.le_of_ble_eq_true rfl)⟩ (fun r h9 hp => ?_)
  obtain ⟨rfl, rfl⟩ := hp
  refine J_nf (nh2 := 57) (ck2 := 56) (sk2 := 2334) (st2 := [.ref 54, .ref 0]) rfl rfl rfl rfl ?_
  refine J_app (L3 := [(54, .inr (5, [.ref 55, .int 0, .int 17, .int 0, .int 0, .int 0, .int 0, .int (-1), .ref 56, .int 0])), (56, .inl (0, 412, .inl (fun _ => 0))), (55, .inl (0, 400, .inl (fun _ => 0))), (54, .inr (5, [.null, .int 0, .int 0, .int 0, .int 0, .int 0, .int 0, .int 0, .null, .int 0])), (0, .inr (11, [.ref 1, .ref 17, .ref 50, .ref 51, .null, .null, .null, .null, .null, .null, .null, .null, .null, .int 0, .int 0, .null, .int 0])), (51, .inr (0, [.ref 52, .ref 53, .int 0, .int 0])), (53, .inl (0, 7, .inl (fun _ => 0))), (52, .inl (0, 1260, .inl (fun _ => 0))), (51, .inr (0, [.null, .null, .int 0, .int 0])), (0, .inr (11, [.ref 1, .ref 17, .ref 50, .null, .null, .null, .null, .null, .null, .null, .null, .null, .null, .int 0, .int 0, .null, .int 0])), (50, .inl (2, 2, .inl (fun _ => 0))), (0, .inr (11, [.ref 1, .ref 17, .null, .null, .null, .null, .null, .null, .null, .null, .null, .null, .null, .int 0, .int 0, .null, .int 0])), (17, .inl (4, 2, .inr (.inr (.inr (.inr (va_up (va_up (fun _ => none) 0 (some 18)) 1 (some 34))))))), (34, .inr (8, [.ref 35, .ref 36, .ref 37, .int 0, .int (-1), .ref 44, .ref 45, .int 0, .ref 46, .ref 47, .int 0, .ref 48, .ref 49, .int 0])), (49, .inl (0, 12, .inl (fun _ => 0))), (48, .inl (0, 12, .inl (fun _ => 0))), (47, .inl (0, 6, .inl (fun _ => 0))), (46, .inl (0, 6, .inl (fun _ => 0))), (45, .inl (0, 8, .inl (fun _ => 0))), (44, .inl (0, 8, .inl (fun _ => 0))), (43, .inl (0, 0, .inl (fun _ => 0))), (42, .inl (0, 0, .inl (fun _ => 0))), (41, .inl (0, 0, .inl (fun _ => 0))), (40, .inl (0, 0, .inl (fun _ => 0))), (39, .inl (0, 0, .inl (fun _ => 0))), (38, .inl (0, 0, .inl (fun _ => 0))), (37, .inl (5, 6, .inr (.inr (.inr (.inr (fun i => if i < 6 then some (37 + 1 + i) else none)))))), (36, .inl (0, 2, .inl (fun _ => 0))), (35, .inl (0, 5, .inl (fun _ => 0))), (34, .inr (8, [.null, .null, .null, .int 0, .int 0, .null, .null, .int 0, .null, .null, .int 0, .null, .null, .int 0])), (17, .inl (4, 2, .inr (.inr (.inr (.inr (va_up (fun _ => none) 0 (some 18))))))), (18, .inr (8, [.ref 19, .ref 20, .ref 21, .int 0, .int (-1), .ref 28, .ref 29, .int 0, .ref 30, .ref 31, .int 0, .ref 32, .ref 33, .int 0])), (33, .inl (0, 12, .inl (fun _ => 0))), (32, .inl (0, 12, .inl (fun _ => 0))), (31, .inl (0, 6, .inl (fun _ => 0))), (30, .inl (0, 6, .inl (fun _ => 0))), (29, .inl (0, 8, .inl (fun _ => 0))), (28, .inl (0, 8, .inl (fun _ => 0))), (27, .inl (0, 0, .inl (fun _ => 0))), (26, .inl (0, 0, .inl (fun _ => 0))), (25, .inl (0, 0, .inl (fun _ => 0))), (24, .inl (0, 0, .inl (fun _ => 0))), (23, .inl (0, 0, .inl (fun _ => 0))), (22, .inl (0, 0, .inl (fun _ => 0))), (21, .inl (5, 6, .inr (.inr (.inr (.inr (fun i => if i < 6 then some (21 + 1 + i) else none)))))), (20, .inl (0, 2, .inl (fun _ => 0))), (19, .inl (0, 5, .inl (fun _ => 0))), (18, .inr (8, [.null, .null, .null, .int 0, .int 0, .null, .null, .int 0, .null, .null, .int 0, .null, .null, .int 0])), (17, .inl (4, 2, .inr (.inr (.inr (.inr (fun _ => none)))))), (0, .inr (11, [.ref 1, .null, .null, .null, .null, .null, .null, .null, .null, .null, .null, .null, .null, .int 0, .int 0, .null, .int 0])), (1, .inr (8, [.ref 2, .ref 3, .ref 4, .int 0, .int (-1), .ref 11, .ref 12, .int 0, .ref 13, .ref 14, .int 0, .ref 15, .ref 16, .int 0])), (16, .inl (0, 12, .inl (fun _ => 0))), (15, .inl (0, 12, .inl (fun _ => 0))), (14, .inl (0, 6, .inl (fun _ => 0))), (13, .inl (0, 6, .inl (fun _ => 0))), (12, .inl (0, 8, .inl (fun _ => 0))), (11, .inl (0, 8, .inl (fun _ => 0))), (10, .inl (0, 0, .inl (fun _ => 0))), (9, .inl (0, 0, .inl (fun _ => 0))), (8, .inl (0, 0, .inl (fun _ => 0))), (7, .inl (0, 0, .inl (fun _ => 0))), (6, .inl (0, 0, .inl (fun _ => 0))), (5, .inl (0, 0, .inl (fun _ => 0))), (4, .inl (5, 6, .inr (.inr (.inr (.inr (fun i => if i < 6 then some (4 + 1 + i) else none)))))), (3, .inl (0, 2, .inl (fun _ => 0))), (2, .inl (0, 5, .inl (fun _ => 0))), (1, .inr (8, [.null, .null, .null, .int 0, .int 0, .null, .null, .int 0, .null, .null, .int 0, .null, .null, .int 0]))]) rfl ?_
  refine K_putF (fs2 := [.ref 1, .ref 17, .ref 50, .ref 51, .ref 54, .null, .null, .null, .null, .null, .null, .null, .null, .int 0, .int 0, .null, .int 0]) dX11_init_69 rfl fw_X11_34 rfl (Nat.le_of_ble_eq_true rfl) (fun _ => ⟨rfl, rfl⟩) rfl ?_
  refine J_aload_n dX11_init_72 rfl rfl ?_
  refine K_new (nh2 := 58) (ck2 := 57) (sk2 := 2344) dX11_init_73 nw_X11_38 (fun _ => rfl) (Nat.le_of_ble_eq_true rfl) (Nat.le_of_ble_eq_true rfl) rfl rfl rfl ?_
  refine J_dup dX11_init_76 rfl ?_
  refine J_aload_n dX11_init_77 rfl rfl ?_
  refine J_get (v := .ref 1) dX11_init_78 fl_X11_10 rfl rfl ?_
  refine J_aload_n dX11_init_81 rfl rfl ?_
  refine J_get (v := .ref 51) dX11_init_82 fl_X11_27 rfl rfl ?_
  refine J_callI (st := [.ref 57, .ref 0]) dX11_init_85 ci_X11_40 (c_X9_init_1 rfl) rfl rfl (Nat.le_of_ble_eq_true rfl) ⟨(Nat.le_of_ble_eq_true rfl), (Nat.le_of_ble_eq_true rfl)⟩ ⟨(Nat.le_of_ble_eq_true rfl), (Nat.le_of_ble_eq_true rfl)⟩ (fun r h9 hp => ?_)
  obtain ⟨rfl, rfl⟩ := hp
  refine J_nf (nh2 := 65) (ck2 := 64) (sk2 := 6309) (st2 := [.ref 57, .ref 0]) rfl rfl rfl rfl ?_
  refine J_app (L3 := [(57, .inr (9, [.ref 1, .ref 51, .ref 58, .ref 61, .ref 62, .ref 63, .ref 64, .int 0, .int 1, .int 1])), (64, .inl (0, 2625, .inl (fun _ => 0))), (63, .inl (0, 0, .inl (fun _ => 0))), (62, .inl (0, 1260, .inl (fun _ => 0))), (61, .inl (0, 0, .inl (fun _ => 0))), (58, .inr (1, [.ref 59, .ref 60, .int 0, .int 0, .int 0, .int 0, .int 0, .int 1])), (60, .inl (1, 64, .inr (.inl (fun _ => 0)))), (59, .inl (0, 8, .inl (fun _ => 0))), (57, .inr (9, [.null, .null, .null, .null, .null, .null, .null, .int 0, .int 0, .int 0])), (0, .inr (11, [.ref 1, .ref 17, .ref 50, .ref 51, .ref 54, .null, .null, .null, .null, .null, .null, .null, .null, .int 0, .int 0, .null, .int 0])), (54, .inr (5, [.ref 55, .int 0, .int 17, .int 0, .int 0, .int 0, .int 0, .int (-1), .ref 56, .int 0])), (56, .inl (0, 412, .inl (fun _ => 0))), (55, .inl (0, 400, .inl (fun _ => 0))), (54, .inr (5, [.null, .int 0, .int 0, .int 0, .int 0, .int 0, .int 0, .int 0, .null, .int 0])), (0, .inr (11, [.ref 1, .ref 17, .ref 50, .ref 51, .null, .null, .null, .null, .null, .null, .null, .null, .null, .int 0, .int 0, .null, .int 0])), (51, .inr (0, [.ref 52, .ref 53, .int 0, .int 0])), (53, .inl (0, 7, .inl (fun _ => 0))), (52, .inl (0, 1260, .inl (fun _ => 0))), (51, .inr (0, [.null, .null, .int 0, .int 0])), (0, .inr (11, [.ref 1, .ref 17, .ref 50, .null, .null, .null, .null, .null, .null, .null, .null, .null, .null, .int 0, .int 0, .null, .int 0])), (50, .inl (2, 2, .inl (fun _ => 0))), (0, .inr (11, [.ref 1, .ref 17, .null, .null, .null, .null, .null, .null, .null, .null, .null, .null, .null, .int 0, .int 0, .null, .int 0])), (17, .inl (4, 2, .inr (.inr (.inr (.inr (va_up (va_up (fun _ => none) 0 (some 18)) 1 (some 34))))))), (34, .inr (8, [.ref 35, .ref 36, .ref 37, .int 0, .int (-1), .ref 44, .ref 45, .int 0, .ref 46, .ref 47, .int 0, .ref 48, .ref 49, .int 0])), (49, .inl (0, 12, .inl (fun _ => 0))), (48, .inl (0, 12, .inl (fun _ => 0))), (47, .inl (0, 6, .inl (fun _ => 0))), (46, .inl (0, 6, .inl (fun _ => 0))), (45, .inl (0, 8, .inl (fun _ => 0))), (44, .inl (0, 8, .inl (fun _ => 0))), (43, .inl (0, 0, .inl (fun _ => 0))), (42, .inl (0, 0, .inl (fun _ => 0))), (41, .inl (0, 0, .inl (fun _ => 0))), (40, .inl (0, 0, .inl (fun _ => 0))), (39, .inl (0, 0, .inl (fun _ => 0))), (38, .inl (0, 0, .inl (fun _ => 0))), (37, .inl (5, 6, .inr (.inr (.inr (.inr (fun i => if i < 6 then some (37 + 1 + i) else none)))))), (36, .inl (0, 2, .inl (fun _ => 0))), (35, .inl (0, 5, .inl (fun _ => 0))), (34, .inr (8, [.null, .null, .null, .int 0, .int 0, .null, .null, .int 0, .null, .null, .int 0, .null, .null, .int 0])), (17, .inl (4, 2, .inr (.inr (.inr (.inr (va_up (fun _ => none) 0 (some 18))))))), (18, .inr (8, [.ref 19, .ref 20, .ref 21, .int 0, .int (-1), .ref 28, .ref 29, .int 0, .ref 30, .ref 31, .int 0, .ref 32, .ref 33, .int 0])), (33, .inl (0, 12, .inl (fun _ => 0))), (32, .inl (0, 12, .inl (fun _ => 0))), (31, .inl (0, 6, .inl (fun _ => 0))), (30, .inl (0, 6, .inl (fun _ => 0))), (29, .inl (0, 8, .inl (fun _ => 0))), (28, .inl (0, 8, .inl (fun _ => 0))), (27, .inl (0, 0, .inl (fun _ => 0))), (26, .inl (0, 0, .inl (fun _ => 0))), (25, .inl (0, 0, .inl (fun _ => 0))), (24, .inl (0, 0, .inl (fun _ => 0))), (23, .inl (0, 0, .inl (fun _ => 0))), (22, .inl (0, 0, .inl (fun _ => 0))), (21, .inl (5, 6, .inr (.inr (.inr (.inr (fun i => if i < 6 then some (21 + 1 + i) else none)))))), (20, .inl (0, 2, .inl (fun _ => 0))), (19, .inl (0, 5, .inl (fun _ => 0))), (18, .inr (8, [.null, .null, .null, .int 0, .int 0, .null, .null, .int 0, .null, .null, .int 0, .null, .null, .int 0])), (17, .inl (4, 2, .inr (.inr (.inr (.inr (fun _ => none)))))), (0, .inr (11, [.ref 1, .null, .null, .null, .null, .null, .null, .null, .null, .null, .null, .null, .null, .int 0, .int 0, .null, .int 0])), (1, .inr (8, [.ref 2, .ref 3, .ref 4, .int 0, .int (-1), .ref 11, .ref 12, .int 0, .ref 13, .ref 14, .int 0, .ref 15, .ref 16, .int 0])), (16, .inl (0, 12, .inl (fun _ => 0))), (15, .inl (0, 12, .inl (fun _ => 0))), (14, .inl (0, 6, .inl (fun _ => 0))), (13, .inl (0, 6, .inl (fun _ => 0))), (12, .inl (0, 8, .inl (fun _ => 0))), (11, .inl (0, 8, .inl (fun _ => 0))), (10, .inl (0, 0, .inl (fun _ => 0))), (9, .inl (0, 0, .inl (fun _ => 0))), (8, .inl (0, 0, .inl (fun _ => 0))), (7, .inl (0, 0, .inl (fun _ => 0))), (6, .inl (0, 0, .inl (fun _ => 0))), (5, .inl (0, 0, .inl (fun _ => 0))), (4, .inl (5, 6, .inr (.inr (.inr (.inr (fun i => if i < 6 then some (4 + 1 + i) else none)))))), (3, .inl (0, 2, .inl (fun _ => 0))), (2, .inl (0, 5, .inl (fun _ => 0))), (1, .inr (8, [.null, .null, .null, .int 0, .int 0, .null, .null, .int 0, .null, .null, .int 0, .null, .null, .int 0]))]) rfl ?_
  refine K_putF (fs2 := [.ref 1, .ref 17, .ref 50, .ref 51, .ref 54, .ref 57, .null, .null, .null, .null, .null, .null, .null, .int 0, .int 0, .null, .int 0]) dX11_init_88 rfl fw_X11_43 rfl (Nat.le_of_ble_eq_true rfl) (fun _ => ⟨rfl, rfl⟩) rfl ?_
  refine J_aload_n dX11_init_91 rfl rfl ?_
  refine K_new (nh2 := 66) (ck2 := 65) (sk2 := 6326) dX11_init_92 nw_X11_47 (fun _ => rfl) (Nat.le_of_ble_eq_true rfl) (Nat.le_of_ble_eq_true rfl) rfl rfl rfl ?_
  refine J_dup dX11_init_95 rfl ?_
  refine J_aload_n dX11_init_96 rfl rfl ?_
  refine J_get (v := .ref 51) dX11_init_97 fl_X11_27 rfl rfl ?_
  refine J_aload_n dX11_init_100 rfl rfl ?_
  refine J_get (v := .ref 57) dX11_init_101 fl_X11_43 rfl rfl ?_
  refine J_callI (st := [.ref 65, .ref 0]) dX11_init_104 ci_X11_49 (c_X10_init_1 rfl) rfl rfl (Nat.le_of_ble_eq_true rfl) ⟨(Nat.le_of_ble_eq_true rfl), (Nat.le_of_ble_eq_true rfl)⟩ ⟨(Nat.le_of_ble_eq_true rfl), (Nat.le_of_ble_eq_true rfl)⟩ (fun r h9 hp => ?_)
  obtain ⟨rfl, rfl⟩ := hp
  refine J_nf (nh2 := 75) (ck2 := 74) (sk2 := 16506) (st2 := [.ref 65, .ref 0]) rfl rfl rfl rfl ?_
  refine J_app (L3 := [(65, .inr (10, [.ref 51, .ref 57, .ref 66, .ref 67, .ref 68, .int 0, .int (-1), .int (-1), .ref 69, .ref 70, .ref 71, .ref 72, .int 0, .int (-1), .int (-1), .ref 73, .ref 74])), (74, .inl (1, 1260, .inr (.inl (fun _ => 0)))), (73, .inl (1, 1260, .inr (.inl (fun _ => 0)))), (72, .inl (0, 1260, .inl (fun _ => 0))), (71, .inl (0, 1260, .inl (fun _ => 0))), (70, .inl (0, 100, .inl (fun _ => 0))), (69, .inl (0, 1260, .inl (fun _ => 0))), (68, .inl (0, 1260, .inl (fun _ => 0))), (67, .inl (0, 1260, .inl (fun _ => 0))), (66, .inl (0, 1260, .inl (fun _ => 0))), (65, .inr (10, [.null, .null, .null, .null, .null, .int 0, .int 0, .int 0, .null, .null, .null, .null, .int 0, .int 0, .int 0, .null, .null])), (0, .inr (11, [.ref 1, .ref 17, .ref 50, .ref 51, .ref 54, .ref 57, .null, .null, .null, .null, .null, .null, .null, .int 0, .int 0, .null, .int 0])), (57, .inr (9, [.ref 1, .ref 51, .ref 58, .ref 61, .ref 62, .ref 63, .ref 64, .int 0, .int 1, .int 1])), (64, .inl (0, 2625, .inl (fun _ => 0))), (63, .inl (0, 0, .inl (fun _ => 0))), (62, .inl (0, 1260, .inl (fun _ => 0))), (61, .inl (0, 0, .inl (fun _ => 0))), (58, .inr (1, [.ref 59, .ref 60, .int 0, .int 0, .int 0, .int 0, .int 0, .int 1])), (60, .inl (1, 64, .inr (.inl (fun _ => 0)))), (59, .inl (0, 8, .inl (fun _ => 0))), (57, .inr (9, [.null, .null, .null, .null, .null, .null, .null, .int 0, .int 0, .int 0])), (0, .inr (11, [.ref 1, .ref 17, .ref 50, .ref 51, .ref 54, .null, .null, .null, .null, .null, .null, .null, .null, .int 0, .int 0, .null, .int 0])), (54, .inr (5, [.ref 55, .int 0, .int 17, .int 0, .int 0, .int 0, .int 0, .int (-1), .ref 56, .int 0])), (56, .inl (0, 412, .inl (fun _ => 0))), (55, .inl (0, 400, .inl (fun _ => 0))), (54, .inr (5, [.null, .int 0, .int 0, .int 0, .int 0, .int 0, .int 0, .int 0, .null, .int 0])), (0, .inr (11, [.ref 1, .ref 17, .ref 50, .ref 51, .null, .null, .null, .null, .null, .null, .null, .null, .null, .int 0, .int 0, .null, .int 0])), (51, .inr (0, [.ref 52, .ref 53, .int 0, .int 0])), (53, .inl (0, 7, .inl (fun _ => 0))), (52, .inl (0, 1260, .inl (fun _ => 0))), (51, .inr (0, [.null, .null, .int 0, .int 0])), (0, .inr (11, [.ref 1, .ref 17, .ref 50, .null, .null, .null, .null, .null, .null, .null, .null, .null, .null, .int 0, .int 0, .null, .int 0])), (50, .inl (2, 2, .inl (fun _ => 0))), (0, .inr (11, [.ref 1, .ref 17, .null, .null, .null, .null, .null, .null, .null, .null, .null, .null, .null, .int 0, .int 0, .null, .int 0])), (17, .inl (4, 2, .inr (.inr (.inr (.inr (va_up (va_up (fun _ => none) 0 (some 18)) 1 (some 34))))))), (34, .inr (8, [.ref 35, .ref 36, .ref 37, .int 0, .int (-1), .ref 44, .ref 45, .int 0, .ref 46, .ref 47, .int 0, .ref 48, .ref 49, .int 0])), (49, .inl (0, 12, .inl (fun _ => 0))), (48, .inl (0, 12, .inl (fun _ => 0))), (47, .inl (0, 6, .inl (fun _ => 0))), (46, .inl (0, 6, .inl (fun _ => 0))), (45, .inl (0, 8, .inl (fun _ => 0))), (44, .inl (0, 8, .inl (fun _ => 0))), (43, .inl (0, 0, .inl (fun _ => 0))), (42, .inl (0, 0, .inl (fun _ => 0))), (41, .inl (0, 0, .inl (fun _ => 0))), (40, .inl (0, 0, .inl (fun _ => 0))), (39, .inl (0, 0, .inl (fun _ => 0))), (38, .inl (0, 0, .inl (fun _ => 0))), (37, .inl (5, 6, .inr (.inr (.inr (.inr (fun i => if i < 6 then some (37 + 1 + i) else none)))))), (36, .inl (0, 2, .inl (fun _ => 0))), (35, .inl (0, 5, .inl (fun _ => 0))), (34, .inr (8, [.null, .null, .null, .int 0, .int 0, .null, .null, .int 0, .null, .null, .int 0, .null, .null, .int 0])), (17, .inl (4, 2, .inr (.inr (.inr (.inr (va_up (fun _ => none) 0 (some 18))))))), (18, .inr (8, [.ref 19, .ref 20, .ref 21, .int 0, .int (-1), .ref 28, .ref 29, .int 0, .ref 30, .ref 31, .int 0, .ref 32, .ref 33, .int 0])), (33, .inl (0, 12, .inl (fun _ => 0))), (32, .inl (0, 12, .inl (fun _ => 0))), (31, .inl (0, 6, .inl (fun _ => 0))), (30, .inl (0, 6, .inl (fun _ => 0))), (29, .inl (0, 8, .inl (fun _ => 0))), (28, .inl (0, 8, .inl (fun _ => 0))), (27, .inl (0, 0, .inl (fun _ => 0))), (26, .inl (0, 0, .inl (fun _ => 0))), (25, .inl (0, 0, .inl (fun _ => 0))), (24, .inl (0, 0, .inl (fun _ => 0))), (23, .inl (0, 0, .inl (fun _ => 0))), (22, .inl (0, 0, .inl (fun _ => 0))), (21, .inl (5, 6, .inr (.inr (.inr (.inr (fun i => if i < 6 then some (21 + 1 + i) else none)))))), (20, .inl (0, 2, .inl (fun _ => 0))), (19, .inl (0, 5, .inl (fun _ => 0))), (18, .inr (8, [.null, .null, .null, .int 0, .int 0, .null, .null, .int 0, .null, .null, .int 0, .null, .null, .int 0])), (17, .inl (4, 2, .inr (.inr (.inr (.inr (fun _ => none)))))), (0, .inr (11, [.ref 1, .null, .null, .null, .null, .null, .null, .null, .null, .null, .null, .null, .null, .int 0, .int 0, .null, .int 0])), (1, .inr (8, [.ref 2, .ref 3, .ref 4, .int 0, .int (-1), .ref 11, .ref 12, .int 0, .ref 13, .ref 14, .int 0, .ref 15, .ref 16, .int 0])), (16, .inl (0, 12, .inl (fun _ => 0))), (15, .inl (0, 12, .inl (fun _ => 0))), (14, .inl (0, 6, .inl (fun _ => 0))), (13, .inl (0, 6, .inl (fun _ => 0))), (12, .inl (0, 8, .inl (fun _ => 0))), (11, .inl (0, 8, .inl (fun _ => 0))), (10, .inl (0, 0, .inl (fun _ => 0))), (9, .inl (0, 0, .inl (fun _ => 0))), (8, .inl (0, 0, .inl (fun _ => 0))), (7, .inl (0, 0, .inl (fun _ => 0))), (6, .inl (0, 0, .inl (fun _ => 0))), (5, .inl (0, 0, .inl (fun _ => 0))), (4, .inl (5, 6, .inr (.inr (.inr (.inr (fun i => if i < 6 then some (4 + 1 + i) else none)))))), (3, .inl (0, 2, .inl (fun _ => 0))), (2, .inl (0, 5, .inl (fun _ => 0))), (1, .inr (8, [.null, .null, .null, .int 0, .int 0, .null, .null, .int 0, .null, .null, .int 0, .null, .null, .int 0]))]) rfl ?_
  refine K_putF (fs2 := [.ref 1, .ref 17, .ref 50, .ref 51, .ref 54, .ref 57, .ref 65, .null, .null, .null, .null, .null, .null, .int 0, .int 0, .null, .int 0]) dX11_init_107 rfl fw_X11_52 rfl (Nat.le_of_ble_eq_true rfl) (fun _ => ⟨rfl, rfl⟩) rfl ?_
  refine J_aload_n dX11_init_110 rfl rfl ?_
  refine K_new (nh2 := 76) (ck2 := 75) (sk2 := 16514) dX11_init_111 nw_X11_56 (fun _ => rfl) (Nat.le_of_ble_eq_true rfl) (Nat.le_of_ble_eq_true rfl) rfl rfl rfl ?_
  refine J_dup dX11_init_114 rfl ?_
  refine J_aload_n dX11_init_115 rfl rfl ?_
  refine J_get (v := .ref 51) dX11_init_116 fl_X11_27 rfl rfl ?_
  refine J_aload_n dX11_init_119 rfl rfl ?_
  refine J_get (v := .ref 57) dX11_init_120 fl_X11_43 rfl rfl ?_
  refine J_callI (st := [.ref 75, .ref 0]) dX11_init_123 ci_X11_58 (c_X3_init_1 rfl) rfl rfl (Nat.le_of_ble_eq_true rfl) ⟨(Nat.le_of_ble_eq_true rfl), (Nat.le_of_ble_eq_true rfl)⟩ ⟨(Nat.le_of_ble_eq_true rfl), (Nat.le_of_ble_eq_true rfl)⟩ (fun r h9 hp => ?_)
  obtain ⟨rfl, rfl⟩ := hp
  refine J_nf (nh2 := 81) (ck2 := 80) (sk2 := 20295) (st2 := [.ref 75, .ref 0]) rfl rfl rfl rfl ?_
  refine J_app (L3 := [(75, .inr (3, [.ref 51, .ref 57, .ref 76, .ref 77, .ref 78, .ref 79, .ref 80, .int 0])), (80, .inl (0, 1260, .inl (fun _ => 0))), (79, .inl (0, 1260, .inl (fun _ => 0))), (78, .inl (0, 1261, .inl (fun _ => 0))), (77, .inl (0, 0, .inl (fun _ => 0))), (76, .inl (0, 0, .inl (fun _ => 0))), (75, .inr (3, [.null, .null, .null, .null, .null, .null, .null, .int 0])), (0, .inr (11, [.ref 1, .ref 17, .ref 50, .ref 51, .ref 54, .ref 57, .ref 65, .null, .null, .null, .null, .null, .null, .int 0, .int 0, .null, .int 0])), (65, .inr (10, [.ref 51, .ref 57, .ref 66, .ref 67, .ref 68, .int 0, .int (-1), .int (-1), .ref 69, .ref 70, .ref 71, .ref 72, .int 0, .int (-1), .int (-1), .ref 73, .ref 74])), (74, .inl (1, 1260, .inr (.inl (fun _ => 0)))), (73, .inl (1, 1260, .inr (.inl (fun _ => 0)))), (72, .inl (0, 1260, .inl (fun _ => 0))), (71, .inl (0, 1260, .inl (fun _ => 0))), (70, .inl (0, 100, .inl (fun _ => 0))), (69, .inl (0, 1260, .inl (fun _ => 0))), (68, .inl (0, 1260, .inl (fun _ => 0))), (67, .inl (0, 1260, .inl (fun _ => 0))), (66, .inl (0, 1260, .inl (fun _ => 0))), (65, .inr (10, [.null, .null, .null, .null, .null, .int 0, .int 0, .int 0, .null, .null, .null, .null, .int 0, .int 0, .int 0, .null, .null])), (0, .inr (11, [.ref 1, .ref 17, .ref 50, .ref 51, .ref 54, .ref 57, .null, .null, .null, .null, .null, .null, .null, .int 0, .int 0, .null, .int 0])), (57, .inr (9, [.ref 1, .ref 51, .ref 58, .ref 61, .ref 62, .ref 63, .ref 64, .int 0, .int 1, .int 1])), (64, .inl (0, 2625, .inl (fun _ => 0))), (63, .inl (0, 0, .inl (fun _ => 0))), (62, .inl (0, 1260, .inl (fun _ => 0))), (61, .inl (0, 0, .inl (fun _ => 0))), (58, .inr (1, [.ref 59, .ref 60, .int 0, .int 0, .int 0, .int 0, .int 0, .int 1])), (60, .inl (1, 64, .inr (.inl (fun _ => 0)))), (59, .inl (0, 8, .inl (fun _ => 0))), (57, .inr (9, [.null, .null, .null, .null, .null, .null, .null, .int 0, .int 0, .int 0])), (0, .inr (11, [.ref 1, .ref 17, .ref 50, .ref 51, .ref 54, .null, .null, .null, .null, .null, .null, .null, .null, .int 0, .int 0, .null, .int 0])), (54, .inr (5, [.ref 55, .int 0, .int 17, .int 0, .int 0, .int 0, .int 0, .int (-1), .ref 56, .int 0])), (56, .inl (0, 412, .inl (fun _ => 0))), (55, .inl (0, 400, .inl (fun _ => 0))), (54, .inr (5, [.null, .int 0, .int 0, .int 0, .int 0, .int 0, .int 0, .int 0, .null, .int 0])), (0, .inr (11, [.ref 1, .ref 17, .ref 50, .ref 51, .null, .null, .null, .null, .null, .null, .null, .null, .null, .int 0, .int 0, .null, .int 0])), (51, .inr (0, [.ref 52, .ref 53, .int 0, .int 0])), (53, .inl (0, 7, .inl (fun _ => 0))), (52, .inl (0, 1260, .inl (fun _ => 0))), (51, .inr (0, [.null, .null, .int 0, .int 0])), (0, .inr (11, [.ref 1, .ref 17, .ref 50, .null, .null, .null, .null, .null, .null, .null, .null, .null, .null, .int 0, .int 0, .null, .int 0])), (50, .inl (2, 2, .inl (fun _ => 0))), (0, .inr (11, [.ref 1, .ref 17, .null, .null, .null, .null, .null, .null, .null, .null, .null, .null, .null, .int 0, .int 0, .null, .int 0])), (17, .inl (4, 2, .inr (.inr (.inr (.inr (va_up (va_up (fun _ => none) 0 (some 18)) 1 (some 34))))))), (34, .inr (8, [.ref 35, .ref 36, .ref 37, .int 0, .int (-1), .ref 44, .ref 45, .int 0, .ref 46, .ref 47, .int 0, .ref 48, .ref 49, .int 0])), (49, .inl (0, 12, .inl (fun _ => 0))), (48, .inl (0, 12, .inl (fun _ => 0))), (47, .inl (0, 6, .inl (fun _ => 0))), (46, .inl (0, 6, .inl (fun _ => 0))), (45, .inl (0, 8, .inl (fun _ => 0))), (44, .inl (0, 8, .inl (fun _ => 0))), (43, .inl (0, 0, .inl (fun _ => 0))), (42, .inl (0, 0, .inl (fun _ => 0))), (41, .inl (0, 0, .inl (fun _ => 0))), (40, .inl (0, 0, .inl (fun _ => 0))), (39, .inl (0, 0, .inl (fun _ => 0))), (38, .inl (0, 0, .inl (fun _ => 0))), (37, .inl (5, 6, .inr (.inr (.inr (.inr (fun i => if i < 6 then some (37 + 1 + i) else none)))))), (36, .inl (0, 2, .inl (fun _ => 0))), (35, .inl (0, 5, .inl (fun _ => 0))), (34, .inr (8, [.null, .null, .null, .int 0, .int 0, .null, .null, .int 0, .null, .null, .int 0, .null, .null, .int 0])), (17, .inl (4, 2, .inr (.inr (.inr (.inr (va_up (fun _ => none) 0 (some 18))))))), (18, .inr (8, [.ref 19, .ref 20, .ref 21, .int 0, .int (-1), .ref 28, .ref 29, .int 0, .ref 30, .ref 31, .int 0, .ref 32, .ref 33, .int 0])), (33, .inl (0, 12, .inl (fun _ => 0))), (32, .inl (0, 12, .inl (fun _ => 0))), (31, .inl (0, 6, .inl (fun _ => 0))), (30, .inl (0, 6, .inl (fun _ => 0))), (29, .inl (0, 8, .inl (fun _ => 0))), (28, .inl (0, 8, .inl (fun _ => 0))), (27, .inl (0, 0, .inl (fun _ => 0))), (26, .inl (0, 0, .inl (fun _ => 0))), (25, .inl (0, 0, .inl (fun _ => 0))), (24, .inl (0, 0, .inl (fun _ => 0))), (23, .inl (0, 0, .inl (fun _ => 0))), (22, .inl (0, 0, .inl (fun _ => 0))), (21, .inl (5, 6, .inr (.inr (.inr (.inr (fun i => if i < 6 then some (21 + 1 + i) else none)))))), (20, .inl (0, 2, .inl (fun _ => 0))), (19, .inl (0, 5, .inl (fun _ => 0))), (18, .inr (8, [.null, .null, .null, .int 0, .int 0, .null, .null, .int 0, .null, .null, .int 0, .null, .null, .int 0])), (17, .inl (4, 2, .inr (.inr (.inr (.inr (fun _ => none)))))), (0, .inr (11, [.ref 1, .null, .null, .null, .null, .null, .null, .null, .null, .null, .null, .null, .null, .int 0, .int 0, .null, .int 0])), (1, .inr (8, [.ref 2, .ref 3, .ref 4, .int 0, .int (-1), .ref 11, .ref 12, .int 0, .ref 13, .ref 14, .int 0, .ref 15, .ref 16, .int 0])), (16, .inl (0, 12, .inl (fun _ => 0))), (15, .inl (0, 12, .inl (fun _ => 0))), (14, .inl (0, 6, .inl (fun _ => 0))), (13, .inl (0, 6, .inl (fun _ => 0))), (12, .inl (0, 8, .inl (fun _ => 0))), (11, .inl (0, 8, .inl (fun _ => 0))), (10, .inl (0, 0, .inl (fun _ => 0))), (9, .inl (0, 0, .inl (fun _ => 0))), (8, .inl (0, 0, .inl (fun _ => 0))), (7, .inl (0, 0, .inl (fun _ => 0))), (6, .inl (0, 0, .inl (fun _ => 0))), (5, .inl (0, 0, .inl (fun _ => 0))), (4, .inl (5, 6, .inr (.inr (.inr (.inr (fun i => if i < 6 then some (4 + 1 + i) else none)))))), (3, .inl (0, 2, .inl (fun _ => 0))), (2, .inl (0, 5, .inl (fun _ => 0))), (1, .inr (8, [.null, .null, .null, .int 0, .int 0, .null, .null, .int 0, .null, .null, .int 0, .null, .null, .int 0]))]) rfl ?_
  refine K_putF (fs2 := [.ref 1, .ref 17, .ref 50, .ref 51, .ref 54, .ref 57, .ref 65, .ref 75, .null, .null, .null, .null, .null, .int 0, .int 0, .null, .int 0]) dX11_init_126 rfl fw_X11_59 rfl (Nat.le_of_ble_eq_true rfl) (fun _ => ⟨rfl, rfl⟩) rfl ?_
  refine J_aload_n dX11_init_129 rfl rfl ?_
  refine K_new (nh2 := 82) (ck2 := 81) (sk2 := 20302) dX11_init_130 nw_X11_63 (fun _ => rfl) (Nat.le_of_ble_eq_true rfl) (Nat.le_of_ble_eq_true rfl) rfl rfl rfl ?_
  refine J_dup dX11_init_133 rfl ?_
  refine J_aload_n dX11_init_134 rfl rfl ?_
  refine J_get (v := .ref 51) dX11_init_135 fl_X11_27 rfl rfl ?_
  refine J_aload_n dX11_init_138 rfl rfl ?_
  refine J_get (v := .ref 57) dX11_init_139 fl_X11_43 rfl rfl ?_
  refine J_callI (st := [.ref 81, .ref 0]) dX11_init_142 ci_X11_65 (c_X7_init_1 rfl) rfl rfl (Nat.le_of_ble_eq_true rfl) ⟨(Nat.le_of_ble_eq_true rfl), (Nat.le_of_ble_eq_true rfl)⟩ ⟨(Nat.le_of_ble_eq_true rfl), (Nat.le_of_ble_eq_true rfl)⟩ (fun r h9 hp => ?_)
  obtain ⟨rfl, rfl⟩ := hp
  refine J_nf (nh2 := 85) (ck2 := 84) (sk2 := 20330) (st2 := [.ref 81, .ref 0]) rfl rfl rfl rfl ?_
  refine J_app (L3 := [(81, .inr (7, [.ref 51, .ref 57, .ref 82, .ref 83, .ref 84, .int 0, .int (-1)])), (84, .inl (0, 0, .inl (fun _ => 0))), (83, .inl (0, 14, .inl (fun _ => 0))), (82, .inl (0, 14, .inl (fun _ => 0))), (81, .inr (7, [.null, .null, .null, .null, .null, .int 0, .int 0])), (0, .inr (11, [.ref 1, .ref 17, .ref 50, .ref 51, .ref 54, .ref 57, .ref 65, .ref 75, .null, .null, .null, .null, .null, .int 0, .int 0, .null, .int 0])), (75, .inr (3, [.ref 51, .ref 57, .ref 76, .ref 77, .ref 78, .ref 79, .ref 80, .int 0])), (80, .inl (0, 1260, .inl (fun _ => 0))), (79, .inl (0, 1260, .inl (fun _ => 0))), (78, .inl (0, 1261, .inl (fun _ => 0))), (77, .inl (0, 0, .inl (fun _ => 0))), (76, .inl (0, 0, .inl (fun _ => 0))), (75, .inr (3, [.null, .null, .null, .null, .null, .null, .null, .int 0])), (0, .inr (11, [.ref 1, .ref 17, .ref 50, .ref 51, .ref 54, .ref 57, .ref 65, .null, .null, .null, .null, .null, .null, .int 0, .int 0, .null, .int 0])), (65, .inr (10, [.ref 51, .ref 57, .ref 66, .ref 67, .ref 68, .int 0, .int (-1), .int (-1), .ref 69, .ref 70, .ref 71, .ref 72, .int 0, .int (-1), .int (-1), .ref 73, .ref 74])), (74, .inl (1, 1260, .inr (.inl (fun _ => 0)))), (73, .inl (1, 1260, .inr (.inl (fun _ => 0)))), (72, .inl (0, 1260, .inl (fun _ => 0))), (71, .inl (0, 1260, .inl (fun _ => 0))), (70, .inl (0, 100, .inl (fun _ => 0))), (69, .inl (0, 1260, .inl (fun _ => 0))), (68, .inl (0, 1260, .inl (fun _ => 0))), (67, .inl (0, 1260, .inl (fun _ => 0))), (66, .inl (0, 1260, .inl (fun _ => 0))), (65, .inr (10, [.null, .null, .null, .null, .null, .int 0, .int 0, .int 0, .null, .null, .null, .null, .int 0, .int 0, .int 0, .null, .null])), (0, .inr (11, [.ref 1, .ref 17, .ref 50, .ref 51, .ref 54, .ref 57, .null, .null, .null, .null, .null, .null, .null, .int 0, .int 0, .null, .int 0])), (57, .inr (9, [.ref 1, .ref 51, .ref 58, .ref 61, .ref 62, .ref 63, .ref 64, .int 0, .int 1, .int 1])), (64, .inl (0, 2625, .inl (fun _ => 0))), (63, .inl (0, 0, .inl (fun _ => 0))), (62, .inl (0, 1260, .inl (fun _ => 0))), (61, .inl (0, 0, .inl (fun _ => 0))), (58, .inr (1, [.ref 59, .ref 60, .int 0, .int 0, .int 0, .int 0, .int 0, .int 1])), (60, .inl (1, 64, .inr (.inl (fun _ => 0)))), (59, .inl (0, 8, .inl (fun _ => 0))), (57, .inr (9, [.null, .null, .null, .null, .null, .null, .null, .int 0, .int 0, .int 0])), (0, .inr (11, [.ref 1, .ref 17, .ref 50, .ref 51, .ref 54, .null, .null, .null, .null, .null, .null, .null, .null, .int 0, .int 0, .null, .int 0])), (54, .inr (5, [.ref 55, .int 0, .int 17, .int 0, .int 0, .int 0, .int 0, .int (-1), .ref 56, .int 0])), (56, .inl (0, 412, .inl (fun _ => 0))), (55, .inl (0, 400, .inl (fun _ => 0))), (54, .inr (5, [.null, .int 0, .int 0, .int 0, .int 0, .int 0, .int 0, .int 0, .null, .int 0])), (0, .inr (11, [.ref 1, .ref 17, .ref 50, .ref 51, .null, .null, .null, .null, .null, .null, .null, .null, .null, .int 0, .int 0, .null, .int 0])), (51, .inr (0, [.ref 52, .ref 53, .int 0, .int 0])), (53, .inl (0, 7, .inl (fun _ => 0))), (52, .inl (0, 1260, .inl (fun _ => 0))), (51, .inr (0, [.null, .null, .int 0, .int 0])), (0, .inr (11, [.ref 1, .ref 17, .ref 50, .null, .null, .null, .null, .null, .null, .null, .null, .null, .null, .int 0, .int 0, .null, .int 0])), (50, .inl (2, 2, .inl (fun _ => 0))), (0, .inr (11, [.ref 1, .ref 17, .null, .null, .null, .null, .null, .null, .null, .null, .null, .null, .null, .int 0, .int 0, .null, .int 0])), (17, .inl (4, 2, .inr (.inr (.inr (.inr (va_up (va_up (fun _ => none) 0 (some 18)) 1 (some 34))))))), (34, .inr (8, [.ref 35, .ref 36, .ref 37, .int 0, .int (-1), .ref 44, .ref 45, .int 0, .ref 46, .ref 47, .int 0, .ref 48, .ref 49, .int 0])), (49, .inl (0, 12, .inl (fun _ => 0))), (48, .inl (0, 12, .inl (fun _ => 0))), (47, .inl (0, 6, .inl (fun _ => 0))), (46, .inl (0, 6, .inl (fun _ => 0))), (45, .inl (0, 8, .inl (fun _ => 0))), (44, .inl (0, 8, .inl (fun _ => 0))), (43, .inl (0, 0, .inl (fun _ => 0))), (42, .inl (0, 0, .inl (fun _ => 0))), (41, .inl (0, 0, .inl (fun _ => 0))), (40, .inl (0, 0, .inl (fun _ => 0))), (39, .inl (0, 0, .inl (fun _ => 0))), (38, .inl (0, 0, .inl (fun _ => 0))), (37, .inl (5, 6, .inr (.inr (.inr (.inr (fun i => if i < 6 then some (37 + 1 + i) else none)))))), (36, .inl (0, 2, .inl (fun _ => 0))), (35, .inl (0, 5, .inl (fun _ => 0))), (34, .inr (8, [.null, .null, .null, .int 0, .int 0, .null, .null, .int 0, .null, .null, .int 0, .null, .null, .int 0])), (17, .inl (4, 2, .inr (.inr (.inr (.inr (va_up (fun _ => none) 0 (some 18))))))), (18, .inr (8, [.ref 19, .ref 20, .ref 21, .int 0, .int (-1), .ref 28, .ref 29, .int 0, .ref 30, .ref 31, .int 0, .ref 32, .ref 33, .int 0])), (33, .inl (0, 12, .inl (fun _ => 0))), (32, .inl (0, 12, .inl (fun _ => 0))), (31, .inl (0, 6, .inl (fun _ => 0))), (30, .inl (0, 6, .inl (fun _ => 0))), (29, .inl (0, 8, .inl (fun _ => 0))), (28, .inl (0, 8, .inl (fun _ => 0))), (27, .inl (0, 0, .inl (fun _ => 0))), (26, .inl (0, 0, .inl (fun _ => 0))), (25, .inl (0, 0, .inl (fun _ => 0))), (24, .inl (0, 0, .inl (fun _ => 0))), (23, .inl (0, 0, .inl (fun _ => 0))), (22, .inl (0, 0, .inl (fun _ => 0))), (21, .inl (5, 6, .inr (.inr (.inr (.inr (fun i => if i < 6 then some (21 + 1 + i) else none)))))), (20, .inl (0, 2, .inl (fun _ => 0))), (19, .inl (0, 5, .inl (fun _ => 0))), (18, .inr (8, [.null, .null, .null, .int 0, .int 0, .null, .null, .int 0, .null, .null, .int 0, .null, .null, .int 0])), (17, .inl (4, 2, .inr (.inr (.inr (.inr (fun _ => none)))))), (0, .inr (11, [.ref 1, .null, .null, .null, .null, .null, .null, .null, .null, .null, .null, .null, .null, .int 0, .int 0, .null, .int 0])), (1, .inr (8, [.ref 2, .ref 3, .ref 4, .int 0, .int (-1), .ref 11, .ref 12, .int 0, .ref 13, .ref 14, .int 0, .ref 15, .ref 16, .int 0])), (16, .inl (0, 12, .inl (fun _ => 0))), (15, .inl (0, 12, .inl (fun _ => 0))), (14, .inl (0, 6, .inl (fun _ => 0))), (13, .inl (0, 6, .inl (fun _ => 0))), (12, .inl (0, 8, .inl (fun _ => 0))), (11, .inl (0, 8, .inl (fun _ => 0))), (10, .inl (0, 0, .inl (fun _ => 0))), (9, .inl (0, 0, .inl (fun _ => 0))), (8, .inl (0, 0, .inl (fun _ => 0))), (7, .inl (0, 0, .inl (fun _ => 0))), (6, .inl (0, 0, .inl (fun _ => 0))), (5, .inl (0, 0, .inl (fun _ => 0))), (4, .inl (5, 6, .inr (.inr (.inr (.inr (fun i => if i < 6 then some (4 + 1 + i) else none)))))), (3, .inl (0, 2, .inl (fun _ => 0))), (2, .inl (0, 5, .inl (fun _ => 0))), (1, .inr (8, [.null, .null, .null, .int 0, .int 0, .null, .null, .int 0, .null, .null, .int 0, .null, .null, .int 0]))]) rfl ?_
  refine K_putF (fs2 := [.ref 1, .ref 17, .ref 50, .ref 51, .ref 54, .ref 57, .ref 65, .ref 75, .ref 81, .null, .null, .null, .null, .int 0, .int 0, .null, .int 0]) dX11_init_145 rfl fw_X11_66 rfl (Nat.le_of_ble_eq_true rfl) (fun _ => ⟨rfl, rfl⟩) rfl ?_
  refine J_aload_n dX11_init_148 rfl rfl ?_
  refine K_new (nh2 := 86) (ck2 := 85) (sk2 := 20334) dX11_init_149 nw_X11_70 (fun _ => rfl) (Nat.le_of_ble_eq_true rfl) (Nat.le_of_ble_eq_true rfl) rfl rfl rfl ?_
  refine J_dup dX11_init_152 rfl ?_
  refine J_aload_n dX11_init_153 rfl rfl ?_
  refine J_get (v := .ref 1) dX11_init_154 fl_X11_10 rfl rfl ?_
  refine J_aload_n dX11_init_157 rfl rfl ?_
  refine J_get (v := .ref 51) dX11_init_158 fl_X11_27 rfl rfl ?_
  refine J_callI (st := [.ref 85, .ref 0]) dX11_init_161 ci_X11_72 (c_X2_init_1 rfl) rfl rfl (Nat.le_of_ble_eq_true rfl) ⟨(Nat.le_of_ble_eq_true rfl), (Nat.le_of_ble_eq_true rfl)⟩ ⟨(Nat.le_of_ble_eq_true rfl), (Nat.le_of_ble_eq_true rfl)⟩ (fun r h9 hp => ?_)
  obtain ⟨rfl, rfl⟩ := hp
  refine J_nf (nh2 := 88) (ck2 := 87) (sk2 := 20358) (st2 := [.ref 85, .ref 0]) rfl rfl rfl rfl ?_
  refine J_app (L3 := [(85, .inr (2, [.ref 1, .ref 51, .ref 86, .ref 87])), (87, .inl (0, 12, .inl (fun _ => 0))), (86, .inl (0, 12, .inl (fun _ => 0))), (85, .inr (2, [.null, .null, .null, .null])), (0, .inr (11, [.ref 1, .ref 17, .ref 50, .ref 51, .ref 54, .ref 57, .ref 65, .ref 75, .ref 81, .null, .null, .null, .null, .int 0, .int 0, .null, .int 0])), (81, .inr (7, [.ref 51, .ref 57, .ref 82, .ref 83, .ref 84, .int 0, .int (-1)])), (84, .inl (0, 0, .inl (fun _ => 0))), (83, .inl (0, 14, .inl (fun _ => 0))), (82, .inl (0, 14, .inl (fun _ => 0))), (81, .inr (7, [.null, .null, .null, .null, .null, .int 0, .int 0])), (0, .inr (11, [.ref 1, .ref 17, .ref 50, .ref 51, .ref 54, .ref 57, .ref 65, .ref 75, .null, .null, .null, .null, .null, .int 0, .int 0, .null, .int 0])), (75, .inr (3, [.ref 51, .ref 57, .ref 76, .ref 77, .ref 78, .ref 79, .ref 80, .int 0])), (80, .inl (0, 1260, .inl (fun _ => 0))), (79, .inl (0, 1260, .inl (fun _ => 0))), (78, .inl (0, 1261, .inl (fun _ => 0))), (77, .inl (0, 0, .inl (fun _ => 0))), (76, .inl (0, 0, .inl (fun _ => 0))), (75, .inr (3, [.null, .null, .null, .null, .null, .null, .null, .int 0])), (0, .inr (11, [.ref 1, .ref 17, .ref 50, .ref 51, .ref 54, .ref 57, .ref 65, .null, .null, .null, .null, .null, .null, .int 0, .int 0, .null, .int 0])), (65, .inr (10, [.ref 51, .ref 57, .ref 66, .ref 67, .ref 68, .int 0, .int (-1), .int (-1), .ref 69, .ref 70, .ref 71, .ref 72, .int 0, .int (-1), .int (-1), .ref 73, .ref 74])), (74, .inl (1, 1260, .inr (.inl (fun _ => 0)))), (73, .inl (1, 1260, .inr (.inl (fun _ => 0)))), (72, .inl (0, 1260, .inl (fun _ => 0))), (71, .inl (0, 1260, .inl (fun _ => 0))), (70, .inl (0, 100, .inl (fun _ => 0))), (69, .inl (0, 1260, .inl (fun _ => 0))), (68, .inl (0, 1260, .inl (fun _ => 0))), (67, .inl (0, 1260, .inl (fun _ => 0))), (66, .inl (0, 1260, .inl (fun _ => 0))), (65, .inr (10, [.null, .null, .null, .null, .null, .int 0, .int 0, .int 0, .null, .null, .null, .null, .int 0, .int 0, .int 0, .null, .null])), (0, .inr (11, [.ref 1, .ref 17, .ref 50, .ref 51, .ref 54, .ref 57, .null, .null, .null, .null, .null, .null, .null, .int 0, .int 0, .null, .int 0])), (57, .inr (9, [.ref 1, .ref 51, .ref 58, .ref 61, .ref 62, .ref 63, .ref 64, .int 0, .int 1, .int 1])), (64, .inl (0, 2625, .inl (fun _ => 0))), (63, .inl (0, 0, .inl (fun _ => 0))), (62, .inl (0, 1260, .inl (fun _ => 0))), (61, .inl (0, 0, .inl (fun _ => 0))), (58, .inr (1, [.ref 59, .ref 60, .int 0, .int 0, .int 0, .int 0, .int 0, .int 1])), (60, .inl (1, 64, .inr (.inl (fun _ => 0)))), (59, .inl (0, 8, .inl (fun _ => 0))), (57, .inr (9, [.null, .null, .null, .null, .null, .null, .null, .int 0, .int 0, .int 0])), (0, .inr (11, [.ref 1, .ref 17, .ref 50, .ref 51, .ref 54, .null, .null, .null, .null, .null, .null, .null, .null, .int 0, .int 0, .null, .int 0])), (54, .inr (5, [.ref 55, .int 0, .int 17, .int 0, .int 0, .int 0, .int 0, .int (-1), .ref 56, .int 0])), (56, .inl (0, 412, .inl (fun _ => 0))), (55, .inl (0, 400, .inl (fun _ => 0))), (54, .inr (5, [.null, .int 0, .int 0, .int 0, .int 0, .int 0, .int 0, .int 0, .null, .int 0])), (0, .inr (11, [.ref 1, .ref 17, .ref 50, .ref 51, .null, .null, .null, .null, .null, .null, .null, .null, .null, .int 0, .int 0, .null, .int 0])), (51, .inr (0, [.ref 52, .ref 53, .int 0, .int 0])), (53, .inl (0, 7, .inl (fun _ => 0))), (52, .inl (0, 1260, .inl (fun _ => 0))), (51, .inr (0, [.null, .null, .int 0, .int 0])), (0, .inr (11, [.ref 1, .ref 17, .ref 50, .null, .null, .null, .null, .null, .null, .null, .null, .null, .null, .int 0, .int 0, .null, .int 0])), (50, .inl (2, 2, .inl (fun _ => 0))), (0, .inr (11, [.ref 1, .ref 17, .null, .null, .null, .null, .null, .null, .null, .null, .null, .null, .null, .int 0, .int 0, .null, .int 0])), (17, .inl (4, 2, .inr (.inr (.inr (.inr (va_up (va_up (fun _ => none) 0 (some 18)) 1 (some 34))))))), (34, .inr (8, [.ref 35, .ref 36, .ref 37, .int 0, .int (-1), .ref 44, .ref 45, .int 0, .ref 46, .ref 47, .int 0, .ref 48, .ref 49, .int 0])), (49, .inl (0, 12, .inl (fun _ => 0))), (48, .inl (0, 12, .inl (fun _ => 0))), (47, .inl (0, 6, .inl (fun _ => 0))), (46, .inl (0, 6, .inl (fun _ => 0))), (45, .inl (0, 8, .inl (fun _ => 0))), (44, .inl (0, 8, .inl (fun _ => 0))), (43, .inl (0, 0, .inl (fun _ => 0))), (42, .inl (0, 0, .inl (fun _ => 0))), (41, .inl (0, 0, .inl (fun _ => 0))), (40, .inl (0, 0, .inl (fun _ => 0))), (39, .inl (0, 0, .inl (fun _ => 0))), (38, .inl (0, 0, .inl (fun _ => 0))), (37, .inl (5, 6, .inr (.inr (.inr (.inr (fun i => if i < 6 then some (37 + 1 + i) else none)))))), (36, .inl (0, 2, .inl (fun _ => 0))), (35, .inl (0, 5, .inl (fun _ => 0))), (34, .inr (8, [.null, .null, .null, .int 0, .int 0, .null, .null, .int 0, .null, .null, .int 0, .null, .null, .int 0])), (17, .inl (4, 2, .inr (.inr (.inr (.inr (va_up (fun _ => none) 0 (some 18))))))), (18, .inr (8, [.ref 19, .ref 20, .ref 21, .int 0, .int (-1), .ref 28, .ref 29, .int 0, .ref 30, .ref 31, .int 0, .ref 32, .ref 33, .int 0])), (33, .inl (0, 12, .inl (fun _ => 0))), (32, .inl (0, 12, .inl (fun _ => 0))), (31, .inl (0, 6, .inl (fun _ => 0))), (30, .inl (0, 6, .inl (fun _ => 0))), (29, .inl (0, 8, .inl (fun _ => 0))), (28, .inl (0, 8, .inl (fun _ => 0))), (27, .inl (0, 0, .inl (fun _ => 0))), (26, .inl (0, 0, .inl (fun _ => 0))), (25, .inl (0, 0, .inl (fun _ => 0))), (24, .inl (0, 0, .inl (fun _ => 0))), (23, .inl (0, 0, .inl (fun _ => 0))), (22, .inl (0, 0, .inl (fun _ => 0))), (21, .inl (5, 6, .inr (.inr (.inr (.inr (fun i => if i < 6 then some (21 + 1 + i) else none)))))), (20, .inl (0, 2, .inl (fun _ => 0))), (19, .inl (0, 5, .inl (fun _ => 0))), (18, .inr (8, [.null, .null, .null, .int 0, .int 0, .null, .null, .int 0, .null, .null, .int 0, .null, .null, .int 0])), (17, .inl (4, 2, .inr (.inr (.inr (.inr (fun _ => none)))))), (0, .inr (11, [.ref 1, .null, .null, .null, .null, .null, .null, .null, .null, .null, .null, .null, .null, .int 0, .int 0, .null, .int 0])), (1, .inr (8, [.ref 2, .ref 3, .ref 4, .int 0, .int (-1), .ref 11, .ref 12, .int 0, .ref 13, .ref 14, .int 0, .ref 15, .ref 16, .int 0])), (16, .inl (0, 12, .inl (fun _ => 0))), (15, .inl (0, 12, .inl (fun _ => 0))), (14, .inl (0, 6, .inl (fun _ => 0))), (13, .inl (0, 6, .inl (fun _ => 0))), (12, .inl (0, 8, .inl (fun _ => 0))), (11, .inl (0, 8, .inl (fun _ => 0))), (10, .inl (0, 0, .inl (fun _ => 0))), (9, .inl (0, 0, .inl (fun _ => 0))), (8, .inl (0, 0, .inl (fun _ => 0))), (7, .inl (0, 0, .inl (fun _ => 0))), (6, .inl (0, 0, .inl (fun _ => 0))), (5, .inl (0, 0, .inl (fun _ => 0))), (4, .inl (5, 6, .inr (.inr (.inr (.inr (fun i => if i < 6 then some (4 + 1 + i) else none)))))), (3, .inl (0, 2, .inl (fun _ => 0))), (2, .inl (0, 5, .inl (fun _ => 0))), (1, .inr (8, [.null, .null, .null, .int 0, .int 0, .null, .null, .int 0, .null, .null, .int 0, .null, .null, .int 0]))]) rfl ?_
  refine K_putF (fs2 := [.ref 1, .ref 17, .ref 50, .ref 51, .ref 54, .ref 57, .ref 65, .ref 75, .ref 81, .ref 85, .null, .null, .null, .int 0, .int 0, .null, .int 0]) dX11_init_164 rfl fw_X11_73 rfl (Nat.le_of_ble_eq_true rfl) (fun _ => ⟨rfl, rfl⟩) rfl ?_
  refine J_aload_n dX11_init_167 rfl rfl ?_
  refine K_new (nh2 := 89) (ck2 := 88) (sk2 := 20371) dX11_init_168 nw_X11_77 (fun _ => rfl) (Nat.le_of_ble_eq_true rfl) (Nat.le_of_ble_eq_true rfl) rfl rfl rfl ?_
  refine J_dup dX11_init_171 rfl ?_
  refine J_aload_n dX11_init_172 rfl rfl ?_
  refine J_get (v := .ref 1) dX11_init_173 fl_X11_10 rfl rfl ?_
  refine J_aload_n dX11_init_176 rfl rfl ?_
  refine J_get (v := .ref 51) dX11_init_177 fl_X11_27 rfl rfl ?_
  refine J_aload_n dX11_init_180 rfl rfl ?_
  refine J_get (v := .ref 57) dX11_init_181 fl_X11_43 rfl rfl ?_
  refine J_aload_n dX11_init_184 rfl rfl ?_
  refine J_get (v := .ref 65) dX11_init_185 fl_X11_52 rfl rfl ?_
  refine J_callI (st := [.ref 88, .ref 0]) dX11_init_188 ci_X11_79 (c_X6_init_1 rfl) rfl rfl (Nat.le_of_ble_eq_true rfl) ⟨(Nat.le_of_ble_eq_true rfl), (Nat.le_of_ble_eq_true rfl)⟩ ⟨(Nat.le_of_ble_eq_true rfl), (Nat.le_of_ble_eq_true rfl)⟩ (fun r h9 hp => ?_)
  obtain ⟨rfl, rfl⟩ := hp
  refine J_nf (nh2 := 93) (ck2 := 92) (sk2 := 25411) (st2 := [.ref 88, .ref 0]) rfl rfl rfl rfl ?_
  refine J_app (L3 := [(88, .inr (6, [.ref 1, .ref 51, .ref 57, .ref 65, .ref 89, .ref 90, .int 0, .int (-1), .ref 91, .ref 92, .int (-1), .int (-1), .int (-1)])), (92, .inl (0, 1260, .inl (fun _ => 0))), (91, .inl (0, 1260, .inl (fun _ => 0))), (90, .inl (0, 1260, .inl (fun _ => 0))), (89, .inl (2, 1260, .inl (fun _ => 0))), (88, .inr (6, [.null, .null, .null, .null, .null, .null, .int 0, .int 0, .null, .null, .int 0, .int 0, .int 0])), (0, .inr (11, [.ref 1, .ref 17, .ref 50, .ref 51, .ref 54, .ref 57, .ref 65, .ref 75, .ref 81, .ref 85, .null, .null, .null, .int 0, .int 0, .null, .int 0])), (85, .inr (2, [.ref 1, .ref 51, .ref 86, .ref 87])), (87, .inl (0, 12, .inl (fun _ => 0))), (86, .inl (0, 12, .inl (fun _ => 0))), (85, .inr (2, [.null, .null, .null, .null])), (0, .inr (11, [.ref 1, .ref 17, .ref 50, .ref 51, .ref 54, .ref 57, .ref 65, .ref 75, .ref 81, .null, .null, .null, .null, .int 0, .int 0, .null, .int 0])), (81, .inr (7, [.ref 51, .ref 57, .ref 82, .ref 83, .ref 84, .int 0, .int (-1)])), (84, .inl (0, 0, .inl (fun _ => 0))), (83, .inl (0, 14, .inl (fun _ => 0))), (82, .inl (0, 14, .inl (fun _ => 0))), (81, .inr (7, [.null, .null, .null, .null, .null, .int 0, .int 0])), (0, .inr (11, [.ref 1, .ref 17, .ref 50, .ref 51, .ref 54, .ref 57, .ref 65, .ref 75, .null, .null, .null, .null, .null, .int 0, .int 0, .null, .int 0])), (75, .inr (3, [.ref 51, .ref 57, .ref 76, .ref 77, .ref 78, .ref 79, .ref 80, .int 0])), (80, .inl (0, 1260, .inl (fun _ => 0))), (79, .inl (0, 1260, .inl (fun _ => 0))), (78, .inl (0, 1261, .inl (fun _ => 0))), (77, .inl (0, 0, .inl (fun _ => 0))), (76, .inl (0, 0, .inl (fun _ => 0))), (75, .inr (3, [.null, .null, .null, .null, .null, .null, .null, .int 0])), (0, .inr (11, [.ref 1, .ref 17, .ref 50, .ref 51, .ref 54, .ref 57, .ref 65, .null, .null, .null, .null, .null, .null, .int 0, .int 0, .null, .int 0])), (65, .inr (10, [.ref 51, .ref 57, .ref 66, .ref 67, .ref 68, .int 0, .int (-1), .int (-1), .ref 69, .ref 70, .ref 71, .ref 72, .int 0, .int (-1), .int (-1), .ref 73, .ref 74])), (74, .inl (1, 1260, .inr (.inl (fun _ => 0)))), (73, .inl (1, 1260, .inr (.inl (fun _ => 0)))), (72, .inl (0, 1260, .inl (fun _ => 0))), (71, .inl (0, 1260, .inl (fun _ => 0))), (70, .inl (0, 100, .inl (fun _ => 0))), (69, .inl (0, 1260, .inl (fun _ => 0))), (68, .inl (0, 1260, .inl (fun _ => 0))), (67, .inl (0, 1260, .inl (fun _ => 0))), (66, .inl (0, 1260, .inl (fun _ => 0))), (65, .inr (10, [.null, .null, .null, .null, .null, .int 0, .int 0, .int 0, .null, .null, .null, .null, .int 0, .int 0, .int 0, .null, .null])), (0, .inr (11, [.ref 1, .ref 17, .ref 50, .ref 51, .ref 54, .ref 57, .null, .null, .null, .null, .null, .null, .null, .int 0, .int 0, .null, .int 0])), (57, .inr (9, [.ref 1, .ref 51, .ref 58, .ref 61, .ref 62, .ref 63, .ref 64, .int 0, .int 1, .int 1])), (64, .inl (0, 2625, .inl (fun _ => 0))), (63, .inl (0, 0, .inl (fun _ => 0))), (62, .inl (0, 1260, .inl (fun _ => 0))), (61, .inl (0, 0, .inl (fun _ => 0))), (58, .inr (1, [.ref 59, .ref 60, .int 0, .int 0, .int 0, .int 0, .int 0, .int 1])), (60, .inl (1, 64, .inr (.inl (fun _ => 0)))), (59, .inl (0, 8, .inl (fun _ => 0))), (57, .inr (9, [.null, .null, .null, .null, .null, .null, .null, .int 0, .int 0, .int 0])), (0, .inr (11, [.ref 1, .ref 17, .ref 50, .ref 51, .ref 54, .null, .null, .null, .null, .null, .null, .null, .null, .int 0, .int 0, .null, .int 0])), (54, .inr (5, [.ref 55, .int 0, .int 17, .int 0, .int 0, .int 0, .int 0, .int (-1), .ref 56, .int 0])), (56, .inl (0, 412, .inl (fun _ => 0))), (55, .inl (0, 400, .inl (fun _ => 0))), (54, .inr (5, [.null, .int 0, .int 0, .int 0, .int 0, .int 0, .int 0, .int 0, .null, .int 0])), (0, .inr (11, [.ref 1, .ref 17, .ref 50, .ref 51, .null, .null, .null, .null, .null, .null, .null, .null, .null, .int 0, .int 0, .null, .int 0])), (51, .inr (0, [.ref 52, .ref 53, .int 0, .int 0])), (53, .inl (0, 7, .inl (fun _ => 0))), (52, .inl (0, 1260, .inl (fun _ => 0))), (51, .inr (0, [.null, .null, .int 0, .int 0])), (0, .inr (11, [.ref 1, .ref 17, .ref 50, .null, .null, .null, .null, .null, .null, .null, .null, .null, .null, .int 0, .int 0, .null, .int 0])), (50, .inl (2, 2, .inl (fun _ => 0))), (0, .inr (11, [.ref 1, .ref 17, .null, .null, .null, .null, .null, .null, .null, .null, .null, .null, .null, .int 0, .int 0, .null, .int 0])), (17, .inl (4, 2, .inr (.inr (.inr (.inr (va_up (va_up (fun _ => none) 0 (some 18)) 1 (some 34))))))), (34, .inr (8, [.ref 35, .ref 36, .ref 37, .int 0, .int (-1), .ref 44, .ref 45, .int 0, .ref 46, .ref 47, .int 0, .ref 48, .ref 49, .int 0])), (49, .inl (0, 12, .inl (fun _ => 0))), (48, .inl (0, 12, .inl (fun _ => 0))), (47, .inl (0, 6, .inl (fun _ => 0))), (46, .inl (0, 6, .inl (fun _ => 0))), (45, .inl (0, 8, .inl (fun _ => 0))), (44, .inl (0, 8, .inl (fun _ => 0))), (43, .inl (0, 0, .inl (fun _ => 0))), (42, .inl (0, 0, .inl (fun _ => 0))), (41, .inl (0, 0, .inl (fun _ => 0))), (40, .inl (0, 0, .inl (fun _ => 0))), (39, .inl (0, 0, .inl (fun _ => 0))), (38, .inl (0, 0, .inl (fun _ => 0))), (37, .inl (5, 6, .inr (.inr (.inr (.inr (fun i => if i < 6 then some (37 + 1 + i) else none)))))), (36, .inl (0, 2, .inl (fun _ => 0))), (35, .inl (0, 5, .inl (fun _ => 0))), (34, .inr (8, [.null, .null, .null, .int 0, .int 0, .null, .null, .int 0, .null, .null, .int 0, .null, .null, .int 0])), (17, .inl (4, 2, .inr (.inr (.inr (.inr (va_up (fun _ => none) 0 (some 18))))))), (18, .inr (8, [.ref 19, .ref 20, .ref 21, .int 0, .int (-1), .ref 28, .ref 29, .int 0, .ref 30, .ref 31, .int 0, .ref 32, .ref 33, .int 0])), (33, .inl (0, 12, .inl (fun _ => 0))), (32, .inl (0, 12, .inl (fun _ => 0))), (31, .inl (0, 6, .inl (fun _ => 0))), (30, .inl (0, 6, .inl (fun _ => 0))), (29, .inl (0, 8, .inl (fun _ => 0))), (28, .inl (0, 8, .inl (fun _ => 0))), (27, .inl (0, 0, .inl (fun _ => 0))), (26, .inl (0, 0, .inl (fun _ => 0))), (25, .inl (0, 0, .inl (fun _ => 0))), (24, .inl (0, 0, .inl (fun _ => 0))), (23, .inl (0, 0, .inl (fun _ => 0))), (22, .inl (0, 0, .inl (fun _ => 0))), (21, .inl (5, 6, .inr (.inr (.inr (.inr (fun i => if i < 6 then some (21 + 1 + i) else none)))))), (20, .inl (0, 2, .inl (fun _ => 0))), (19, .inl (0, 5, .inl (fun _ => 0))), (18, .inr (8, [.null, .null, .null, .int 0, .int 0, .null, .null, .int 0, .null, .null, .int 0, .null, .null, .int 0])), (17, .inl (4, 2, .inr (.inr (.inr (.inr (fun _ => none)))))), (0, .inr (11, [.ref 1, .null, .null, .null, .null, .null, .null, .null, .null, .null, .null, .null, .null, .int 0, .int 0, .null, .int 0])), (1, .inr (8, [.ref 2, .ref 3, .ref 4, .int 0, .int (-1), .ref 11, .ref 12, .int 0, .ref 13, .ref 14, .int 0, .ref 15, .ref 16, .int 0])), (16, .inl (0, 12, .inl (fun _ => 0))), (15, .inl (0, 12, .inl (fun _ => 0))), (14, .inl (0, 6, .inl (fun _ => 0))), (13, .inl (0, 6, .inl (fun _ => 0))), (12, .inl (0, 8, .inl (fun _ => 0))), (11, .inl (0, 8, .inl (fun _ => 0))), (10, .inl (0, 0, .inl (fun _ => 0))), (9, .inl (0, 0, .inl (fun _ => 0))), (8, .inl (0, 0, .inl (fun _ => 0))), (7, .inl (0, 0, .inl (fun _ => 0))), (6, .inl (0, 0, .inl (fun _ => 0))), (5, .inl (0, 0, .inl (fun _ => 0))), (4, .inl (5, 6, .inr (.inr (.inr (.inr (fun i => if i < 6 then some (4 + 1 + i) else none)))))), (3, .inl (0, 2, .inl (fun _ => 0))), (2, .inl (0, 5, .inl (fun _ => 0))), (1, .inr (8, [.null, .null, .null, .int 0, .int 0, .null, .null, .int 0, .null, .null, .int 0, .null, .null, .int 0]))]) rfl ?_
  refine K_putF (fs2 := [.ref 1, .ref 17, .ref 50, .ref 51, .ref 54, .ref 57, .ref 65, .ref 75, .ref 81, .ref 85, .ref 88, .null, .null, .int 0, .int 0, .null, .int 0]) dX11_init_191 rfl fw_X11_82 rfl (Nat.le_of_ble_eq_true rfl) (fun _ => ⟨rfl, rfl⟩) rfl ?_
  refine J_aload_n dX11_init_194 rfl rfl ?_
  refine K_new (nh2 := 94) (ck2 := 93) (sk2 := 25416) dX11_init_195 nw_X11_86 (fun _ => rfl) (Nat.le_of_ble_eq_true rfl) (Nat.le_of_ble_eq_true rfl) rfl rfl rfl ?_
  refine J_dup dX11_init_198 rfl ?_
  refine J_aload_n dX11_init_199 rfl rfl ?_
  refine J_get (v := .ref 51) dX11_init_200 fl_X11_27 rfl rfl ?_
  refine J_aload_n dX11_init_203 rfl rfl ?_
  refine J_get (v := .ref 57) dX11_init_204 fl_X11_43 rfl rfl ?_
  refine J_callI (st := [.ref 93, .ref 0]) dX11_init_207 ci_X11_88 (c_X4_init_1 rfl) rfl rfl (Nat.le_of_ble_eq_true rfl) ⟨(Nat.le_of_ble_eq_true rfl), (Nat.le_of_ble_eq_true rfl)⟩ ⟨(Nat.le_of_ble_eq_true rfl), (Nat.le_of_ble_eq_true rfl)⟩ (fun r h9 hp => ?_)
  obtain ⟨rfl, rfl⟩ := hp
  refine J_nf (nh2 := 96) (ck2 := 95) (sk2 := 25416) (st2 := [.ref 93, .ref 0]) rfl rfl rfl rfl ?_
  refine J_app (L3 := [(93, .inr (4, [.ref 51, .ref 57, .ref 94, .ref 95, .int 0])), (95, .inl (0, 0, .inl (fun _ => 0))), (94, .inl (0, 0, .inl (fun _ => 0))), (93, .inr (4, [.null, .null, .null, .null, .int 0])), (0, .inr (11, [.ref 1, .ref 17, .ref 50, .ref 51, .ref 54, .ref 57, .ref 65, .ref 75, .ref 81, .ref 85, .ref 88, .null, .null, .int 0, .int 0, .null, .int 0])), (88, .inr (6, [.ref 1, .ref 51, .ref 57, .ref 65, .ref 89, .ref 90, .int 0, .int (-1), .ref 91, .ref 92, .int (-1), .int (-1), .int (-1)])), (92, .inl (0, 1260, .inl (fun _ => 0))), (91, .inl (0, 1260, .inl (fun _ => 0))), (90, .inl (0, 1260, .inl (fun _ => 0))), (89, .inl (2, 1260, .inl (fun _ => 0))), (88, .inr (6, [.null, .null, .null, .null, .null, .null, .int 0, .int 0, .null, .null, .int 0, .int 0, .int 0])), (0, .inr (11, [.ref 1, .ref 17, .ref 50, .ref 51, .ref 54, .ref 57, .ref 65, .ref 75, .ref 81, .ref 85, .null, .null, .null, .int 0, .int 0, .null, .int 0])), (85, .inr (2, [.ref 1, .ref 51, .ref 86, .ref 87])), (87, .inl (0, 12, .inl (fun _ => 0))), (86, .inl (0, 12, .inl (fun _ => 0))), (85, .inr (2, [.null, .null, .null, .null])), (0, .inr (11, [.ref 1, .ref 17, .ref 50, .ref 51, .ref 54, .ref 57, .ref 65, .ref 75, .ref 81, .null, .null, .null, .null, .int 0, .int 0, .null, .int 0])), (81, .inr (7, [.ref 51, .ref 57, .ref 82, .ref 83, .ref 84, .int 0, .int (-1)])), (84, .inl (0, 0, .inl (fun _ => 0))), (83, .inl (0, 14, .inl (fun _ => 0))), (82, .inl (0, 14, .inl (fun _ => 0))), (81, .inr (7, [.null, .null, .null, .null, .null, .int 0, .int 0])), (0, .inr (11, [.ref 1, .ref 17, .ref 50, .ref 51, .ref 54, .ref 57, .ref 65, .ref 75, .null, .null, .null, .null, .null, .int 0, .int 0, .null, .int 0])), (75, .inr (3, [.ref 51, .ref 57, .ref 76, .ref 77, .ref 78, .ref 79, .ref 80, .int 0])), (80, .inl (0, 1260, .inl (fun _ => 0))), (79, .inl (0, 1260, .inl (fun _ => 0))), (78, .inl (0, 1261, .inl (fun _ => 0))), (77, .inl (0, 0, .inl (fun _ => 0))), (76, .inl (0, 0, .inl (fun _ => 0))), (75, .inr (3, [.null, .null, .null, .null, .null, .null, .null, .int 0])), (0, .inr (11, [.ref 1, .ref 17, .ref 50, .ref 51, .ref 54, .ref 57, .ref 65, .null, .null, .null, .null, .null, .null, .int 0, .int 0, .null, .int 0])), (65, .inr (10, [.ref 51, .ref 57, .ref 66, .ref 67, .ref 68, .int 0, .int (-1), .int (-1), .ref 69, .ref 70, .ref 71, .ref 72, .int 0, .int (-1), .int (-1), .ref 73, .ref 74])), (74, .inl (1, 1260, .inr (.inl (fun _ => 0)))), (73, .inl (1, 1260, .inr (.inl (fun _ => 0)))), (72, .inl (0, 1260, .inl (fun _ => 0))), (71, .inl (0, 1260, .inl (fun _ => 0))), (70, .inl (0, 100, .inl (fun _ => 0))), (69, .inl (0, 1260, .inl (fun _ => 0))), (68, .inl (0, 1260, .inl (fun _ => 0))), (67, .inl (0, 1260, .inl (fun _ => 0))), (66, .inl (0, 1260, .inl (fun _ => 0))), (65, .inr (10, [.null, .null, .null, .null, .null, .int 0, .int 0, .int 0, .null, .null, .null, .null, .int 0, .int 0, .int 0, .null, .null])), (0, .inr (11, [.ref 1, .ref 17, .ref 50, .ref 51, .ref 54, .ref 57, .null, .null, .null, .null, .null, .null, .null, .int 0, .int 0, .null, .int 0])), (57, .inr (9, [.ref 1, .ref 51, .ref 58, .ref 61, .ref 62, .ref 63, .ref 64, .int 0, .int 1, .int 1])), (64, .inl (0, 2625, .inl (fun _ => 0))), (63, .inl (0, 0, .inl (fun _ => 0))), (62, .inl (0, 1260, .inl (fun _ => 0))), (61, .inl (0, 0, .inl (fun _ => 0))), (58, .inr (1, [.ref 59, .ref 60, .int 0, .int 0, .int 0, .int 0, .int 0, .int 1])), (60, .inl (1, 64, .inr (.inl (fun _ => 0)))), (59, .inl (0, 8, .inl (fun _ => 0))), (57, .inr (9, [.null, .null, .null, .null, .null, .null, .null, .int 0, .int 0, .int 0])), (0, .inr (11, [.ref 1, .ref 17, .ref 50, .ref 51, .ref 54, .null, .null, .null, .null, .null, .null, .null, .null, .int 0, .int 0, .null, .int 0])), (54, .inr (5, [.ref 55, .int 0, .int 17, .int 0, .int 0, .int 0, .int 0, .int (-1), .ref 56, .int 0])), (56, .inl (0, 412, .inl (fun _ => 0))), (55, .inl (0, 400, .inl (fun _ => 0))), (54, .inr (5, [.null, .int 0, .int 0, .int 0, .int 0, .int 0, .int 0, .int 0, .null, .int 0])), (0, .inr (11, [.ref 1, .ref 17, .ref 50, .ref 51, .null, .null, .null, .null, .null, .null, .null, .null, .null, .int 0, .int 0, .null, .int 0])), (51, .inr (0, [.ref 52, .ref 53, .int 0, .int 0])), (53, .inl (0, 7, .inl (fun _ => 0))), (52, .inl (0, 1260, .inl (fun _ => 0))), (51, .inr (0, [.null, .null, .int 0, .int 0])), (0, .inr (11, [.ref 1, .ref 17, .ref 50, .null, .null, .null, .null, .null, .null, .null, .null, .null, .null, .int 0, .int 0, .null, .int 0])), (50, .inl (2, 2, .inl (fun _ => 0))), (0, .inr (11, [.ref 1, .ref 17, .null, .null, .null, .null, .null, .null, .null, .null, .null, .null, .null, .int 0, .int 0, .null, .int 0])), (17, .inl (4, 2, .inr (.inr (.inr (.inr (va_up (va_up (fun _ => none) 0 (some 18)) 1 (some 34))))))), (34, .inr (8, [.ref 35, .ref 36, .ref 37, .int 0, .int (-1), .ref 44, .ref 45, .int 0, .ref 46, .ref 47, .int 0, .ref 48, .ref 49, .int 0])), (49, .inl (0, 12, .inl (fun _ => 0))), (48, .inl (0, 12, .inl (fun _ => 0))), (47, .inl (0, 6, .inl (fun _ => 0))), (46, .inl (0, 6, .inl (fun _ => 0))), (45, .inl (0, 8, .inl (fun _ => 0))), (44, .inl (0, 8, .inl (fun _ => 0))), (43, .inl (0, 0, .inl (fun _ => 0))), (42, .inl (0, 0, .inl (fun _ => 0))), (41, .inl (0, 0, .inl (fun _ => 0))), (40, .inl (0, 0, .inl (fun _ => 0))), (39, .inl (0, 0, .inl (fun _ => 0))), (38, .inl (0, 0, .inl (fun _ => 0))), (37, .inl (5, 6, .inr (.inr (.inr (.inr (fun i => if i < 6 then some (37 + 1 + i) else none)))))), (36, .inl (0, 2, .inl (fun _ => 0))), (35, .inl (0, 5, .inl (fun _ => 0))), (34, .inr (8, [.null, .null, .null, .int 0, .int 0, .null, .null, .int 0, .null, .null, .int 0, .null, .null, .int 0])), (17, .inl (4, 2, .inr (.inr (.inr (.inr (va_up (fun _ => none) 0 (some 18))))))), (18, .inr (8, [.ref 19, .ref 20, .ref 21, .int 0, .int (-1), .ref 28, .ref 29, .int 0, .ref 30, .ref 31, .int 0, .ref 32, .ref 33, .int 0])), (33, .inl (0, 12, .inl (fun _ => 0))), (32, .inl (0, 12, .inl (fun _ => 0))), (31, .inl (0, 6, .inl (fun _ => 0))), (30, .inl (0, 6, .inl (fun _ => 0))), (29, .inl (0, 8, .inl (fun _ => 0))), (28, .inl (0, 8, .inl (fun _ => 0))), (27, .inl (0, 0, .inl (fun _ => 0))), (26, .inl (0, 0, .inl (fun _ => 0))), (25, .inl (0, 0, .inl (fun _ => 0))), (24, .inl (0, 0, .inl (fun _ => 0))), (23, .inl (0, 0, .inl (fun _ => 0))), (22, .inl (0, 0, .inl (fun _ => 0))), (21, .inl (5, 6, .inr (.inr (.inr (.inr (fun i => if i < 6 then some (21 + 1 + i) else none)))))), (20, .inl (0, 2, .inl (fun _ => 0))), (19, .inl (0, 5, .inl (fun _ => 0))), (18, .inr (8, [.null, .null, .null, .int 0, .int 0, .null, .null, .int 0, .null, .null, .int 0, .null, .null, .int 0])), (17, .inl (4, 2, .inr (.inr (.inr (.inr (fun _ => none)))))), (0, .inr (11, [.ref 1, .null, .null, .null, .null, .null, .null, .null, .null, .null, .null, .null, .null, .int 0, .int 0, .null, .int 0])), (1, .inr (8, [.ref 2, .ref 3, .ref 4, .int 0, .int (-1), .ref 11, .ref 12, .int 0, .ref 13, .ref 14, .int 0, .ref 15, .ref 16, .int 0])), (16, .inl (0, 12, .inl (fun _ => 0))), (15, .inl (0, 12, .inl (fun _ => 0))), (14, .inl (0, 6, .inl (fun _ => 0))), (13, .inl (0, 6, .inl (fun _ => 0))), (12, .inl (0, 8, .inl (fun _ => 0))), (11, .inl (0, 8, .inl (fun _ => 0))), (10, .inl (0, 0, .inl (fun _ => 0))), (9, .inl (0, 0, .inl (fun _ => 0))), (8, .inl (0, 0, .inl (fun _ => 0))), (7, .inl (0, 0, .inl (fun _ => 0))), (6, .inl (0, 0, .inl (fun _ => 0))), (5, .inl (0, 0, .inl (fun _ => 0))), (4, .inl (5, 6, .inr (.inr (.inr (.inr (fun i => if i < 6 then some (4 + 1 + i) else none)))))), (3, .inl (0, 2, .inl (fun _ => 0))), (2, .inl (0, 5, .inl (fun _ => 0))), (1, .inr (8, [.null, .null, .null, .int 0, .int 0, .null, .null, .int 0, .null, .null, .int 0, .null, .null, .int 0]))]) rfl ?_
  refine K_putF (fs2 := [.ref 1, .ref 17, .ref 50, .ref 51, .ref 54, .ref 57, .ref 65, .ref 75, .ref 81, .ref 85, .ref 88, .ref 93, .null, .int 0, .int 0, .null, .int 0]) dX11_init_210 rfl fw_X11_89 rfl (Nat.le_of_ble_eq_true rfl) (fun _ => ⟨rfl, rfl⟩) rfl ?_
  refine J_aload_n dX11_init_213 rfl rfl ?_
  refine J_iconst (v := 5) dX11_init_214 (by decide) ?_
  refine K_newa (t := 0) (N := 5) (a0 := (5, .inl (fun _ => 0))) (nh2 := 97) (ck2 := 96) (sk2 := 25421) dX11_init_215 rfl (jt1 98 rfl rfl) rfl (fun _ _ h9 => h9) (fun _ => rfl) (fun _ => rfl) (by decide +kernel) (by decide +kernel) (Nat.le_of_ble_eq_true rfl) (Nat.le_of_ble_eq_true rfl) (Nat.le_of_ble_eq_true rfl) rfl rfl rfl ?_
  refine K_putF (fs2 := [.ref 1, .ref 17, .ref 50, .ref 51, .ref 54, .ref 57, .ref 65, .ref 75, .ref 81, .ref 85, .ref 88, .ref 93, .ref 96, .int 0, .int 0, .null, .int 0]) dX11_init_217 rfl fw_X11_93 rfl (Nat.le_of_ble_eq_true rfl) (fun _ => ⟨rfl, rfl⟩) rfl ?_
  refine J_aload_n dX11_init_220 rfl rfl ?_
  refine J_iconst (v := 0) dX11_init_221 (by decide) ?_
  refine K_put (fs2 := [.ref 1, .ref 17, .ref 50, .ref 51, .ref 54, .ref 57, .ref 65, .ref 75, .ref 81, .ref 85, .ref 88, .ref 93, .ref 96, .int 0, .int 0, .null, .int 0]) dX11_init_222 fw_X11_97 rfl (Nat.le_of_ble_eq_true rfl) (fun _ => ⟨rfl, rfl⟩) rfl ?_
  refine J_aload_n dX11_init_225 rfl rfl ?_
  refine J_iconst (v := (-1)) dX11_init_226 (by decide) ?_
  refine K_put (fs2 := [.ref 1, .ref 17, .ref 50, .ref 51, .ref 54, .ref 57, .ref 65, .ref 75, .ref 81, .ref 85, .ref 88, .ref 93, .ref 96, .int 0, .int (-1), .null, .int 0]) dX11_init_227 fw_X11_101 rfl (Nat.le_of_ble_eq_true rfl) (fun _ => ⟨rfl, rfl⟩) rfl ?_
  refine J_aload_n dX11_init_230 rfl rfl ?_
  refine J_sipush (v := 1260) dX11_init_231 (by decide +kernel) ?_
  refine K_newa (t := 0) (N := 1260) (a0 := (1260, .inl (fun _ => 0))) (nh2 := 98) (ck2 := 97) (sk2 := 26681) dX11_init_234 rfl (jt1 98 rfl rfl) rfl (fun _ _ h9 => h9) (fun _ => rfl) (fun _ => rfl) (by decide +kernel) (by decide +kernel) (Nat.le_of_ble_eq_true rfl) (Nat.le_of_ble_eq_true rfl) (Nat.le_of_ble_eq_true rfl) rfl rfl rfl ?_
  refine K_putF (fs2 := [.ref 1, .ref 17, .ref 50, .ref 51, .ref 54, .ref 57, .ref 65, .ref 75, .ref 81, .ref 85, .ref 88, .ref 93, .ref 96, .int 0, .int (-1), .ref 97, .int 0]) dX11_init_236 rfl fw_X11_104 rfl (Nat.le_of_ble_eq_true rfl) (fun _ => ⟨rfl, rfl⟩) rfl ?_
  refine J_aload_n dX11_init_239 rfl rfl ?_
  refine J_iconst (v := 0) dX11_init_240 (by decide) ?_
  refine K_put (fs2 := [.ref 1, .ref 17, .ref 50, .ref 51, .ref 54, .ref 57, .ref 65, .ref 75, .ref 81, .ref 85, .ref 88, .ref 93, .ref 96, .int 0, .int (-1), .ref 97, .int 0]) dX11_init_241 fw_X11_107 rfl (Nat.le_of_ble_eq_true rfl) jb0 rfl ?_
  refine J_aload_n dX11_init_244 rfl rfl ?_
  refine J_get (v := .ref 51) dX11_init_245 fl_X11_27 rfl rfl ?_
  refine J_aload_n dX11_init_248 rfl rfl ?_
  refine J_get (v := .ref 1) dX11_init_249 fl_X11_10 rfl rfl ?_
  refine J_get (v := .ref 2) dX11_init_252 fl_X11_111 rfl rfl ?_
  refine J_callV (st := []) dX11_init_255 cv_X11_114 (c_X0_settle_1 rfl rfl rfl) rfl rfl rfl (Nat.le_of_ble_eq_true rfl) ⟨(Nat.le_of_ble_eq_true rfl), (Nat.le_of_ble_eq_true rfl)⟩ ⟨(Nat.le_of_ble_eq_true rfl), (Nat.le_of_ble_eq_true rfl)⟩ (fun r h9 hp => ?_)
  obtain ⟨rfl, rfl⟩ := hp
  refine J_nf (nh2 := 98) (ck2 := 97) (sk2 := 26681) (st2 := []) rfl rfl rfl rfl ?_
  refine J_app (L3 := [(51, .inr (0, [.ref 52, .ref 53, .int 1, .int 0])), (52, .inl (0, 1260, .inl (upd (fun _ => 0) 0 0))), (0, .inr (11, [.ref 1, .ref 17, .ref 50, .ref 51, .ref 54, .ref 57, .ref 65, .ref 75, .ref 81, .ref 85, .ref 88, .ref 93, .ref 96, .int 0, .int (-1), .ref 97, .int 0])), (0, .inr (11, [.ref 1, .ref 17, .ref 50, .ref 51, .ref 54, .ref 57, .ref 65, .ref 75, .ref 81, .ref 85, .ref 88, .ref 93, .ref 96, .int 0, .int (-1), .ref 97, .int 0])), (97, .inl (0, 1260, .inl (fun _ => 0))), (0, .inr (11, [.ref 1, .ref 17, .ref 50, .ref 51, .ref 54, .ref 57, .ref 65, .ref 75, .ref 81, .ref 85, .ref 88, .ref 93, .ref 96, .int 0, .int (-1), .null, .int 0])), (0, .inr (11, [.ref 1, .ref 17, .ref 50, .ref 51, .ref 54, .ref 57, .ref 65, .ref 75, .ref 81, .ref 85, .ref 88, .ref 93, .ref 96, .int 0, .int 0, .null, .int 0])), (0, .inr (11, [.ref 1, .ref 17, .ref 50, .ref 51, .ref 54, .ref 57, .ref 65, .ref 75, .ref 81, .ref 85, .ref 88, .ref 93, .ref 96, .int 0, .int 0, .null, .int 0])), (96, .inl (0, 5, .inl (fun _ => 0))), (0, .inr (11, [.ref 1, .ref 17, .ref 50, .ref 51, .ref 54, .ref 57, .ref 65, .ref 75, .ref 81, .ref 85, .ref 88, .ref 93, .null, .int 0, .int 0, .null, .int 0])), (93, .inr (4, [.ref 51, .ref 57, .ref 94, .ref 95, .int 0])), (95, .inl (0, 0, .inl (fun _ => 0))), (94, .inl (0, 0, .inl (fun _ => 0))), (93, .inr (4, [.null, .null, .null, .null, .int 0])), (0, .inr (11, [.ref 1, .ref 17, .ref 50, .ref 51, .ref 54, .ref 57, .ref 65, .ref 75, .ref 81, .ref 85, .ref 88, .null, .null, .int 0, .int 0, .null, .int 0])), (88, .inr (6, [.ref 1, .ref 51, .ref 57, .ref 65, .ref 89, .ref 90, .int 0, .int (-1), .ref 91, .ref 92, .int (-1), .int (-1), .int (-1)])), (92, .inl (0, 1260, .inl (fun _ => 0))), (91, .inl (0, 1260, .inl (fun _ => 0))), (90, .inl (0, 1260, .inl (fun _ => 0))), (89, .inl (2, 1260, .inl (fun _ => 0))), (88, .inr (6, [.null, .null, .null, .null, .null, .null, .int 0, .int 0, .null, .null, .int 0, .int 0, .int 0])), (0, .inr (11, [.ref 1, .ref 17, .ref 50, .ref 51, .ref 54, .ref 57, .ref 65, .ref 75, .ref 81, .ref 85, .null, .null, .null, .int 0, .int 0, .null, .int 0])), (85, .inr (2, [.ref 1, .ref 51, .ref 86, .ref 87])), (87, .inl (0, 12, .inl (fun _ => 0))), (86, .inl (0, 12, .inl (fun _ => 0))), (85, .inr (2, [.null, .null, .null, .null])), (0, .inr (11, [.ref 1, .ref 17, .ref 50, .ref 51, .ref 54, .ref 57, .ref 65, .ref 75, .ref 81, .null, .null, .null, .null, .int 0, .int 0, .null, .int 0])), (81, .inr (7, [.ref 51, .ref 57, .ref 82, .ref 83, .ref 84, .int 0, .int (-1)])), (84, .inl (0, 0, .inl (fun _ => 0))), (83, .inl (0, 14, .inl (fun _ => 0))), (82, .inl (0, 14, .inl (fun _ => 0))), (81, .inr (7, [.null, .null, .null, .null, .null, .int 0, .int 0])), (0, .inr (11, [.ref 1, .ref 17, .ref 50, .ref 51, .ref 54, .ref 57, .ref 65, .ref 75, .null, .null, .null, .null, .null, .int 0, .int 0, .null, .int 0])), (75, .inr (3, [.ref 51, .ref 57, .ref 76, .ref 77, .ref 78, .ref 79, .ref 80, .int 0])), (80, .inl (0, 1260, .inl (fun _ => 0))), (79, .inl (0, 1260, .inl (fun _ => 0))), (78, .inl (0, 1261, .inl (fun _ => 0))), (77, .inl (0, 0, .inl (fun _ => 0))), (76, .inl (0, 0, .inl (fun _ => 0))), (75, .inr (3, [.null, .null, .null, .null, .null, .null, .null, .int 0])), (0, .inr (11, [.ref 1, .ref 17, .ref 50, .ref 51, .ref 54, .ref 57, .ref 65, .null, .null, .null, .null, .null, .null, .int 0, .int 0, .null, .int 0])), (65, .inr (10, [.ref 51, .ref 57, .ref 66, .ref 67, .ref 68, .int 0, .int (-1), .int (-1), .ref 69, .ref 70, .ref 71, .ref 72, .int 0, .int (-1), .int (-1), .ref 73, .ref 74])), (74, .inl (1, 1260, .inr (.inl (fun _ => 0)))), (73, .inl (1, 1260, .inr (.inl (fun _ => 0)))), (72, .inl (0, 1260, .inl (fun _ => 0))), (71, .inl (0, 1260, .inl (fun _ => 0))), (70, .inl (0, 100, .inl (fun _ => 0))), (69, .inl (0, 1260, .inl (fun _ => 0))), (68, .inl (0, 1260, .inl (fun _ => 0))), (67, .inl (0, 1260, .inl (fun _ => 0))), (66, .inl (0, 1260, .inl (fun _ => 0))), (65, .inr (10, [.null, .null, .null, .null, .null, .int 0, .int 0, .int 0, .null, .null, .null, .null, .int 0, .int 0, .int 0, .null, .null])), (0, .inr (11, [.ref 1, .ref 17, .ref 50, .ref 51, .ref 54, .ref 57, .null, .null, .null, .null, .null, .null, .null, .int 0, .int 0, .null, .int 0])), (57, .inr (9, [.ref 1, .ref 51, .ref 58, .ref 61, .ref 62, .ref 63, .ref 64, .int 0, .int 1, .int 1])), (64, .inl (0, 2625, .inl (fun _ => 0))), (63, .inl (0, 0, .inl (fun _ => 0))), (62, .inl (0, 1260, .inl (fun _ => 0))), (61, .inl (0, 0, .inl (fun _ => 0))), (58, .inr (1, [.ref 59, .ref 60, .int 0, .int 0, .int 0, .int 0, .int 0, .int 1])), (60, .inl (1, 64, .inr (.inl (fun _ => 0)))), (59, .inl (0, 8, .inl (fun _ => 0))), (57, .inr (9, [.null, .null, .null, .null, .null, .null, .null, .int 0, .int 0, .int 0])), (0, .inr (11, [.ref 1, .ref 17, .ref 50, .ref 51, .ref 54, .null, .null, .null, .null, .null, .null, .null, .null, .int 0, .int 0, .null, .int 0])), (54, .inr (5, [.ref 55, .int 0, .int 17, .int 0, .int 0, .int 0, .int 0, .int (-1), .ref 56, .int 0])), (56, .inl (0, 412, .inl (fun _ => 0))), (55, .inl (0, 400, .inl (fun _ => 0))), (54, .inr (5, [.null, .int 0, .int 0, .int 0, .int 0, .int 0, .int 0, .int 0, .null, .int 0])), (0, .inr (11, [.ref 1, .ref 17, .ref 50, .ref 51, .null, .null, .null, .null, .null, .null, .null, .null, .null, .int 0, .int 0, .null, .int 0])), (51, .inr (0, [.ref 52, .ref 53, .int 0, .int 0])), (53, .inl (0, 7, .inl (fun _ => 0))), (52, .inl (0, 1260, .inl (fun _ => 0))), (51, .inr (0, [.null, .null, .int 0, .int 0])), (0, .inr (11, [.ref 1, .ref 17, .ref 50, .null, .null, .null, .null, .null, .null, .null, .null, .null, .null, .int 0, .int 0, .null, .int 0])), (50, .inl (2, 2, .inl (fun _ => 0))), (0, .inr (11, [.ref 1, .ref 17, .null, .null, .null, .null, .null, .null, .null, .null, .null, .null, .null, .int 0, .int 0, .null, .int 0])), (17, .inl (4, 2, .inr (.inr (.inr (.inr (va_up (va_up (fun _ => none) 0 (some 18)) 1 (some 34))))))), (34, .inr (8, [.ref 35, .ref 36, .ref 37, .int 0, .int (-1), .ref 44, .ref 45, .int 0, .ref 46, .ref 47, .int 0, .ref 48, .ref 49, .int 0])), (49, .inl (0, 12, .inl (fun _ => 0))), (48, .inl (0, 12, .inl (fun _ => 0))), (47, .inl (0, 6, .inl (fun _ => 0))), (46, .inl (0, 6, .inl (fun _ => 0))), (45, .inl (0, 8, .inl (fun _ => 0))), (44, .inl (0, 8, .inl (fun _ => 0))), (43, .inl (0, 0, .inl (fun _ => 0))), (42, .inl (0, 0, .inl (fun _ => 0))), (41, .inl (0, 0, .inl (fun _ => 0))), (40, .inl (0, 0, .inl (fun _ => 0))), (39, .inl (0, 0, .inl (fun _ => 0))), (38, .inl (0, 0, .inl (fun _ => 0))), (37, .inl (5, 6, .inr (.inr (.inr (.inr (fun i => if i < 6 then some (37 + 1 + i) else none)))))), (36, .inl (0, 2, .inl (fun _ => 0))), (35, .inl (0, 5, .inl (fun _ => 0))), (34, .inr (8, [.null, .null, .null, .int 0, .int 0, .null, .null, .int 0, .null, .null, .int 0, .null, .null, .int 0])), (17, .inl (4, 2, .inr (.inr (.inr (.inr (va_up (fun _ => none) 0 (some 18))))))), (18, .inr (8, [.ref 19, .ref 20, .ref 21, .int 0, .int (-1), .ref 28, .ref 29, .int 0, .ref 30, .ref 31, .int 0, .ref 32, .ref 33, .int 0])), (33, .inl (0, 12, .inl (fun _ => 0))), (32, .inl (0, 12, .inl (fun _ => 0))), (31, .inl (0, 6, .inl (fun _ => 0))), (30, .inl (0, 6, .inl (fun _ => 0))), (29, .inl (0, 8, .inl (fun _ => 0))), (28, .inl (0, 8, .inl (fun _ => 0))), (27, .inl (0, 0, .inl (fun _ => 0))), (26, .inl (0, 0, .inl (fun _ => 0))), (25, .inl (0, 0, .inl (fun _ => 0))), (24, .inl (0, 0, .inl (fun _ => 0))), (23, .inl (0, 0, .inl (fun _ => 0))), (22, .inl (0, 0, .inl (fun _ => 0))), (21, .inl (5, 6, .inr (.inr (.inr (.inr (fun i => if i < 6 then some (21 + 1 + i) else none)))))), (20, .inl (0, 2, .inl (fun _ => 0))), (19, .inl (0, 5, .inl (fun _ => 0))), (18, .inr (8, [.null, .null, .null, .int 0, .int 0, .null, .null, .int 0, .null, .null, .int 0, .null, .null, .int 0])), (17, .inl (4, 2, .inr (.inr (.inr (.inr (fun _ => none)))))), (0, .inr (11, [.ref 1, .null, .null, .null, .null, .null, .null, .null, .null, .null, .null, .null, .null, .int 0, .int 0, .null, .int 0])), (1, .inr (8, [.ref 2, .ref 3, .ref 4, .int 0, .int (-1), .ref 11, .ref 12, .int 0, .ref 13, .ref 14, .int 0, .ref 15, .ref 16, .int 0])), (16, .inl (0, 12, .inl (fun _ => 0))), (15, .inl (0, 12, .inl (fun _ => 0))), (14, .inl (0, 6, .inl (fun _ => 0))), (13, .inl (0, 6, .inl (fun _ => 0))), (12, .inl (0, 8, .inl (fun _ => 0))), (11, .inl (0, 8, .inl (fun _ => 0))), (10, .inl (0, 0, .inl (fun _ => 0))), (9, .inl (0, 0, .inl (fun _ => 0))), (8, .inl (0, 0, .inl (fun _ => 0))), (7, .inl (0, 0, .inl (fun _ => 0))), (6, .inl (0, 0, .inl (fun _ => 0))), (5, .inl (0, 0, .inl (fun _ => 0))), (4, .inl (5, 6, .inr (.inr (.inr (.inr (fun i => if i < 6 then some (4 + 1 + i) else none)))))), (3, .inl (0, 2, .inl (fun _ => 0))), (2, .inl (0, 5, .inl (fun _ => 0))), (1, .inr (8, [.null, .null, .null, .int 0, .int 0, .null, .null, .int 0, .null, .null, .int 0, .null, .null, .int 0]))]) rfl ?_
  refine J_mask (L2 := [(51, .inr (0, [.ref 52, .ref 53, .int 1, .int 0])), (52, .inl (0, 1260, .inl (upd (fun _ => 0) 0 0))), (0, .inr (11, [.ref 1, .ref 17, .ref 50, .ref 51, .ref 54, .ref 57, .ref 65, .ref 75, .ref 81, .ref 85, .ref 88, .ref 93, .ref 96, .int 0, .int (-1), .ref 97, .int 0])), (97, .inl (0, 1260, .inl (fun _ => 0))), (96, .inl (0, 5, .inl (fun _ => 0))), (93, .inr (4, [.ref 51, .ref 57, .ref 94, .ref 95, .int 0])), (95, .inl (0, 0, .inl (fun _ => 0))), (94, .inl (0, 0, .inl (fun _ => 0))), (88, .inr (6, [.ref 1, .ref 51, .ref 57, .ref 65, .ref 89, .ref 90, .int 0, .int (-1), .ref 91, .ref 92, .int (-1), .int (-1), .int (-1)])), (92, .inl (0, 1260, .inl (fun _ => 0))), (91, .inl (0, 1260, .inl (fun _ => 0))), (90, .inl (0, 1260, .inl (fun _ => 0))), (89, .inl (2, 1260, .inl (fun _ => 0))), (85, .inr (2, [.ref 1, .ref 51, .ref 86, .ref 87])), (87, .inl (0, 12, .inl (fun _ => 0))), (86, .inl (0, 12, .inl (fun _ => 0))), (81, .inr (7, [.ref 51, .ref 57, .ref 82, .ref 83, .ref 84, .int 0, .int (-1)])), (84, .inl (0, 0, .inl (fun _ => 0))), (83, .inl (0, 14, .inl (fun _ => 0))), (82, .inl (0, 14, .inl (fun _ => 0))), (75, .inr (3, [.ref 51, .ref 57, .ref 76, .ref 77, .ref 78, .ref 79, .ref 80, .int 0])), (80, .inl (0, 1260, .inl (fun _ => 0))), (79, .inl (0, 1260, .inl (fun _ => 0))), (78, .inl (0, 1261, .inl (fun _ => 0))), (77, .inl (0, 0, .inl (fun _ => 0))), (76, .inl (0, 0, .inl (fun _ => 0))), (65, .inr (10, [.ref 51, .ref 57, .ref 66, .ref 67, .ref 68, .int 0, .int (-1), .int (-1), .ref 69, .ref 70, .ref 71, .ref 72, .int 0, .int (-1), .int (-1), .ref 73, .ref 74])), (74, .inl (1, 1260, .inr (.inl (fun _ => 0)))), (73, .inl (1, 1260, .inr (.inl (fun _ => 0)))), (72, .inl (0, 1260, .inl (fun _ => 0))), (71, .inl (0, 1260, .inl (fun _ => 0))), (70, .inl (0, 100, .inl (fun _ => 0))), (69, .inl (0, 1260, .inl (fun _ => 0))), (68, .inl (0, 1260, .inl (fun _ => 0))), (67, .inl (0, 1260, .inl (fun _ => 0))), (66, .inl (0, 1260, .inl (fun _ => 0))), (57, .inr (9, [.ref 1, .ref 51, .ref 58, .ref 61, .ref 62, .ref 63, .ref 64, .int 0, .int 1, .int 1])), (64, .inl (0, 2625, .inl (fun _ => 0))), (63, .inl (0, 0, .inl (fun _ => 0))), (62, .inl (0, 1260, .inl (fun _ => 0))), (61, .inl (0, 0, .inl (fun _ => 0))), (58, .inr (1, [.ref 59, .ref 60, .int 0, .int 0, .int 0, .int 0, .int 0, .int 1])), (60, .inl (1, 64, .inr (.inl (fun _ => 0)))), (59, .inl (0, 8, .inl (fun _ => 0))), (54, .inr (5, [.ref 55, .int 0, .int 17, .int 0, .int 0, .int 0, .int 0, .int (-1), .ref 56, .int 0])), (56, .inl (0, 412, .inl (fun _ => 0))), (55, .inl (0, 400, .inl (fun _ => 0))), (53, .inl (0, 7, .inl (fun _ => 0))), (50, .inl (2, 2, .inl (fun _ => 0))), (17, .inl (4, 2, .inr (.inr (.inr (.inr (va_up (va_up (fun _ => none) 0 (some 18)) 1 (some 34))))))), (34, .inr (8, [.ref 35, .ref 36, .ref 37, .int 0, .int (-1), .ref 44, .ref 45, .int 0, .ref 46, .ref 47, .int 0, .ref 48, .ref 49, .int 0])), (49, .inl (0, 12, .inl (fun _ => 0))), (48, .inl (0, 12, .inl (fun _ => 0))), (47, .inl (0, 6, .inl (fun _ => 0))), (46, .inl (0, 6, .inl (fun _ => 0))), (45, .inl (0, 8, .inl (fun _ => 0))), (44, .inl (0, 8, .inl (fun _ => 0))), (43, .inl (0, 0, .inl (fun _ => 0))), (42, .inl (0, 0, .inl (fun _ => 0))), (41, .inl (0, 0, .inl (fun _ => 0))), (40, .inl (0, 0, .inl (fun _ => 0))), (39, .inl (0, 0, .inl (fun _ => 0))), (38, .inl (0, 0, .inl (fun _ => 0))), (37, .inl (5, 6, .inr (.inr (.inr (.inr (fun i => if i < 6 then some (37 + 1 + i) else none)))))), (36, .inl (0, 2, .inl (fun _ => 0))), (35, .inl (0, 5, .inl (fun _ => 0))), (18, .inr (8, [.ref 19, .ref 20, .ref 21, .int 0, .int (-1), .ref 28, .ref 29, .int 0, .ref 30, .ref 31, .int 0, .ref 32, .ref 33, .int 0])), (33, .inl (0, 12, .inl (fun _ => 0))), (32, .inl (0, 12, .inl (fun _ => 0))), (31, .inl (0, 6, .inl (fun _ => 0))), (30, .inl (0, 6, .inl (fun _ => 0))), (29, .inl (0, 8, .inl (fun _ => 0))), (28, .inl (0, 8, .inl (fun _ => 0))), (27, .inl (0, 0, .inl (fun _ => 0))), (26, .inl (0, 0, .inl (fun _ => 0))), (25, .inl (0, 0, .inl (fun _ => 0))), (24, .inl (0, 0, .inl (fun _ => 0))), (23, .inl (0, 0, .inl (fun _ => 0))), (22, .inl (0, 0, .inl (fun _ => 0))), (21, .inl (5, 6, .inr (.inr (.inr (.inr (fun i => if i < 6 then some (21 + 1 + i) else none)))))), (20, .inl (0, 2, .inl (fun _ => 0))), (19, .inl (0, 5, .inl (fun _ => 0))), (1, .inr (8, [.ref 2, .ref 3, .ref 4, .int 0, .int (-1), .ref 11, .ref 12, .int 0, .ref 13, .ref 14, .int 0, .ref 15, .ref 16, .int 0])), (16, .inl (0, 12, .inl (fun _ => 0))), (15, .inl (0, 12, .inl (fun _ => 0))), (14, .inl (0, 6, .inl (fun _ => 0))), (13, .inl (0, 6, .inl (fun _ => 0))), (12, .inl (0, 8, .inl (fun _ => 0))), (11, .inl (0, 8, .inl (fun _ => 0))), (10, .inl (0, 0, .inl (fun _ => 0))), (9, .inl (0, 0, .inl (fun _ => 0))), (8, .inl (0, 0, .inl (fun _ => 0))), (7, .inl (0, 0, .inl (fun _ => 0))), (6, .inl (0, 0, .inl (fun _ => 0))), (5, .inl (0, 0, .inl (fun _ => 0))), (4, .inl (5, 6, .inr (.inr (.inr (.inr (fun i => if i < 6 then some (4 + 1 + i) else none)))))), (3, .inl (0, 2, .inl (fun _ => 0))), (2, .inl (0, 5, .inl (fun _ => 0)))]) (ks := [51, 52, 0, 0, 97, 0, 0, 0, 96, 0, 93, 95, 94, 93, 0, 88, 92, 91, 90, 89, 88, 0, 85, 87, 86, 85, 0, 81, 84, 83, 82, 81, 0, 75, 80, 79, 78, 77, 76, 75, 0, 65, 74, 73, 72, 71, 70, 69, 68, 67, 66, 65, 0, 57, 64, 63, 62, 61, 58, 60, 59, 57, 0, 54, 56, 55, 54, 0, 51, 53, 52, 51, 0, 50, 0, 17, 34, 49, 48, 47, 46, 45, 44, 43, 42, 41, 40, 39, 38, 37, 36, 35, 34, 17, 18, 33, 32, 31, 30, 29, 28, 27, 26, 25, 24, 23, 22, 21, 20, 19, 18, 17, 0, 1, 16, 15, 14, 13, 12, 11, 10, 9, 8, 7, 6, 5, 4, 3, 2, 1]) [true, true, true, false, true, false, false, false, true, false, true, true, true, false, false, true, true, true, true, true, false, false, true, true, true, false, false, true, true, true, true, false, false, true, true, true, true, true, true, false, false, true, true, true, true, true, true, true, true, true, true, false, false, true, true, true, true, true, true, true, true, false, false, true, true, true, false, false, false, true, false, false, false, true, false, true, true, true, true, true, true, true, true, true, true, true, true, true, true, true, true, true, false, false, true, true, true, true, true, true, true, true, true, true, true, true, true, true, true, true, false, false, false, true, true, true, true, true, true, true, true, true, true, true, true, true, true, true, true, false] rfl (by decide +kernel) rfl ?_
  exact J_vret dX11_init_258 rfl (Nat.le_of_ble_eq_true rfl) (Nat.le_of_ble_eq_true rfl) ⟨rfl, rfl⟩
set_option maxHeartbeats 4000000 in
set_option maxRecDepth 100000 in
theorem c_X12_init_1 {l : Launch} {G : jG} {fh : Nat → Option va_E} (hk98 : fh 98 = some (.inr (12, [.int 0, .int 0, .null, .null, .null, .null, .null, .null, .null, .int 0, .int 0, .null, .null, .null, .int 0, .int 0, .int 0, .int 0, .int 0, .int 0, .int 0, .null, .int 0, .int 0, .null, .null, .null, .null, .null, .null, .null, .null, .int 0, .int 0, .int 0, .int 0, .null, .null, .null, .null, .null, .null, .null, .null, .null, .null, .null, .null, .int 0, .null, .null, .null, .null, .null, .int 0, .int 0]))) : JM l G yX12_init MX12_init { frames := 1, cells := 36, slots := 388752, locals := 12 } [.ref 98] (99, fh) (fun r h9 => r = none ∧ h9 = (135, hc fh [(100, .inl (0, 4870, .inl (upd (fun _ => 0) 63 (-1)))), (98, .inr (12, [.int 0, .int 0, .ref 99, .ref 100, .ref 101, .ref 102, .ref 103, .ref 104, .ref 105, .int 0, .int (-1), .ref 106, .ref 107, .ref 108, .int 0, .int 0, .int 0, .int 0, .int 0, .int 0, .int 0, .ref 109, .int 0, .int 0, .ref 110, .ref 111, .ref 112, .ref 113, .ref 114, .ref 115, .ref 116, .ref 117, .int 0, .int 0, .int (-1), .int (-1), .ref 118, .ref 119, .ref 120, .ref 121, .ref 122, .ref 123, .ref 124, .ref 125, .ref 126, .ref 127, .ref 128, .ref 129, .int 0, .ref 130, .ref 131, .ref 132, .ref 133, .ref 134, .int 0, .int 0])), (134, .inl (0, 1260, .inl (fun _ => 0))), (133, .inl (0, 1600, .inl (fun _ => 0))), (132, .inl (0, 1600, .inl (fun _ => 0))), (131, .inl (0, 1261, .inl (fun _ => 0))), (130, .inl (2, 1260, .inl (fun _ => 0))), (129, .inl (2, 229376, .inl (fun _ => 0))), (128, .inl (1, 1260, .inr (.inl (fun _ => 0)))), (127, .inl (1, 1260, .inr (.inl (fun _ => 0)))), (126, .inl (0, 1260, .inl (fun _ => 0))), (125, .inl (0, 1260, .inl (fun _ => 0))), (124, .inl (2, 27720, .inl (fun _ => 0))), (123, .inl (0, 1260, .inl (fun _ => 0))), (122, .inl (2, 1260, .inl (fun _ => 0))), (121, .inl (0, 1260, .inl (fun _ => 0))), (120, .inl (0, 1260, .inl (fun _ => 0))), (119, .inl (1, 1260, .inr (.inl (fun _ => 0)))), (118, .inl (0, 1260, .inl (fun _ => 0))), (117, .inl (0, 7, .inl (fun _ => 0))), (116, .inl (0, 1260, .inl (fun _ => 0))), (115, .inl (0, 27720, .inl (fun _ => 0))), (114, .inl (0, 1260, .inl (fun _ => 0))), (113, .inl (0, 27720, .inl (fun _ => 0))), (112, .inl (0, 27720, .inl (fun _ => 0))), (111, .inl (0, 1260, .inl (fun _ => 0))), (110, .inl (0, 8820, .inl (fun _ => 0))), (109, .inl (0, 8, .inl (fun _ => 0))), (108, .inl (0, 401, .inl (fun _ => 0))), (107, .inl (0, 401, .inl (fun _ => 0))), (106, .inl (0, 401, .inl (fun _ => 0))), (105, .inl (0, 5, .inl (fun _ => 0))), (104, .inl (3, 400, .inl (fun _ => 0))), (103, .inl (3, 73, .inl (upd (upd (upd (upd (upd (upd (upd (upd (upd (upd (upd (upd (upd (upd (upd (upd (upd (upd (upd (upd (upd (upd (upd (upd (upd (upd (upd (upd (upd (upd (upd (upd (upd (upd (upd (upd (upd (upd (upd (upd (upd (upd (upd (upd (upd (upd (upd (upd (upd (upd (upd (upd (upd (upd (upd (upd (upd (upd (upd (upd (upd (upd (upd (upd (upd (upd (upd (upd (upd (upd (upd (upd (upd (fun _ => 0) 0 116) 1 97) 2 107) 3 101) 4 115) 5 32) 6 108) 7 101) 8 116) 9 115) 10 32) 11 98) 12 97) 13 114) 14 115) 15 32) 16 105) 17 102) 18 32) 19 111) 20 114) 21 32) 22 97) 23 110) 24 100) 25 32) 26 110) 27 111) 28 116) 29 32) 30 108) 31 101) 32 102) 33 116) 34 32) 35 114) 36 105) 37 103) 38 104) 39 116) 40 32) 41 111) 42 110) 43 101) 44 32) 45 111) 46 116) 47 104) 48 101) 49 114) 50 32) 51 97) 52 112) 53 97) 54 114) 55 116) 56 32) 57 102) 58 105) 59 114) 60 115) 61 116) 62 32) 63 98) 64 101) 65 97) 66 110) 67 115) 68 32) 69 100) 70 97) 71 121) 72 32))), (102, .inl (2, 2, .inl (fun _ => 0))), (101, .inl (0, 9740, .inl (fun _ => 0))), (99, .inl (0, 7, .inl (fun _ => 0)))])) := by
  refine JM.of (by decide) rfl (fun _ => rfl) (Nat.le_of_ble_eq_true rfl) ⟨0, rfl⟩ ?_
  refine J_hc0 (J_ls (ls2 := [some (.ref 98)]) rfl ?_)
  refine J_aload_n dX12_init_0 rfl rfl ?_
  refine J_objInit dX12_init_1 (jt6 72 rfl rfl) (jt1 27 rfl rfl) (jt1 28 rfl rfl) (Nat.le_of_ble_eq_true rfl) (Nat.le_of_ble_eq_true rfl) ?_
  refine J_aload_n dX12_init_4 rfl rfl ?_
  refine J_bipush (v := 7) dX12_init_5 (by decide +kernel) ?_
  refine K_newa (t := 0) (N := 7) (a0 := (7, .inl (fun _ => 0))) (nh2 := 100) (ck2 := 1) (sk2 := 7) dX12_init_7 rfl (jt1 98 rfl rfl) rfl (fun _ _ h9 => h9) (fun _ => rfl) (fun _ => rfl) (by decide +kernel) (by decide +kernel) (Nat.le_of_ble_eq_true rfl) (Nat.le_of_ble_eq_true rfl) (Nat.le_of_ble_eq_true rfl) rfl rfl rfl ?_
  refine K_putF (fs2 := [.int 0, .int 0, .ref 99, .null, .null, .null, .null, .null, .null, .int 0, .int 0, .null, .null, .null, .int 0, .int 0, .int 0, .int 0, .int 0, .int 0, .int 0, .null, .int 0, .int 0, .null, .null, .null, .null, .null, .null, .null, .null, .int 0, .int 0, .int 0, .int 0, .null, .null, .null, .null, .null, .null, .null, .null, .null, .null, .null, .null, .int 0, .null, .null, .null, .null, .null, .int 0, .int 0]) dX12_init_9 rfl fw_X12_7 hk98 (Nat.le_of_ble_eq_true rfl) (fun _ => ⟨rfl, rfl⟩) rfl ?_
  refine J_aload_n dX12_init_12 rfl rfl ?_
  refine J_sipush (v := 4870) dX12_init_13 (by decide +kernel) ?_
  refine K_newa (t := 0) (N := 4870) (a0 := (4870, .inl (fun _ => 0))) (nh2 := 101) (ck2 := 2) (sk2 := 4877) dX12_init_16 rfl (jt1 98 rfl rfl) rfl (fun _ _ h9 => h9) (fun _ => rfl) (fun _ => rfl) (by decide +kernel) (by decide +kernel) (Nat.le_of_ble_eq_true rfl) (Nat.le_of_ble_eq_true rfl) (Nat.le_of_ble_eq_true rfl) rfl rfl rfl ?_
  refine K_putF (fs2 := [.int 0, .int 0, .ref 99, .ref 100, .null, .null, .null, .null, .null, .int 0, .int 0, .null, .null, .null, .int 0, .int 0, .int 0, .int 0, .int 0, .int 0, .int 0, .null, .int 0, .int 0, .null, .null, .null, .null, .null, .null, .null, .null, .int 0, .int 0, .int 0, .int 0, .null, .null, .null, .null, .null, .null, .null, .null, .null, .null, .null, .null, .int 0, .null, .null, .null, .null, .null, .int 0, .int 0]) dX12_init_18 rfl fw_X12_20 rfl (Nat.le_of_ble_eq_true rfl) (fun _ => ⟨rfl, rfl⟩) rfl ?_
  refine J_aload_n dX12_init_21 rfl rfl ?_
  refine J_sipush (v := 9740) dX12_init_22 (by decide +kernel) ?_
  refine K_newa (t := 0) (N := 9740) (a0 := (9740, .inl (fun _ => 0))) (nh2 := 102) (ck2 := 3) (sk2 := 14617) dX12_init_25 rfl (jt1 98 rfl rfl) rfl (fun _ _ h9 => h9) (fun _ => rfl) (fun _ => rfl) (by decide +kernel) (by decide +kernel) (Nat.le_of_ble_eq_true rfl) (Nat.le_of_ble_eq_true rfl) (Nat.le_of_ble_eq_true rfl) rfl rfl rfl ?_
  refine K_putF (fs2 := [.int 0, .int 0, .ref 99, .ref 100, .ref 101, .null, .null, .null, .null, .int 0, .int 0, .null, .null, .null, .int 0, .int 0, .int 0, .int 0, .int 0, .int 0, .int 0, .null, .int 0, .int 0, .null, .null, .null, .null, .null, .null, .null, .null, .int 0, .int 0, .int 0, .int 0, .null, .null, .null, .null, .null, .null, .null, .null, .null, .null, .null, .null, .int 0, .null, .null, .null, .null, .null, .int 0, .int 0]) dX12_init_27 rfl fw_X12_23 rfl (Nat.le_of_ble_eq_true rfl) (fun _ => ⟨rfl, rfl⟩) rfl ?_
  refine J_aload_n dX12_init_30 rfl rfl ?_
  refine J_iconst (v := 2) dX12_init_31 (by decide) ?_
  refine K_newa (t := 2) (N := 2) (a0 := (2, .inl (fun _ => 0))) (nh2 := 103) (ck2 := 4) (sk2 := 14619) dX12_init_32 rfl (jt1 119 rfl rfl) rfl (fun _ _ h9 => h9) (fun _ => rfl) (fun _ => rfl) (by decide +kernel) (by decide +kernel) (Nat.le_of_ble_eq_true rfl) (Nat.le_of_ble_eq_true rfl) (Nat.le_of_ble_eq_true rfl) rfl rfl rfl ?_
  refine K_putF (fs2 := [.int 0, .int 0, .ref 99, .ref 100, .ref 101, .ref 102, .null, .null, .null, .int 0, .int 0, .null, .null, .null, .int 0, .int 0, .int 0, .int 0, .int 0, .int 0, .int 0, .null, .int 0, .int 0, .null, .null, .null, .null, .null, .null, .null, .null, .int 0, .int 0, .int 0, .int 0, .null, .null, .null, .null, .null, .null, .null, .null, .null, .null, .null, .null, .int 0, .null, .null, .null, .null, .null, .int 0, .int 0]) dX12_init_34 rfl fw_X12_26 rfl (Nat.le_of_ble_eq_true rfl) (fun _ => ⟨rfl, rfl⟩) rfl ?_
  refine J_aload_n dX12_init_37 rfl rfl ?_
  refine J_bipush (v := 73) dX12_init_38 (by decide +kernel) ?_
  refine K_newa (t := 3) (N := 73) (a0 := (73, .inl (fun _ => 0))) (nh2 := 104) (ck2 := 5) (sk2 := 14692) dX12_init_40 rfl (jt4 54 rfl rfl) rfl (fun _ _ h9 => h9) (fun _ => rfl) (fun _ => rfl) (by decide +kernel) (by decide +kernel) (Nat.le_of_ble_eq_true rfl) (Nat.le_of_ble_eq_true rfl) (Nat.le_of_ble_eq_true rfl) rfl rfl rfl ?_
  refine J_dup dX12_init_42 rfl ?_
  refine J_iconst (v := 0) dX12_init_43 (by decide) ?_
  refine J_bipush (v := 116) dX12_init_44 (by decide +kernel) ?_
  refine K_bast (i2 := 0) (y := 116) dX12_init_46 rfl rfl (jin (by decide +kernel)) (by decide +kernel) (by decide +kernel) ?_
  refine J_dup dX12_init_47 rfl ?_
  refine J_iconst (v := 1) dX12_init_48 (by decide) ?_
  refine J_bipush (v := 97) dX12_init_49 (by decide +kernel) ?_
  refine K_bast (i2 := 1) (y := 97) dX12_init_51 rfl rfl (jin (by decide +kernel)) (by decide +kernel) (by decide +kernel) ?_
  refine J_dup dX12_init_52 rfl ?_
  refine J_iconst (v := 2) dX12_init_53 (by decide) ?_
  refine J_bipush (v := 107) dX12_init_54 (by decide +kernel) ?_
  refine K_bast (i2 := 2) (y := 107) dX12_init_56 rfl rfl (jin (by decide +kernel)) (by decide +kernel) (by decide +kernel) ?_
  refine J_dup dX12_init_57 rfl ?_
  refine J_iconst (v := 3) dX12_init_58 (by decide) ?_
  refine J_bipush (v := 101) dX12_init_59 (by decide +kernel) ?_
  refine K_bast (i2 := 3) (y := 101) dX12_init_61 rfl rfl (jin (by decide +kernel)) (by decide +kernel) (by decide +kernel) ?_
  refine J_dup dX12_init_62 rfl ?_
  refine J_iconst (v := 4) dX12_init_63 (by decide) ?_
  refine J_bipush (v := 115) dX12_init_64 (by decide +kernel) ?_
  refine K_bast (i2 := 4) (y := 115) dX12_init_66 rfl rfl (jin (by decide +kernel)) (by decide +kernel) (by decide +kernel) ?_
  refine J_dup dX12_init_67 rfl ?_
  refine J_iconst (v := 5) dX12_init_68 (by decide) ?_
  refine J_bipush (v := 32) dX12_init_69 (by decide +kernel) ?_
  refine K_bast (i2 := 5) (y := 32) dX12_init_71 rfl rfl (jin (by decide +kernel)) (by decide +kernel) (by decide +kernel) ?_
  refine J_dup dX12_init_72 rfl ?_
  refine J_bipush (v := 6) dX12_init_73 (by decide +kernel) ?_
  refine J_bipush (v := 108) dX12_init_75 (by decide +kernel) ?_
  refine K_bast (i2 := 6) (y := 108) dX12_init_77 rfl rfl (jin (by decide +kernel)) (by decide +kernel) (by decide +kernel) ?_
  refine J_dup dX12_init_78 rfl ?_
  refine J_bipush (v := 7) dX12_init_79 (by decide +kernel) ?_
  refine J_bipush (v := 101) dX12_init_81 (by decide +kernel) ?_
  refine K_bast (i2 := 7) (y := 101) dX12_init_83 rfl rfl (jin (by decide +kernel)) (by decide +kernel) (by decide +kernel) ?_
  refine J_dup dX12_init_84 rfl ?_
  refine J_bipush (v := 8) dX12_init_85 (by decide +kernel) ?_
  refine J_bipush (v := 116) dX12_init_87 (by decide +kernel) ?_
  refine K_bast (i2 := 8) (y := 116) dX12_init_89 rfl rfl (jin (by decide +kernel)) (by decide +kernel) (by decide +kernel) ?_
  refine J_dup dX12_init_90 rfl ?_
  refine J_bipush (v := 9) dX12_init_91 (by decide +kernel) ?_
  refine J_bipush (v := 115) dX12_init_93 (by decide +kernel) ?_
  refine K_bast (i2 := 9) (y := 115) dX12_init_95 rfl rfl (jin (by decide +kernel)) (by decide +kernel) (by decide +kernel) ?_
  refine J_dup dX12_init_96 rfl ?_
  refine J_bipush (v := 10) dX12_init_97 (by decide +kernel) ?_
  refine J_bipush (v := 32) dX12_init_99 (by decide +kernel) ?_
  refine K_bast (i2 := 10) (y := 32) dX12_init_101 rfl rfl (jin (by decide +kernel)) (by decide +kernel) (by decide +kernel) ?_
  refine J_dup dX12_init_102 rfl ?_
  refine J_bipush (v := 11) dX12_init_103 (by decide +kernel) ?_
  refine J_bipush (v := 98) dX12_init_105 (by decide +kernel) ?_
  refine K_bast (i2 := 11) (y := 98) dX12_init_107 rfl rfl (jin (by decide +kernel)) (by decide +kernel) (by decide +kernel) ?_
  refine J_dup dX12_init_108 rfl ?_
  refine J_bipush (v := 12) dX12_init_109 (by decide +kernel) ?_
  refine J_bipush (v := 97) dX12_init_111 (by decide +kernel) ?_
  refine K_bast (i2 := 12) (y := 97) dX12_init_113 rfl rfl (jin (by decide +kernel)) (by decide +kernel) (by decide +kernel) ?_
  refine J_dup dX12_init_114 rfl ?_
  refine J_bipush (v := 13) dX12_init_115 (by decide +kernel) ?_
  refine J_bipush (v := 114) dX12_init_117 (by decide +kernel) ?_
  refine K_bast (i2 := 13) (y := 114) dX12_init_119 rfl rfl (jin (by decide +kernel)) (by decide +kernel) (by decide +kernel) ?_
  refine J_dup dX12_init_120 rfl ?_
  refine J_bipush (v := 14) dX12_init_121 (by decide +kernel) ?_
  refine J_bipush (v := 115) dX12_init_123 (by decide +kernel) ?_
  refine K_bast (i2 := 14) (y := 115) dX12_init_125 rfl rfl (jin (by decide +kernel)) (by decide +kernel) (by decide +kernel) ?_
  refine J_dup dX12_init_126 rfl ?_
  refine J_bipush (v := 15) dX12_init_127 (by decide +kernel) ?_
  refine J_bipush (v := 32) dX12_init_129 (by decide +kernel) ?_
  refine K_bast (i2 := 15) (y := 32) dX12_init_131 rfl rfl (jin (by decide +kernel)) (by decide +kernel) (by decide +kernel) ?_
  refine J_dup dX12_init_132 rfl ?_
  refine J_bipush (v := 16) dX12_init_133 (by decide +kernel) ?_
  refine J_bipush (v := 105) dX12_init_135 (by decide +kernel) ?_
  refine K_bast (i2 := 16) (y := 105) dX12_init_137 rfl rfl (jin (by decide +kernel)) (by decide +kernel) (by decide +kernel) ?_
  refine J_dup dX12_init_138 rfl ?_
  refine J_bipush (v := 17) dX12_init_139 (by decide +kernel) ?_
  refine J_bipush (v := 102) dX12_init_141 (by decide +kernel) ?_
  refine K_bast (i2 := 17) (y := 102) dX12_init_143 rfl rfl (jin (by decide +kernel)) (by decide +kernel) (by decide +kernel) ?_
  refine J_dup dX12_init_144 rfl ?_
  refine J_bipush (v := 18) dX12_init_145 (by decide +kernel) ?_
  refine J_bipush (v := 32) dX12_init_147 (by decide +kernel) ?_
  refine K_bast (i2 := 18) (y := 32) dX12_init_149 rfl rfl (jin (by decide +kernel)) (by decide +kernel) (by decide +kernel) ?_
  refine J_dup dX12_init_150 rfl ?_
  refine J_bipush (v := 19) dX12_init_151 (by decide +kernel) ?_
  refine J_bipush (v := 111) dX12_init_153 (by decide +kernel) ?_
  refine K_bast (i2 := 19) (y := 111) dX12_init_155 rfl rfl (jin (by decide +kernel)) (by decide +kernel) (by decide +kernel) ?_
  refine J_dup dX12_init_156 rfl ?_
  refine J_bipush (v := 20) dX12_init_157 (by decide +kernel) ?_
  refine J_bipush (v := 114) dX12_init_159 (by decide +kernel) ?_
  refine K_bast (i2 := 20) (y := 114) dX12_init_161 rfl rfl (jin (by decide +kernel)) (by decide +kernel) (by decide +kernel) ?_
  refine J_dup dX12_init_162 rfl ?_
  refine J_bipush (v := 21) dX12_init_163 (by decide +kernel) ?_
  refine J_bipush (v := 32) dX12_init_165 (by decide +kernel) ?_
  refine K_bast (i2 := 21) (y := 32) dX12_init_167 rfl rfl (jin (by decide +kernel)) (by decide +kernel) (by decide +kernel) ?_
  refine J_dup dX12_init_168 rfl ?_
  refine J_bipush (v := 22) dX12_init_169 (by decide +kernel) ?_
  refine J_bipush (v := 97) dX12_init_171 (by decide +kernel) ?_
  refine K_bast (i2 := 22) (y := 97) dX12_init_173 rfl rfl (jin (by decide +kernel)) (by decide +kernel) (by decide +kernel) ?_
  refine J_dup dX12_init_174 rfl ?_
  refine J_bipush (v := 23) dX12_init_175 (by decide +kernel) ?_
  refine J_bipush (v := 110) dX12_init_177 (by decide +kernel) ?_
  refine K_bast (i2 := 23) (y := 110) dX12_init_179 rfl rfl (jin (by decide +kernel)) (by decide +kernel) (by decide +kernel) ?_
  refine J_dup dX12_init_180 rfl ?_
  refine J_bipush (v := 24) dX12_init_181 (by decide +kernel) ?_
  refine J_bipush (v := 100) dX12_init_183 (by decide +kernel) ?_
  refine K_bast (i2 := 24) (y := 100) dX12_init_185 rfl rfl (jin (by decide +kernel)) (by decide +kernel) (by decide +kernel) ?_
  refine J_dup dX12_init_186 rfl ?_
  refine J_bipush (v := 25) dX12_init_187 (by decide +kernel) ?_
  refine J_bipush (v := 32) dX12_init_189 (by decide +kernel) ?_
  refine K_bast (i2 := 25) (y := 32) dX12_init_191 rfl rfl (jin (by decide +kernel)) (by decide +kernel) (by decide +kernel) ?_
  refine J_dup dX12_init_192 rfl ?_
  refine J_bipush (v := 26) dX12_init_193 (by decide +kernel) ?_
  refine J_bipush (v := 110) dX12_init_195 (by decide +kernel) ?_
  refine K_bast (i2 := 26) (y := 110) dX12_init_197 rfl rfl (jin (by decide +kernel)) (by decide +kernel) (by decide +kernel) ?_
  refine J_dup dX12_init_198 rfl ?_
  refine J_bipush (v := 27) dX12_init_199 (by decide +kernel) ?_
  refine J_bipush (v := 111) dX12_init_201 (by decide +kernel) ?_
  refine K_bast (i2 := 27) (y := 111) dX12_init_203 rfl rfl (jin (by decide +kernel)) (by decide +kernel) (by decide +kernel) ?_
  refine J_dup dX12_init_204 rfl ?_
  refine J_bipush (v := 28) dX12_init_205 (by decide +kernel) ?_
  refine J_bipush (v := 116) dX12_init_207 (by decide +kernel) ?_
  refine K_bast (i2 := 28) (y := 116) dX12_init_209 rfl rfl (jin (by decide +kernel)) (by decide +kernel) (by decide +kernel) ?_
  refine J_dup dX12_init_210 rfl ?_
  refine J_bipush (v := 29) dX12_init_211 (by decide +kernel) ?_
  refine J_bipush (v := 32) dX12_init_213 (by decide +kernel) ?_
  refine K_bast (i2 := 29) (y := 32) dX12_init_215 rfl rfl (jin (by decide +kernel)) (by decide +kernel) (by decide +kernel) ?_
  refine J_dup dX12_init_216 rfl ?_
  refine J_bipush (v := 30) dX12_init_217 (by decide +kernel) ?_
  refine J_bipush (v := 108) dX12_init_219 (by decide +kernel) ?_
  refine K_bast (i2 := 30) (y := 108) dX12_init_221 rfl rfl (jin (by decide +kernel)) (by decide +kernel) (by decide +kernel) ?_
  refine J_dup dX12_init_222 rfl ?_
  refine J_bipush (v := 31) dX12_init_223 (by decide +kernel) ?_
  refine J_bipush (v := 101) dX12_init_225 (by decide +kernel) ?_
  refine K_bast (i2 := 31) (y := 101) dX12_init_227 rfl rfl (jin (by decide +kernel)) (by decide +kernel) (by decide +kernel) ?_
  refine J_dup dX12_init_228 rfl ?_
  refine J_bipush (v := 32) dX12_init_229 (by decide +kernel) ?_
  refine J_bipush (v := 102) dX12_init_231 (by decide +kernel) ?_
  refine K_bast (i2 := 32) (y := 102) dX12_init_233 rfl rfl (jin (by decide +kernel)) (by decide +kernel) (by decide +kernel) ?_
  refine J_dup dX12_init_234 rfl ?_
  refine J_bipush (v := 33) dX12_init_235 (by decide +kernel) ?_
  refine J_bipush (v := 116) dX12_init_237 (by decide +kernel) ?_
  refine K_bast (i2 := 33) (y := 116) dX12_init_239 rfl rfl (jin (by decide +kernel)) (by decide +kernel) (by decide +kernel) ?_
  refine J_dup dX12_init_240 rfl ?_
  refine J_bipush (v := 34) dX12_init_241 (by decide +kernel) ?_
  refine J_bipush (v := 32) dX12_init_243 (by decide +kernel) ?_
  refine K_bast (i2 := 34) (y := 32) dX12_init_245 rfl rfl (jin (by decide +kernel)) (by decide +kernel) (by decide +kernel) ?_
  refine J_dup dX12_init_246 rfl ?_
  refine J_bipush (v := 35) dX12_init_247 (by decide +kernel) ?_
  refine J_bipush (v := 114) dX12_init_249 (by decide +kernel) ?_
  refine K_bast (i2 := 35) (y := 114) dX12_init_251 rfl rfl (jin (by decide +kernel)) (by decide +kernel) (by decide +kernel) ?_
  refine J_dup dX12_init_252 rfl ?_
  refine J_bipush (v := 36) dX12_init_253 (by decide +kernel) ?_
  refine J_bipush (v := 105) dX12_init_255 (by decide +kernel) ?_
  refine K_bast (i2 := 36) (y := 105) dX12_init_257 rfl rfl (jin (by decide +kernel)) (by decide +kernel) (by decide +kernel) ?_
  refine J_dup dX12_init_258 rfl ?_
  refine J_bipush (v := 37) dX12_init_259 (by decide +kernel) ?_
  refine J_bipush (v := 103) dX12_init_261 (by decide +kernel) ?_
  refine K_bast (i2 := 37) (y := 103) dX12_init_263 rfl rfl (jin (by decide +kernel)) (by decide +kernel) (by decide +kernel) ?_
  refine J_dup dX12_init_264 rfl ?_
  refine J_bipush (v := 38) dX12_init_265 (by decide +kernel) ?_
  refine J_bipush (v := 104) dX12_init_267 (by decide +kernel) ?_
  refine K_bast (i2 := 38) (y := 104) dX12_init_269 rfl rfl (jin (by decide +kernel)) (by decide +kernel) (by decide +kernel) ?_
  refine J_dup dX12_init_270 rfl ?_
  refine J_bipush (v := 39) dX12_init_271 (by decide +kernel) ?_
  refine J_bipush (v := 116) dX12_init_273 (by decide +kernel) ?_
  refine K_bast (i2 := 39) (y := 116) dX12_init_275 rfl rfl (jin (by decide +kernel)) (by decide +kernel) (by decide +kernel) ?_
  refine J_dup dX12_init_276 rfl ?_
  refine J_bipush (v := 40) dX12_init_277 (by decide +kernel) ?_
  refine J_bipush (v := 32) dX12_init_279 (by decide +kernel) ?_
  refine K_bast (i2 := 40) (y := 32) dX12_init_281 rfl rfl (jin (by decide +kernel)) (by decide +kernel) (by decide +kernel) ?_
  refine J_dup dX12_init_282 rfl ?_
  refine J_bipush (v := 41) dX12_init_283 (by decide +kernel) ?_
  refine J_bipush (v := 111) dX12_init_285 (by decide +kernel) ?_
  refine K_bast (i2 := 41) (y := 111) dX12_init_287 rfl rfl (jin (by decide +kernel)) (by decide +kernel) (by decide +kernel) ?_
  refine J_dup dX12_init_288 rfl ?_
  refine J_bipush (v := 42) dX12_init_289 (by decide +kernel) ?_
  refine J_bipush (v := 110) dX12_init_291 (by decide +kernel) ?_
  refine K_bast (i2 := 42) (y := 110) dX12_init_293 rfl rfl (jin (by decide +kernel)) (by decide +kernel) (by decide +kernel) ?_
  refine J_dup dX12_init_294 rfl ?_
  refine J_bipush (v := 43) dX12_init_295 (by decide +kernel) ?_
  refine J_bipush (v := 101) dX12_init_297 (by decide +kernel) ?_
  refine K_bast (i2 := 43) (y := 101) dX12_init_299 rfl rfl (jin (by decide +kernel)) (by decide +kernel) (by decide +kernel) ?_
  refine J_dup dX12_init_300 rfl ?_
  refine J_bipush (v := 44) dX12_init_301 (by decide +kernel) ?_
  refine J_bipush (v := 32) dX12_init_303 (by decide +kernel) ?_
  refine K_bast (i2 := 44) (y := 32) dX12_init_305 rfl rfl (jin (by decide +kernel)) (by decide +kernel) (by decide +kernel) ?_
  refine J_dup dX12_init_306 rfl ?_
  refine J_bipush (v := 45) dX12_init_307 (by decide +kernel) ?_
  refine J_bipush (v := 111) dX12_init_309 (by decide +kernel) ?_
  refine K_bast (i2 := 45) (y := 111) dX12_init_311 rfl rfl (jin (by decide +kernel)) (by decide +kernel) (by decide +kernel) ?_
  refine J_dup dX12_init_312 rfl ?_
  refine J_bipush (v := 46) dX12_init_313 (by decide +kernel) ?_
  refine J_bipush (v := 116) dX12_init_315 (by decide +kernel) ?_
  refine K_bast (i2 := 46) (y := 116) dX12_init_317 rfl rfl (jin (by decide +kernel)) (by decide +kernel) (by decide +kernel) ?_
  refine J_dup dX12_init_318 rfl ?_
  refine J_bipush (v := 47) dX12_init_319 (by decide +kernel) ?_
  refine J_bipush (v := 104) dX12_init_321 (by decide +kernel) ?_
  refine K_bast (i2 := 47) (y := 104) dX12_init_323 rfl rfl (jin (by decide +kernel)) (by decide +kernel) (by decide +kernel) ?_
  refine J_dup dX12_init_324 rfl ?_
  refine J_bipush (v := 48) dX12_init_325 (by decide +kernel) ?_
  refine J_bipush (v := 101) dX12_init_327 (by decide +kernel) ?_
  refine K_bast (i2 := 48) (y := 101) dX12_init_329 rfl rfl (jin (by decide +kernel)) (by decide +kernel) (by decide +kernel) ?_
  refine J_dup dX12_init_330 rfl ?_
  refine J_bipush (v := 49) dX12_init_331 (by decide +kernel) ?_
  refine J_bipush (v := 114) dX12_init_333 (by decide +kernel) ?_
  refine K_bast (i2 := 49) (y := 114) dX12_init_335 rfl rfl (jin (by decide +kernel)) (by decide +kernel) (by decide +kernel) ?_
  refine J_dup dX12_init_336 rfl ?_
  refine J_bipush (v := 50) dX12_init_337 (by decide +kernel) ?_
  refine J_bipush (v := 32) dX12_init_339 (by decide +kernel) ?_
  refine K_bast (i2 := 50) (y := 32) dX12_init_341 rfl rfl (jin (by decide +kernel)) (by decide +kernel) (by decide +kernel) ?_
  refine J_dup dX12_init_342 rfl ?_
  refine J_bipush (v := 51) dX12_init_343 (by decide +kernel) ?_
  refine J_bipush (v := 97) dX12_init_345 (by decide +kernel) ?_
  refine K_bast (i2 := 51) (y := 97) dX12_init_347 rfl rfl (jin (by decide +kernel)) (by decide +kernel) (by decide +kernel) ?_
  refine J_dup dX12_init_348 rfl ?_
  refine J_bipush (v := 52) dX12_init_349 (by decide +kernel) ?_
  refine J_bipush (v := 112) dX12_init_351 (by decide +kernel) ?_
  refine K_bast (i2 := 52) (y := 112) dX12_init_353 rfl rfl (jin (by decide +kernel)) (by decide +kernel) (by decide +kernel) ?_
  refine J_dup dX12_init_354 rfl ?_
  refine J_bipush (v := 53) dX12_init_355 (by decide +kernel) ?_
  refine J_bipush (v := 97) dX12_init_357 (by decide +kernel) ?_
  refine K_bast (i2 := 53) (y := 97) dX12_init_359 rfl rfl (jin (by decide +kernel)) (by decide +kernel) (by decide +kernel) ?_
  refine J_dup dX12_init_360 rfl ?_
  refine J_bipush (v := 54) dX12_init_361 (by decide +kernel) ?_
  refine J_bipush (v := 114) dX12_init_363 (by decide +kernel) ?_
  refine K_bast (i2 := 54) (y := 114) dX12_init_365 rfl rfl (jin (by decide +kernel)) (by decide +kernel) (by decide +kernel) ?_
  refine J_dup dX12_init_366 rfl ?_
  refine J_bipush (v := 55) dX12_init_367 (by decide +kernel) ?_
  refine J_bipush (v := 116) dX12_init_369 (by decide +kernel) ?_
  refine K_bast (i2 := 55) (y := 116) dX12_init_371 rfl rfl (jin (by decide +kernel)) (by decide +kernel) (by decide +kernel) ?_
  refine J_dup dX12_init_372 rfl ?_
  refine J_bipush (v := 56) dX12_init_373 (by decide +kernel) ?_
  refine J_bipush (v := 32) dX12_init_375 (by decide +kernel) ?_
  refine K_bast (i2 := 56) (y := 32) dX12_init_377 rfl rfl (jin (by decide +kernel)) (by decide +kernel) (by decide +kernel) ?_
  refine J_dup dX12_init_378 rfl ?_
  refine J_bipush (v := 57) dX12_init_379 (by decide +kernel) ?_
  refine J_bipush (v := 102) dX12_init_381 (by decide +kernel) ?_
  refine K_bast (i2 := 57) (y := 102) dX12_init_383 rfl rfl (jin (by decide +kernel)) (by decide +kernel) (by decide +kernel) ?_
  refine J_dup dX12_init_384 rfl ?_
  refine J_bipush (v := 58) dX12_init_385 (by decide +kernel) ?_
  refine J_bipush (v := 105) dX12_init_387 (by decide +kernel) ?_
  refine K_bast (i2 := 58) (y := 105) dX12_init_389 rfl rfl (jin (by decide +kernel)) (by decide +kernel) (by decide +kernel) ?_
  refine J_dup dX12_init_390 rfl ?_
  refine J_bipush (v := 59) dX12_init_391 (by decide +kernel) ?_
  refine J_bipush (v := 114) dX12_init_393 (by decide +kernel) ?_
  refine K_bast (i2 := 59) (y := 114) dX12_init_395 rfl rfl (jin (by decide +kernel)) (by decide +kernel) (by decide +kernel) ?_
  refine J_dup dX12_init_396 rfl ?_
  refine J_bipush (v := 60) dX12_init_397 (by decide +kernel) ?_
  refine J_bipush (v := 115) dX12_init_399 (by decide +kernel) ?_
  refine K_bast (i2 := 60) (y := 115) dX12_init_401 rfl rfl (jin (by decide +kernel)) (by decide +kernel) (by decide +kernel) ?_
  refine J_dup dX12_init_402 rfl ?_
  refine J_bipush (v := 61) dX12_init_403 (by decide +kernel) ?_
  refine J_bipush (v := 116) dX12_init_405 (by decide +kernel) ?_
  refine K_bast (i2 := 61) (y := 116) dX12_init_407 rfl rfl (jin (by decide +kernel)) (by decide +kernel) (by decide +kernel) ?_
  refine J_dup dX12_init_408 rfl ?_
  refine J_bipush (v := 62) dX12_init_409 (by decide +kernel) ?_
  refine J_bipush (v := 32) dX12_init_411 (by decide +kernel) ?_
  refine K_bast (i2 := 62) (y := 32) dX12_init_413 rfl rfl (jin (by decide +kernel)) (by decide +kernel) (by decide +kernel) ?_
  refine J_dup dX12_init_414 rfl ?_
  refine J_bipush (v := 63) dX12_init_415 (by decide +kernel) ?_
  refine J_bipush (v := 98) dX12_init_417 (by decide +kernel) ?_
  refine K_bast (i2 := 63) (y := 98) dX12_init_419 rfl rfl (jin (by decide +kernel)) (by decide +kernel) (by decide +kernel) ?_
  refine J_dup dX12_init_420 rfl ?_
  refine J_bipush (v := 64) dX12_init_421 (by decide +kernel) ?_
  refine J_bipush (v := 101) dX12_init_423 (by decide +kernel) ?_
  refine K_bast (i2 := 64) (y := 101) dX12_init_425 rfl rfl (jin (by decide +kernel)) (by decide +kernel) (by decide +kernel) ?_
  refine J_dup dX12_init_426 rfl ?_
  refine J_bipush (v := 65) dX12_init_427 (by decide +kernel) ?_
  refine J_bipush (v := 97) dX12_init_429 (by decide +kernel) ?_
  refine K_bast (i2 := 65) (y := 97) dX12_init_431 rfl rfl (jin (by decide +kernel)) (by decide +kernel) (by decide +kernel) ?_
  refine J_dup dX12_init_432 rfl ?_
  refine J_bipush (v := 66) dX12_init_433 (by decide +kernel) ?_
  refine J_bipush (v := 110) dX12_init_435 (by decide +kernel) ?_
  refine K_bast (i2 := 66) (y := 110) dX12_init_437 rfl rfl (jin (by decide +kernel)) (by decide +kernel) (by decide +kernel) ?_
  refine J_dup dX12_init_438 rfl ?_
  refine J_bipush (v := 67) dX12_init_439 (by decide +kernel) ?_
  refine J_bipush (v := 115) dX12_init_441 (by decide +kernel) ?_
  refine K_bast (i2 := 67) (y := 115) dX12_init_443 rfl rfl (jin (by decide +kernel)) (by decide +kernel) (by decide +kernel) ?_
  refine J_dup dX12_init_444 rfl ?_
  refine J_bipush (v := 68) dX12_init_445 (by decide +kernel) ?_
  refine J_bipush (v := 32) dX12_init_447 (by decide +kernel) ?_
  refine K_bast (i2 := 68) (y := 32) dX12_init_449 rfl rfl (jin (by decide +kernel)) (by decide +kernel) (by decide +kernel) ?_
  refine J_dup dX12_init_450 rfl ?_
  refine J_bipush (v := 69) dX12_init_451 (by decide +kernel) ?_
  refine J_bipush (v := 100) dX12_init_453 (by decide +kernel) ?_
  refine K_bast (i2 := 69) (y := 100) dX12_init_455 rfl rfl (jin (by decide +kernel)) (by decide +kernel) (by decide +kernel) ?_
  refine J_dup dX12_init_456 rfl ?_
  refine J_bipush (v := 70) dX12_init_457 (by decide +kernel) ?_
  refine J_bipush (v := 97) dX12_init_459 (by decide +kernel) ?_
  refine K_bast (i2 := 70) (y := 97) dX12_init_461 rfl rfl (jin (by decide +kernel)) (by decide +kernel) (by decide +kernel) ?_
  refine J_dup dX12_init_462 rfl ?_
  refine J_bipush (v := 71) dX12_init_463 (by decide +kernel) ?_
  refine J_bipush (v := 121) dX12_init_465 (by decide +kernel) ?_
  refine K_bast (i2 := 71) (y := 121) dX12_init_467 rfl rfl (jin (by decide +kernel)) (by decide +kernel) (by decide +kernel) ?_
  refine J_dup dX12_init_468 rfl ?_
  refine J_bipush (v := 72) dX12_init_469 (by decide +kernel) ?_
  refine J_bipush (v := 32) dX12_init_471 (by decide +kernel) ?_
  refine K_bast (i2 := 72) (y := 32) dX12_init_473 rfl rfl (jin (by decide +kernel)) (by decide +kernel) (by decide +kernel) ?_
  refine K_putF (fs2 := [.int 0, .int 0, .ref 99, .ref 100, .ref 101, .ref 102, .ref 103, .null, .null, .int 0, .int 0, .null, .null, .null, .int 0, .int 0, .int 0, .int 0, .int 0, .int 0, .int 0, .null, .int 0, .int 0, .null, .null, .null, .null, .null, .null, .null, .null, .int 0, .int 0, .int 0, .int 0, .null, .null, .null, .null, .null, .null, .null, .null, .null, .null, .null, .null, .int 0, .null, .null, .null, .null, .null, .int 0, .int 0]) dX12_init_474 rfl fw_X12_30 rfl (Nat.le_of_ble_eq_true rfl) (fun _ => ⟨rfl, rfl⟩) rfl ?_
  refine J_aload_n dX12_init_477 rfl rfl ?_
  refine J_sipush (v := 400) dX12_init_478 (by decide +kernel) ?_
  refine K_newa (t := 3) (N := 400) (a0 := (400, .inl (fun _ => 0))) (nh2 := 105) (ck2 := 6) (sk2 := 15092) dX12_init_481 rfl (jt4 54 rfl rfl) rfl (fun _ _ h9 => h9) (fun _ => rfl) (fun _ => rfl) (by decide +kernel) (by decide +kernel) (Nat.le_of_ble_eq_true rfl) (Nat.le_of_ble_eq_true rfl) (Nat.le_of_ble_eq_true rfl) rfl rfl rfl ?_
  refine K_putF (fs2 := [.int 0, .int 0, .ref 99, .ref 100, .ref 101, .ref 102, .ref 103, .ref 104, .null, .int 0, .int 0, .null, .null, .null, .int 0, .int 0, .int 0, .int 0, .int 0, .int 0, .int 0, .null, .int 0, .int 0, .null, .null, .null, .null, .null, .null, .null, .null, .int 0, .int 0, .int 0, .int 0, .null, .null, .null, .null, .null, .null, .null, .null, .null, .null, .null, .null, .int 0, .null, .null, .null, .null, .null, .int 0, .int 0]) dX12_init_483 rfl fw_X12_34 rfl (Nat.le_of_ble_eq_true rfl) (fun _ => ⟨rfl, rfl⟩) rfl ?_
  refine J_aload_n dX12_init_486 rfl rfl ?_
  refine J_iconst (v := 5) dX12_init_487 (by decide) ?_
  refine K_newa (t := 0) (N := 5) (a0 := (5, .inl (fun _ => 0))) (nh2 := 106) (ck2 := 7) (sk2 := 15097) dX12_init_488 rfl (jt1 98 rfl rfl) rfl (fun _ _ h9 => h9) (fun _ => rfl) (fun _ => rfl) (by decide +kernel) (by decide +kernel) (Nat.le_of_ble_eq_true rfl) (Nat.le_of_ble_eq_true rfl) (Nat.le_of_ble_eq_true rfl) rfl rfl rfl ?_
  refine K_putF (fs2 := [.int 0, .int 0, .ref 99, .ref 100, .ref 101, .ref 102, .ref 103, .ref 104, .ref 105, .int 0, .int 0, .null, .null, .null, .int 0, .int 0, .int 0, .int 0, .int 0, .int 0, .int 0, .null, .int 0, .int 0, .null, .null, .null, .null, .null, .null, .null, .null, .int 0, .int 0, .int 0, .int 0, .null, .null, .null, .null, .null, .null, .null, .null, .null, .null, .null, .null, .int 0, .null, .null, .null, .null, .null, .int 0, .int 0]) dX12_init_490 rfl fw_X12_37 rfl (Nat.le_of_ble_eq_true rfl) (fun _ => ⟨rfl, rfl⟩) rfl ?_
  refine J_aload_n dX12_init_493 rfl rfl ?_
  refine J_iconst (v := (-1)) dX12_init_494 (by decide) ?_
  refine K_put (fs2 := [.int 0, .int 0, .ref 99, .ref 100, .ref 101, .ref 102, .ref 103, .ref 104, .ref 105, .int 0, .int (-1), .null, .null, .null, .int 0, .int 0, .int 0, .int 0, .int 0, .int 0, .int 0, .null, .int 0, .int 0, .null, .null, .null, .null, .null, .null, .null, .null, .int 0, .int 0, .int 0, .int 0, .null, .null, .null, .null, .null, .null, .null, .null, .null, .null, .null, .null, .int 0, .null, .null, .null, .null, .null, .int 0, .int 0]) dX12_init_495 fw_X12_40 rfl (Nat.le_of_ble_eq_true rfl) (fun _ => ⟨rfl, rfl⟩) rfl ?_
  refine J_aload_n dX12_init_498 rfl rfl ?_
  refine J_sipush (v := 401) dX12_init_499 (by decide +kernel) ?_
  refine K_newa (t := 0) (N := 401) (a0 := (401, .inl (fun _ => 0))) (nh2 := 107) (ck2 := 8) (sk2 := 15498) dX12_init_502 rfl (jt1 98 rfl rfl) rfl (fun _ _ h9 => h9) (fun _ => rfl) (fun _ => rfl) (by decide +kernel) (by decide +kernel) (Nat.le_of_ble_eq_true rfl) (Nat.le_of_ble_eq_true rfl) (Nat.le_of_ble_eq_true rfl) rfl rfl rfl ?_
  refine K_putF (fs2 := [.int 0, .int 0, .ref 99, .ref 100, .ref 101, .ref 102, .ref 103, .ref 104, .ref 105, .int 0, .int (-1), .ref 106, .null, .null, .int 0, .int 0, .int 0, .int 0, .int 0, .int 0, .int 0, .null, .int 0, .int 0, .null, .null, .null, .null, .null, .null, .null, .null, .int 0, .int 0, .int 0, .int 0, .null, .null, .null, .null, .null, .null, .null, .null, .null, .null, .null, .null, .int 0, .null, .null, .null, .null, .null, .int 0, .int 0]) dX12_init_504 rfl fw_X12_43 rfl (Nat.le_of_ble_eq_true rfl) (fun _ => ⟨rfl, rfl⟩) rfl ?_
  refine J_aload_n dX12_init_507 rfl rfl ?_
  refine J_sipush (v := 401) dX12_init_508 (by decide +kernel) ?_
  refine K_newa (t := 0) (N := 401) (a0 := (401, .inl (fun _ => 0))) (nh2 := 108) (ck2 := 9) (sk2 := 15899) dX12_init_511 rfl (jt1 98 rfl rfl) rfl (fun _ _ h9 => h9) (fun _ => rfl) (fun _ => rfl) (by decide +kernel) (by decide +kernel) (Nat.le_of_ble_eq_true rfl) (Nat.le_of_ble_eq_true rfl) (Nat.le_of_ble_eq_true rfl) rfl rfl rfl ?_
  refine K_putF (fs2 := [.int 0, .int 0, .ref 99, .ref 100, .ref 101, .ref 102, .ref 103, .ref 104, .ref 105, .int 0, .int (-1), .ref 106, .ref 107, .null, .int 0, .int 0, .int 0, .int 0, .int 0, .int 0, .int 0, .null, .int 0, .int 0, .null, .null, .null, .null, .null, .null, .null, .null, .int 0, .int 0, .int 0, .int 0, .null, .null, .null, .null, .null, .null, .null, .null, .null, .null, .null, .null, .int 0, .null, .null, .null, .null, .null, .int 0, .int 0]) dX12_init_513 rfl fw_X12_46 rfl (Nat.le_of_ble_eq_true rfl) (fun _ => ⟨rfl, rfl⟩) rfl ?_
  refine J_aload_n dX12_init_516 rfl rfl ?_
  refine J_sipush (v := 401) dX12_init_517 (by decide +kernel) ?_
  refine K_newa (t := 0) (N := 401) (a0 := (401, .inl (fun _ => 0))) (nh2 := 109) (ck2 := 10) (sk2 := 16300) dX12_init_520 rfl (jt1 98 rfl rfl) rfl (fun _ _ h9 => h9) (fun _ => rfl) (fun _ => rfl) (by decide +kernel) (by decide +kernel) (Nat.le_of_ble_eq_true rfl) (Nat.le_of_ble_eq_true rfl) (Nat.le_of_ble_eq_true rfl) rfl rfl rfl ?_
  refine K_putF (fs2 := [.int 0, .int 0, .ref 99, .ref 100, .ref 101, .ref 102, .ref 103, .ref 104, .ref 105, .int 0, .int (-1), .ref 106, .ref 107, .ref 108, .int 0, .int 0, .int 0, .int 0, .int 0, .int 0, .int 0, .null, .int 0, .int 0, .null, .null, .null, .null, .null, .null, .null, .null, .int 0, .int 0, .int 0, .int 0, .null, .null, .null, .null, .null, .null, .null, .null, .null, .null, .null, .null, .int 0, .null, .null, .null, .null, .null, .int 0, .int 0]) dX12_init_522 rfl fw_X12_49 rfl (Nat.le_of_ble_eq_true rfl) (fun _ => ⟨rfl, rfl⟩) rfl ?_
  refine J_aload_n dX12_init_525 rfl rfl ?_
  refine J_bipush (v := 8) dX12_init_526 (by decide +kernel) ?_
  refine K_newa (t := 0) (N := 8) (a0 := (8, .inl (fun _ => 0))) (nh2 := 110) (ck2 := 11) (sk2 := 16308) dX12_init_528 rfl (jt1 98 rfl rfl) rfl (fun _ _ h9 => h9) (fun _ => rfl) (fun _ => rfl) (by decide +kernel) (by decide +kernel) (Nat.le_of_ble_eq_true rfl) (Nat.le_of_ble_eq_true rfl) (Nat.le_of_ble_eq_true rfl) rfl rfl rfl ?_
  refine K_putF (fs2 := [.int 0, .int 0, .ref 99, .ref 100, .ref 101, .ref 102, .ref 103, .ref 104, .ref 105, .int 0, .int (-1), .ref 106, .ref 107, .ref 108, .int 0, .int 0, .int 0, .int 0, .int 0, .int 0, .int 0, .ref 109, .int 0, .int 0, .null, .null, .null, .null, .null, .null, .null, .null, .int 0, .int 0, .int 0, .int 0, .null, .null, .null, .null, .null, .null, .null, .null, .null, .null, .null, .null, .int 0, .null, .null, .null, .null, .null, .int 0, .int 0]) dX12_init_530 rfl fw_X12_52 rfl (Nat.le_of_ble_eq_true rfl) (fun _ => ⟨rfl, rfl⟩) rfl ?_
  refine J_aload_n dX12_init_533 rfl rfl ?_
  refine J_sipush (v := 8820) dX12_init_534 (by decide +kernel) ?_
  refine K_newa (t := 0) (N := 8820) (a0 := (8820, .inl (fun _ => 0))) (nh2 := 111) (ck2 := 12) (sk2 := 25128) dX12_init_537 rfl (jt1 98 rfl rfl) rfl (fun _ _ h9 => h9) (fun _ => rfl) (fun _ => rfl) (by decide +kernel) (by decide +kernel) (Nat.le_of_ble_eq_true rfl) (Nat.le_of_ble_eq_true rfl) (Nat.le_of_ble_eq_true rfl) rfl rfl rfl ?_
  refine K_putF (fs2 := [.int 0, .int 0, .ref 99, .ref 100, .ref 101, .ref 102, .ref 103, .ref 104, .ref 105, .int 0, .int (-1), .ref 106, .ref 107, .ref 108, .int 0, .int 0, .int 0, .int 0, .int 0, .int 0, .int 0, .ref 109, .int 0, .int 0, .ref 110, .null, .null, .null, .null, .null, .null, .null, .int 0, .int 0, .int 0, .int 0, .null, .null, .null, .null, .null, .null, .null, .null, .null, .null, .null, .null, .int 0, .null, .null, .null, .null, .null, .int 0, .int 0]) dX12_init_539 rfl fw_X12_55 rfl (Nat.le_of_ble_eq_true rfl) (fun _ => ⟨rfl, rfl⟩) rfl ?_
  refine J_aload_n dX12_init_542 rfl rfl ?_
  refine J_sipush (v := 1260) dX12_init_543 (by decide +kernel) ?_
  refine K_newa (t := 0) (N := 1260) (a0 := (1260, .inl (fun _ => 0))) (nh2 := 112) (ck2 := 13) (sk2 := 26388) dX12_init_546 rfl (jt1 98 rfl rfl) rfl (fun _ _ h9 => h9) (fun _ => rfl) (fun _ => rfl) (by decide +kernel) (by decide +kernel) (Nat.le_of_ble_eq_true rfl) (Nat.le_of_ble_eq_true rfl) (Nat.le_of_ble_eq_true rfl) rfl rfl rfl ?_
  refine K_putF (fs2 := [.int 0, .int 0, .ref 99, .ref 100, .ref 101, .ref 102, .ref 103, .ref 104, .ref 105, .int 0, .int (-1), .ref 106, .ref 107, .ref 108, .int 0, .int 0, .int 0, .int 0, .int 0, .int 0, .int 0, .ref 109, .int 0, .int 0, .ref 110, .ref 111, .null, .null, .null, .null, .null, .null, .int 0, .int 0, .int 0, .int 0, .null, .null, .null, .null, .null, .null, .null, .null, .null, .null, .null, .null, .int 0, .null, .null, .null, .null, .null, .int 0, .int 0]) dX12_init_548 rfl fw_X12_58 rfl (Nat.le_of_ble_eq_true rfl) (fun _ => ⟨rfl, rfl⟩) rfl ?_
  refine J_aload_n dX12_init_551 rfl rfl ?_
  refine J_sipush (v := 27720) dX12_init_552 (by decide +kernel) ?_
  refine K_newa (t := 0) (N := 27720) (a0 := (27720, .inl (fun _ => 0))) (nh2 := 113) (ck2 := 14) (sk2 := 54108) dX12_init_555 rfl (jt1 98 rfl rfl) rfl (fun _ _ h9 => h9) (fun _ => rfl) (fun _ => rfl) (by decide +kernel) (by decide +kernel) (Nat.le_of_ble_eq_true rfl) (Nat.le_of_ble_eq_true rfl) (Nat.le_of_ble_eq_true rfl) rfl rfl rfl ?_
  refine K_putF (fs2 := [.int 0, .int 0, .ref 99, .ref 100, .ref 101, .ref 102, .ref 103, .ref 104, .ref 105, .int 0, .int (-1), .ref 106, .ref 107, .ref 108, .int 0, .int 0, .int 0, .int 0, .int 0, .int 0, .int 0, .ref 109, .int 0, .int 0, .ref 110, .ref 111, .ref 112, .null, .null, .null, .null, .null, .int 0, .int 0, .int 0, .int 0, .null, .null, .null, .null, .null, .null, .null, .null, .null, .null, .null, .null, .int 0, .null, .null, .null, .null, .null, .int 0, .int 0]) dX12_init_557 rfl fw_X12_61 rfl (Nat.le_of_ble_eq_true rfl) (fun _ => ⟨rfl, rfl⟩) rfl ?_
  refine J_aload_n dX12_init_560 rfl rfl ?_
  refine J_sipush (v := 27720) dX12_init_561 (by decide +kernel) ?_
  refine K_newa (t := 0) (N := 27720) (a0 := (27720, .inl (fun _ => 0))) (nh2 := 114) (ck2 := 15) (sk2 := 81828) dX12_init_564 rfl (jt1 98 rfl rfl) rfl (fun _ _ h9 => h9) (fun _ => rfl) (fun _ => rfl) (by decide +kernel) (by decide +kernel) (Nat.le_of_ble_eq_true rfl) (Nat.le_of_ble_eq_true rfl) (Nat.le_of_ble_eq_true rfl) rfl rfl rfl ?_
  refine K_putF (fs2 := [.int 0, .int 0, .ref 99, .ref 100, .ref 101, .ref 102, .ref 103, .ref 104, .ref 105, .int 0, .int (-1), .ref 106, .ref 107, .ref 108, .int 0, .int 0, .int 0, .int 0, .int 0, .int 0, .int 0, .ref 109, .int 0, .int 0, .ref 110, .ref 111, .ref 112, .ref 113, .null, .null, .null, .null, .int 0, .int 0, .int 0, .int 0, .null, .null, .null, .null, .null, .null, .null, .null, .null, .null, .null, .null, .int 0, .null, .null, .null, .null, .null, .int 0, .int 0]) dX12_init_566 rfl fw_X12_64 rfl (Nat.le_of_ble_eq_true rfl) (fun _ => ⟨rfl, rfl⟩) rfl ?_
  refine J_aload_n dX12_init_569 rfl rfl ?_
  refine J_sipush (v := 1260) dX12_init_570 (by decide +kernel) ?_
  refine K_newa (t := 0) (N := 1260) (a0 := (1260, .inl (fun _ => 0))) (nh2 := 115) (ck2 := 16) (sk2 := 83088) dX12_init_573 rfl (jt1 98 rfl rfl) rfl (fun _ _ h9 => h9) (fun _ => rfl) (fun _ => rfl) (by decide +kernel) (by decide +kernel) (Nat.le_of_ble_eq_true rfl) (Nat.le_of_ble_eq_true rfl) (Nat.le_of_ble_eq_true rfl) rfl rfl rfl ?_
  refine K_putF (fs2 := [.int 0, .int 0, .ref 99, .ref 100, .ref 101, .ref 102, .ref 103, .ref 104, .ref 105, .int 0, .int (-1), .ref 106, .ref 107, .ref 108, .int 0, .int 0, .int 0, .int 0, .int 0, .int 0, .int 0, .ref 109, .int 0, .int 0, .ref 110, .ref 111, .ref 112, .ref 113, .ref 114, .null, .null, .null, .int 0, .int 0, .int 0, .int 0, .null, .null, .null, .null, .null, .null, .null, .null, .null, .null, .null, .null, .int 0, .null, .null, .null, .null, .null, .int 0, .int 0]) dX12_init_575 rfl fw_X12_67 rfl (Nat.le_of_ble_eq_true rfl) (fun _ => ⟨rfl, rfl⟩) rfl ?_
  refine J_aload_n dX12_init_578 rfl rfl ?_
  refine J_sipush (v := 27720) dX12_init_579 (by decide +kernel) ?_
  refine K_newa (t := 0) (N := 27720) (a0 := (27720, .inl (fun _ => 0))) (nh2 := 116) (ck2 := 17) (sk2 := 110808) dX12_init_582 rfl (jt1 98 rfl rfl) rfl (fun _ _ h9 => h9) (fun _ => rfl) (fun _ => rfl) (by decide +kernel) (by decide +kernel) (Nat.le_of_ble_eq_true rfl) (Nat.le_of_ble_eq_true rfl) (Nat.le_of_ble_eq_true rfl) rfl rfl rfl ?_
  refine K_putF (fs2 := [.int 0, .int 0, .ref 99, .ref 100, .ref 101, .ref 102, .ref 103, .ref 104, .ref 105, .int 0, .int (-1), .ref 106, .ref 107, .ref 108, .int 0, .int 0, .int 0, .int 0, .int 0, .int 0, .int 0, .ref 109, .int 0, .int 0, .ref 110, .ref 111, .ref 112, .ref 113, .ref 114, .ref 115, .null, .null, .int 0, .int 0, .int 0, .int 0, .null, .null, .null, .null, .null, .null, .null, .null, .null, .null, .null, .null, .int 0, .null, .null, .null, .null, .null, .int 0, .int 0]) dX12_init_584 rfl fw_X12_70 rfl (Nat.le_of_ble_eq_true rfl) (fun _ => ⟨rfl, rfl⟩) rfl ?_
  refine J_aload_n dX12_init_587 rfl rfl ?_
  refine J_sipush (v := 1260) dX12_init_588 (by decide +kernel) ?_
  refine K_newa (t := 0) (N := 1260) (a0 := (1260, .inl (fun _ => 0))) (nh2 := 117) (ck2 := 18) (sk2 := 112068) dX12_init_591 rfl (jt1 98 rfl rfl) rfl (fun _ _ h9 => h9) (fun _ => rfl) (fun _ => rfl) (by decide +kernel) (by decide +kernel) (Nat.le_of_ble_eq_true rfl) (Nat.le_of_ble_eq_true rfl) (Nat.le_of_ble_eq_true rfl) rfl rfl rfl ?_
  refine K_putF (fs2 := [.int 0, .int 0, .ref 99, .ref 100, .ref 101, .ref 102, .ref 103, .ref 104, .ref 105, .int 0, .int (-1), .ref 106, .ref 107, .ref 108, .int 0, .int 0, .int 0, .int 0, .int 0, .int 0, .int 0, .ref 109, .int 0, .int 0, .ref 110, .ref 111, .ref 112, .ref 113, .ref 114, .ref 115, .ref 116, .null, .int 0, .int 0, .int 0, .int 0, .null, .null, .null, .null, .null, .null, .null, .null, .null, .null, .null, .null, .int 0, .null, .null, .null, .null, .null, .int 0, .int 0]) dX12_init_593 rfl fw_X12_73 rfl (Nat.le_of_ble_eq_true rfl) (fun _ => ⟨rfl, rfl⟩) rfl ?_
  refine J_aload_n dX12_init_596 rfl rfl ?_
  refine J_bipush (v := 7) dX12_init_597 (by decide +kernel) ?_
  refine K_newa (t := 0) (N := 7) (a0 := (7, .inl (fun _ => 0))) (nh2 := 118) (ck2 := 19) (sk2 := 112075) dX12_init_599 rfl (jt1 98 rfl rfl) rfl (fun _ _ h9 => h9) (fun _ => rfl) (fun _ => rfl) (by decide +kernel) (by decide +kernel) (Nat.le_of_ble_eq_true rfl) (Nat.le_of_ble_eq_true rfl) (Nat.le_of_ble_eq_true rfl) rfl rfl rfl ?_
  refine K_putF (fs2 := [.int 0, .int 0, .ref 99, .ref 100, .ref 101, .ref 102, .ref 103, .ref 104, .ref 105, .int 0, .int (-1), .ref 106, .ref 107, .ref 108, .int 0, .int 0, .int 0, .int 0, .int 0, .int 0, .int 0, .ref 109, .int 0, .int 0, .ref 110, .ref 111, .ref 112, .ref 113, .ref 114, .ref 115, .ref 116, .ref 117, .int 0, .int 0, .int 0, .int 0, .null, .null, .null, .null, .null, .null, .null, .null, .null, .null, .null, .null, .int 0, .null, .null, .null, .null, .null, .int 0, .int 0]) dX12_init_601 rfl fw_X12_76 rfl (Nat.le_of_ble_eq_true rfl) (fun _ => ⟨rfl, rfl⟩) rfl ?_
  refine J_aload_n dX12_init_604 rfl rfl ?_
  refine J_iconst (v := (-1)) dX12_init_605 (by decide) ?_
  refine K_put (fs2 := [.int 0, .int 0, .ref 99, .ref 100, .ref 101, .ref 102, .ref 103, .ref 104, .ref 105, .int 0, .int (-1), .ref 106, .ref 107, .ref 108, .int 0, .int 0, .int 0, .int 0, .int 0, .int 0, .int 0, .ref 109, .int 0, .int 0, .ref 110, .ref 111, .ref 112, .ref 113, .ref 114, .ref 115, .ref 116, .ref 117, .int 0, .int 0, .int (-1), .int 0, .null, .null, .null, .null, .null, .null, .null, .null, .null, .null, .null, .null, .int 0, .null, .null, .null, .null, .null, .int 0, .int 0]) dX12_init_606 fw_X12_79 rfl (Nat.le_of_ble_eq_true rfl) (fun _ => ⟨rfl, rfl⟩) rfl ?_
  refine J_aload_n dX12_init_609 rfl rfl ?_
  refine J_iconst (v := (-1)) dX12_init_610 (by decide) ?_
  refine K_put (fs2 := [.int 0, .int 0, .ref 99, .ref 100, .ref 101, .ref 102, .ref 103, .ref 104, .ref 105, .int 0, .int (-1), .ref 106, .ref 107, .ref 108, .int 0, .int 0, .int 0, .int 0, .int 0, .int 0, .int 0, .ref 109, .int 0, .int 0, .ref 110, .ref 111, .ref 112, .ref 113, .ref 114, .ref 115, .ref 116, .ref 117, .int 0, .int 0, .int (-1), .int (-1), .null, .null, .null, .null, .null, .null, .null, .null, .null, .null, .null, .null, .int 0, .null, .null, .null, .null, .null, .int 0, .int 0]) dX12_init_611 fw_X12_82 rfl (Nat.le_of_ble_eq_true rfl) (fun _ => ⟨rfl, rfl⟩) rfl ?_
  refine J_aload_n dX12_init_614 rfl rfl ?_
  refine J_sipush (v := 1260) dX12_init_615 (by decide +kernel) ?_
  refine K_newa (t := 0) (N := 1260) (a0 := (1260, .inl (fun _ => 0))) (nh2 := 119) (ck2 := 20) (sk2 := 113335) dX12_init_618 rfl (jt1 98 rfl rfl) rfl (fun _ _ h9 => h9) (fun _ => rfl) (fun _ => rfl) (by decide +kernel) (by decide +kernel) (Nat.le_of_ble_eq_true rfl) (Nat.le_of_ble_eq_true rfl) (Nat.le_of_ble_eq_true rfl) rfl rfl rfl ?_
  refine K_putF (fs2 := [.int 0, .int 0, .ref 99, .ref 100, .ref 101, .ref 102, .ref 103, .ref 104, .ref 105, .int 0, .int (-1), .ref 106, .ref 107, .ref 108, .int 0, .int 0, .int 0, .int 0, .int 0, .int 0, .int 0, .ref 109, .int 0, .int 0, .ref 110, .ref 111, .ref 112, .ref 113, .ref 114, .ref 115, .ref 116, .ref 117, .int 0, .int 0, .int (-1), .int (-1), .ref 118, .null, .null, .null, .null, .null, .null, .null, .null, .null, .null, .null, .int 0, .null, .null, .null, .null, .null, .int 0, .int 0]) dX12_init_620 rfl fw_X12_85 rfl (Nat.le_of_ble_eq_true rfl) (fun _ => ⟨rfl, rfl⟩) rfl ?_
  refine J_aload_n dX12_init_623 rfl rfl ?_
  refine J_sipush (v := 1260) dX12_init_624 (by decide +kernel) ?_
  refine K_newa (t := 1) (N := 1260) (a0 := (1260, .inr (.inl (fun _ => 0)))) (nh2 := 120) (ck2 := 21) (sk2 := 114595) dX12_init_627 rfl (jt1 194 rfl rfl) rfl (fun _ _ h9 => h9) (fun _ => rfl) (fun _ => rfl) (by decide +kernel) (by decide +kernel) (Nat.le_of_ble_eq_true rfl) (Nat.le_of_ble_eq_true rfl) (Nat.le_of_ble_eq_true rfl) rfl rfl rfl ?_
  refine K_putF (fs2 := [.int 0, .int 0, .ref 99, .ref 100, .ref 101, .ref 102, .ref 103, .ref 104, .ref 105, .int 0, .int (-1), .ref 106, .ref 107, .ref 108, .int 0, .int 0, .int 0, .int 0, .int 0, .int 0, .int 0, .ref 109, .int 0, .int 0, .ref 110, .ref 111, .ref 112, .ref 113, .ref 114, .ref 115, .ref 116, .ref 117, .int 0, .int 0, .int (-1), .int (-1), .ref 118, .ref 119, .null, .null, .null, .null, .null, .null, .null, .null, .null, .null, .int 0, .null, .null, .null, .null, .null, .int 0, .int 0]) dX12_init_629 rfl fw_X12_88 rfl (Nat.le_of_ble_eq_true rfl) (fun _ => ⟨rfl, rfl⟩) rfl ?_
  refine J_aload_n dX12_init_632 rfl rfl ?_
  refine J_sipush (v := 1260) dX12_init_633 (by decide +kernel) ?_
  refine K_newa (t := 0) (N := 1260) (a0 := (1260, .inl (fun _ => 0))) (nh2 := 121) (ck2 := 22) (sk2 := 115855) dX12_init_636 rfl (jt1 98 rfl rfl) rfl (fun _ _ h9 => h9) (fun _ => rfl) (fun _ => rfl) (by decide +kernel) (by decide +kernel) (Nat.le_of_ble_eq_true rfl) (Nat.le_of_ble_eq_true rfl) (Nat.le_of_ble_eq_true rfl) rfl rfl rfl ?_
  refine K_putF (fs2 := [.int 0, .int 0, .ref 99, .ref 100, .ref 101, .ref 102, .ref 103, .ref 104, .ref 105, .int 0, .int (-1), .ref 106, .ref 107, .ref 108, .int 0, .int 0, .int 0, .int 0, .int 0, .int 0, .int 0, .ref 109, .int 0, .int 0, .ref 110, .ref 111, .ref 112, .ref 113, .ref 114, .ref 115, .ref 116, .ref 117, .int 0, .int 0, .int (-1), .int (-1), .ref 118, .ref 119, .ref 120, .null, .null, .null, .null, .null, .null, .null, .null, .null, .int 0, .null, .null, .null, .null, .null, .int 0, .int 0]) dX12_init_638 rfl fw_X12_92 rfl (Nat.le_of_ble_eq_true rfl) (fun _ => ⟨rfl, rfl⟩) rfl ?_
  refine J_aload_n dX12_init_641 rfl rfl ?_
  refine J_sipush (v := 1260) dX12_init_642 (by decide +kernel) ?_
  refine K_newa (t := 0) (N := 1260) (a0 := (1260, .inl (fun _ => 0))) (nh2 := 122) (ck2 := 23) (sk2 := 117115) dX12_init_645 rfl (jt1 98 rfl rfl) rfl (fun _ _ h9 => h9) (fun _ => rfl) (fun _ => rfl) (by decide +kernel) (by decide +kernel) (Nat.le_of_ble_eq_true rfl) (Nat.le_of_ble_eq_true rfl) (Nat.le_of_ble_eq_true rfl) rfl rfl rfl ?_
  refine K_putF (fs2 := [.int 0, .int 0, .ref 99, .ref 100, .ref 101, .ref 102, .ref 103, .ref 104, .ref 105, .int 0, .int (-1), .ref 106, .ref 107, .ref 108, .int 0, .int 0, .int 0, .int 0, .int 0, .int 0, .int 0, .ref 109, .int 0, .int 0, .ref 110, .ref 111, .ref 112, .ref 113, .ref 114, .ref 115, .ref 116, .ref 117, .int 0, .int 0, .int (-1), .int (-1), .ref 118, .ref 119, .ref 120, .ref 121, .null, .null, .null, .null, .null, .null, .null, .null, .int 0, .null, .null, .null, .null, .null, .int 0, .int 0]) dX12_init_647 rfl fw_X12_95 rfl (Nat.le_of_ble_eq_true rfl) (fun _ => ⟨rfl, rfl⟩) rfl ?_
  refine J_aload_n dX12_init_650 rfl rfl ?_
  refine J_sipush (v := 1260) dX12_init_651 (by decide +kernel) ?_
  refine K_newa (t := 2) (N := 1260) (a0 := (1260, .inl (fun _ => 0))) (nh2 := 123) (ck2 := 24) (sk2 := 118375) dX12_init_654 rfl (jt1 119 rfl rfl) rfl (fun _ _ h9 => h9) (fun _ => rfl) (fun _ => rfl) (by decide +kernel) (by decide +kernel) (Nat.le_of_ble_eq_true rfl) (Nat.le_of_ble_eq_true rfl) (Nat.le_of_ble_eq_true rfl) rfl rfl rfl ?_
  refine K_putF (fs2 := [.int 0, .int 0, .ref 99, .ref 100, .ref 101, .ref 102, .ref 103, .ref 104, .ref 105, .int 0, .int (-1), .ref 106, .ref 107, .ref 108, .int 0, .int 0, .int 0, .int 0, .int 0, .int 0, .int 0, .ref 109, .int 0, .int 0, .ref 110, .ref 111, .ref 112, .ref 113, .ref 114, .ref 115, .ref 116, .ref 117, .int 0, .int 0, .int (-1), .int (-1), .ref 118, .ref 119, .ref 120, .ref 121, .ref 122, .null, .null, .null, .null, .null, .null, .null, .int 0, .null, .null, .null, .null, .null, .int 0, .int 0]) dX12_init_656 rfl fw_X12_98 rfl (Nat.le_of_ble_eq_true rfl) (fun _ => ⟨rfl, rfl⟩) rfl ?_
  refine J_aload_n dX12_init_659 rfl rfl ?_
  refine J_sipush (v := 1260) dX12_init_660 (by decide +kernel) ?_
  refine K_newa (t := 0) (N := 1260) (a0 := (1260, .inl (fun _ => 0))) (nh2 := 124) (ck2 := 25) (sk2 := 119635) dX12_init_663 rfl (jt1 98 rfl rfl) rfl (fun _ _ h9 => h9) (fun _ => rfl) (fun _ => rfl) (by decide +kernel) (by decide +kernel) (Nat.le_of_ble_eq_true rfl) (Nat.le_of_ble_eq_true rfl) (Nat.le_of_ble_eq_true rfl) rfl rfl rfl ?_
  refine K_putF (fs2 := [.int 0, .int 0, .ref 99, .ref 100, .ref 101, .ref 102, .ref 103, .ref 104, .ref 105, .int 0, .int (-1), .ref 106, .ref 107, .ref 108, .int 0, .int 0, .int 0, .int 0, .int 0, .int 0, .int 0, .ref 109, .int 0, .int 0, .ref 110, .ref 111, .ref 112, .ref 113, .ref 114, .ref 115, .ref 116, .ref 117, .int 0, .int 0, .int (-1), .int (-1), .ref 118, .ref 119, .ref 120, .ref 121, .ref 122, .ref 123, .null, .null, .null, .null, .null, .null, .int 0, .null, .null, .null, .null, .null, .int 0, .int 0]) dX12_init_665 rfl fw_X12_101 rfl (Nat.le_of_ble_eq_true rfl) (fun _ => ⟨rfl, rfl⟩) rfl ?_
  refine J_aload_n dX12_init_668 rfl rfl ?_
  refine J_sipush (v := 27720) dX12_init_669 (by decide +kernel) ?_
  refine K_newa (t := 2) (N := 27720) (a0 := (27720, .inl (fun _ => 0))) (nh2 := 125) (ck2 := 26) (sk2 := 147355) dX12_init_672 rfl (jt1 119 rfl rfl) rfl (fun _ _ h9 => h9) (fun _ => rfl) (fun _ => rfl) (by decide +kernel) (by decide +kernel) (Nat.le_of_ble_eq_true rfl) (Nat.le_of_ble_eq_true rfl) (Nat.le_of_ble_eq_true rfl) rfl rfl rfl ?_
  refine K_putF (fs2 := [.int 0, .int 0, .ref 99, .ref 100, .ref 101, .ref 102, .ref 103, .ref 104, .ref 105, .int 0, .int (-1), .ref 106, .ref 107, .ref 108, .int 0, .int 0, .int 0, .int 0, .int 0, .int 0, .int 0, .ref 109, .int 0, .int 0, .ref 110, .ref 111, .ref 112, .ref 113, .ref 114, .ref 115, .ref 116, .ref 117, .int 0, .int 0, .int (-1), .int (-1), .ref 118, .ref 119, .ref 120, .ref 121, .ref 122, .ref 123, .ref 124, .null, .null, .null, .null, .null, .int 0, .null, .null, .null, .null, .null, .int 0, .int 0]) dX12_init_674 rfl fw_X12_104 rfl (Nat.le_of_ble_eq_true rfl) (fun _ => ⟨rfl, rfl⟩) rfl ?_
  refine J_aload_n dX12_init_677 rfl rfl ?_
  refine J_sipush (v := 1260) dX12_init_678 (by decide +kernel) ?_
  refine K_newa (t := 0) (N := 1260) (a0 := (1260, .inl (fun _ => 0))) (nh2 := 126) (ck2 := 27) (sk2 := 148615) dX12_init_681 rfl (jt1 98 rfl rfl) rfl (fun _ _ h9 => h9) (fun _ => rfl) (fun _ => rfl) (by decide +kernel) (by decide +kernel) (Nat.le_of_ble_eq_true rfl) (Nat.le_of_ble_eq_true rfl) (Nat.le_of_ble_eq_true rfl) rfl rfl rfl ?_
  refine K_putF (fs2 := [.int 0, .int 0, .ref 99, .ref 100, .ref 101, .ref 102, .ref 103, .ref 104, .ref 105, .int 0, .int (-1), .ref 106, .ref 107, .ref 108, .int 0, .int 0, .int 0, .int 0, .int 0, .int 0, .int 0, .ref 109, .int 0, .int 0, .ref 110, .ref 111, .ref 112, .ref 113, .ref 114, .ref 115, .ref 116, .ref 117, .int 0, .int 0, .int (-1), .int (-1), .ref 118, .ref 119, .ref 120, .ref 121, .ref 122, .ref 123, .ref 124, .ref 125, .null, .null, .null, .null, .int 0, .null, .null, .null, .null, .null, .int 0, .int 0]) dX12_init_683 rfl fw_X12_107 rfl (Nat.le_of_ble_eq_true rfl) (fun _ => ⟨rfl, rfl⟩) rfl ?_
  refine J_aload_n dX12_init_686 rfl rfl ?_
  refine J_sipush (v := 1260) dX12_init_687 (by decide +kernel) ?_
  refine K_newa (t := 0) (N := 1260) (a0 := (1260, .inl (fun _ => 0))) (nh2 := 127) (ck2 := 28) (sk2 := 149875) dX12_init_690 rfl (jt1 98 rfl rfl) rfl (fun _ _ h9 => h9) (fun _ => rfl) (fun _ => rfl) (by decide +kernel) (by decide +kernel) (Nat.le_of_ble_eq_true rfl) (Nat.le_of_ble_eq_true rfl) (Nat.le_of_ble_eq_true rfl) rfl rfl rfl ?_
  refine K_putF (fs2 := [.int 0, .int 0, .ref 99, .ref 100, .ref 101, .ref 102, .ref 103, .ref 104, .ref 105, .int 0, .int (-1), .ref 106, .ref 107, .ref 108, .int 0, .int 0, .int 0, .int 0, .int 0, .int 0, .int 0, .ref 109, .int 0, .int 0, .ref 110, .ref 111, .ref 112, .ref 113, .ref 114, .ref 115, .ref 116, .ref 117, .int 0, .int 0, .int (-1), .int (-1), .ref 118, .ref 119, .ref 120, .ref 121, .ref 122, .ref 123, .ref 124, .ref 125, .ref 126, .null, .null, .null, .int 0, .null, .null, .null, .null, .null, .int 0, .int 0]) dX12_init_692 rfl fw_X12_110 rfl (Nat.le_of_ble_eq_true rfl) (fun _ => ⟨rfl, rfl⟩) rfl ?_
  refine J_aload_n dX12_init_695 rfl rfl ?_
  refine J_sipush (v := 1260) dX12_init_696 (by decide +kernel) ?_
  refine K_newa (t := 1) (N := 1260) (a0 := (1260, .inr (.inl (fun _ => 0)))) (nh2 := 128) (ck2 := 29) (sk2 := 151135) dX12_init_699 rfl (jt1 194 rfl rfl) rfl (fun _ _ h9 => h9) (fun _ => rfl) (fun _ => rfl) (by decide +kernel) (by decide +kernel) (Nat.le_of_ble_eq_true rfl) (Nat.le_of_ble_eq_true rfl) (Nat.le_of_ble_eq_true rfl) rfl rfl rfl ?_
  refine K_putF (fs2 := [.int 0, .int 0, .ref 99, .ref 100, .ref 101, .ref 102, .ref 103, .ref 104, .ref 105, .int 0, .int (-1), .ref 106, .ref 107, .ref 108, .int 0, .int 0, .int 0, .int 0, .int 0, .int 0, .int 0, .ref 109, .int 0, .int 0, .ref 110, .ref 111, .ref 112, .ref 113, .ref 114, .ref 115, .ref 116, .ref 117, .int 0, .int 0, .int (-1), .int (-1), .ref 118, .ref 119, .ref 120, .ref 121, .ref 122, .ref 123, .ref 124, .ref 125, .ref 126, .ref 127, .null, .null, .int 0, .null, .null, .null, .null, .null, .int 0, .int 0]) dX12_init_701 rfl fw_X12_113 rfl (Nat.le_of_ble_eq_true rfl) (fun _ => ⟨rfl, rfl⟩) rfl ?_
  refine J_aload_n dX12_init_704 rfl rfl ?_
  refine J_sipush (v := 1260) dX12_init_705 (by decide +kernel) ?_
  refine K_newa (t := 1) (N := 1260) (a0 := (1260, .inr (.inl (fun _ => 0)))) (nh2 := 129) (ck2 := 30) (sk2 := 152395) dX12_init_708 rfl (jt1 194 rfl rfl) rfl (fun _ _ h9 => h9) (fun _ => rfl) (fun _ => rfl) (by decide +kernel) (by decide +kernel) (Nat.le_of_ble_eq_true rfl) (Nat.le_of_ble_eq_true rfl) (Nat.le_of_ble_eq_true rfl) rfl rfl rfl ?_
  refine K_putF (fs2 := [.int 0, .int 0, .ref 99, .ref 100, .ref 101, .ref 102, .ref 103, .ref 104, .ref 105, .int 0, .int (-1), .ref 106, .ref 107, .ref 108, .int 0, .int 0, .int 0, .int 0, .int 0, .int 0, .int 0, .ref 109, .int 0, .int 0, .ref 110, .ref 111, .ref 112, .ref 113, .ref 114, .ref 115, .ref 116, .ref 117, .int 0, .int 0, .int (-1), .int (-1), .ref 118, .ref 119, .ref 120, .ref 121, .ref 122, .ref 123, .ref 124, .ref 125, .ref 126, .ref 127, .ref 128, .null, .int 0, .null, .null, .null, .null, .null, .int 0, .int 0]) dX12_init_710 rfl fw_X12_116 rfl (Nat.le_of_ble_eq_true rfl) (fun _ => ⟨rfl, rfl⟩) rfl ?_
  refine J_aload_n dX12_init_713 rfl rfl ?_
  refine J_ldc (v := 229376) dX12_init_714 (jt6 73 rfl rfl) ?_
  refine K_newa (t := 2) (N := 229376) (a0 := (229376, .inl (fun _ => 0))) (nh2 := 130) (ck2 := 31) (sk2 := 381771) dX12_init_716 rfl (jt1 119 rfl rfl) rfl (fun _ _ h9 => h9) (fun _ => rfl) (fun _ => rfl) (by decide +kernel) (by decide +kernel) (Nat.le_of_ble_eq_true rfl) (Nat.le_of_ble_eq_true rfl) (Nat.le_of_ble_eq_true rfl) rfl rfl rfl ?_
  refine K_putF (fs2 := [.int 0, .int 0, .ref 99, .ref 100, .ref 101, .ref 102, .ref 103, .ref 104, .ref 105, .int 0, .int (-1), .ref 106, .ref 107, .ref 108, .int 0, .int 0, .int 0, .int 0, .int 0, .int 0, .int 0, .ref 109, .int 0, .int 0, .ref 110, .ref 111, .ref 112, .ref 113, .ref 114, .ref 115, .ref 116, .ref 117, .int 0, .int 0, .int (-1), .int (-1), .ref 118, .ref 119, .ref 120, .ref 121, .ref 122, .ref 123, .ref 124, .ref 125, .ref 126, .ref 127, .ref 128, .ref 129, .int 0, .null, .null, .null, .null, .null, .int 0, .int 0]) dX12_init_718 rfl fw_X12_120 rfl (Nat.le_of_ble_eq_true rfl) (fun _ => ⟨rfl, rfl⟩) rfl ?_
  refine J_aload_n dX12_init_721 rfl rfl ?_
  refine J_sipush (v := 1260) dX12_init_722 (by decide +kernel) ?_
  refine K_newa (t := 2) (N := 1260) (a0 := (1260, .inl (fun _ => 0))) (nh2 := 131) (ck2 := 32) (sk2 := 383031) dX12_init_725 rfl (jt1 119 rfl rfl) rfl (fun _ _ h9 => h9) (fun _ => rfl) (fun _ => rfl) (by decide +kernel) (by decide +kernel) (Nat.le_of_ble_eq_true rfl) (Nat.le_of_ble_eq_true rfl) (Nat.le_of_ble_eq_true rfl) rfl rfl rfl ?_
  refine K_putF (fs2 := [.int 0, .int 0, .ref 99, .ref 100, .ref 101, .ref 102, .ref 103, .ref 104, .ref 105, .int 0, .int (-1), .ref 106, .ref 107, .ref 108, .int 0, .int 0, .int 0, .int 0, .int 0, .int 0, .int 0, .ref 109, .int 0, .int 0, .ref 110, .ref 111, .ref 112, .ref 113, .ref 114, .ref 115, .ref 116, .ref 117, .int 0, .int 0, .int (-1), .int (-1), .ref 118, .ref 119, .ref 120, .ref 121, .ref 122, .ref 123, .ref 124, .ref 125, .ref 126, .ref 127, .ref 128, .ref 129, .int 0, .ref 130, .null, .null, .null, .null, .int 0, .int 0]) dX12_init_727 rfl fw_X12_123 rfl (Nat.le_of_ble_eq_true rfl) (fun _ => ⟨rfl, rfl⟩) rfl ?_
  refine J_aload_n dX12_init_730 rfl rfl ?_
  refine J_sipush (v := 1261) dX12_init_731 (by decide +kernel) ?_
  refine K_newa (t := 0) (N := 1261) (a0 := (1261, .inl (fun _ => 0))) (nh2 := 132) (ck2 := 33) (sk2 := 384292) dX12_init_734 rfl (jt1 98 rfl rfl) rfl (fun _ _ h9 => h9) (fun _ => rfl) (fun _ => rfl) (by decide +kernel) (by decide +kernel) (Nat.le_of_ble_eq_true rfl) (Nat.le_of_ble_eq_true rfl) (Nat.le_of_ble_eq_true rfl) rfl rfl rfl ?_
  refine K_putF (fs2 := [.int 0, .int 0, .ref 99, .ref 100, .ref 101, .ref 102, .ref 103, .ref 104, .ref 105, .int 0, .int (-1), .ref 106, .ref 107, .ref 108, .int 0, .int 0, .int 0, .int 0, .int 0, .int 0, .int 0, .ref 109, .int 0, .int 0, .ref 110, .ref 111, .ref 112, .ref 113, .ref 114, .ref 115, .ref 116, .ref 117, .int 0, .int 0, .int (-1), .int (-1), .ref 118, .ref 119, .ref 120, .ref 121, .ref 122, .ref 123, .ref 124, .ref 125, .ref 126, .ref 127, .ref 128, .ref 129, .int 0, .ref 130, .ref 131, .null, .null, .null, .int 0, .int 0]) dX12_init_736 rfl fw_X12_126 rfl (Nat.le_of_ble_eq_true rfl) (fun _ => ⟨rfl, rfl⟩) rfl ?_
  refine J_aload_n dX12_init_739 rfl rfl ?_
  refine J_sipush (v := 1600) dX12_init_740 (by decide +kernel) ?_
  refine K_newa (t := 0) (N := 1600) (a0 := (1600, .inl (fun _ => 0))) (nh2 := 133) (ck2 := 34) (sk2 := 385892) dX12_init_743 rfl (jt1 98 rfl rfl) rfl (fun _ _ h9 => h9) (fun _ => rfl) (fun _ => rfl) (by decide +kernel) (by decide +kernel) (Nat.le_of_ble_eq_true rfl) (Nat.le_of_ble_eq_true rfl) (Nat.le_of_ble_eq_true rfl) rfl rfl rfl ?_
  refine K_putF (fs2 := [.int 0, .int 0, .ref 99, .ref 100, .ref 101, .ref 102, .ref 103, .ref 104, .ref 105, .int 0, .int (-1), .ref 106, .ref 107, .ref 108, .int 0, .int 0, .int 0, .int 0, .int 0, .int 0, .int 0, .ref 109, .int 0, .int 0, .ref 110, .ref 111, .ref 112, .ref 113, .ref 114, .ref 115, .ref 116, .ref 117, .int 0, .int 0, .int (-1), .int (-1), .ref 118, .ref 119, .ref 120, .ref 121, .ref 122, .ref 123, .ref 124, .ref 125, .ref 126, .ref 127, .ref 128, .ref 129, .int 0, .ref 130, .ref 131, .ref 132, .null, .null, .int 0, .int 0]) dX12_init_745 rfl fw_X12_129 rfl (Nat.le_of_ble_eq_true rfl) (fun _ => ⟨rfl, rfl⟩) rfl ?_
  refine J_aload_n dX12_init_748 rfl rfl ?_
  refine J_sipush (v := 1600) dX12_init_749 (by decide +kernel) ?_
  refine K_newa (t := 0) (N := 1600) (a0 := (1600, .inl (fun _ => 0))) (nh2 := 134) (ck2 := 35) (sk2 := 387492) dX12_init_752 rfl (jt1 98 rfl rfl) rfl (fun _ _ h9 => h9) (fun _ => rfl) (fun _ => rfl) (by decide +kernel) (by decide +kernel) (Nat.le_of_ble_eq_true rfl) (Nat.le_of_ble_eq_true rfl) (Nat.le_of_ble_eq_true rfl) rfl rfl rfl ?_
  refine K_putF (fs2 := [.int 0, .int 0, .ref 99, .ref 100, .ref 101, .ref 102, .ref 103, .ref 104, .ref 105, .int 0, .int (-1), .ref 106, .ref 107, .ref 108, .int 0, .int 0, .int 0, .int 0, .int 0, .int 0, .int 0, .ref 109, .int 0, .int 0, .ref 110, .ref 111, .ref 112, .ref 113, .ref 114, .ref 115, .ref 116, .ref 117, .int 0, .int 0, .int (-1), .int (-1), .ref 118, .ref 119, .ref 120, .ref 121, .ref 122, .ref 123, .ref 124, .ref 125, .ref 126, .ref 127, .ref 128, .ref 129, .int 0, .ref 130, .ref 131, .ref 132, .ref 133, .null, .int 0, .int 0]) dX12_init_754 rfl fw_X12_132 rfl (Nat.le_of_ble_eq_true rfl) (fun _ => ⟨rfl, rfl⟩) rfl ?_
  refine J_aload_n dX12_init_757 rfl rfl ?_
  refine J_sipush (v := 1260) dX12_init_758 (by decide +kernel) ?_
  refine K_newa (t := 0) (N := 1260) (a0 := (1260, .inl (fun _ => 0))) (nh2 := 135) (ck2 := 36) (sk2 := 388752) dX12_init_761 rfl (jt1 98 rfl rfl) rfl (fun _ _ h9 => h9) (fun _ => rfl) (fun _ => rfl) (by decide +kernel) (by decide +kernel) (Nat.le_of_ble_eq_true rfl) (Nat.le_of_ble_eq_true rfl) (Nat.le_of_ble_eq_true rfl) rfl rfl rfl ?_
  refine K_putF (fs2 := [.int 0, .int 0, .ref 99, .ref 100, .ref 101, .ref 102, .ref 103, .ref 104, .ref 105, .int 0, .int (-1), .ref 106, .ref 107, .ref 108, .int 0, .int 0, .int 0, .int 0, .int 0, .int 0, .int 0, .ref 109, .int 0, .int 0, .ref 110, .ref 111, .ref 112, .ref 113, .ref 114, .ref 115, .ref 116, .ref 117, .int 0, .int 0, .int (-1), .int (-1), .ref 118, .ref 119, .ref 120, .ref 121, .ref 122, .ref 123, .ref 124, .ref 125, .ref 126, .ref 127, .ref 128, .ref 129, .int 0, .ref 130, .ref 131, .ref 132, .ref 133, .ref 134, .int 0, .int 0]) dX12_init_763 rfl fw_X12_135 rfl (Nat.le_of_ble_eq_true rfl) (fun _ => ⟨rfl, rfl⟩) rfl ?_
  refine J_aload_n dX12_init_766 rfl rfl ?_
  refine J_get (v := .ref 100) dX12_init_767 fl_X12_20 rfl rfl ?_
  refine J_bipush (v := 63) dX12_init_770 (by decide +kernel) ?_
  refine J_iconst (v := (-1)) dX12_init_772 (by decide) ?_
  refine K_iast (i2 := 63) dX12_init_773 rfl rfl (jin (by decide +kernel)) (by decide +kernel) ?_
  refine J_mask (L2 := [(100, .inl (0, 4870, .inl (upd (fun _ => 0) 63 (-1)))), (98, .inr (12, [.int 0, .int 0, .ref 99, .ref 100, .ref 101, .ref 102, .ref 103, .ref 104, .ref 105, .int 0, .int (-1), .ref 106, .ref 107, .ref 108, .int 0, .int 0, .int 0, .int 0, .int 0, .int 0, .int 0, .ref 109, .int 0, .int 0, .ref 110, .ref 111, .ref 112, .ref 113, .ref 114, .ref 115, .ref 116, .ref 117, .int 0, .int 0, .int (-1), .int (-1), .ref 118, .ref 119, .ref 120, .ref 121, .ref 122, .ref 123, .ref 124, .ref 125, .ref 126, .ref 127, .ref 128, .ref 129, .int 0, .ref 130, .ref 131, .ref 132, .ref 133, .ref 134, .int 0, .int 0])), (134, .inl (0, 1260, .inl (fun _ => 0))), (133, .inl (0, 1600, .inl (fun _ => 0))), (132, .inl (0, 1600, .inl (fun _ => 0))), (131, .inl (0, 1261, .inl (fun _ => 0))), (130, .inl (2, 1260, .inl (fun _ => 0))), (129, .inl (2, 229376, .inl (fun _ => 0))), (128, .inl (1, 1260, .inr (.inl (fun _ => 0)))), (127, .inl (1, 1260, .inr (.inl (fun _ => 0)))), (126, .inl (0, 1260, .inl (fun _ => 0))), (125, .inl (0, 1260, .inl (fun _ => 0))), (124, .inl (2, 27720, .inl (fun _ => 0))), (123, .inl (0, 1260, .inl (fun _ => 0))), (122, .inl (2, 1260, .inl (fun _ => 0))), (121, .inl (0, 1260, .inl (fun _ => 0))), (120, .inl (0, 1260, .inl (fun _ => 0))), (119, .inl (1, 1260, .inr (.inl (fun _ => 0)))), (118, .inl (0, 1260, .inl (fun _ => 0))), (117, .inl (0, 7, .inl (fun _ => 0))), (116, .inl (0, 1260, .inl (fun _ => 0))), (115, .inl (0, 27720, .inl (fun _ => 0))), (114, .inl (0, 1260, .inl (fun _ => 0))), (113, .inl (0, 27720, .inl (fun _ => 0))), (112, .inl (0, 27720, .inl (fun _ => 0))), (111, .inl (0, 1260, .inl (fun _ => 0))), (110, .inl (0, 8820, .inl (fun _ => 0))), (109, .inl (0, 8, .inl (fun _ => 0))), (108, .inl (0, 401, .inl (fun _ => 0))), (107, .inl (0, 401, .inl (fun _ => 0))), (106, .inl (0, 401, .inl (fun _ => 0))), (105, .inl (0, 5, .inl (fun _ => 0))), (104, .inl (3, 400, .inl (fun _ => 0))), (103, .inl (3, 73, .inl (upd (upd (upd (upd (upd (upd (upd (upd (upd (upd (upd (upd (upd (upd (upd (upd (upd (upd (upd (upd (upd (upd (upd (upd (upd (upd (upd (upd (upd (upd (upd (upd (upd (upd (upd (upd (upd (upd (upd (upd (upd (upd (upd (upd (upd (upd (upd (upd (upd (upd (upd (upd (upd (upd (upd (upd (upd (upd (upd (upd (upd (upd (upd (upd (upd (upd (upd (upd (upd (upd (upd (upd (upd (fun _ => 0) 0 116) 1 97) 2 107) 3 101) 4 115) 5 32) 6 108) 7 101) 8 116) 9 115) 10 32) 11 98) 12 97) 13 114) 14 115) 15 32) 16 105) 17 102) 18 32) 19 111) 20 114) 21 32) 22 97) 23 110) 24 100) 25 32) 26 110) 27 111) 28 116) 29 32) 30 108) 31 101) 32 102) 33 116) 34 32) 35 114) 36 105) 37 103) 38 104) 39 116) 40 32) 41 111) 42 110) 43 101) 44 32) 45 111) 46 116) 47 104) 48 101) 49 114) 50 32) 51 97) 52 112) 53 97) 54 114) 55 116) 56 32) 57 102) 58 105) 59 114) 60 115) 61 116) 62 32) 63 98) 64 101) 65 97) 66 110) 67 115) 68 32) 69 100) 70 97) 71 121) 72 32))), (102, .inl (2, 2, .inl (fun _ => 0))), (101, .inl (0, 9740, .inl (fun _ => 0))), (99, .inl (0, 7, .inl (fun _ => 0)))]) (ks := [100, 98, 134, 98, 133, 98, 132, 98, 131, 98, 130, 98, 129, 98, 128, 98, 127, 98, 126, 98, 125, 98, 124, 98, 123, 98, 122, 98, 121, 98, 120, 98, 119, 98, 118, 98, 98, 98, 117, 98, 116, 98, 115, 98, 114, 98, 113, 98, 112, 98, 111, 98, 110, 98, 109, 98, 108, 98, 107, 98, 106, 98, 98, 105, 98, 104, 98, 103, 103, 103, 103, 103, 103, 103, 103, 103, 103, 103, 103, 103, 103, 103, 103, 103, 103, 103, 103, 103, 103, 103, 103, 103, 103, 103, 103, 103, 103, 103, 103, 103, 103, 103, 103, 103, 103, 103, 103, 103, 103, 103, 103, 103, 103, 103, 103, 103, 103, 103, 103, 103, 103, 103, 103, 103, 103, 103, 103, 103, 103, 103, 103, 103, 103, 103, 103, 103, 103, 103, 103, 103, 103, 98, 102, 98, 101, 98, 100, 98, 99]) [true, true, true, false, true, false, true, false, true, false, true, false, true, false, true, false, true, false, true, false, true, false, true, false, true, false, true, false, true, false, true, false, true, false, true, false, false, false, true, false, true, false, true, false, true, false, true, false, true, false, true, false, true, false, true, false, true, false, true, false, true, false, false, true, false, true, false, true, false, false, false, false, false, false, false, false, false, false, false, false, false, false, false, false, false, false, false, false, false, false, false, false, false, false, false, false, false, false, false, false, false, false, false, false, false, false, false, false, false, false, false, false, false, false, false, false, false, false, false, false, false, false, false, false, false, false, false, false, false, false, false, false, false, false, false, false, false, false, false, false, false, false, true, false, true, false, false, false, true] rfl (by decide +kernel) rfl ?_
  exact J_vret dX12_init_774 rfl (Nat.le_of_ble_eq_true rfl) (Nat.le_of_ble_eq_true rfl) ⟨rfl, rfl⟩
set_option maxHeartbeats 4000000 in
set_option maxRecDepth 100000 in
theorem c_X11_refusalPlace_1 {l : Launch} {G : jG} {nh : Nat} {fh : Nat → Option va_E}  : JM l G yX11_refusalPlace MX11_refusalPlace { frames := 0, cells := 0, slots := 0, locals := 0 } [.int (-1)] (nh, fh) (fun r h9 => r = some (.int 0) ∧ h9 = (nh, fh)) := by
  refine JM.of (by decide) rfl (fun h => by cases h) (Nat.le_of_ble_eq_true rfl) ⟨0, rfl⟩ ?_
  refine J_hc0 (J_ls (ls2 := [some (.int (-1))]) rfl ?_)
  refine J_iload_n dX11_refusalPlace_0 rfl rfl ?_
  refine J_tableIn (tgt := 36) dX11_refusalPlace_1 (by decide +kernel) (by decide +kernel) (off := 35) (by decide +kernel) (by decide) ?_
  refine J_iconst (v := 0) dX11_refusalPlace_36 (by decide) ?_
  exact J_iret dX11_refusalPlace_37 rfl rfl (Nat.le_of_ble_eq_true rfl) (Nat.le_of_ble_eq_true rfl) ⟨rfl, rfl⟩
set_option maxHeartbeats 4000000 in
set_option maxRecDepth 100000 in
theorem c_X11_refuse_1 {l : Launch} {G : jG} {nh : Nat} {fh : Nat → Option va_E} (hk0 : fh 0 = some (.inr (11, [.ref 1, .ref 17, .ref 50, .ref 51, .ref 54, .ref 57, .ref 65, .ref 75, .ref 81, .ref 85, .ref 88, .ref 93, .ref 96, .int 0, .int (-1), .ref 97, .int 0]))) (hk96 : fh 96 = some (.inl (0, 5, .inl (fun _ => 0)))) : JM l G yX11_refuse MX11_refuse { frames := 1, cells := 0, slots := 0, locals := 20 } [.ref 0, .int (-1)] (nh, fh) (fun r h9 => r = some (.int (-1)) ∧ h9 = (nh, hc fh [(96, .inl (0, 5, .inl (upd (fun _ => 0) 0 1))), (0, .inr (11, [.ref 1, .ref 17, .ref 50, .ref 51, .ref 54, .ref 57, .ref 65, .ref 75, .ref 81, .ref 85, .ref 88, .ref 93, .ref 96, .int (-1), .int (-1), .ref 97, .int 0]))])) := by
  refine JM.of (by decide) rfl (fun h => by cases h) (Nat.le_of_ble_eq_true rfl) ⟨0, rfl⟩ ?_
  refine J_hc0 (J_ls (ls2 := [some (.ref 0), some (.int (-1))]) rfl ?_)
  refine J_aload_n dX11_refuse_0 rfl rfl ?_
  refine J_iload_n dX11_refuse_1 rfl rfl ?_
  refine K_put (fs2 := [.ref 1, .ref 17, .ref 50, .ref 51, .ref 54, .ref 57, .ref 65, .ref 75, .ref 81, .ref 85, .ref 88, .ref 93, .ref 96, .int (-1), .int (-1), .ref 97, .int 0]) dX11_refuse_2 fw_X11_97 hk0 (Nat.le_of_ble_eq_true rfl) (fun _ => ⟨rfl, rfl⟩) rfl ?_
  refine J_aload_n dX11_refuse_5 rfl rfl ?_
  refine J_get (v := .ref 96) dX11_refuse_6 fl_X11_93 rfl rfl ?_
  refine J_iload_n dX11_refuse_9 rfl rfl ?_
  refine J_callS (st := [.ref 96]) dX11_refuse_10 cs_X11_318 (c_X11_refusalPlace_1 ) rfl rfl (Nat.le_of_ble_eq_true rfl) ⟨(Nat.le_of_ble_eq_true rfl), (Nat.le_of_ble_eq_true rfl)⟩ ⟨(Nat.le_of_ble_eq_true rfl), (Nat.le_of_ble_eq_true rfl)⟩ (fun r h9 hp => ?_)
  obtain ⟨rfl, rfl⟩ := hp
  refine J_nf (nh2 := nh) (ck2 := 0) (sk2 := 0) (st2 := [.int 0, .ref 96]) rfl rfl rfl rfl ?_
  refine J_dup2_11 dX11_refuse_13 rfl rfl ?_
  refine J_iald (i2 := 0) (v := 0) dX11_refuse_14 hk96 rfl (jin (by decide +kernel)) (by decide +kernel) rfl ?_
  refine J_iconst (v := 1) dX11_refuse_15 (by decide) ?_
  refine J_iadd (z := 1) dX11_refuse_16 (by decide +kernel) ?_
  refine K_iast (i2 := 0) dX11_refuse_17 hk96 rfl (jin (by decide +kernel)) (by decide +kernel) ?_
  refine J_iload_n dX11_refuse_18 rfl rfl ?_
  exact J_iret dX11_refuse_19 rfl rfl (Nat.le_of_ble_eq_true rfl) (Nat.le_of_ble_eq_true rfl) ⟨rfl, rfl⟩
set_option maxHeartbeats 4000000 in
set_option maxRecDepth 100000 in
theorem c_X11_beans_1 {l : Launch} {G : jG} {nh : Nat} {fh : Nat → Option va_E} (a1 : Int32) (b_a1 : (-2147483648) ≤ a1.toInt ∧ a1.toInt ≤ (-1)) (a2 : Int32) (b_a2 : (-2147483648) ≤ a2.toInt ∧ a2.toInt ≤ 2147483647) (hk0 : fh 0 = some (.inr (11, [.ref 1, .ref 17, .ref 50, .ref 51, .ref 54, .ref 57, .ref 65, .ref 75, .ref 81, .ref 85, .ref 88, .ref 93, .ref 96, .int 0, .int (-1), .ref 97, .int 0]))) (hk96 : fh 96 = some (.inl (0, 5, .inl (fun _ => 0)))) : JM l G yX11_beans MX11_beans { frames := 2, cells := 0, slots := 0, locals := 41 } [.ref 0, .int a1, .int a2] (nh, fh) (fun r h9 => r = some (.int (-1)) ∧ h9 = (nh, hc fh [(96, .inl (0, 5, .inl (upd (fun _ => 0) 0 1))), (0, .inr (11, [.ref 1, .ref 17, .ref 50, .ref 51, .ref 54, .ref 57, .ref 65, .ref 75, .ref 81, .ref 85, .ref 88, .ref 93, .ref 96, .int (-1), .int (-1), .ref 97, .int 0]))])) := by
  refine JM.of (by decide) rfl (fun h => by cases h) (Nat.le_of_ble_eq_true rfl) ⟨1, rfl⟩ ?_
  refine J_hc0 (J_ls (ls2 := [some (.ref 0), some (.int a1), some (.int a2), none]) rfl ?_)
  refine J_iload_n dX11_beans_0 rfl rfl ?_
  refine J_if_lt (tgt := 19) dX11_beans_1 (by decide) (fun _ => ?_) (fun q => absurd (by have hb0 := b_a1; simp only [fa_lt, fa_le, fa_eq, kc_0]; omega) q)
  refine J_aload_n dX11_beans_19 rfl rfl ?_
  refine J_iconst (v := (-1)) dX11_beans_20 (by decide) ?_
  refine J_callV (st := []) dX11_beans_21 cv_X11_118 (c_X11_refuse_1 hk0 hk96) hk0 rfl rfl (Nat.le_of_ble_eq_true rfl) ⟨(Nat.le_of_ble_eq_true rfl), (Nat.le_of_ble_eq_true rfl)⟩ ⟨(Nat.le_of_ble_eq_true rfl), (Nat.le_of_ble_eq_true rfl)⟩ (fun r h9 hp => ?_)
  obtain ⟨rfl, rfl⟩ := hp
  refine J_nf (nh2 := nh) (ck2 := 0) (sk2 := 0) (st2 := [.int (-1)]) rfl rfl rfl rfl ?_
  refine J_app (L3 := [(96, .inl (0, 5, .inl (upd (fun _ => 0) 0 1))), (0, .inr (11, [.ref 1, .ref 17, .ref 50, .ref 51, .ref 54, .ref 57, .ref 65, .ref 75, .ref 81, .ref 85, .ref 88, .ref 93, .ref 96, .int (-1), .int (-1), .ref 97, .int 0]))]) rfl ?_
  exact J_iret dX11_beans_24 rfl rfl (Nat.le_of_ble_eq_true rfl) (Nat.le_of_ble_eq_true rfl) ⟨rfl, rfl⟩
set_option maxHeartbeats 4000000 in
set_option maxRecDepth 100000 in
theorem c_X12_lies_1 {l : Launch} {G : jG} {nh : Nat} {fh : Nat → Option va_E} (a0 : Int32) (b_a0 : (-2147483648) ≤ a0.toInt ∧ a0.toInt ≤ (-1)) : JM l G yX12_lies MX12_lies { frames := 0, cells := 0, slots := 0, locals := 0 } [.int a0, .int 0, .int 4] (nh, fh) (fun r h9 => r = some (.int 0) ∧ h9 = (nh, fh)) := by
  refine JM.of (by decide) rfl (fun h => by cases h) (Nat.le_of_ble_eq_true rfl) ⟨0, rfl⟩ ?_
  refine J_hc0 (J_ls (ls2 := [some (.int a0), some (.int 0), some (.int 4)]) rfl ?_)
  refine J_iload_n dX12_lies_0 rfl rfl ?_
  refine J_iload_n dX12_lies_1 rfl rfl ?_
  refine J_icmp_lt (tgt := 14) dX12_lies_2 (by decide) (fun _ => ?_) (fun q => absurd (by have hb0 := b_a0; simp only [fa_lt, fa_le, fa_eq, kc_0]; omega) q)
  refine J_iconst (v := 0) dX12_lies_14 (by decide) ?_
  exact J_iret dX12_lies_15 rfl (by decide +kernel) (Nat.le_of_ble_eq_true rfl) (Nat.le_of_ble_eq_true rfl) ⟨rfl, rfl⟩
set_option maxHeartbeats 4000000 in
set_option maxRecDepth 100000 in
theorem c_X12_refuses_1 {l : Launch} {G : jG} {nh : Nat} {fh : Nat → Option va_E} (hk98 : fh 98 = some (.inr (12, [.int 0, .int 0, .ref 99, .ref 100, .ref 101, .ref 102, .ref 103, .ref 104, .ref 105, .int 0, .int (-1), .ref 106, .ref 107, .ref 108, .int 0, .int 0, .int 0, .int 0, .int 0, .int 0, .int 0, .ref 109, .int 0, .int 0, .ref 110, .ref 111, .ref 112, .ref 113, .ref 114, .ref 115, .ref 116, .ref 117, .int 0, .int 0, .int (-1), .int (-1), .ref 118, .ref 119, .ref 120, .ref 121, .ref 122, .ref 123, .ref 124, .ref 125, .ref 126, .ref 127, .ref 128, .ref 129, .int 0, .ref 130, .ref 131, .ref 132, .ref 133, .ref 134, .int 0, .int 0]))) (hk99 : fh 99 = some (.inl (0, 7, .inl (fun _ => 0)))) : JM l G yX12_refuses MX12_refuses { frames := 0, cells := 0, slots := 0, locals := 0 } [.ref 98, .int (-1)] (nh, fh) (fun r h9 => r = some (.int (-1)) ∧ h9 = (nh, hc fh [(99, .inl (0, 7, .inl (upd (fun _ => 0) 1 1))), (98, .inr (12, [.int (-1), .int 0, .ref 99, .ref 100, .ref 101, .ref 102, .ref 103, .ref 104, .ref 105, .int 0, .int (-1), .ref 106, .ref 107, .ref 108, .int 0, .int 0, .int 0, .int 0, .int 0, .int 0, .int 0, .ref 109, .int 0, .int 0, .ref 110, .ref 111, .ref 112, .ref 113, .ref 114, .ref 115, .ref 116, .ref 117, .int 0, .int 0, .int (-1), .int (-1), .ref 118, .ref 119, .ref 120, .ref 121, .ref 122, .ref 123, .ref 124, .ref 125, .ref 126, .ref 127, .ref 128, .ref 129, .int 0, .ref 130, .ref 131, .ref 132, .ref 133, .ref 134, .int 0, .int 0]))])) := by
  refine JM.of (by decide) rfl (fun h => by cases h) (Nat.le_of_ble_eq_true rfl) ⟨0, rfl⟩ ?_
  refine J_hc0 (J_ls (ls2 := [some (.ref 98), some (.int (-1))]) rfl ?_)
  refine J_aload_n dX12_refuses_0 rfl rfl ?_
  refine J_iload_n dX12_refuses_1 rfl rfl ?_
  refine K_put (fs2 := [.int (-1), .int 0, .ref 99, .ref 100, .ref 101, .ref 102, .ref 103, .ref 104, .ref 105, .int 0, .int (-1), .ref 106, .ref 107, .ref 108, .int 0, .int 0, .int 0, .int 0, .int 0, .int 0, .int 0, .ref 109, .int 0, .int 0, .ref 110, .ref 111, .ref 112, .ref 113, .ref 114, .ref 115, .ref 116, .ref 117, .int 0, .int 0, .int (-1), .int (-1), .ref 118, .ref 119, .ref 120, .ref 121, .ref 122, .ref 123, .ref 124, .ref 125, .ref 126, .ref 127, .ref 128, .ref 129, .int 0, .ref 130, .ref 131, .ref 132, .ref 133, .ref 134, .int 0, .int 0]) dX12_refuses_2 fw_X12_3 hk98 (Nat.le_of_ble_eq_true rfl) (fun _ => ⟨rfl, rfl⟩) rfl ?_
  refine J_aload_n dX12_refuses_5 rfl rfl ?_
  refine J_get (v := .ref 99) dX12_refuses_6 fl_X12_7 rfl rfl ?_
  refine J_iload_n dX12_refuses_9 rfl rfl ?_
  refine J_ineg (z := 1) dX12_refuses_10 (by decide +kernel) ?_
  refine J_dup2_11 dX12_refuses_11 rfl rfl ?_
  refine J_iald (i2 := 1) (v := 0) dX12_refuses_12 hk99 rfl (jin (by decide +kernel)) (by decide +kernel) rfl ?_
  refine J_iconst (v := 1) dX12_refuses_13 (by decide) ?_
  refine J_iadd (z := 1) dX12_refuses_14 (by decide +kernel) ?_
  refine K_iast (i2 := 1) dX12_refuses_15 hk99 rfl (jin (by decide +kernel)) (by decide +kernel) ?_
  refine J_iload_n dX12_refuses_16 rfl rfl ?_
  exact J_iret dX12_refuses_17 rfl rfl (Nat.le_of_ble_eq_true rfl) (Nat.le_of_ble_eq_true rfl) ⟨rfl, rfl⟩
set_option maxHeartbeats 4000000 in
set_option maxRecDepth 100000 in
theorem c_X12_beans_1 {l : Launch} {G : jG} {nh : Nat} {fh : Nat → Option va_E} (a1 : Int32) (b_a1 : (-2147483648) ≤ a1.toInt ∧ a1.toInt ≤ (-1)) (a2 : Int32) (b_a2 : (-2147483648) ≤ a2.toInt ∧ a2.toInt ≤ 2147483647) (hk98 : fh 98 = some (.inr (12, [.int 0, .int 0, .ref 99, .ref 100, .ref 101, .ref 102, .ref 103, .ref 104, .ref 105, .int 0, .int (-1), .ref 106, .ref 107, .ref 108, .int 0, .int 0, .int 0, .int 0, .int 0, .int 0, .int 0, .ref 109, .int 0, .int 0, .ref 110, .ref 111, .ref 112, .ref 113, .ref 114, .ref 115, .ref 116, .ref 117, .int 0, .int 0, .int (-1), .int (-1), .ref 118, .ref 119, .ref 120, .ref 121, .ref 122, .ref 123, .ref 124, .ref 125, .ref 126, .ref 127, .ref 128, .ref 129, .int 0, .ref 130, .ref 131, .ref 132, .ref 133, .ref 134, .int 0, .int 0]))) (hk99 : fh 99 = some (.inl (0, 7, .inl (fun _ => 0)))) : JM l G yX12_beans MX12_beans { frames := 1, cells := 0, slots := 0, locals := 22 } [.ref 98, .int a1, .int a2] (nh, fh) (fun r h9 => r = some (.int (-1)) ∧ h9 = (nh, hc fh [(99, .inl (0, 7, .inl (upd (fun _ => 0) 1 1))), (98, .inr (12, [.int (-1), .int 0, .ref 99, .ref 100, .ref 101, .ref 102, .ref 103, .ref 104, .ref 105, .int 0, .int (-1), .ref 106, .ref 107, .ref 108, .int 0, .int 0, .int 0, .int 0, .int 0, .int 0, .int 0, .ref 109, .int 0, .int 0, .ref 110, .ref 111, .ref 112, .ref 113, .ref 114, .ref 115, .ref 116, .ref 117, .int 0, .int 0, .int (-1), .int (-1), .ref 118, .ref 119, .ref 120, .ref 121, .ref 122, .ref 123, .ref 124, .ref 125, .ref 126, .ref 127, .ref 128, .ref 129, .int 0, .ref 130, .ref 131, .ref 132, .ref 133, .ref 134, .int 0, .int 0]))])) := by
  refine JM.of (by decide) rfl (fun h => by cases h) (Nat.le_of_ble_eq_true rfl) ⟨1, rfl⟩ ?_
  refine J_hc0 (J_ls (ls2 := [some (.ref 98), some (.int a1), some (.int a2), none]) rfl ?_)
  refine J_iload_n dX12_beans_0 rfl rfl ?_
  refine J_iconst (v := 0) dX12_beans_1 (by decide) ?_
  refine J_iconst (v := 4) dX12_beans_2 (by decide) ?_
  refine J_callS (st := []) dX12_beans_3 cs_X12_138 (c_X12_lies_1 (a1) b_a1) rfl rfl (Nat.le_of_ble_eq_true rfl) ⟨(Nat.le_of_ble_eq_true rfl), (Nat.le_of_ble_eq_true rfl)⟩ ⟨(Nat.le_of_ble_eq_true rfl), (Nat.le_of_ble_eq_true rfl)⟩ (fun r h9 hp => ?_)
  obtain ⟨rfl, rfl⟩ := hp
  refine J_nf (nh2 := nh) (ck2 := 0) (sk2 := 0) (st2 := [.int 0]) rfl rfl rfl rfl ?_
  refine J_if_eq (tgt := 39) dX12_beans_6 (by decide) (fun _ => ?_) (fun q => absurd (by decide +kernel) q)
  refine J_aload_n dX12_beans_39 rfl rfl ?_
  refine J_iconst (v := (-1)) dX12_beans_40 (by decide) ?_
  refine J_callV (st := []) dX12_beans_41 cv_X12_142 (c_X12_refuses_1 hk98 hk99) hk98 rfl rfl (Nat.le_of_ble_eq_true rfl) ⟨(Nat.le_of_ble_eq_true rfl), (Nat.le_of_ble_eq_true rfl)⟩ ⟨(Nat.le_of_ble_eq_true rfl), (Nat.le_of_ble_eq_true rfl)⟩ (fun r h9 hp => ?_)
  obtain ⟨rfl, rfl⟩ := hp
  refine J_nf (nh2 := nh) (ck2 := 0) (sk2 := 0) (st2 := [.int (-1)]) rfl rfl rfl rfl ?_
  refine J_app (L3 := [(99, .inl (0, 7, .inl (upd (fun _ => 0) 1 1))), (98, .inr (12, [.int (-1), .int 0, .ref 99, .ref 100, .ref 101, .ref 102, .ref 103, .ref 104, .ref 105, .int 0, .int (-1), .ref 106, .ref 107, .ref 108, .int 0, .int 0, .int 0, .int 0, .int 0, .int 0, .int 0, .ref 109, .int 0, .int 0, .ref 110, .ref 111, .ref 112, .ref 113, .ref 114, .ref 115, .ref 116, .ref 117, .int 0, .int 0, .int (-1), .int (-1), .ref 118, .ref 119, .ref 120, .ref 121, .ref 122, .ref 123, .ref 124, .ref 125, .ref 126, .ref 127, .ref 128, .ref 129, .int 0, .ref 130, .ref 131, .ref 132, .ref 133, .ref 134, .int 0, .int 0]))]) rfl ?_
  exact J_iret dX12_beans_44 rfl rfl (Nat.le_of_ble_eq_true rfl) (Nat.le_of_ble_eq_true rfl) ⟨rfl, rfl⟩
set_option maxHeartbeats 4000000 in
set_option maxRecDepth 100000 in
theorem c_X11_beans_2 {l : Launch} {G : jG} {nh : Nat} {fh : Nat → Option va_E} (a1 : Int32) (b_a1 : 0 ≤ a1.toInt ∧ a1.toInt ≤ 4) (a2 : Int32) (b_a2 : (-2147483648) ≤ a2.toInt ∧ a2.toInt ≤ (-1)) (hk0 : fh 0 = some (.inr (11, [.ref 1, .ref 17, .ref 50, .ref 51, .ref 54, .ref 57, .ref 65, .ref 75, .ref 81, .ref 85, .ref 88, .ref 93, .ref 96, .int 0, .int (-1), .ref 97, .int 0]))) (hk96 : fh 96 = some (.inl (0, 5, .inl (fun _ => 0)))) : JM l G yX11_beans MX11_beans { frames := 2, cells := 0, slots := 0, locals := 41 } [.ref 0, .int a1, .int a2] (nh, fh) (fun r h9 => r = some (.int (-1)) ∧ h9 = (nh, hc fh [(96, .inl (0, 5, .inl (upd (fun _ => 0) 0 1))), (0, .inr (11, [.ref 1, .ref 17, .ref 50, .ref 51, .ref 54, .ref 57, .ref 65, .ref 75, .ref 81, .ref 85, .ref 88, .ref 93, .ref 96, .int (-1), .int (-1), .ref 97, .int 0]))])) := by
  refine JM.of (by decide) rfl (fun h => by cases h) (Nat.le_of_ble_eq_true rfl) ⟨1, rfl⟩ ?_
  refine J_hc0 (J_ls (ls2 := [some (.ref 0), some (.int a1), some (.int a2), none]) rfl ?_)
  refine J_iload_n dX11_beans_0 rfl rfl ?_
  refine J_if_lt (tgt := 19) dX11_beans_1 (by decide) (fun q => absurd q (by have hb0 := b_a1; simp only [fa_lt, fa_le, fa_eq, kc_0]; omega)) (fun _ => ?_)
  refine J_iload_n dX11_beans_4 rfl rfl ?_
  refine J_iconst (v := 5) dX11_beans_5 (by decide) ?_
  refine J_icmp_ge (tgt := 19) dX11_beans_6 (by decide) (fun q => absurd q (by have hb0 := b_a1; simp only [fa_lt, fa_le, fa_eq, kc_5]; omega)) (fun _ => ?_)
  refine J_iload_n dX11_beans_9 rfl rfl ?_
  refine J_if_lt (tgt := 19) dX11_beans_10 (by decide) (fun _ => ?_) (fun q => absurd (by have hb0 := b_a2; simp only [fa_lt, fa_le, fa_eq, kc_0]; omega) q)
  refine J_aload_n dX11_beans_19 rfl rfl ?_
  refine J_iconst (v := (-1)) dX11_beans_20 (by decide) ?_
  refine J_callV (st := []) dX11_beans_21 cv_X11_118 (c_X11_refuse_1 hk0 hk96) hk0 rfl rfl (Nat.le_of_ble_eq_true rfl) ⟨(Nat.le_of_ble_eq_true rfl), (Nat.le_of_ble_eq_true rfl)⟩ ⟨(Nat.le_of_ble_eq_true rfl), (Nat.le_of_ble_eq_true rfl)⟩ (fun r h9 hp => ?_)
  obtain ⟨rfl, rfl⟩ := hp
  refine J_nf (nh2 := nh) (ck2 := 0) (sk2 := 0) (st2 := [.int (-1)]) rfl rfl rfl rfl ?_
  refine J_app (L3 := [(96, .inl (0, 5, .inl (upd (fun _ => 0) 0 1))), (0, .inr (11, [.ref 1, .ref 17, .ref 50, .ref 51, .ref 54, .ref 57, .ref 65, .ref 75, .ref 81, .ref 85, .ref 88, .ref 93, .ref 96, .int (-1), .int (-1), .ref 97, .int 0]))]) rfl ?_
  exact J_iret dX11_beans_24 rfl rfl (Nat.le_of_ble_eq_true rfl) (Nat.le_of_ble_eq_true rfl) ⟨rfl, rfl⟩
set_option maxHeartbeats 4000000 in
set_option maxRecDepth 100000 in
theorem c_X12_lies_2 {l : Launch} {G : jG} {nh : Nat} {fh : Nat → Option va_E} (a0 : Int32) (b_a0 : 0 ≤ a0.toInt ∧ a0.toInt ≤ 4) : JM l G yX12_lies MX12_lies { frames := 0, cells := 0, slots := 0, locals := 0 } [.int a0, .int 0, .int 4] (nh, fh) (fun r h9 => r = some (.int 1) ∧ h9 = (nh, fh)) := by
  refine JM.of (by decide) rfl (fun h => by cases h) (Nat.le_of_ble_eq_true rfl) ⟨0, rfl⟩ ?_
  refine J_hc0 (J_ls (ls2 := [some (.int a0), some (.int 0), some (.int 4)]) rfl ?_)
  refine J_iload_n dX12_lies_0 rfl rfl ?_
  refine J_iload_n dX12_lies_1 rfl rfl ?_
  refine J_icmp_lt (tgt := 14) dX12_lies_2 (by decide) (fun q => absurd q (by have hb0 := b_a0; simp only [fa_lt, fa_le, fa_eq, kc_0]; omega)) (fun _ => ?_)
  refine J_iload_n dX12_lies_5 rfl rfl ?_
  refine J_iload_n dX12_lies_6 rfl rfl ?_
  refine J_icmp_gt (tgt := 14) dX12_lies_7 (by decide) (fun q => absurd q (by have hb0 := b_a0; simp only [fa_lt, fa_le, fa_eq, kc_4]; omega)) (fun _ => ?_)
  refine J_iconst (v := 1) dX12_lies_10 (by decide) ?_
  refine J_goto (tgt := 15) dX12_lies_11 (by decide) ?_
  exact J_iret dX12_lies_15 rfl (by decide +kernel) (Nat.le_of_ble_eq_true rfl) (Nat.le_of_ble_eq_true rfl) ⟨rfl, rfl⟩
set_option maxHeartbeats 4000000 in
set_option maxRecDepth 100000 in
theorem c_X12_lies_3 {l : Launch} {G : jG} {nh : Nat} {fh : Nat → Option va_E} (a0 : Int32) (b_a0 : (-2147483648) ≤ a0.toInt ∧ a0.toInt ≤ (-1)) : JM l G yX12_lies MX12_lies { frames := 0, cells := 0, slots := 0, locals := 0 } [.int a0, .int 0, .int 7] (nh, fh) (fun r h9 => r = some (.int 0) ∧ h9 = (nh, fh)) := by
  refine JM.of (by decide) rfl (fun h => by cases h) (Nat.le_of_ble_eq_true rfl) ⟨0, rfl⟩ ?_
  refine J_hc0 (J_ls (ls2 := [some (.int a0), some (.int 0), some (.int 7)]) rfl ?_)
  refine J_iload_n dX12_lies_0 rfl rfl ?_
  refine J_iload_n dX12_lies_1 rfl rfl ?_
  refine J_icmp_lt (tgt := 14) dX12_lies_2 (by decide) (fun _ => ?_) (fun q => absurd (by have hb0 := b_a0; simp only [fa_lt, fa_le, fa_eq, kc_0]; omega) q)
  refine J_iconst (v := 0) dX12_lies_14 (by decide) ?_
  exact J_iret dX12_lies_15 rfl (by decide +kernel) (Nat.le_of_ble_eq_true rfl) (Nat.le_of_ble_eq_true rfl) ⟨rfl, rfl⟩
set_option maxHeartbeats 4000000 in
set_option maxRecDepth 100000 in
theorem c_X12_beans_2 {l : Launch} {G : jG} {nh : Nat} {fh : Nat → Option va_E} (a1 : Int32) (b_a1 : 0 ≤ a1.toInt ∧ a1.toInt ≤ 4) (a2 : Int32) (b_a2 : (-2147483648) ≤ a2.toInt ∧ a2.toInt ≤ (-1)) (hk98 : fh 98 = some (.inr (12, [.int 0, .int 0, .ref 99, .ref 100, .ref 101, .ref 102, .ref 103, .ref 104, .ref 105, .int 0, .int (-1), .ref 106, .ref 107, .ref 108, .int 0, .int 0, .int 0, .int 0, .int 0, .int 0, .int 0, .ref 109, .int 0, .int 0, .ref 110, .ref 111, .ref 112, .ref 113, .ref 114, .ref 115, .ref 116, .ref 117, .int 0, .int 0, .int (-1), .int (-1), .ref 118, .ref 119, .ref 120, .ref 121, .ref 122, .ref 123, .ref 124, .ref 125, .ref 126, .ref 127, .ref 128, .ref 129, .int 0, .ref 130, .ref 131, .ref 132, .ref 133, .ref 134, .int 0, .int 0]))) (hk99 : fh 99 = some (.inl (0, 7, .inl (fun _ => 0)))) : JM l G yX12_beans MX12_beans { frames := 1, cells := 0, slots := 0, locals := 22 } [.ref 98, .int a1, .int a2] (nh, fh) (fun r h9 => r = some (.int (-1)) ∧ h9 = (nh, hc fh [(99, .inl (0, 7, .inl (upd (fun _ => 0) 1 1))), (98, .inr (12, [.int (-1), .int 0, .ref 99, .ref 100, .ref 101, .ref 102, .ref 103, .ref 104, .ref 105, .int 0, .int (-1), .ref 106, .ref 107, .ref 108, .int 0, .int 0, .int 0, .int 0, .int 0, .int 0, .int 0, .ref 109, .int 0, .int 0, .ref 110, .ref 111, .ref 112, .ref 113, .ref 114, .ref 115, .ref 116, .ref 117, .int 0, .int 0, .int (-1), .int (-1), .ref 118, .ref 119, .ref 120, .ref 121, .ref 122, .ref 123, .ref 124, .ref 125, .ref 126, .ref 127, .ref 128, .ref 129, .int 0, .ref 130, .ref 131, .ref 132, .ref 133, .ref 134, .int 0, .int 0]))])) := by
  refine JM.of (by decide) rfl (fun h => by cases h) (Nat.le_of_ble_eq_true rfl) ⟨1, rfl⟩ ?_
  refine J_hc0 (J_ls (ls2 := [some (.ref 98), some (.int a1), some (.int a2), none]) rfl ?_)
  refine J_iload_n dX12_beans_0 rfl rfl ?_
  refine J_iconst (v := 0) dX12_beans_1 (by decide) ?_
  refine J_iconst (v := 4) dX12_beans_2 (by decide) ?_
  refine J_callS (st := []) dX12_beans_3 cs_X12_138 (c_X12_lies_2 (a1) b_a1) rfl rfl (Nat.le_of_ble_eq_true rfl) ⟨(Nat.le_of_ble_eq_true rfl), (Nat.le_of_ble_eq_true rfl)⟩ ⟨(Nat.le_of_ble_eq_true rfl), (Nat.le_of_ble_eq_true rfl)⟩ (fun r h9 hp => ?_)
  obtain ⟨rfl, rfl⟩ := hp
  refine J_nf (nh2 := nh) (ck2 := 0) (sk2 := 0) (st2 := [.int 1]) rfl rfl rfl rfl ?_
  refine J_if_eq (tgt := 39) dX12_beans_6 (by decide) (fun q => absurd q (by decide +kernel)) (fun _ => ?_)
  refine J_iload_n dX12_beans_9 rfl rfl ?_
  refine J_iconst (v := 0) dX12_beans_10 (by decide) ?_
  refine J_bipush (v := 7) dX12_beans_11 (by decide +kernel) ?_
  refine J_callS (st := []) dX12_beans_13 cs_X12_138 (c_X12_lies_3 (a2) b_a2) rfl rfl (Nat.le_of_ble_eq_true rfl) ⟨(Nat.le_of_ble_eq_true rfl), (Nat.le_of_ble_eq_true rfl)⟩ ⟨(Nat.le_of_ble_eq_true rfl), (Nat.le_of_ble_eq_true rfl)⟩ (fun r h9 hp => ?_)
  obtain ⟨rfl, rfl⟩ := hp
  refine J_nf (nh2 := nh) (ck2 := 0) (sk2 := 0) (st2 := [.int 0]) rfl rfl rfl rfl ?_
  refine J_if_eq (tgt := 39) dX12_beans_16 (by decide) (fun _ => ?_) (fun q => absurd (by decide +kernel) q)
  refine J_aload_n dX12_beans_39 rfl rfl ?_
  refine J_iconst (v := (-1)) dX12_beans_40 (by decide) ?_
  refine J_callV (st := []) dX12_beans_41 cv_X12_142 (c_X12_refuses_1 hk98 hk99) hk98 rfl rfl (Nat.le_of_ble_eq_true rfl) ⟨(Nat.le_of_ble_eq_true rfl), (Nat.le_of_ble_eq_true rfl)⟩ ⟨(Nat.le_of_ble_eq_true rfl), (Nat.le_of_ble_eq_true rfl)⟩ (fun r h9 hp => ?_)
  obtain ⟨rfl, rfl⟩ := hp
  refine J_nf (nh2 := nh) (ck2 := 0) (sk2 := 0) (st2 := [.int (-1)]) rfl rfl rfl rfl ?_
  refine J_app (L3 := [(99, .inl (0, 7, .inl (upd (fun _ => 0) 1 1))), (98, .inr (12, [.int (-1), .int 0, .ref 99, .ref 100, .ref 101, .ref 102, .ref 103, .ref 104, .ref 105, .int 0, .int (-1), .ref 106, .ref 107, .ref 108, .int 0, .int 0, .int 0, .int 0, .int 0, .int 0, .int 0, .ref 109, .int 0, .int 0, .ref 110, .ref 111, .ref 112, .ref 113, .ref 114, .ref 115, .ref 116, .ref 117, .int 0, .int 0, .int (-1), .int (-1), .ref 118, .ref 119, .ref 120, .ref 121, .ref 122, .ref 123, .ref 124, .ref 125, .ref 126, .ref 127, .ref 128, .ref 129, .int 0, .ref 130, .ref 131, .ref 132, .ref 133, .ref 134, .int 0, .int 0]))]) rfl ?_
  exact J_iret dX12_beans_44 rfl rfl (Nat.le_of_ble_eq_true rfl) (Nat.le_of_ble_eq_true rfl) ⟨rfl, rfl⟩
set_option maxHeartbeats 4000000 in
set_option maxRecDepth 100000 in
theorem c_X0_places_1 {l : Launch} {G : jG} {nh : Nat} {fh : Nat → Option va_E} (hk51 : fh 51 = some (.inr (0, [.ref 52, .ref 53, .int 1, .int 0]))) : JM l G yX0_places MX0_places { frames := 0, cells := 0, slots := 0, locals := 0 } [.ref 51] (nh, fh) (fun r h9 => r = some (.int 0) ∧ h9 = (nh, fh)) := by
  refine JM.of (by decide) rfl (fun h => by cases h) (Nat.le_of_ble_eq_true rfl) ⟨0, rfl⟩ ?_
  refine J_hc0 (J_ls (ls2 := [some (.ref 51)]) rfl ?_)
  refine J_aload_n dX0_places_0 rfl rfl ?_
  refine J_get (v := .int 0) dX0_places_1 fl_X0_22 hk51 rfl ?_
  exact J_iret dX0_places_4 rfl rfl (Nat.le_of_ble_eq_true rfl) (Nat.le_of_ble_eq_true rfl) ⟨rfl, rfl⟩
set_option maxHeartbeats 4000000 in
set_option maxRecDepth 100000 in
theorem c_X0_settle_2 {l : Launch} {G : jG} {nh : Nat} {fh : Nat → Option va_E} (hk2 : fh 2 = some (.inl (0, 5, .inl (upd (fun _ => 0) 0 0)))) (hk51 : fh 51 = some (.inr (0, [.ref 52, .ref 53, .int 1, .int 0]))) (hk52 : fh 52 = some (.inl (0, 1260, .inl (upd (fun _ => 0) 0 0)))) : JM l G yX0_settle MX0_settle { frames := 1, cells := 0, slots := 0, locals := 24 } [.ref 51, .ref 2] (nh, fh) (fun r h9 => r = none ∧ h9 = (nh, hc fh [(51, .inr (0, [.ref 52, .ref 53, .int 1, .int 0])), (52, .inl (0, 1260, .inl (upd (upd (fun _ => 0) 0 0) 0 0)))])) := by
  refine JM.of (by decide) rfl (fun h => by cases h) (Nat.le_of_ble_eq_true rfl) ⟨2, rfl⟩ ?_
  refine J_hc0 (J_ls (ls2 := [some (.ref 51), some (.ref 2), none, none]) rfl ?_)
  refine J_aload_n dX0_settle_0 rfl rfl ?_
  refine J_iconst (v := 0) dX0_settle_1 (by decide) ?_
  refine K_put (fs2 := [.ref 52, .ref 53, .int 1, .int 0]) dX0_settle_2 fw_X0_22 hk51 (Nat.le_of_ble_eq_true rfl) (fun _ => ⟨rfl, rfl⟩) rfl ?_
  refine J_iconst (v := 0) dX0_settle_5 (by decide) ?_
  refine J_istore_n dX0_settle_6 rfl (Nat.le_of_ble_eq_true rfl) rfl ?_
  refine J_iload_n dX0_settle_7 rfl rfl ?_
  refine J_iconst (v := 5) dX0_settle_8 (by decide) ?_
  refine J_icmp_ge (tgt := 62) dX0_settle_9 (by decide) (fun q => absurd q (by decide +kernel)) (fun _ => ?_)
  refine J_iconst (v := 0) dX0_settle_12 (by decide) ?_
  refine J_istore_n dX0_settle_13 rfl (Nat.le_of_ble_eq_true rfl) rfl ?_
  refine J_iload_n dX0_settle_14 rfl rfl ?_
  refine J_aload_n dX0_settle_15 rfl rfl ?_
  refine J_iload_n dX0_settle_16 rfl rfl ?_
  refine J_iald (i2 := 0) (v := 0) dX0_settle_17 hk2 rfl (jin (by decide +kernel)) (by decide +kernel) rfl ?_
  refine J_icmp_ge (tgt := 56) dX0_settle_18 (by decide) (fun _ => ?_) (fun q => absurd (by decide +kernel) q)
  refine J_iinc (v := 1) dX0_settle_56 rfl (by decide +kernel) (Nat.le_of_ble_eq_true rfl) rfl ?_
  refine J_ls (ls2 := [some (.ref 51), some (.ref 2), some (.int 1), some (.int 0)]) rfl ?_
  refine J_goto (tgt := 7) dX0_settle_59 (by decide) ?_
  refine J_iload_n dX0_settle_7 rfl rfl ?_
  refine J_iconst (v := 5) dX0_settle_8 (by decide) ?_
  refine J_icmp_ge (tgt := 62) dX0_settle_9 (by decide) (fun q => absurd q (by decide +kernel)) (fun _ => ?_)
  refine J_iconst (v := 0) dX0_settle_12 (by decide) ?_
  refine J_istore_n dX0_settle_13 rfl (Nat.le_of_ble_eq_true rfl) rfl ?_
  refine J_iload_n dX0_settle_14 rfl rfl ?_
  refine J_aload_n dX0_settle_15 rfl rfl ?_
  refine J_iload_n dX0_settle_16 rfl rfl ?_
  refine J_iald (i2 := 1) (v := 0) dX0_settle_17 hk2 rfl (jin (by decide +kernel)) (by decide +kernel) rfl ?_
  refine J_icmp_ge (tgt := 56) dX0_settle_18 (by decide) (fun _ => ?_) (fun q => absurd (by decide +kernel) q)
  refine J_iinc (v := 2) dX0_settle_56 rfl (by decide +kernel) (Nat.le_of_ble_eq_true rfl) rfl ?_
  refine J_ls (ls2 := [some (.ref 51), some (.ref 2), some (.int 2), some (.int 0)]) rfl ?_
  refine J_goto (tgt := 7) dX0_settle_59 (by decide) ?_
  refine J_iload_n dX0_settle_7 rfl rfl ?_
  refine J_iconst (v := 5) dX0_settle_8 (by decide) ?_
  refine J_icmp_ge (tgt := 62) dX0_settle_9 (by decide) (fun q => absurd q (by decide +kernel)) (fun _ => ?_)
  refine J_iconst (v := 0) dX0_settle_12 (by decide) ?_
  refine J_istore_n dX0_settle_13 rfl (Nat.le_of_ble_eq_true rfl) rfl ?_
  refine J_iload_n dX0_settle_14 rfl rfl ?_
  refine J_aload_n dX0_settle_15 rfl rfl ?_
  refine J_iload_n dX0_settle_16 rfl rfl ?_
  refine J_iald (i2 := 2) (v := 0) dX0_settle_17 hk2 rfl (jin (by decide +kernel)) (by decide +kernel) rfl ?_
  refine J_icmp_ge (tgt := 56) dX0_settle_18 (by decide) (fun _ => ?_) (fun q => absurd (by decide +kernel) q)
  refine J_iinc (v := 3) dX0_settle_56 rfl (by decide +kernel) (Nat.le_of_ble_eq_true rfl) rfl ?_
  refine J_ls (ls2 := [some (.ref 51), some (.ref 2), some (.int 3), some (.int 0)]) rfl ?_
  refine J_goto (tgt := 7) dX0_settle_59 (by decide) ?_
  refine J_iload_n dX0_settle_7 rfl rfl ?_
  refine J_iconst (v := 5) dX0_settle_8 (by decide) ?_
  refine J_icmp_ge (tgt := 62) dX0_settle_9 (by decide) (fun q => absurd q (by decide +kernel)) (fun _ => ?_)
  refine J_iconst (v := 0) dX0_settle_12 (by decide) ?_
  refine J_istore_n dX0_settle_13 rfl (Nat.le_of_ble_eq_true rfl) rfl ?_
  refine J_iload_n dX0_settle_14 rfl rfl ?_
  refine J_aload_n dX0_settle_15 rfl rfl ?_
  refine J_iload_n dX0_settle_16 rfl rfl ?_
  refine J_iald (i2 := 3) (v := 0) dX0_settle_17 hk2 rfl (jin (by decide +kernel)) (by decide +kernel) rfl ?_
  refine J_icmp_ge (tgt := 56) dX0_settle_18 (by decide) (fun _ => ?_) (fun q => absurd (by decide +kernel) q)
  refine J_iinc (v := 4) dX0_settle_56 rfl (by decide +kernel) (Nat.le_of_ble_eq_true rfl) rfl ?_
  refine J_ls (ls2 := [some (.ref 51), some (.ref 2), some (.int 4), some (.int 0)]) rfl ?_
  refine J_goto (tgt := 7) dX0_settle_59 (by decide) ?_
  refine J_iload_n dX0_settle_7 rfl rfl ?_
  refine J_iconst (v := 5) dX0_settle_8 (by decide) ?_
  refine J_icmp_ge (tgt := 62) dX0_settle_9 (by decide) (fun q => absurd q (by decide +kernel)) (fun _ => ?_)
  refine J_iconst (v := 0) dX0_settle_12 (by decide) ?_
  refine J_istore_n dX0_settle_13 rfl (Nat.le_of_ble_eq_true rfl) rfl ?_
  refine J_iload_n dX0_settle_14 rfl rfl ?_
  refine J_aload_n dX0_settle_15 rfl rfl ?_
  refine J_iload_n dX0_settle_16 rfl rfl ?_
  refine J_iald (i2 := 4) (v := 0) dX0_settle_17 hk2 rfl (jin (by decide +kernel)) (by decide +kernel) rfl ?_
  refine J_icmp_ge (tgt := 56) dX0_settle_18 (by decide) (fun _ => ?_) (fun q => absurd (by decide +kernel) q)
  refine J_iinc (v := 5) dX0_settle_56 rfl (by decide +kernel) (Nat.le_of_ble_eq_true rfl) rfl ?_
  refine J_ls (ls2 := [some (.ref 51), some (.ref 2), some (.int 5), some (.int 0)]) rfl ?_
  refine J_goto (tgt := 7) dX0_settle_59 (by decide) ?_
  refine J_iload_n dX0_settle_7 rfl rfl ?_
  refine J_iconst (v := 5) dX0_settle_8 (by decide) ?_
  refine J_icmp_ge (tgt := 62) dX0_settle_9 (by decide) (fun _ => ?_) (fun q => absurd (by decide +kernel) q)
  refine J_aload_n dX0_settle_62 rfl rfl ?_
  refine J_iconst (v := 0) dX0_settle_63 (by decide) ?_
  refine K_put (fs2 := [.ref 52, .ref 53, .int 0, .int 0]) dX0_settle_64 fw_X0_18 rfl (Nat.le_of_ble_eq_true rfl) (fun _ => ⟨rfl, rfl⟩) rfl ?_
  refine J_iconst (v := 1) dX0_settle_67 (by decide) ?_
  refine J_istore_n dX0_settle_68 rfl (Nat.le_of_ble_eq_true rfl) rfl ?_
  refine J_iconst (v := 0) dX0_settle_69 (by decide) ?_
  refine J_istore_n dX0_settle_70 rfl (Nat.le_of_ble_eq_true rfl) rfl ?_
  refine J_iload_n dX0_settle_71 rfl rfl ?_
  refine J_sipush (v := 1260) dX0_settle_72 (by decide +kernel) ?_
  refine J_icmp_ge (tgt := 116) dX0_settle_75 (by decide) (fun q => absurd q (by decide +kernel)) (fun _ => ?_)
  refine J_iload_n dX0_settle_78 rfl rfl ?_
  refine J_if_eq (tgt := 116) dX0_settle_79 (by decide) (fun q => absurd q (by decide +kernel)) (fun _ => ?_)
  refine J_aload_n dX0_settle_82 rfl rfl ?_
  refine J_get (v := .ref 52) dX0_settle_83 fl_X0_9 rfl rfl ?_
  refine J_aload_n dX0_settle_86 rfl rfl ?_
  refine J_get (v := .int 0) dX0_settle_87 fl_X0_18 rfl rfl ?_
  refine J_aload_n dX0_settle_90 rfl rfl ?_
  refine J_callV (st := [.int 0, .ref 52]) dX0_settle_91 cv_X0_25 (c_X0_packed_1 rfl) rfl rfl rfl (Nat.le_of_ble_eq_true rfl) ⟨(Nat.le_of_ble_eq_true rfl), (Nat.le_of_ble_eq_true rfl)⟩ ⟨(Nat.le_of_ble_eq_true rfl), (Nat.le_of_ble_eq_true rfl)⟩ (fun r h9 hp => ?_)
  obtain ⟨rfl, rfl⟩ := hp
  refine J_nf (nh2 := nh) (ck2 := 0) (sk2 := 0) (st2 := [.int 0, .int 0, .ref 52]) rfl rfl rfl rfl ?_
  refine K_iast (i2 := 0) dX0_settle_94 hk52 rfl (jin (by decide +kernel)) (by decide +kernel) ?_
  refine J_aload_n dX0_settle_95 rfl rfl ?_
  refine J_dup dX0_settle_96 rfl ?_
  refine J_get (v := .int 0) dX0_settle_97 fl_X0_18 rfl rfl ?_
  refine J_iconst (v := 1) dX0_settle_100 (by decide) ?_
  refine J_iadd (z := 1) dX0_settle_101 (by decide +kernel) ?_
  refine K_put (fs2 := [.ref 52, .ref 53, .int 1, .int 0]) dX0_settle_102 fw_X0_18 rfl (Nat.le_of_ble_eq_true rfl) (fun _ => ⟨rfl, rfl⟩) rfl ?_
  refine J_aload_n dX0_settle_105 rfl rfl ?_
  refine J_callV (st := []) dX0_settle_106 cv_X0_29 (c_X0_nextOrder_1 rfl) rfl rfl rfl (Nat.le_of_ble_eq_true rfl) ⟨(Nat.le_of_ble_eq_true rfl), (Nat.le_of_ble_eq_true rfl)⟩ ⟨(Nat.le_of_ble_eq_true rfl), (Nat.le_of_ble_eq_true rfl)⟩ (fun r h9 hp => ?_)
  obtain ⟨rfl, rfl⟩ := hp
  refine J_nf (nh2 := nh) (ck2 := 0) (sk2 := 0) (st2 := [.int 0]) rfl rfl rfl rfl ?_
  refine J_istore_n dX0_settle_109 rfl (Nat.le_of_ble_eq_true rfl) rfl ?_
  refine J_iinc (v := 1) dX0_settle_110 rfl (by decide +kernel) (Nat.le_of_ble_eq_true rfl) rfl ?_
  refine J_ls (ls2 := [some (.ref 51), some (.ref 2), some (.int 0), some (.int 1)]) rfl ?_
  refine J_goto (tgt := 71) dX0_settle_113 (by decide) ?_
  refine J_iload_n dX0_settle_71 rfl rfl ?_
  refine J_sipush (v := 1260) dX0_settle_72 (by decide +kernel) ?_
  refine J_icmp_ge (tgt := 116) dX0_settle_75 (by decide) (fun q => absurd q (by decide +kernel)) (fun _ => ?_)
  refine J_iload_n dX0_settle_78 rfl rfl ?_
  refine J_if_eq (tgt := 116) dX0_settle_79 (by decide) (fun _ => ?_) (fun q => absurd (by decide +kernel) q)
  refine J_mask (L2 := [(51, .inr (0, [.ref 52, .ref 53, .int 1, .int 0])), (52, .inl (0, 1260, .inl (upd (upd (fun _ => 0) 0 0) 0 0)))]) (ks := [51, 52, 51, 51]) [true, true, false, false] rfl (by decide +kernel) rfl ?_
  exact J_vret dX0_settle_116 rfl (Nat.le_of_ble_eq_true rfl) (Nat.le_of_ble_eq_true rfl) ⟨rfl, rfl⟩
set_option maxHeartbeats 4000000 in
set_option maxRecDepth 100000 in
theorem c_X8_dropSwapsBeyond_1 {l : Launch} {G : jG} {nh : Nat} {fh : Nat → Option va_E} (hk1 : fh 1 = some (.inr (8, [.ref 2, .ref 3, .ref 4, .int 0, .int (-1), .ref 11, .ref 12, .int 0, .ref 13, .ref 14, .int 0, .ref 15, .ref 16, .int 0]))) : JM l G yX8_dropSwapsBeyond MX8_dropSwapsBeyond { frames := 0, cells := 0, slots := 0, locals := 0 } [.ref 1, .int 0] (nh, fh) (fun r h9 => r = none ∧ h9 = (nh, hc fh [(1, .inr (8, [.ref 2, .ref 3, .ref 4, .int 0, .int (-1), .ref 11, .ref 12, .int 0, .ref 13, .ref 14, .int 0, .ref 15, .ref 16, .int 0]))])) := by
  refine JM.of (by decide) rfl (fun h => by cases h) (Nat.le_of_ble_eq_true rfl) ⟨2, rfl⟩ ?_
  refine J_hc0 (J_ls (ls2 := [some (.ref 1), some (.int 0), none, none]) rfl ?_)
  refine J_aload_n dX8_dropSwapsBeyond_0 rfl rfl ?_
  refine J_get (v := .int 0) dX8_dropSwapsBeyond_1 fl_X8_54 hk1 rfl ?_
  refine J_istore_n dX8_dropSwapsBeyond_4 rfl (Nat.le_of_ble_eq_true rfl) rfl ?_
  refine J_aload_n dX8_dropSwapsBeyond_5 rfl rfl ?_
  refine J_iconst (v := 0) dX8_dropSwapsBeyond_6 (by decide) ?_
  refine K_put (fs2 := [.ref 2, .ref 3, .ref 4, .int 0, .int (-1), .ref 11, .ref 12, .int 0, .ref 13, .ref 14, .int 0, .ref 15, .ref 16, .int 0]) dX8_dropSwapsBeyond_7 fw_X8_54 hk1 (Nat.le_of_ble_eq_true rfl) (fun _ => ⟨rfl, rfl⟩) rfl ?_
  refine J_iconst (v := 0) dX8_dropSwapsBeyond_10 (by decide) ?_
  refine J_istore_n dX8_dropSwapsBeyond_11 rfl (Nat.le_of_ble_eq_true rfl) rfl ?_
  refine J_iload_n dX8_dropSwapsBeyond_12 rfl rfl ?_
  refine J_iload_n dX8_dropSwapsBeyond_13 rfl rfl ?_
  refine J_icmp_ge (tgt := 49) dX8_dropSwapsBeyond_14 (by decide) (fun _ => ?_) (fun q => absurd (by decide +kernel) q)
  exact J_vret dX8_dropSwapsBeyond_49 rfl (Nat.le_of_ble_eq_true rfl) (Nat.le_of_ble_eq_true rfl) ⟨rfl, rfl⟩
set_option maxHeartbeats 4000000 in
set_option maxRecDepth 100000 in
theorem c_X9_changeWalls_1 {l : Launch} {G : jG} {nh : Nat} {fh : Nat → Option va_E} (hk57 : fh 57 = some (.inr (9, [.ref 1, .ref 51, .ref 58, .ref 61, .ref 62, .ref 63, .ref 64, .int 0, .int 1, .int 1]))) : JM l G yX9_changeWalls MX9_changeWalls { frames := 0, cells := 0, slots := 0, locals := 0 } [.ref 57] (nh, fh) (fun r h9 => r = none ∧ h9 = (nh, hc fh [(57, .inr (9, [.ref 1, .ref 51, .ref 58, .ref 61, .ref 62, .ref 63, .ref 64, .int 1, .int 1, .int 1]))])) := by
  refine JM.of (by decide) rfl (fun h => by cases h) (Nat.le_of_ble_eq_true rfl) ⟨0, rfl⟩ ?_
  refine J_hc0 (J_ls (ls2 := [some (.ref 57)]) rfl ?_)
  refine J_aload_n dX9_changeWalls_0 rfl rfl ?_
  refine J_dup dX9_changeWalls_1 rfl ?_
  refine J_get (v := .int 0) dX9_changeWalls_2 fl_X9_31 hk57 rfl ?_
  refine J_iconst (v := 1) dX9_changeWalls_5 (by decide) ?_
  refine J_iadd (z := 1) dX9_changeWalls_6 (by decide +kernel) ?_
  refine K_put (fs2 := [.ref 1, .ref 51, .ref 58, .ref 61, .ref 62, .ref 63, .ref 64, .int 1, .int 1, .int 1]) dX9_changeWalls_7 fw_X9_31 hk57 (Nat.le_of_ble_eq_true rfl) (fun _ => ⟨rfl, rfl⟩) rfl ?_
  refine J_aload_n dX9_changeWalls_10 rfl rfl ?_
  refine J_iconst (v := 1) dX9_changeWalls_11 (by decide) ?_
  refine K_put (fs2 := [.ref 1, .ref 51, .ref 58, .ref 61, .ref 62, .ref 63, .ref 64, .int 1, .int 1, .int 1]) dX9_changeWalls_12 fw_X9_35 rfl (Nat.le_of_ble_eq_true rfl) jb1 rfl ?_
  refine J_mask (L2 := [(57, .inr (9, [.ref 1, .ref 51, .ref 58, .ref 61, .ref 62, .ref 63, .ref 64, .int 1, .int 1, .int 1]))]) (ks := [57, 57]) [true, false] rfl (by decide +kernel) rfl ?_
  exact J_vret dX9_changeWalls_15 rfl (Nat.le_of_ble_eq_true rfl) (Nat.le_of_ble_eq_true rfl) ⟨rfl, rfl⟩
set_option maxHeartbeats 4000000 in
set_option maxRecDepth 100000 in
theorem c_X9_changeAll_1 {l : Launch} {G : jG} {nh : Nat} {fh : Nat → Option va_E} (hk57 : fh 57 = some (.inr (9, [.ref 1, .ref 51, .ref 58, .ref 61, .ref 62, .ref 63, .ref 64, .int 0, .int 1, .int 1]))) : JM l G yX9_changeAll MX9_changeAll { frames := 1, cells := 0, slots := 0, locals := 20 } [.ref 57] (nh, fh) (fun r h9 => r = none ∧ h9 = (nh, hc fh [(57, .inr (9, [.ref 1, .ref 51, .ref 58, .ref 61, .ref 62, .ref 63, .ref 64, .int 1, .int 1, .int 1]))])) := by
  refine JM.of (by decide) rfl (fun h => by cases h) (Nat.le_of_ble_eq_true rfl) ⟨0, rfl⟩ ?_
  refine J_hc0 (J_ls (ls2 := [some (.ref 57)]) rfl ?_)
  refine J_aload_n dX9_changeAll_0 rfl rfl ?_
  refine J_callV (st := []) dX9_changeAll_1 cv_X9_50 (c_X9_changeWalls_1 hk57) hk57 rfl rfl (Nat.le_of_ble_eq_true rfl) ⟨(Nat.le_of_ble_eq_true rfl), (Nat.le_of_ble_eq_true rfl)⟩ ⟨(Nat.le_of_ble_eq_true rfl), (Nat.le_of_ble_eq_true rfl)⟩ (fun r h9 hp => ?_)
  obtain ⟨rfl, rfl⟩ := hp
  refine J_nf (nh2 := nh) (ck2 := 0) (sk2 := 0) (st2 := []) rfl rfl rfl rfl ?_
  refine J_app (L3 := [(57, .inr (9, [.ref 1, .ref 51, .ref 58, .ref 61, .ref 62, .ref 63, .ref 64, .int 1, .int 1, .int 1]))]) rfl ?_
  refine J_aload_n dX9_changeAll_4 rfl rfl ?_
  refine J_iconst (v := 1) dX9_changeAll_5 (by decide) ?_
  refine K_put (fs2 := [.ref 1, .ref 51, .ref 58, .ref 61, .ref 62, .ref 63, .ref 64, .int 1, .int 1, .int 1]) dX9_changeAll_6 fw_X9_39 rfl (Nat.le_of_ble_eq_true rfl) jb1 rfl ?_
  refine J_mask (L2 := [(57, .inr (9, [.ref 1, .ref 51, .ref 58, .ref 61, .ref 62, .ref 63, .ref 64, .int 1, .int 1, .int 1]))]) (ks := [57, 57]) [true, false] rfl (by decide +kernel) rfl ?_
  exact J_vret dX9_changeAll_9 rfl (Nat.le_of_ble_eq_true rfl) (Nat.le_of_ble_eq_true rfl) ⟨rfl, rfl⟩
set_option maxHeartbeats 4000000 in
set_option maxRecDepth 100000 in
theorem c_X11_resettle_1 {l : Launch} {G : jG} {nh : Nat} {fh : Nat → Option va_E} (hk0 : fh 0 = some (.inr (11, [.ref 1, .ref 17, .ref 50, .ref 51, .ref 54, .ref 57, .ref 65, .ref 75, .ref 81, .ref 85, .ref 88, .ref 93, .ref 96, .int 0, .int (-1), .ref 97, .int 0]))) (hk1 : fh 1 = some (.inr (8, [.ref 2, .ref 3, .ref 4, .int 0, .int (-1), .ref 11, .ref 12, .int 0, .ref 13, .ref 14, .int 0, .ref 15, .ref 16, .int 0]))) (hk2 : fh 2 = some (.inl (0, 5, .inl (upd (fun _ => 0) 0 0)))) (hk51 : fh 51 = some (.inr (0, [.ref 52, .ref 53, .int 1, .int 0]))) (hk52 : fh 52 = some (.inl (0, 1260, .inl (upd (fun _ => 0) 0 0)))) (hk57 : fh 57 = some (.inr (9, [.ref 1, .ref 51, .ref 58, .ref 61, .ref 62, .ref 63, .ref 64, .int 0, .int 1, .int 1]))) : JM l G yX11_resettle MX11_resettle { frames := 2, cells := 0, slots := 0, locals := 47 } [.ref 0] (nh, fh) (fun r h9 => r = none ∧ h9 = (nh, hc fh [(57, .inr (9, [.ref 1, .ref 51, .ref 58, .ref 61, .ref 62, .ref 63, .ref 64, .int 1, .int 1, .int 1])), (1, .inr (8, [.ref 2, .ref 3, .ref 4, .int 0, .int (-1), .ref 11, .ref 12, .int 0, .ref 13, .ref 14, .int 0, .ref 15, .ref 16, .int 0])), (51, .inr (0, [.ref 52, .ref 53, .int 1, .int 0])), (52, .inl (0, 1260, .inl (upd (upd (fun _ => 0) 0 0) 0 0)))])) := by
  refine JM.of (by decide) rfl (fun h => by cases h) (Nat.le_of_ble_eq_true rfl) ⟨0, rfl⟩ ?_
  refine J_hc0 (J_ls (ls2 := [some (.ref 0)]) rfl ?_)
  refine J_aload_n dX11_resettle_0 rfl rfl ?_
  refine J_get (v := .ref 51) dX11_resettle_1 fl_X11_27 hk0 rfl ?_
  refine J_aload_n dX11_resettle_4 rfl rfl ?_
  refine J_get (v := .ref 1) dX11_resettle_5 fl_X11_10 hk0 rfl ?_
  refine J_get (v := .ref 2) dX11_resettle_8 fl_X11_111 hk1 rfl ?_
  refine J_callV (st := []) dX11_resettle_11 cv_X11_114 (c_X0_settle_2 hk2 hk51 hk52) hk51 rfl rfl (Nat.le_of_ble_eq_true rfl) ⟨(Nat.le_of_ble_eq_true rfl), (Nat.le_of_ble_eq_true rfl)⟩ ⟨(Nat.le_of_ble_eq_true rfl), (Nat.le_of_ble_eq_true rfl)⟩ (fun r h9 hp => ?_)
  obtain ⟨rfl, rfl⟩ := hp
  refine J_nf (nh2 := nh) (ck2 := 0) (sk2 := 0) (st2 := []) rfl rfl rfl rfl ?_
  refine J_app (L3 := [(51, .inr (0, [.ref 52, .ref 53, .int 1, .int 0])), (52, .inl (0, 1260, .inl (upd (upd (fun _ => 0) 0 0) 0 0)))]) rfl ?_
  refine J_aload_n dX11_resettle_14 rfl rfl ?_
  refine J_get (v := .ref 1) dX11_resettle_15 fl_X11_10 hk0 rfl ?_
  refine J_iconst (v := 0) dX11_resettle_18 (by decide) ?_
  refine K_put (fs2 := [.ref 2, .ref 3, .ref 4, .int 0, .int (-1), .ref 11, .ref 12, .int 0, .ref 13, .ref 14, .int 0, .ref 15, .ref 16, .int 0]) dX11_resettle_19 fw_X11_204 hk1 (Nat.le_of_ble_eq_true rfl) (fun _ => ⟨rfl, rfl⟩) rfl ?_
  refine J_aload_n dX11_resettle_22 rfl rfl ?_
  refine J_get (v := .ref 1) dX11_resettle_23 fl_X11_10 hk0 rfl ?_
  refine J_iconst (v := 0) dX11_resettle_26 (by decide) ?_
  refine K_put (fs2 := [.ref 2, .ref 3, .ref 4, .int 0, .int (-1), .ref 11, .ref 12, .int 0, .ref 13, .ref 14, .int 0, .ref 15, .ref 16, .int 0]) dX11_resettle_27 fw_X11_286 rfl (Nat.le_of_ble_eq_true rfl) (fun _ => ⟨rfl, rfl⟩) rfl ?_
  refine J_aload_n dX11_resettle_30 rfl rfl ?_
  refine J_get (v := .ref 1) dX11_resettle_31 fl_X11_10 hk0 rfl ?_
  refine J_aload_n dX11_resettle_34 rfl rfl ?_
  refine J_get (v := .ref 51) dX11_resettle_35 fl_X11_27 hk0 rfl ?_
  refine J_callV (st := [.ref 1]) dX11_resettle_38 cv_X11_122 (c_X0_places_1 rfl) rfl rfl rfl (Nat.le_of_ble_eq_true rfl) ⟨(Nat.le_of_ble_eq_true rfl), (Nat.le_of_ble_eq_true rfl)⟩ ⟨(Nat.le_of_ble_eq_true rfl), (Nat.le_of_ble_eq_true rfl)⟩ (fun r h9 hp => ?_)
  obtain ⟨rfl, rfl⟩ := hp
  refine J_nf (nh2 := nh) (ck2 := 0) (sk2 := 0) (st2 := [.int 0, .ref 1]) rfl rfl rfl rfl ?_
  refine J_callV (st := []) dX11_resettle_41 cv_X11_321 (c_X8_dropSwapsBeyond_1 rfl) rfl rfl rfl (Nat.le_of_ble_eq_true rfl) ⟨(Nat.le_of_ble_eq_true rfl), (Nat.le_of_ble_eq_true rfl)⟩ ⟨(Nat.le_of_ble_eq_true rfl), (Nat.le_of_ble_eq_true rfl)⟩ (fun r h9 hp => ?_)
  obtain ⟨rfl, rfl⟩ := hp
  refine J_nf (nh2 := nh) (ck2 := 0) (sk2 := 0) (st2 := []) rfl rfl rfl rfl ?_
  refine J_app (L3 := [(1, .inr (8, [.ref 2, .ref 3, .ref 4, .int 0, .int (-1), .ref 11, .ref 12, .int 0, .ref 13, .ref 14, .int 0, .ref 15, .ref 16, .int 0])), (1, .inr (8, [.ref 2, .ref 3, .ref 4, .int 0, .int (-1), .ref 11, .ref 12, .int 0, .ref 13, .ref 14, .int 0, .ref 15, .ref 16, .int 0])), (1, .inr (8, [.ref 2, .ref 3, .ref 4, .int 0, .int (-1), .ref 11, .ref 12, .int 0, .ref 13, .ref 14, .int 0, .ref 15, .ref 16, .int 0])), (51, .inr (0, [.ref 52, .ref 53, .int 1, .int 0])), (52, .inl (0, 1260, .inl (upd (upd (fun _ => 0) 0 0) 0 0)))]) rfl ?_
  refine J_aload_n dX11_resettle_44 rfl rfl ?_
  refine J_get (v := .ref 57) dX11_resettle_45 fl_X11_43 hk0 rfl ?_
  refine J_callV (st := []) dX11_resettle_48 cv_X11_148 (c_X9_changeAll_1 hk57) hk57 rfl rfl (Nat.le_of_ble_eq_true rfl) ⟨(Nat.le_of_ble_eq_true rfl), (Nat.le_of_ble_eq_true rfl)⟩ ⟨(Nat.le_of_ble_eq_true rfl), (Nat.le_of_ble_eq_true rfl)⟩ (fun r h9 hp => ?_)
  obtain ⟨rfl, rfl⟩ := hp
  refine J_nf (nh2 := nh) (ck2 := 0) (sk2 := 0) (st2 := []) rfl rfl rfl rfl ?_
  refine J_app (L3 := [(57, .inr (9, [.ref 1, .ref 51, .ref 58, .ref 61, .ref 62, .ref 63, .ref 64, .int 1, .int 1, .int 1])), (1, .inr (8, [.ref 2, .ref 3, .ref 4, .int 0, .int (-1), .ref 11, .ref 12, .int 0, .ref 13, .ref 14, .int 0, .ref 15, .ref 16, .int 0])), (1, .inr (8, [.ref 2, .ref 3, .ref 4, .int 0, .int (-1), .ref 11, .ref 12, .int 0, .ref 13, .ref 14, .int 0, .ref 15, .ref 16, .int 0])), (1, .inr (8, [.ref 2, .ref 3, .ref 4, .int 0, .int (-1), .ref 11, .ref 12, .int 0, .ref 13, .ref 14, .int 0, .ref 15, .ref 16, .int 0])), (51, .inr (0, [.ref 52, .ref 53, .int 1, .int 0])), (52, .inl (0, 1260, .inl (upd (upd (fun _ => 0) 0 0) 0 0)))]) rfl ?_
  refine J_mask (L2 := [(57, .inr (9, [.ref 1, .ref 51, .ref 58, .ref 61, .ref 62, .ref 63, .ref 64, .int 1, .int 1, .int 1])), (1, .inr (8, [.ref 2, .ref 3, .ref 4, .int 0, .int (-1), .ref 11, .ref 12, .int 0, .ref 13, .ref 14, .int 0, .ref 15, .ref 16, .int 0])), (51, .inr (0, [.ref 52, .ref 53, .int 1, .int 0])), (52, .inl (0, 1260, .inl (upd (upd (fun _ => 0) 0 0) 0 0)))]) (ks := [57, 1, 1, 1, 51, 52]) [true, true, false, false, true, true] rfl (by decide +kernel) rfl ?_
  exact J_vret dX11_resettle_51 rfl (Nat.le_of_ble_eq_true rfl) (Nat.le_of_ble_eq_true rfl) ⟨rfl, rfl⟩
set_option maxHeartbeats 4000000 in
set_option maxRecDepth 100000 in
theorem c_X11_accept_1 {l : Launch} {G : jG} {nh : Nat} {fh : Nat → Option va_E} (hk0 : fh 0 = some (.inr (11, [.ref 1, .ref 17, .ref 50, .ref 51, .ref 54, .ref 57, .ref 65, .ref 75, .ref 81, .ref 85, .ref 88, .ref 93, .ref 96, .int 0, .int (-1), .ref 97, .int 0]))) : JM l G yX11_accept MX11_accept { frames := 0, cells := 0, slots := 0, locals := 0 } [.ref 0, .int 0] (nh, fh) (fun r h9 => r = some (.int 0) ∧ h9 = (nh, hc fh [(0, .inr (11, [.ref 1, .ref 17, .ref 50, .ref 51, .ref 54, .ref 57, .ref 65, .ref 75, .ref 81, .ref 85, .ref 88, .ref 93, .ref 96, .int 0, .int (-1), .ref 97, .int 0]))])) := by
  refine JM.of (by decide) rfl (fun h => by cases h) (Nat.le_of_ble_eq_true rfl) ⟨0, rfl⟩ ?_
  refine J_hc0 (J_ls (ls2 := [some (.ref 0), some (.int 0)]) rfl ?_)
  refine J_aload_n dX11_accept_0 rfl rfl ?_
  refine J_iconst (v := 0) dX11_accept_1 (by decide) ?_
  refine K_put (fs2 := [.ref 1, .ref 17, .ref 50, .ref 51, .ref 54, .ref 57, .ref 65, .ref 75, .ref 81, .ref 85, .ref 88, .ref 93, .ref 96, .int 0, .int (-1), .ref 97, .int 0]) dX11_accept_2 fw_X11_97 hk0 (Nat.le_of_ble_eq_true rfl) (fun _ => ⟨rfl, rfl⟩) rfl ?_
  refine J_iload_n dX11_accept_5 rfl rfl ?_
  exact J_iret dX11_accept_6 rfl rfl (Nat.le_of_ble_eq_true rfl) (Nat.le_of_ble_eq_true rfl) ⟨rfl, rfl⟩
set_option maxHeartbeats 4000000 in
set_option maxRecDepth 100000 in
theorem c_X11_beans_3 {l : Launch} {G : jG} {nh : Nat} {fh : Nat → Option va_E} (hk0 : fh 0 = some (.inr (11, [.ref 1, .ref 17, .ref 50, .ref 51, .ref 54, .ref 57, .ref 65, .ref 75, .ref 81, .ref 85, .ref 88, .ref 93, .ref 96, .int 0, .int (-1), .ref 97, .int 0]))) (hk1 : fh 1 = some (.inr (8, [.ref 2, .ref 3, .ref 4, .int 0, .int (-1), .ref 11, .ref 12, .int 0, .ref 13, .ref 14, .int 0, .ref 15, .ref 16, .int 0]))) (hk2 : fh 2 = some (.inl (0, 5, .inl (fun _ => 0)))) (hk51 : fh 51 = some (.inr (0, [.ref 52, .ref 53, .int 1, .int 0]))) (hk52 : fh 52 = some (.inl (0, 1260, .inl (upd (fun _ => 0) 0 0)))) (hk57 : fh 57 = some (.inr (9, [.ref 1, .ref 51, .ref 58, .ref 61, .ref 62, .ref 63, .ref 64, .int 0, .int 1, .int 1]))) : JM l G yX11_beans MX11_beans { frames := 3, cells := 0, slots := 0, locals := 67 } [.ref 0, .int 0, .int 0] (nh, fh) (fun r h9 => r = some (.int 0) ∧ h9 = (nh, hc fh [(0, .inr (11, [.ref 1, .ref 17, .ref 50, .ref 51, .ref 54, .ref 57, .ref 65, .ref 75, .ref 81, .ref 85, .ref 88, .ref 93, .ref 96, .int 0, .int (-1), .ref 97, .int 0])), (57, .inr (9, [.ref 1, .ref 51, .ref 58, .ref 61, .ref 62, .ref 63, .ref 64, .int 1, .int 1, .int 1])), (1, .inr (8, [.ref 2, .ref 3, .ref 4, .int 0, .int (-1), .ref 11, .ref 12, .int 0, .ref 13, .ref 14, .int 0, .ref 15, .ref 16, .int 0])), (51, .inr (0, [.ref 52, .ref 53, .int 1, .int 0])), (52, .inl (0, 1260, .inl (upd (upd (fun _ => 0) 0 0) 0 0))), (2, .inl (0, 5, .inl (upd (fun _ => 0) 0 0)))])) := by
  refine JM.of (by decide) rfl (fun h => by cases h) (Nat.le_of_ble_eq_true rfl) ⟨1, rfl⟩ ?_
  refine J_hc0 (J_ls (ls2 := [some (.ref 0), some (.int 0), some (.int 0), none]) rfl ?_)
  refine J_iload_n dX11_beans_0 rfl rfl ?_
  refine J_if_lt (tgt := 19) dX11_beans_1 (by decide) (fun q => absurd q (by decide +kernel)) (fun _ => ?_)
  refine J_iload_n dX11_beans_4 rfl rfl ?_
  refine J_iconst (v := 5) dX11_beans_5 (by decide) ?_
  refine J_icmp_ge (tgt := 19) dX11_beans_6 (by decide) (fun q => absurd q (by decide +kernel)) (fun _ => ?_)
  refine J_iload_n dX11_beans_9 rfl rfl ?_
  refine J_if_lt (tgt := 19) dX11_beans_10 (by decide) (fun q => absurd q (by decide +kernel)) (fun _ => ?_)
  refine J_iload_n dX11_beans_13 rfl rfl ?_
  refine J_bipush (v := 7) dX11_beans_14 (by decide +kernel) ?_
  refine J_icmp_le (tgt := 25) dX11_beans_16 (by decide) (fun _ => ?_) (fun q => absurd (by decide +kernel) q)
  refine J_aload_n dX11_beans_25 rfl rfl ?_
  refine J_get (v := .ref 1) dX11_beans_26 fl_X11_10 hk0 rfl ?_
  refine J_get (v := .ref 2) dX11_beans_29 fl_X11_111 hk1 rfl ?_
  refine J_iload_n dX11_beans_32 rfl rfl ?_
  refine J_iald (i2 := 0) (v := 0) dX11_beans_33 hk2 rfl (jin (by decide +kernel)) (by decide +kernel) rfl ?_
  refine J_istore_n dX11_beans_34 rfl (Nat.le_of_ble_eq_true rfl) rfl ?_
  refine J_aload_n dX11_beans_35 rfl rfl ?_
  refine J_get (v := .ref 51) dX11_beans_36 fl_X11_27 hk0 rfl ?_
  refine J_callV (st := []) dX11_beans_39 cv_X11_122 (c_X0_places_1 hk51) hk51 rfl rfl (Nat.le_of_ble_eq_true rfl) ⟨(Nat.le_of_ble_eq_true rfl), (Nat.le_of_ble_eq_true rfl)⟩ ⟨(Nat.le_of_ble_eq_true rfl), (Nat.le_of_ble_eq_true rfl)⟩ (fun r h9 hp => ?_)
  obtain ⟨rfl, rfl⟩ := hp
  refine J_nf (nh2 := nh) (ck2 := 0) (sk2 := 0) (st2 := [.int 0]) rfl rfl rfl rfl ?_
  refine J_iload_n dX11_beans_42 rfl rfl ?_
  refine J_isub (z := 0) dX11_beans_43 (by decide +kernel) ?_
  refine J_iload_n dX11_beans_44 rfl rfl ?_
  refine J_iadd (z := 0) dX11_beans_45 (by decide +kernel) ?_
  refine J_bipush (v := 7) dX11_beans_46 (by decide +kernel) ?_
  refine J_icmp_le (tgt := 57) dX11_beans_48 (by decide) (fun _ => ?_) (fun q => absurd (by decide +kernel) q)
  refine J_aload_n dX11_beans_57 rfl rfl ?_
  refine J_get (v := .ref 1) dX11_beans_58 fl_X11_10 hk0 rfl ?_
  refine J_get (v := .ref 2) dX11_beans_61 fl_X11_111 hk1 rfl ?_
  refine J_iload_n dX11_beans_64 rfl rfl ?_
  refine J_iload_n dX11_beans_65 rfl rfl ?_
  refine K_iast (i2 := 0) dX11_beans_66 hk2 rfl (jin (by decide +kernel)) (by decide +kernel) ?_
  refine J_aload_n dX11_beans_67 rfl rfl ?_
  refine J_callV (st := []) dX11_beans_68 cv_X11_126 (c_X11_resettle_1 hk0 hk1 rfl hk51 hk52 hk57) hk0 rfl rfl (Nat.le_of_ble_eq_true rfl) ⟨(Nat.le_of_ble_eq_true rfl), (Nat.le_of_ble_eq_true rfl)⟩ ⟨(Nat.le_of_ble_eq_true rfl), (Nat.le_of_ble_eq_true rfl)⟩ (fun r h9 hp => ?_)
  obtain ⟨rfl, rfl⟩ := hp
  refine J_nf (nh2 := nh) (ck2 := 0) (sk2 := 0) (st2 := []) rfl rfl rfl rfl ?_
  refine J_app (L3 := [(57, .inr (9, [.ref 1, .ref 51, .ref 58, .ref 61, .ref 62, .ref 63, .ref 64, .int 1, .int 1, .int 1])), (1, .inr (8, [.ref 2, .ref 3, .ref 4, .int 0, .int (-1), .ref 11, .ref 12, .int 0, .ref 13, .ref 14, .int 0, .ref 15, .ref 16, .int 0])), (51, .inr (0, [.ref 52, .ref 53, .int 1, .int 0])), (52, .inl (0, 1260, .inl (upd (upd (fun _ => 0) 0 0) 0 0))), (2, .inl (0, 5, .inl (upd (fun _ => 0) 0 0)))]) rfl ?_
  refine J_aload_n dX11_beans_71 rfl rfl ?_
  refine J_iload_n dX11_beans_72 rfl rfl ?_
  refine J_callV (st := []) dX11_beans_73 cv_X11_129 (c_X11_accept_1 hk0) hk0 rfl rfl (Nat.le_of_ble_eq_true rfl) ⟨(Nat.le_of_ble_eq_true rfl), (Nat.le_of_ble_eq_true rfl)⟩ ⟨(Nat.le_of_ble_eq_true rfl), (Nat.le_of_ble_eq_true rfl)⟩ (fun r h9 hp => ?_)
  obtain ⟨rfl, rfl⟩ := hp
  refine J_nf (nh2 := nh) (ck2 := 0) (sk2 := 0) (st2 := [.int 0]) rfl rfl rfl rfl ?_
  refine J_app (L3 := [(0, .inr (11, [.ref 1, .ref 17, .ref 50, .ref 51, .ref 54, .ref 57, .ref 65, .ref 75, .ref 81, .ref 85, .ref 88, .ref 93, .ref 96, .int 0, .int (-1), .ref 97, .int 0])), (57, .inr (9, [.ref 1, .ref 51, .ref 58, .ref 61, .ref 62, .ref 63, .ref 64, .int 1, .int 1, .int 1])), (1, .inr (8, [.ref 2, .ref 3, .ref 4, .int 0, .int (-1), .ref 11, .ref 12, .int 0, .ref 13, .ref 14, .int 0, .ref 15, .ref 16, .int 0])), (51, .inr (0, [.ref 52, .ref 53, .int 1, .int 0])), (52, .inl (0, 1260, .inl (upd (upd (fun _ => 0) 0 0) 0 0))), (2, .inl (0, 5, .inl (upd (fun _ => 0) 0 0)))]) rfl ?_
  exact J_iret dX11_beans_76 rfl rfl (Nat.le_of_ble_eq_true rfl) (Nat.le_of_ble_eq_true rfl) ⟨rfl, rfl⟩
set_option maxHeartbeats 4000000 in
set_option maxRecDepth 100000 in
theorem c_X12_lies_4 {l : Launch} {G : jG} {nh : Nat} {fh : Nat → Option va_E}  : JM l G yX12_lies MX12_lies { frames := 0, cells := 0, slots := 0, locals := 0 } [.int 0, .int 0, .int 4] (nh, fh) (fun r h9 => r = some (.int 1) ∧ h9 = (nh, fh)) := by
  refine JM.of (by decide) rfl (fun h => by cases h) (Nat.le_of_ble_eq_true rfl) ⟨0, rfl⟩ ?_
  refine J_hc0 (J_ls (ls2 := [some (.int 0), some (.int 0), some (.int 4)]) rfl ?_)
  refine J_iload_n dX12_lies_0 rfl rfl ?_
  refine J_iload_n dX12_lies_1 rfl rfl ?_
  refine J_icmp_lt (tgt := 14) dX12_lies_2 (by decide) (fun q => absurd q (by decide +kernel)) (fun _ => ?_)
  refine J_iload_n dX12_lies_5 rfl rfl ?_
  refine J_iload_n dX12_lies_6 rfl rfl ?_
  refine J_icmp_gt (tgt := 14) dX12_lies_7 (by decide) (fun q => absurd q (by decide +kernel)) (fun _ => ?_)
  refine J_iconst (v := 1) dX12_lies_10 (by decide) ?_
  refine J_goto (tgt := 15) dX12_lies_11 (by decide) ?_
  exact J_iret dX12_lies_15 rfl (by decide +kernel) (Nat.le_of_ble_eq_true rfl) (Nat.le_of_ble_eq_true rfl) ⟨rfl, rfl⟩
set_option maxHeartbeats 4000000 in
set_option maxRecDepth 100000 in
theorem c_X12_lies_5 {l : Launch} {G : jG} {nh : Nat} {fh : Nat → Option va_E}  : JM l G yX12_lies MX12_lies { frames := 0, cells := 0, slots := 0, locals := 0 } [.int 0, .int 0, .int 7] (nh, fh) (fun r h9 => r = some (.int 1) ∧ h9 = (nh, fh)) := by
  refine JM.of (by decide) rfl (fun h => by cases h) (Nat.le_of_ble_eq_true rfl) ⟨0, rfl⟩ ?_
  refine J_hc0 (J_ls (ls2 := [some (.int 0), some (.int 0), some (.int 7)]) rfl ?_)
  refine J_iload_n dX12_lies_0 rfl rfl ?_
  refine J_iload_n dX12_lies_1 rfl rfl ?_
  refine J_icmp_lt (tgt := 14) dX12_lies_2 (by decide) (fun q => absurd q (by decide +kernel)) (fun _ => ?_)
  refine J_iload_n dX12_lies_5 rfl rfl ?_
  refine J_iload_n dX12_lies_6 rfl rfl ?_
  refine J_icmp_gt (tgt := 14) dX12_lies_7 (by decide) (fun q => absurd q (by decide +kernel)) (fun _ => ?_)
  refine J_iconst (v := 1) dX12_lies_10 (by decide) ?_
  refine J_goto (tgt := 15) dX12_lies_11 (by decide) ?_
  exact J_iret dX12_lies_15 rfl (by decide +kernel) (Nat.le_of_ble_eq_true rfl) (Nat.le_of_ble_eq_true rfl) ⟨rfl, rfl⟩
set_option maxHeartbeats 4000000 in
set_option maxRecDepth 100000 in
theorem c_X12_places_1 {l : Launch} {G : jG} {nh : Nat} {fh : Nat → Option va_E} (hk98 : fh 98 = some (.inr (12, [.int 0, .int 0, .ref 99, .ref 100, .ref 101, .ref 102, .ref 103, .ref 104, .ref 105, .int 0, .int (-1), .ref 106, .ref 107, .ref 108, .int 0, .int 0, .int 0, .int 0, .int 0, .int 0, .int 0, .ref 109, .int 0, .int 0, .ref 110, .ref 111, .ref 112, .ref 113, .ref 114, .ref 115, .ref 116, .ref 117, .int 0, .int 0, .int (-1), .int (-1), .ref 118, .ref 119, .ref 120, .ref 121, .ref 122, .ref 123, .ref 124, .ref 125, .ref 126, .ref 127, .ref 128, .ref 129, .int 0, .ref 130, .ref 131, .ref 132, .ref 133, .ref 134, .int 0, .int 0]))) (hk100 : fh 100 = some (.inl (0, 4870, .inl (upd (fun _ => 0) 63 (-1))))) : JM l G yX12_places MX12_places { frames := 0, cells := 0, slots := 0, locals := 0 } [.ref 98] (nh, fh) (fun r h9 => r = some (.int 0) ∧ h9 = (nh, fh)) := by
  refine JM.of (by decide) rfl (fun h => by cases h) (Nat.le_of_ble_eq_true rfl) ⟨2, rfl⟩ ?_
  refine J_hc0 (J_ls (ls2 := [some (.ref 98), none, none]) rfl ?_)
  refine J_iconst (v := 0) dX12_places_0 (by decide) ?_
  refine J_istore_n dX12_places_1 rfl (Nat.le_of_ble_eq_true rfl) rfl ?_
  refine J_iconst (v := 0) dX12_places_2 (by decide) ?_
  refine J_istore_n dX12_places_3 rfl (Nat.le_of_ble_eq_true rfl) rfl ?_
  refine J_iload_n dX12_places_4 rfl rfl ?_
  refine J_iconst (v := 5) dX12_places_5 (by decide) ?_
  refine J_icmp_ge (tgt := 26) dX12_places_6 (by decide) (fun q => absurd q (by decide +kernel)) (fun _ => ?_)
  refine J_iload_n dX12_places_9 rfl rfl ?_
  refine J_aload_n dX12_places_10 rfl rfl ?_
  refine J_get (v := .ref 100) dX12_places_11 fl_X12_20 hk98 rfl ?_
  refine J_iconst (v := 0) dX12_places_14 (by decide) ?_
  refine J_iload_n dX12_places_15 rfl rfl ?_
  refine J_iadd (z := 0) dX12_places_16 (by decide +kernel) ?_
  refine J_iald (i2 := 0) (v := 0) dX12_places_17 hk100 rfl (jin (by decide +kernel)) (by decide +kernel) rfl ?_
  refine J_iadd (z := 0) dX12_places_18 (by decide +kernel) ?_
  refine J_istore_n dX12_places_19 rfl (Nat.le_of_ble_eq_true rfl) rfl ?_
  refine J_iinc (v := 1) dX12_places_20 rfl (by decide +kernel) (Nat.le_of_ble_eq_true rfl) rfl ?_
  refine J_ls (ls2 := [some (.ref 98), some (.int 0), some (.int 1)]) rfl ?_
  refine J_goto (tgt := 4) dX12_places_23 (by decide) ?_
  refine J_iload_n dX12_places_4 rfl rfl ?_
  refine J_iconst (v := 5) dX12_places_5 (by decide) ?_
  refine J_icmp_ge (tgt := 26) dX12_places_6 (by decide) (fun q => absurd q (by decide +kernel)) (fun _ => ?_)
  refine J_iload_n dX12_places_9 rfl rfl ?_
  refine J_aload_n dX12_places_10 rfl rfl ?_
  refine J_get (v := .ref 100) dX12_places_11 fl_X12_20 hk98 rfl ?_
  refine J_iconst (v := 0) dX12_places_14 (by decide) ?_
  refine J_iload_n dX12_places_15 rfl rfl ?_
  refine J_iadd (z := 1) dX12_places_16 (by decide +kernel) ?_
  refine J_iald (i2 := 1) (v := 0) dX12_places_17 hk100 rfl (jin (by decide +kernel)) (by decide +kernel) rfl ?_
  refine J_iadd (z := 0) dX12_places_18 (by decide +kernel) ?_
  refine J_istore_n dX12_places_19 rfl (Nat.le_of_ble_eq_true rfl) rfl ?_
  refine J_iinc (v := 2) dX12_places_20 rfl (by decide +kernel) (Nat.le_of_ble_eq_true rfl) rfl ?_
  refine J_ls (ls2 := [some (.ref 98), some (.int 0), some (.int 2)]) rfl ?_
  refine J_goto (tgt := 4) dX12_places_23 (by decide) ?_
  refine J_iload_n dX12_places_4 rfl rfl ?_
  refine J_iconst (v := 5) dX12_places_5 (by decide) ?_
  refine J_icmp_ge (tgt := 26) dX12_places_6 (by decide) (fun q => absurd q (by decide +kernel)) (fun _ => ?_)
  refine J_iload_n dX12_places_9 rfl rfl ?_
  refine J_aload_n dX12_places_10 rfl rfl ?_
  refine J_get (v := .ref 100) dX12_places_11 fl_X12_20 hk98 rfl ?_
  refine J_iconst (v := 0) dX12_places_14 (by decide) ?_
  refine J_iload_n dX12_places_15 rfl rfl ?_
  refine J_iadd (z := 2) dX12_places_16 (by decide +kernel) ?_
  refine J_iald (i2 := 2) (v := 0) dX12_places_17 hk100 rfl (jin (by decide +kernel)) (by decide +kernel) rfl ?_
  refine J_iadd (z := 0) dX12_places_18 (by decide +kernel) ?_
  refine J_istore_n dX12_places_19 rfl (Nat.le_of_ble_eq_true rfl) rfl ?_
  refine J_iinc (v := 3) dX12_places_20 rfl (by decide +kernel) (Nat.le_of_ble_eq_true rfl) rfl ?_
  refine J_ls (ls2 := [some (.ref 98), some (.int 0), some (.int 3)]) rfl ?_
  refine J_goto (tgt := 4) dX12_places_23 (by decide) ?_
  refine J_iload_n dX12_places_4 rfl rfl ?_
  refine J_iconst (v := 5) dX12_places_5 (by decide) ?_
  refine J_icmp_ge (tgt := 26) dX12_places_6 (by decide) (fun q => absurd q (by decide +kernel)) (fun _ => ?_)
  refine J_iload_n dX12_places_9 rfl rfl ?_
  refine J_aload_n dX12_places_10 rfl rfl ?_
  refine J_get (v := .ref 100) dX12_places_11 fl_X12_20 hk98 rfl ?_
  refine J_iconst (v := 0) dX12_places_14 (by decide) ?_
  refine J_iload_n dX12_places_15 rfl rfl ?_
  refine J_iadd (z := 3) dX12_places_16 (by decide +kernel) ?_
  refine J_iald (i2 := 3) (v := 0) dX12_places_17 hk100 rfl (jin (by decide +kernel)) (by decide +kernel) rfl ?_
  refine J_iadd (z := 0) dX12_places_18 (by decide +kernel) ?_
  refine J_istore_n dX12_places_19 rfl (Nat.le_of_ble_eq_true rfl) rfl ?_
  refine J_iinc (v := 4) dX12_places_20 rfl (by decide +kernel) (Nat.le_of_ble_eq_true rfl) rfl ?_
  refine J_ls (ls2 := [some (.ref 98), some (.int 0), some (.int 4)]) rfl ?_
  refine J_goto (tgt := 4) dX12_places_23 (by decide) ?_
  refine J_iload_n dX12_places_4 rfl rfl ?_
  refine J_iconst (v := 5) dX12_places_5 (by decide) ?_
  refine J_icmp_ge (tgt := 26) dX12_places_6 (by decide) (fun q => absurd q (by decide +kernel)) (fun _ => ?_)
  refine J_iload_n dX12_places_9 rfl rfl ?_
  refine J_aload_n dX12_places_10 rfl rfl ?_
  refine J_get (v := .ref 100) dX12_places_11 fl_X12_20 hk98 rfl ?_
  refine J_iconst (v := 0) dX12_places_14 (by decide) ?_
  refine J_iload_n dX12_places_15 rfl rfl ?_
  refine J_iadd (z := 4) dX12_places_16 (by decide +kernel) ?_
  refine J_iald (i2 := 4) (v := 0) dX12_places_17 hk100 rfl (jin (by decide +kernel)) (by decide +kernel) rfl ?_
  refine J_iadd (z := 0) dX12_places_18 (by decide +kernel) ?_
  refine J_istore_n dX12_places_19 rfl (Nat.le_of_ble_eq_true rfl) rfl ?_
  refine J_iinc (v := 5) dX12_places_20 rfl (by decide +kernel) (Nat.le_of_ble_eq_true rfl) rfl ?_
  refine J_ls (ls2 := [some (.ref 98), some (.int 0), some (.int 5)]) rfl ?_
  refine J_goto (tgt := 4) dX12_places_23 (by decide) ?_
  refine J_iload_n dX12_places_4 rfl rfl ?_
  refine J_iconst (v := 5) dX12_places_5 (by decide) ?_
  refine J_icmp_ge (tgt := 26) dX12_places_6 (by decide) (fun _ => ?_) (fun q => absurd (by decide +kernel) q)
  refine J_iload_n dX12_places_26 rfl rfl ?_
  exact J_iret dX12_places_27 rfl rfl (Nat.le_of_ble_eq_true rfl) (Nat.le_of_ble_eq_true rfl) ⟨rfl, rfl⟩
set_option maxHeartbeats 4000000 in
set_option maxRecDepth 100000 in
theorem c_X12_newBeans_1 {l : Launch} {G : jG} {nh : Nat} {fh : Nat → Option va_E} (hk98 : fh 98 = some (.inr (12, [.int 0, .int 0, .ref 99, .ref 100, .ref 101, .ref 102, .ref 103, .ref 104, .ref 105, .int 0, .int (-1), .ref 106, .ref 107, .ref 108, .int 0, .int 0, .int 0, .int 0, .int 0, .int 0, .int 0, .ref 109, .int 0, .int 0, .ref 110, .ref 111, .ref 112, .ref 113, .ref 114, .ref 115, .ref 116, .ref 117, .int 0, .int 0, .int (-1), .int (-1), .ref 118, .ref 119, .ref 120, .ref 121, .ref 122, .ref 123, .ref 124, .ref 125, .ref 126, .ref 127, .ref 128, .ref 129, .int 0, .ref 130, .ref 131, .ref 132, .ref 133, .ref 134, .int 0, .int 0]))) (hk100 : fh 100 = some (.inl (0, 4870, .inl (upd (upd (fun _ => 0) 63 (-1)) 0 0)))) : JM l G yX12_newBeans MX12_newBeans { frames := 0, cells := 0, slots := 0, locals := 0 } [.ref 98] (nh, fh) (fun r h9 => r = none ∧ h9 = (nh, hc fh [(100, .inl (0, 4870, .inl (upd (upd (upd (upd (upd (fun _ => 0) 63 (-1)) 0 0) 59 0) 61 0) 60 0)))])) := by
  refine JM.of (by decide) rfl (fun h => by cases h) (Nat.le_of_ble_eq_true rfl) ⟨2, rfl⟩ ?_
  refine J_hc0 (J_ls (ls2 := [some (.ref 98), none, none]) rfl ?_)
  refine J_aload_n dX12_newBeans_0 rfl rfl ?_
  refine J_get (v := .ref 100) dX12_newBeans_1 fl_X12_20 hk98 rfl ?_
  refine J_bipush (v := 59) dX12_newBeans_4 (by decide +kernel) ?_
  refine J_iconst (v := 0) dX12_newBeans_6 (by decide) ?_
  refine K_iast (i2 := 59) dX12_newBeans_7 hk100 rfl (jin (by decide +kernel)) (by decide +kernel) ?_
  refine J_aload_n dX12_newBeans_8 rfl rfl ?_
  refine J_get (v := .ref 100) dX12_newBeans_9 fl_X12_20 hk98 rfl ?_
  refine J_bipush (v := 61) dX12_newBeans_12 (by decide +kernel) ?_
  refine J_iconst (v := 0) dX12_newBeans_14 (by decide) ?_
  refine K_iast (i2 := 61) dX12_newBeans_15 rfl rfl (jin (by decide +kernel)) (by decide +kernel) ?_
  refine J_iconst (v := 0) dX12_newBeans_16 (by decide) ?_
  refine J_istore_n dX12_newBeans_17 rfl (Nat.le_of_ble_eq_true rfl) rfl ?_
  refine J_iconst (v := 0) dX12_newBeans_18 (by decide) ?_
  refine J_istore_n dX12_newBeans_19 rfl (Nat.le_of_ble_eq_true rfl) rfl ?_
  refine J_iload_n dX12_newBeans_20 rfl rfl ?_
  refine J_aload_n dX12_newBeans_21 rfl rfl ?_
  refine J_get (v := .ref 100) dX12_newBeans_22 fl_X12_20 hk98 rfl ?_
  refine J_bipush (v := 60) dX12_newBeans_25 (by decide +kernel) ?_
  refine J_iald (i2 := 60) (v := 0) dX12_newBeans_27 rfl rfl (jin (by decide +kernel)) (by decide +kernel) rfl ?_
  refine J_icmp_ge (tgt := 111) dX12_newBeans_28 (by decide) (fun _ => ?_) (fun q => absurd (by decide +kernel) q)
  refine J_aload_n dX12_newBeans_111 rfl rfl ?_
  refine J_get (v := .ref 100) dX12_newBeans_112 fl_X12_20 hk98 rfl ?_
  refine J_bipush (v := 60) dX12_newBeans_115 (by decide +kernel) ?_
  refine J_iload_n dX12_newBeans_117 rfl rfl ?_
  refine K_iast (i2 := 60) dX12_newBeans_118 rfl rfl (jin (by decide +kernel)) (by decide +kernel) ?_
  refine J_mask (L2 := [(100, .inl (0, 4870, .inl (upd (upd (upd (upd (upd (fun _ => 0) 63 (-1)) 0 0) 59 0) 61 0) 60 0)))]) (ks := [100, 100, 100]) [true, false, false] rfl (by decide +kernel) rfl ?_
  exact J_vret dX12_newBeans_119 rfl (Nat.le_of_ble_eq_true rfl) (Nat.le_of_ble_eq_true rfl) ⟨rfl, rfl⟩
set_option maxHeartbeats 4000000 in
set_option maxRecDepth 100000 in
theorem c_X12_good_1 {l : Launch} {G : jG} {nh : Nat} {fh : Nat → Option va_E} (hk98 : fh 98 = some (.inr (12, [.int 0, .int 0, .ref 99, .ref 100, .ref 101, .ref 102, .ref 103, .ref 104, .ref 105, .int 0, .int (-1), .ref 106, .ref 107, .ref 108, .int 0, .int 0, .int 0, .int 0, .int 0, .int 0, .int 0, .ref 109, .int 0, .int 0, .ref 110, .ref 111, .ref 112, .ref 113, .ref 114, .ref 115, .ref 116, .ref 117, .int 0, .int 0, .int (-1), .int (-1), .ref 118, .ref 119, .ref 120, .ref 121, .ref 122, .ref 123, .ref 124, .ref 125, .ref 126, .ref 127, .ref 128, .ref 129, .int 0, .ref 130, .ref 131, .ref 132, .ref 133, .ref 134, .int 0, .int 0]))) : JM l G yX12_good MX12_good { frames := 0, cells := 0, slots := 0, locals := 0 } [.ref 98, .int 0] (nh, fh) (fun r h9 => r = some (.int 0) ∧ h9 = (nh, hc fh [(98, .inr (12, [.int 0, .int 1, .ref 99, .ref 100, .ref 101, .ref 102, .ref 103, .ref 104, .ref 105, .int 0, .int (-1), .ref 106, .ref 107, .ref 108, .int 0, .int 0, .int 0, .int 0, .int 0, .int 0, .int 0, .ref 109, .int 0, .int 0, .ref 110, .ref 111, .ref 112, .ref 113, .ref 114, .ref 115, .ref 116, .ref 117, .int 0, .int 0, .int (-1), .int (-1), .ref 118, .ref 119, .ref 120, .ref 121, .ref 122, .ref 123, .ref 124, .ref 125, .ref 126, .ref 127, .ref 128, .ref 129, .int 0, .ref 130, .ref 131, .ref 132, .ref 133, .ref 134, .int 0, .int 0]))])) := by
  refine JM.of (by decide) rfl (fun h => by cases h) (Nat.le_of_ble_eq_true rfl) ⟨0, rfl⟩ ?_
  refine J_hc0 (J_ls (ls2 := [some (.ref 98), some (.int 0)]) rfl ?_)
  refine J_aload_n dX12_good_0 rfl rfl ?_
  refine J_iconst (v := 0) dX12_good_1 (by decide) ?_
  refine K_put (fs2 := [.int 0, .int 0, .ref 99, .ref 100, .ref 101, .ref 102, .ref 103, .ref 104, .ref 105, .int 0, .int (-1), .ref 106, .ref 107, .ref 108, .int 0, .int 0, .int 0, .int 0, .int 0, .int 0, .int 0, .ref 109, .int 0, .int 0, .ref 110, .ref 111, .ref 112, .ref 113, .ref 114, .ref 115, .ref 116, .ref 117, .int 0, .int 0, .int (-1), .int (-1), .ref 118, .ref 119, .ref 120, .ref 121, .ref 122, .ref 123, .ref 124, .ref 125, .ref 126, .ref 127, .ref 128, .ref 129, .int 0, .ref 130, .ref 131, .ref 132, .ref 133, .ref 134, .int 0, .int 0]) dX12_good_2 fw_X12_3 hk98 (Nat.le_of_ble_eq_true rfl) (fun _ => ⟨rfl, rfl⟩) rfl ?_
  refine J_aload_n dX12_good_5 rfl rfl ?_
  refine J_dup dX12_good_6 rfl ?_
  refine J_get (v := .int 0) dX12_good_7 fl_X12_11 rfl rfl ?_
  refine J_iconst (v := 1) dX12_good_10 (by decide) ?_
  refine J_iadd (z := 1) dX12_good_11 (by decide +kernel) ?_
  refine K_put (fs2 := [.int 0, .int 1, .ref 99, .ref 100, .ref 101, .ref 102, .ref 103, .ref 104, .ref 105, .int 0, .int (-1), .ref 106, .ref 107, .ref 108, .int 0, .int 0, .int 0, .int 0, .int 0, .int 0, .int 0, .ref 109, .int 0, .int 0, .ref 110, .ref 111, .ref 112, .ref 113, .ref 114, .ref 115, .ref 116, .ref 117, .int 0, .int 0, .int (-1), .int (-1), .ref 118, .ref 119, .ref 120, .ref 121, .ref 122, .ref 123, .ref 124, .ref 125, .ref 126, .ref 127, .ref 128, .ref 129, .int 0, .ref 130, .ref 131, .ref 132, .ref 133, .ref 134, .int 0, .int 0]) dX12_good_12 fw_X12_11 rfl (Nat.le_of_ble_eq_true rfl) (fun _ => ⟨rfl, rfl⟩) rfl ?_
  refine J_iload_n dX12_good_15 rfl rfl ?_
  refine J_mask (L2 := [(98, .inr (12, [.int 0, .int 1, .ref 99, .ref 100, .ref 101, .ref 102, .ref 103, .ref 104, .ref 105, .int 0, .int (-1), .ref 106, .ref 107, .ref 108, .int 0, .int 0, .int 0, .int 0, .int 0, .int 0, .int 0, .ref 109, .int 0, .int 0, .ref 110, .ref 111, .ref 112, .ref 113, .ref 114, .ref 115, .ref 116, .ref 117, .int 0, .int 0, .int (-1), .int (-1), .ref 118, .ref 119, .ref 120, .ref 121, .ref 122, .ref 123, .ref 124, .ref 125, .ref 126, .ref 127, .ref 128, .ref 129, .int 0, .ref 130, .ref 131, .ref 132, .ref 133, .ref 134, .int 0, .int 0]))]) (ks := [98, 98]) [true, false] rfl (by decide +kernel) rfl ?_
  exact J_iret dX12_good_16 rfl rfl (Nat.le_of_ble_eq_true rfl) (Nat.le_of_ble_eq_true rfl) ⟨rfl, rfl⟩
set_option maxHeartbeats 4000000 in
set_option maxRecDepth 100000 in
theorem c_X12_beans_3 {l : Launch} {G : jG} {nh : Nat} {fh : Nat → Option va_E} (hk98 : fh 98 = some (.inr (12, [.int 0, .int 0, .ref 99, .ref 100, .ref 101, .ref 102, .ref 103, .ref 104, .ref 105, .int 0, .int (-1), .ref 106, .ref 107, .ref 108, .int 0, .int 0, .int 0, .int 0, .int 0, .int 0, .int 0, .ref 109, .int 0, .int 0, .ref 110, .ref 111, .ref 112, .ref 113, .ref 114, .ref 115, .ref 116, .ref 117, .int 0, .int 0, .int (-1), .int (-1), .ref 118, .ref 119, .ref 120, .ref 121, .ref 122, .ref 123, .ref 124, .ref 125, .ref 126, .ref 127, .ref 128, .ref 129, .int 0, .ref 130, .ref 131, .ref 132, .ref 133, .ref 134, .int 0, .int 0]))) (hk100 : fh 100 = some (.inl (0, 4870, .inl (upd (fun _ => 0) 63 (-1))))) : JM l G yX12_beans MX12_beans { frames := 1, cells := 0, slots := 0, locals := 22 } [.ref 98, .int 0, .int 0] (nh, fh) (fun r h9 => r = some (.int 0) ∧ h9 = (nh, hc fh [(98, .inr (12, [.int 0, .int 1, .ref 99, .ref 100, .ref 101, .ref 102, .ref 103, .ref 104, .ref 105, .int 0, .int (-1), .ref 106, .ref 107, .ref 108, .int 0, .int 0, .int 0, .int 0, .int 0, .int 0, .int 0, .ref 109, .int 0, .int 0, .ref 110, .ref 111, .ref 112, .ref 113, .ref 114, .ref 115, .ref 116, .ref 117, .int 0, .int 0, .int (-1), .int (-1), .ref 118, .ref 119, .ref 120, .ref 121, .ref 122, .ref 123, .ref 124, .ref 125, .ref 126, .ref 127, .ref 128, .ref 129, .int 0, .ref 130, .ref 131, .ref 132, .ref 133, .ref 134, .int 0, .int 0])), (100, .inl (0, 4870, .inl (upd (upd (upd (upd (upd (fun _ => 0) 63 (-1)) 0 0) 59 0) 61 0) 60 0)))])) := by
  refine JM.of (by decide) rfl (fun h => by cases h) (Nat.le_of_ble_eq_true rfl) ⟨1, rfl⟩ ?_
  refine J_hc0 (J_ls (ls2 := [some (.ref 98), some (.int 0), some (.int 0), none]) rfl ?_)
  refine J_iload_n dX12_beans_0 rfl rfl ?_
  refine J_iconst (v := 0) dX12_beans_1 (by decide) ?_
  refine J_iconst (v := 4) dX12_beans_2 (by decide) ?_
  refine J_callS (st := []) dX12_beans_3 cs_X12_138 (c_X12_lies_4 ) rfl rfl (Nat.le_of_ble_eq_true rfl) ⟨(Nat.le_of_ble_eq_true rfl), (Nat.le_of_ble_eq_true rfl)⟩ ⟨(Nat.le_of_ble_eq_true rfl), (Nat.le_of_ble_eq_true rfl)⟩ (fun r h9 hp => ?_)
  obtain ⟨rfl, rfl⟩ := hp
  refine J_nf (nh2 := nh) (ck2 := 0) (sk2 := 0) (st2 := [.int 1]) rfl rfl rfl rfl ?_
  refine J_if_eq (tgt := 39) dX12_beans_6 (by decide) (fun q => absurd q (by decide +kernel)) (fun _ => ?_)
  refine J_iload_n dX12_beans_9 rfl rfl ?_
  refine J_iconst (v := 0) dX12_beans_10 (by decide) ?_
  refine J_bipush (v := 7) dX12_beans_11 (by decide +kernel) ?_
  refine J_callS (st := []) dX12_beans_13 cs_X12_138 (c_X12_lies_5 ) rfl rfl (Nat.le_of_ble_eq_true rfl) ⟨(Nat.le_of_ble_eq_true rfl), (Nat.le_of_ble_eq_true rfl)⟩ ⟨(Nat.le_of_ble_eq_true rfl), (Nat.le_of_ble_eq_true rfl)⟩ (fun r h9 hp => ?_)
  obtain ⟨rfl, rfl⟩ := hp
  refine J_nf (nh2 := nh) (ck2 := 0) (sk2 := 0) (st2 := [.int 1]) rfl rfl rfl rfl ?_
  refine J_if_eq (tgt := 39) dX12_beans_16 (by decide) (fun q => absurd q (by decide +kernel)) (fun _ => ?_)
  refine J_aload_n dX12_beans_19 rfl rfl ?_
  refine J_callV (st := []) dX12_beans_20 cv_X12_149 (c_X12_places_1 hk98 hk100) hk98 rfl rfl (Nat.le_of_ble_eq_true rfl) ⟨(Nat.le_of_ble_eq_true rfl), (Nat.le_of_ble_eq_true rfl)⟩ ⟨(Nat.le_of_ble_eq_true rfl), (Nat.le_of_ble_eq_true rfl)⟩ (fun r h9 hp => ?_)
  obtain ⟨rfl, rfl⟩ := hp
  refine J_nf (nh2 := nh) (ck2 := 0) (sk2 := 0) (st2 := [.int 0]) rfl rfl rfl rfl ?_
  refine J_aload_n dX12_beans_23 rfl rfl ?_
  refine J_get (v := .ref 100) dX12_beans_24 fl_X12_20 hk98 rfl ?_
  refine J_iconst (v := 0) dX12_beans_27 (by decide) ?_
  refine J_iload_n dX12_beans_28 rfl rfl ?_
  refine J_iadd (z := 0) dX12_beans_29 (by decide +kernel) ?_
  refine J_iald (i2 := 0) (v := 0) dX12_beans_30 hk100 rfl (jin (by decide +kernel)) (by decide +kernel) rfl ?_
  refine J_isub (z := 0) dX12_beans_31 (by decide +kernel) ?_
  refine J_iload_n dX12_beans_32 rfl rfl ?_
  refine J_iadd (z := 0) dX12_beans_33 (by decide +kernel) ?_
  refine J_bipush (v := 7) dX12_beans_34 (by decide +kernel) ?_
  refine J_icmp_le (tgt := 45) dX12_beans_36 (by decide) (fun _ => ?_) (fun q => absurd (by decide +kernel) q)
  refine J_aload_n dX12_beans_45 rfl rfl ?_
  refine J_get (v := .ref 100) dX12_beans_46 fl_X12_20 hk98 rfl ?_
  refine J_iconst (v := 0) dX12_beans_49 (by decide) ?_
  refine J_iload_n dX12_beans_50 rfl rfl ?_
  refine J_iadd (z := 0) dX12_beans_51 (by decide +kernel) ?_
  refine J_iald (i2 := 0) (v := 0) dX12_beans_52 hk100 rfl (jin (by decide +kernel)) (by decide +kernel) rfl ?_
  refine J_istore_n dX12_beans_53 rfl (Nat.le_of_ble_eq_true rfl) rfl ?_
  refine J_aload_n dX12_beans_54 rfl rfl ?_
  refine J_get (v := .ref 100) dX12_beans_55 fl_X12_20 hk98 rfl ?_
  refine J_iconst (v := 0) dX12_beans_58 (by decide) ?_
  refine J_iload_n dX12_beans_59 rfl rfl ?_
  refine J_iadd (z := 0) dX12_beans_60 (by decide +kernel) ?_
  refine J_iload_n dX12_beans_61 rfl rfl ?_
  refine K_iast (i2 := 0) dX12_beans_62 hk100 rfl (jin (by decide +kernel)) (by decide +kernel) ?_
  refine J_aload_n dX12_beans_63 rfl rfl ?_
  refine J_callV (st := []) dX12_beans_64 cv_X12_153 (c_X12_newBeans_1 hk98 rfl) hk98 rfl rfl (Nat.le_of_ble_eq_true rfl) ⟨(Nat.le_of_ble_eq_true rfl), (Nat.le_of_ble_eq_true rfl)⟩ ⟨(Nat.le_of_ble_eq_true rfl), (Nat.le_of_ble_eq_true rfl)⟩ (fun r h9 hp => ?_)
  obtain ⟨rfl, rfl⟩ := hp
  refine J_nf (nh2 := nh) (ck2 := 0) (sk2 := 0) (st2 := []) rfl rfl rfl rfl ?_
  refine J_app (L3 := [(100, .inl (0, 4870, .inl (upd (upd (upd (upd (upd (fun _ => 0) 63 (-1)) 0 0) 59 0) 61 0) 60 0))), (100, .inl (0, 4870, .inl (upd (upd (fun _ => 0) 63 (-1)) 0 0)))]) rfl ?_
  refine J_aload_n dX12_beans_67 rfl rfl ?_
  refine J_iload_n dX12_beans_68 rfl rfl ?_
  refine J_callV (st := []) dX12_beans_69 cv_X12_146 (c_X12_good_1 hk98) hk98 rfl rfl (Nat.le_of_ble_eq_true rfl) ⟨(Nat.le_of_ble_eq_true rfl), (Nat.le_of_ble_eq_true rfl)⟩ ⟨(Nat.le_of_ble_eq_true rfl), (Nat.le_of_ble_eq_true rfl)⟩ (fun r h9 hp => ?_)
  obtain ⟨rfl, rfl⟩ := hp
  refine J_nf (nh2 := nh) (ck2 := 0) (sk2 := 0) (st2 := [.int 0]) rfl rfl rfl rfl ?_
  refine J_app (L3 := [(98, .inr (12, [.int 0, .int 1, .ref 99, .ref 100, .ref 101, .ref 102, .ref 103, .ref 104, .ref 105, .int 0, .int (-1), .ref 106, .ref 107, .ref 108, .int 0, .int 0, .int 0, .int 0, .int 0, .int 0, .int 0, .ref 109, .int 0, .int 0, .ref 110, .ref 111, .ref 112, .ref 113, .ref 114, .ref 115, .ref 116, .ref 117, .int 0, .int 0, .int (-1), .int (-1), .ref 118, .ref 119, .ref 120, .ref 121, .ref 122, .ref 123, .ref 124, .ref 125, .ref 126, .ref 127, .ref 128, .ref 129, .int 0, .ref 130, .ref 131, .ref 132, .ref 133, .ref 134, .int 0, .int 0])), (100, .inl (0, 4870, .inl (upd (upd (upd (upd (upd (fun _ => 0) 63 (-1)) 0 0) 59 0) 61 0) 60 0))), (100, .inl (0, 4870, .inl (upd (upd (fun _ => 0) 63 (-1)) 0 0)))]) rfl ?_
  refine J_mask (L2 := [(98, .inr (12, [.int 0, .int 1, .ref 99, .ref 100, .ref 101, .ref 102, .ref 103, .ref 104, .ref 105, .int 0, .int (-1), .ref 106, .ref 107, .ref 108, .int 0, .int 0, .int 0, .int 0, .int 0, .int 0, .int 0, .ref 109, .int 0, .int 0, .ref 110, .ref 111, .ref 112, .ref 113, .ref 114, .ref 115, .ref 116, .ref 117, .int 0, .int 0, .int (-1), .int (-1), .ref 118, .ref 119, .ref 120, .ref 121, .ref 122, .ref 123, .ref 124, .ref 125, .ref 126, .ref 127, .ref 128, .ref 129, .int 0, .ref 130, .ref 131, .ref 132, .ref 133, .ref 134, .int 0, .int 0])), (100, .inl (0, 4870, .inl (upd (upd (upd (upd (upd (fun _ => 0) 63 (-1)) 0 0) 59 0) 61 0) 60 0)))]) (ks := [98, 100, 100]) [true, true, false] rfl (by decide +kernel) rfl ?_
  exact J_iret dX12_beans_72 rfl rfl (Nat.le_of_ble_eq_true rfl) (Nat.le_of_ble_eq_true rfl) ⟨rfl, rfl⟩
set_option maxHeartbeats 4000000 in
set_option maxRecDepth 100000 in
theorem c_X0_behind_1 {l : Launch} {G : jG} {nh : Nat} {fh : Nat → Option va_E}  : JM l G yX0_behind MX0_behind { frames := 0, cells := 0, slots := 0, locals := 0 } [.int 0, .int 0] (nh, fh) (fun r h9 => r = some (.int 0) ∧ h9 = (nh, fh)) := by
  refine JM.of (by decide) rfl (fun h => by cases h) (Nat.le_of_ble_eq_true rfl) ⟨0, rfl⟩ ?_
  refine J_hc0 (J_ls (ls2 := [some (.int 0), some (.int 0)]) rfl ?_)
  refine J_iload_n dX0_behind_0 rfl rfl ?_
  refine J_iconst (v := 3) dX0_behind_1 (by decide) ?_
  refine J_ishl (z := 0) dX0_behind_2 (by decide +kernel) ?_
  refine J_iload_n dX0_behind_3 rfl rfl ?_
  refine J_ior (z := 0) dX0_behind_4 (by decide +kernel) ?_
  exact J_iret dX0_behind_5 rfl rfl (Nat.le_of_ble_eq_true rfl) (Nat.le_of_ble_eq_true rfl) ⟨rfl, rfl⟩
set_option maxHeartbeats 4000000 in
set_option maxRecDepth 100000 in
theorem c_X0_packed_2 {l : Launch} {G : jG} {nh : Nat} {fh : Nat → Option va_E} (hk51 : fh 51 = some (.inr (0, [.ref 52, .ref 53, .int 0, .int 1]))) (hk53 : fh 53 = some (.inl (0, 7, .inl (upd (fun _ => 0) 0 0)))) : JM l G yX0_packed MX0_packed { frames := 1, cells := 0, slots := 0, locals := 21 } [.ref 51] (nh, fh) (fun r h9 => r = some (.int 0) ∧ h9 = (nh, fh)) := by
  refine JM.of (by decide) rfl (fun h => by cases h) (Nat.le_of_ble_eq_true rfl) ⟨2, rfl⟩ ?_
  refine J_hc0 (J_ls (ls2 := [some (.ref 51), none, none]) rfl ?_)
  refine J_iconst (v := 0) dX0_packed_0 (by decide) ?_
  refine J_istore_n dX0_packed_1 rfl (Nat.le_of_ble_eq_true rfl) rfl ?_
  refine J_iconst (v := 0) dX0_packed_2 (by decide) ?_
  refine J_istore_n dX0_packed_3 rfl (Nat.le_of_ble_eq_true rfl) rfl ?_
  refine J_iload_n dX0_packed_4 rfl rfl ?_
  refine J_aload_n dX0_packed_5 rfl rfl ?_
  refine J_get (v := .int 1) dX0_packed_6 fl_X0_22 hk51 rfl ?_
  refine J_icmp_ge (tgt := 29) dX0_packed_9 (by decide) (fun q => absurd q (by decide +kernel)) (fun _ => ?_)
  refine J_iload_n dX0_packed_12 rfl rfl ?_
  refine J_aload_n dX0_packed_13 rfl rfl ?_
  refine J_get (v := .ref 53) dX0_packed_14 fl_X0_15 hk51 rfl ?_
  refine J_iload_n dX0_packed_17 rfl rfl ?_
  refine J_iald (i2 := 0) (v := 0) dX0_packed_18 hk53 rfl (jin (by decide +kernel)) (by decide +kernel) rfl ?_
  refine J_callS (st := []) dX0_packed_19 cs_X0_33 (c_X0_behind_1 ) rfl rfl (Nat.le_of_ble_eq_true rfl) ⟨(Nat.le_of_ble_eq_true rfl), (Nat.le_of_ble_eq_true rfl)⟩ ⟨(Nat.le_of_ble_eq_true rfl), (Nat.le_of_ble_eq_true rfl)⟩ (fun r h9 hp => ?_)
  obtain ⟨rfl, rfl⟩ := hp
  refine J_nf (nh2 := nh) (ck2 := 0) (sk2 := 0) (st2 := [.int 0]) rfl rfl rfl rfl ?_
  refine J_istore_n dX0_packed_22 rfl (Nat.le_of_ble_eq_true rfl) rfl ?_
  refine J_iinc (v := 1) dX0_packed_23 rfl (by decide +kernel) (Nat.le_of_ble_eq_true rfl) rfl ?_
  refine J_ls (ls2 := [some (.ref 51), some (.int 0), some (.int 1)]) rfl ?_
  refine J_goto (tgt := 4) dX0_packed_26 (by decide) ?_
  refine J_iload_n dX0_packed_4 rfl rfl ?_
  refine J_aload_n dX0_packed_5 rfl rfl ?_
  refine J_get (v := .int 1) dX0_packed_6 fl_X0_22 hk51 rfl ?_
  refine J_icmp_ge (tgt := 29) dX0_packed_9 (by decide) (fun _ => ?_) (fun q => absurd (by decide +kernel) q)
  refine J_iload_n dX0_packed_29 rfl rfl ?_
  exact J_iret dX0_packed_30 rfl rfl (Nat.le_of_ble_eq_true rfl) (Nat.le_of_ble_eq_true rfl) ⟨rfl, rfl⟩
set_option maxHeartbeats 4000000 in
set_option maxRecDepth 100000 in
theorem c_X0_nextOrder_2 {l : Launch} {G : jG} {nh : Nat} {fh : Nat → Option va_E} (hk51 : fh 51 = some (.inr (0, [.ref 52, .ref 53, .int 1, .int 1]))) : JM l G yX0_nextOrder MX0_nextOrder { frames := 0, cells := 0, slots := 0, locals := 0 } [.ref 51] (nh, fh) (fun r h9 => r = some (.int 0) ∧ h9 = (nh, fh)) := by
  refine JM.of (by decide) rfl (fun h => by cases h) (Nat.le_of_ble_eq_true rfl) ⟨4, rfl⟩ ?_
  refine J_hc0 (J_ls (ls2 := [some (.ref 51), none, none, none, none]) rfl ?_)
  refine J_aload_n dX0_nextOrder_0 rfl rfl ?_
  refine J_get (v := .int 1) dX0_nextOrder_1 fl_X0_22 hk51 rfl ?_
  refine J_iconst (v := 2) dX0_nextOrder_4 (by decide) ?_
  refine J_isub (z := (-1)) dX0_nextOrder_5 (by decide +kernel) ?_
  refine J_istore_n dX0_nextOrder_6 rfl (Nat.le_of_ble_eq_true rfl) rfl ?_
  refine J_iload_n dX0_nextOrder_7 rfl rfl ?_
  refine J_if_lt (tgt := 34) dX0_nextOrder_8 (by decide) (fun _ => ?_) (fun q => absurd (by decide +kernel) q)
  refine J_iload_n dX0_nextOrder_34 rfl rfl ?_
  refine J_if_ge (tgt := 40) dX0_nextOrder_35 (by decide) (fun q => absurd q (by decide +kernel)) (fun _ => ?_)
  refine J_iconst (v := 0) dX0_nextOrder_38 (by decide) ?_
  exact J_iret dX0_nextOrder_39 rfl (by decide +kernel) (Nat.le_of_ble_eq_true rfl) (Nat.le_of_ble_eq_true rfl) ⟨rfl, rfl⟩
set_option maxHeartbeats 4000000 in
set_option maxRecDepth 100000 in
theorem c_X0_settle_3 {l : Launch} {G : jG} {nh : Nat} {fh : Nat → Option va_E} (hk2 : fh 2 = some (.inl (0, 5, .inl (upd (fun _ => 0) 0 1)))) (hk51 : fh 51 = some (.inr (0, [.ref 52, .ref 53, .int 1, .int 0]))) (hk52 : fh 52 = some (.inl (0, 1260, .inl (upd (fun _ => 0) 0 0)))) (hk53 : fh 53 = some (.inl (0, 7, .inl (fun _ => 0)))) : JM l G yX0_settle MX0_settle { frames := 2, cells := 0, slots := 0, locals := 43 } [.ref 51, .ref 2] (nh, fh) (fun r h9 => r = none ∧ h9 = (nh, hc fh [(51, .inr (0, [.ref 52, .ref 53, .int 1, .int 1])), (52, .inl (0, 1260, .inl (upd (upd (fun _ => 0) 0 0) 0 0))), (53, .inl (0, 7, .inl (upd (fun _ => 0) 0 0)))])) := by
  refine JM.of (by decide) rfl (fun h => by cases h) (Nat.le_of_ble_eq_true rfl) ⟨2, rfl⟩ ?_
  refine J_hc0 (J_ls (ls2 := [some (.ref 51), some (.ref 2), none, none]) rfl ?_)
  refine J_aload_n dX0_settle_0 rfl rfl ?_
  refine J_iconst (v := 0) dX0_settle_1 (by decide) ?_
  refine K_put (fs2 := [.ref 52, .ref 53, .int 1, .int 0]) dX0_settle_2 fw_X0_22 hk51 (Nat.le_of_ble_eq_true rfl) (fun _ => ⟨rfl, rfl⟩) rfl ?_
  refine J_iconst (v := 0) dX0_settle_5 (by decide) ?_
  refine J_istore_n dX0_settle_6 rfl (Nat.le_of_ble_eq_true rfl) rfl ?_
  refine J_iload_n dX0_settle_7 rfl rfl ?_
  refine J_iconst (v := 5) dX0_settle_8 (by decide) ?_
  refine J_icmp_ge (tgt := 62) dX0_settle_9 (by decide) (fun q => absurd q (by decide +kernel)) (fun _ => ?_)
  refine J_iconst (v := 0) dX0_settle_12 (by decide) ?_
  refine J_istore_n dX0_settle_13 rfl (Nat.le_of_ble_eq_true rfl) rfl ?_
  refine J_iload_n dX0_settle_14 rfl rfl ?_
  refine J_aload_n dX0_settle_15 rfl rfl ?_
  refine J_iload_n dX0_settle_16 rfl rfl ?_
  refine J_iald (i2 := 0) (v := 1) dX0_settle_17 hk2 rfl (jin (by decide +kernel)) (by decide +kernel) rfl ?_
  refine J_icmp_ge (tgt := 56) dX0_settle_18 (by decide) (fun q => absurd q (by decide +kernel)) (fun _ => ?_)
  refine J_aload_n dX0_settle_21 rfl rfl ?_
  refine J_get (v := .int 0) dX0_settle_22 fl_X0_22 rfl rfl ?_
  refine J_bipush (v := 7) dX0_settle_25 (by decide +kernel) ?_
  refine J_icmp_ge (tgt := 56) dX0_settle_27 (by decide) (fun q => absurd q (by decide +kernel)) (fun _ => ?_)
  refine J_aload_n dX0_settle_30 rfl rfl ?_
  refine J_get (v := .ref 53) dX0_settle_31 fl_X0_15 rfl rfl ?_
  refine J_aload_n dX0_settle_34 rfl rfl ?_
  refine J_get (v := .int 0) dX0_settle_35 fl_X0_22 rfl rfl ?_
  refine J_iload_n dX0_settle_38 rfl rfl ?_
  refine K_iast (i2 := 0) dX0_settle_39 hk53 rfl (jin (by decide +kernel)) (by decide +kernel) ?_
  refine J_aload_n dX0_settle_40 rfl rfl ?_
  refine J_dup dX0_settle_41 rfl ?_
  refine J_get (v := .int 0) dX0_settle_42 fl_X0_22 rfl rfl ?_
  refine J_iconst (v := 1) dX0_settle_45 (by decide) ?_
  refine J_iadd (z := 1) dX0_settle_46 (by decide +kernel) ?_
  refine K_put (fs2 := [.ref 52, .ref 53, .int 1, .int 1]) dX0_settle_47 fw_X0_22 rfl (Nat.le_of_ble_eq_true rfl) (fun _ => ⟨rfl, rfl⟩) rfl ?_
  refine J_iinc (v := 1) dX0_settle_50 rfl (by decide +kernel) (Nat.le_of_ble_eq_true rfl) rfl ?_
  refine J_ls (ls2 := [some (.ref 51), some (.ref 2), some (.int 0), some (.int 1)]) rfl ?_
  refine J_goto (tgt := 14) dX0_settle_53 (by decide) ?_
  refine J_iload_n dX0_settle_14 rfl rfl ?_
  refine J_aload_n dX0_settle_15 rfl rfl ?_
  refine J_iload_n dX0_settle_16 rfl rfl ?_
  refine J_iald (i2 := 0) (v := 1) dX0_settle_17 hk2 rfl (jin (by decide +kernel)) (by decide +kernel) rfl ?_
  refine J_icmp_ge (tgt := 56) dX0_settle_18 (by decide) (fun _ => ?_) (fun q => absurd (by decide +kernel) q)
  refine J_iinc (v := 1) dX0_settle_56 rfl (by decide +kernel) (Nat.le_of_ble_eq_true rfl) rfl ?_
  refine J_ls (ls2 := [some (.ref 51), some (.ref 2), some (.int 1), some (.int 1)]) rfl ?_
  refine J_goto (tgt := 7) dX0_settle_59 (by decide) ?_
  refine J_iload_n dX0_settle_7 rfl rfl ?_
  refine J_iconst (v := 5) dX0_settle_8 (by decide) ?_
  refine J_icmp_ge (tgt := 62) dX0_settle_9 (by decide) (fun q => absurd q (by decide +kernel)) (fun _ => ?_)
  refine J_iconst (v := 0) dX0_settle_12 (by decide) ?_
  refine J_istore_n dX0_settle_13 rfl (Nat.le_of_ble_eq_true rfl) rfl ?_
  refine J_iload_n dX0_settle_14 rfl rfl ?_
  refine J_aload_n dX0_settle_15 rfl rfl ?_
  refine J_iload_n dX0_settle_16 rfl rfl ?_
  refine J_iald (i2 := 1) (v := 0) dX0_settle_17 hk2 rfl (jin (by decide +kernel)) (by decide +kernel) rfl ?_
  refine J_icmp_ge (tgt := 56) dX0_settle_18 (by decide) (fun _ => ?_) (fun q => absurd (by decide +kernel) q)
  refine J_iinc (v := 2) dX0_settle_56 rfl (by decide +kernel) (Nat.le_of_ble_eq_true rfl) rfl ?_
  refine J_ls (ls2 := [some (.ref 51), some (.ref 2), some (.int 2), some (.int 0)]) rfl ?_
  refine J_goto (tgt := 7) dX0_settle_59 (by decide) ?_
  refine J_iload_n dX0_settle_7 rfl rfl ?_
  refine J_iconst (v := 5) dX0_settle_8 (by decide) ?_
  refine J_icmp_ge (tgt := 62) dX0_settle_9 (by decide) (fun q => absurd q (by decide +kernel)) (fun _ => ?_)
  refine J_iconst (v := 0) dX0_settle_12 (by decide) ?_
  refine J_istore_n dX0_settle_13 rfl (Nat.le_of_ble_eq_true rfl) rfl ?_
  refine J_iload_n dX0_settle_14 rfl rfl ?_
  refine J_aload_n dX0_settle_15 rfl rfl ?_
  refine J_iload_n dX0_settle_16 rfl rfl ?_
  refine J_iald (i2 := 2) (v := 0) dX0_settle_17 hk2 rfl (jin (by decide +kernel)) (by decide +kernel) rfl ?_
  refine J_icmp_ge (tgt := 56) dX0_settle_18 (by decide) (fun _ => ?_) (fun q => absurd (by decide +kernel) q)
  refine J_iinc (v := 3) dX0_settle_56 rfl (by decide +kernel) (Nat.le_of_ble_eq_true rfl) rfl ?_
  refine J_ls (ls2 := [some (.ref 51), some (.ref 2), some (.int 3), some (.int 0)]) rfl ?_
  refine J_goto (tgt := 7) dX0_settle_59 (by decide) ?_
  refine J_iload_n dX0_settle_7 rfl rfl ?_
  refine J_iconst (v := 5) dX0_settle_8 (by decide) ?_
  refine J_icmp_ge (tgt := 62) dX0_settle_9 (by decide) (fun q => absurd q (by decide +kernel)) (fun _ => ?_)
  refine J_iconst (v := 0) dX0_settle_12 (by decide) ?_
  refine J_istore_n dX0_settle_13 rfl (Nat.le_of_ble_eq_true rfl) rfl ?_
  refine J_iload_n dX0_settle_14 rfl rfl ?_
  refine J_aload_n dX0_settle_15 rfl rfl ?_
  refine J_iload_n dX0_settle_16 rfl rfl ?_
  refine J_iald (i2 := 3) (v := 0) dX0_settle_17 hk2 rfl (jin (by decide +kernel)) (by decide +kernel) rfl ?_
  refine J_icmp_ge (tgt := 56) dX0_settle_18 (by decide) (fun _ => ?_) (fun q => absurd (by decide +kernel) q)
  refine J_iinc (v := 4) dX0_settle_56 rfl (by decide +kernel) (Nat.le_of_ble_eq_true rfl) rfl ?_
  refine J_ls (ls2 := [some (.ref 51), some (.ref 2), some (.int 4), some (.int 0)]) rfl ?_
  refine J_goto (tgt := 7) dX0_settle_59 (by decide) ?_
  refine J_iload_n dX0_settle_7 rfl rfl ?_
  refine J_iconst (v := 5) dX0_settle_8 (by decide) ?_
  refine J_icmp_ge (tgt := 62) dX0_settle_9 (by decide) (fun q => absurd q (by decide +kernel)) (fun _ => ?_)
  refine J_iconst (v := 0) dX0_settle_12 (by decide) ?_
  refine J_istore_n dX0_settle_13 rfl (Nat.le_of_ble_eq_true rfl) rfl ?_
  refine J_iload_n dX0_settle_14 rfl rfl ?_
  refine J_aload_n dX0_settle_15 rfl rfl ?_
  refine J_iload_n dX0_settle_16 rfl rfl ?_
  refine J_iald (i2 := 4) (v := 0) dX0_settle_17 hk2 rfl (jin (by decide +kernel)) (by decide +kernel) rfl ?_
  refine J_icmp_ge (tgt := 56) dX0_settle_18 (by decide) (fun _ => ?_) (fun q => absurd (by decide +kernel) q)
  refine J_iinc (v := 5) dX0_settle_56 rfl (by decide +kernel) (Nat.le_of_ble_eq_true rfl) rfl ?_
  refine J_ls (ls2 := [some (.ref 51), some (.ref 2), some (.int 5), some (.int 0)]) rfl ?_
  refine J_goto (tgt := 7) dX0_settle_59 (by decide) ?_
  refine J_iload_n dX0_settle_7 rfl rfl ?_
  refine J_iconst (v := 5) dX0_settle_8 (by decide) ?_
  refine J_icmp_ge (tgt := 62) dX0_settle_9 (by decide) (fun _ => ?_) (fun q => absurd (by decide +kernel) q)
  refine J_aload_n dX0_settle_62 rfl rfl ?_
  refine J_iconst (v := 0) dX0_settle_63 (by decide) ?_
  refine K_put (fs2 := [.ref 52, .ref 53, .int 0, .int 1]) dX0_settle_64 fw_X0_18 rfl (Nat.le_of_ble_eq_true rfl) (fun _ => ⟨rfl, rfl⟩) rfl ?_
  refine J_iconst (v := 1) dX0_settle_67 (by decide) ?_
  refine J_istore_n dX0_settle_68 rfl (Nat.le_of_ble_eq_true rfl) rfl ?_
  refine J_iconst (v := 0) dX0_settle_69 (by decide) ?_
  refine J_istore_n dX0_settle_70 rfl (Nat.le_of_ble_eq_true rfl) rfl ?_
  refine J_iload_n dX0_settle_71 rfl rfl ?_
  refine J_sipush (v := 1260) dX0_settle_72 (by decide +kernel) ?_
  refine J_icmp_ge (tgt := 116) dX0_settle_75 (by decide) (fun q => absurd q (by decide +kernel)) (fun _ => ?_)
  refine J_iload_n dX0_settle_78 rfl rfl ?_
  refine J_if_eq (tgt := 116) dX0_settle_79 (by decide) (fun q => absurd q (by decide +kernel)) (fun _ => ?_)
  refine J_aload_n dX0_settle_82 rfl rfl ?_
  refine J_get (v := .ref 52) dX0_settle_83 fl_X0_9 rfl rfl ?_
  refine J_aload_n dX0_settle_86 rfl rfl ?_
  refine J_get (v := .int 0) dX0_settle_87 fl_X0_18 rfl rfl ?_
  refine J_aload_n dX0_settle_90 rfl rfl ?_
  refine J_callV (st := [.int 0, .ref 52]) dX0_settle_91 cv_X0_25 (c_X0_packed_2 rfl rfl) rfl rfl rfl (Nat.le_of_ble_eq_true rfl) ⟨(Nat.le_of_ble_eq_true rfl), (Nat.le_of_ble_eq_true rfl)⟩ ⟨(Nat.le_of_ble_eq_true rfl), (Nat.le_of_ble_eq_true rfl)⟩ (fun r h9 hp => ?_)
  obtain ⟨rfl, rfl⟩ := hp
  refine J_nf (nh2 := nh) (ck2 := 0) (sk2 := 0) (st2 := [.int 0, .int 0, .ref 52]) rfl rfl rfl rfl ?_
  refine K_iast (i2 := 0) dX0_settle_94 hk52 rfl (jin (by decide +kernel)) (by decide +kernel) ?_
  refine J_aload_n dX0_settle_95 rfl rfl ?_
  refine J_dup dX0_settle_96 rfl ?_
  refine J_get (v := .int 0) dX0_settle_97 fl_X0_18 rfl rfl ?_
  refine J_iconst (v := 1) dX0_settle_100 (by decide) ?_
  refine J_iadd (z := 1) dX0_settle_101 (by decide +kernel) ?_
  refine K_put (fs2 := [.ref 52, .ref 53, .int 1, .int 1]) dX0_settle_102 fw_X0_18 rfl (Nat.le_of_ble_eq_true rfl) (fun _ => ⟨rfl, rfl⟩) rfl ?_
  refine J_aload_n dX0_settle_105 rfl rfl ?_
  refine J_callV (st := []) dX0_settle_106 cv_X0_29 (c_X0_nextOrder_2 rfl) rfl rfl rfl (Nat.le_of_ble_eq_true rfl) ⟨(Nat.le_of_ble_eq_true rfl), (Nat.le_of_ble_eq_true rfl)⟩ ⟨(Nat.le_of_ble_eq_true rfl), (Nat.le_of_ble_eq_true rfl)⟩ (fun r h9 hp => ?_)
  obtain ⟨rfl, rfl⟩ := hp
  refine J_nf (nh2 := nh) (ck2 := 0) (sk2 := 0) (st2 := [.int 0]) rfl rfl rfl rfl ?_
  refine J_istore_n dX0_settle_109 rfl (Nat.le_of_ble_eq_true rfl) rfl ?_
  refine J_iinc (v := 1) dX0_settle_110 rfl (by decide +kernel) (Nat.le_of_ble_eq_true rfl) rfl ?_
  refine J_ls (ls2 := [some (.ref 51), some (.ref 2), some (.int 0), some (.int 1)]) rfl ?_
  refine J_goto (tgt := 71) dX0_settle_113 (by decide) ?_
  refine J_iload_n dX0_settle_71 rfl rfl ?_
  refine J_sipush (v := 1260) dX0_settle_72 (by decide +kernel) ?_
  refine J_icmp_ge (tgt := 116) dX0_settle_75 (by decide) (fun q => absurd q (by decide +kernel)) (fun _ => ?_)
  refine J_iload_n dX0_settle_78 rfl rfl ?_
  refine J_if_eq (tgt := 116) dX0_settle_79 (by decide) (fun _ => ?_) (fun q => absurd (by decide +kernel) q)
  refine J_mask (L2 := [(51, .inr (0, [.ref 52, .ref 53, .int 1, .int 1])), (52, .inl (0, 1260, .inl (upd (upd (fun _ => 0) 0 0) 0 0))), (53, .inl (0, 7, .inl (upd (fun _ => 0) 0 0)))]) (ks := [51, 52, 51, 51, 53, 51]) [true, true, false, false, true, false] rfl (by decide +kernel) rfl ?_
  exact J_vret dX0_settle_116 rfl (Nat.le_of_ble_eq_true rfl) (Nat.le_of_ble_eq_true rfl) ⟨rfl, rfl⟩
set_option maxHeartbeats 4000000 in
set_option maxRecDepth 100000 in
theorem c_X0_places_2 {l : Launch} {G : jG} {nh : Nat} {fh : Nat → Option va_E} (hk51 : fh 51 = some (.inr (0, [.ref 52, .ref 53, .int 1, .int 1]))) : JM l G yX0_places MX0_places { frames := 0, cells := 0, slots := 0, locals := 0 } [.ref 51] (nh, fh) (fun r h9 => r = some (.int 1) ∧ h9 = (nh, fh)) := by
  refine JM.of (by decide) rfl (fun h => by cases h) (Nat.le_of_ble_eq_true rfl) ⟨0, rfl⟩ ?_
  refine J_hc0 (J_ls (ls2 := [some (.ref 51)]) rfl ?_)
  refine J_aload_n dX0_places_0 rfl rfl ?_
  refine J_get (v := .int 1) dX0_places_1 fl_X0_22 hk51 rfl ?_
  exact J_iret dX0_places_4 rfl rfl (Nat.le_of_ble_eq_true rfl) (Nat.le_of_ble_eq_true rfl) ⟨rfl, rfl⟩
set_option maxHeartbeats 4000000 in
set_option maxRecDepth 100000 in
theorem c_X8_dropSwapsBeyond_2 {l : Launch} {G : jG} {nh : Nat} {fh : Nat → Option va_E} (hk1 : fh 1 = some (.inr (8, [.ref 2, .ref 3, .ref 4, .int 0, .int (-1), .ref 11, .ref 12, .int 0, .ref 13, .ref 14, .int 0, .ref 15, .ref 16, .int 0]))) : JM l G yX8_dropSwapsBeyond MX8_dropSwapsBeyond { frames := 0, cells := 0, slots := 0, locals := 0 } [.ref 1, .int 1] (nh, fh) (fun r h9 => r = none ∧ h9 = (nh, hc fh [(1, .inr (8, [.ref 2, .ref 3, .ref 4, .int 0, .int (-1), .ref 11, .ref 12, .int 0, .ref 13, .ref 14, .int 0, .ref 15, .ref 16, .int 0]))])) := by
  refine JM.of (by decide) rfl (fun h => by cases h) (Nat.le_of_ble_eq_true rfl) ⟨2, rfl⟩ ?_
  refine J_hc0 (J_ls (ls2 := [some (.ref 1), some (.int 1), none, none]) rfl ?_)
  refine J_aload_n dX8_dropSwapsBeyond_0 rfl rfl ?_
  refine J_get (v := .int 0) dX8_dropSwapsBeyond_1 fl_X8_54 hk1 rfl ?_
  refine J_istore_n dX8_dropSwapsBeyond_4 rfl (Nat.le_of_ble_eq_true rfl) rfl ?_
  refine J_aload_n dX8_dropSwapsBeyond_5 rfl rfl ?_
  refine J_iconst (v := 0) dX8_dropSwapsBeyond_6 (by decide) ?_
  refine K_put (fs2 := [.ref 2, .ref 3, .ref 4, .int 0, .int (-1), .ref 11, .ref 12, .int 0, .ref 13, .ref 14, .int 0, .ref 15, .ref 16, .int 0]) dX8_dropSwapsBeyond_7 fw_X8_54 hk1 (Nat.le_of_ble_eq_true rfl) (fun _ => ⟨rfl, rfl⟩) rfl ?_
  refine J_iconst (v := 0) dX8_dropSwapsBeyond_10 (by decide) ?_
  refine J_istore_n dX8_dropSwapsBeyond_11 rfl (Nat.le_of_ble_eq_true rfl) rfl ?_
  refine J_iload_n dX8_dropSwapsBeyond_12 rfl rfl ?_
  refine J_iload_n dX8_dropSwapsBeyond_13 rfl rfl ?_
  refine J_icmp_ge (tgt := 49) dX8_dropSwapsBeyond_14 (by decide) (fun _ => ?_) (fun q => absurd (by decide +kernel) q)
  exact J_vret dX8_dropSwapsBeyond_49 rfl (Nat.le_of_ble_eq_true rfl) (Nat.le_of_ble_eq_true rfl) ⟨rfl, rfl⟩
set_option maxHeartbeats 4000000 in
set_option maxRecDepth 100000 in
theorem c_X11_resettle_2 {l : Launch} {G : jG} {nh : Nat} {fh : Nat → Option va_E} (hk0 : fh 0 = some (.inr (11, [.ref 1, .ref 17, .ref 50, .ref 51, .ref 54, .ref 57, .ref 65, .ref 75, .ref 81, .ref 85, .ref 88, .ref 93, .ref 96, .int 0, .int (-1), .ref 97, .int 0]))) (hk1 : fh 1 = some (.inr (8, [.ref 2, .ref 3, .ref 4, .int 0, .int (-1), .ref 11, .ref 12, .int 0, .ref 13, .ref 14, .int 0, .ref 15, .ref 16, .int 0]))) (hk2 : fh 2 = some (.inl (0, 5, .inl (upd (fun _ => 0) 0 1)))) (hk51 : fh 51 = some (.inr (0, [.ref 52, .ref 53, .int 1, .int 0]))) (hk52 : fh 52 = some (.inl (0, 1260, .inl (upd (fun _ => 0) 0 0)))) (hk53 : fh 53 = some (.inl (0, 7, .inl (fun _ => 0)))) (hk57 : fh 57 = some (.inr (9, [.ref 1, .ref 51, .ref 58, .ref 61, .ref 62, .ref 63, .ref 64, .int 0, .int 1, .int 1]))) : JM l G yX11_resettle MX11_resettle { frames := 3, cells := 0, slots := 0, locals := 66 } [.ref 0] (nh, fh) (fun r h9 => r = none ∧ h9 = (nh, hc fh [(57, .inr (9, [.ref 1, .ref 51, .ref 58, .ref 61, .ref 62, .ref 63, .ref 64, .int 1, .int 1, .int 1])), (1, .inr (8, [.ref 2, .ref 3, .ref 4, .int 0, .int (-1), .ref 11, .ref 12, .int 0, .ref 13, .ref 14, .int 0, .ref 15, .ref 16, .int 0])), (51, .inr (0, [.ref 52, .ref 53, .int 1, .int 1])), (52, .inl (0, 1260, .inl (upd (upd (fun _ => 0) 0 0) 0 0))), (53, .inl (0, 7, .inl (upd (fun _ => 0) 0 0)))])) := by
  refine JM.of (by decide) rfl (fun h => by cases h) (Nat.le_of_ble_eq_true rfl) ⟨0, rfl⟩ ?_
  refine J_hc0 (J_ls (ls2 := [some (.ref 0)]) rfl ?_)
  refine J_aload_n dX11_resettle_0 rfl rfl ?_
  refine J_get (v := .ref 51) dX11_resettle_1 fl_X11_27 hk0 rfl ?_
  refine J_aload_n dX11_resettle_4 rfl rfl ?_
  refine J_get (v := .ref 1) dX11_resettle_5 fl_X11_10 hk0 rfl ?_
  refine J_get (v := .ref 2) dX11_resettle_8 fl_X11_111 hk1 rfl ?_
  refine J_callV (st := []) dX11_resettle_11 cv_X11_114 (c_X0_settle_3 hk2 hk51 hk52 hk53) hk51 rfl rfl (Nat.le_of_ble_eq_true rfl) ⟨(Nat.le_of_ble_eq_true rfl), (Nat.le_of_ble_eq_true rfl)⟩ ⟨(Nat.le_of_ble_eq_true rfl), (Nat.le_of_ble_eq_true rfl)⟩ (fun r h9 hp => ?_)
  obtain ⟨rfl, rfl⟩ := hp
  refine J_nf (nh2 := nh) (ck2 := 0) (sk2 := 0) (st2 := []) rfl rfl rfl rfl ?_
  refine J_app (L3 := [(51, .inr (0, [.ref 52, .ref 53, .int 1, .int 1])), (52, .inl (0, 1260, .inl (upd (upd (fun _ => 0) 0 0) 0 0))), (53, .inl (0, 7, .inl (upd (fun _ => 0) 0 0)))]) rfl ?_
  refine J_aload_n dX11_resettle_14 rfl rfl ?_
  refine J_get (v := .ref 1) dX11_resettle_15 fl_X11_10 hk0 rfl ?_
  refine J_iconst (v := 0) dX11_resettle_18 (by decide) ?_
  refine K_put (fs2 := [.ref 2, .ref 3, .ref 4, .int 0, .int (-1), .ref 11, .ref 12, .int 0, .ref 13, .ref 14, .int 0, .ref 15, .ref 16, .int 0]) dX11_resettle_19 fw_X11_204 hk1 (Nat.le_of_ble_eq_true rfl) (fun _ => ⟨rfl, rfl⟩) rfl ?_
  refine J_aload_n dX11_resettle_22 rfl rfl ?_
  refine J_get (v := .ref 1) dX11_resettle_23 fl_X11_10 hk0 rfl ?_
  refine J_iconst (v := 0) dX11_resettle_26 (by decide) ?_
  refine K_put (fs2 := [.ref 2, .ref 3, .ref 4, .int 0, .int (-1), .ref 11, .ref 12, .int 0, .ref 13, .ref 14, .int 0, .ref 15, .ref 16, .int 0]) dX11_resettle_27 fw_X11_286 rfl (Nat.le_of_ble_eq_true rfl) (fun _ => ⟨rfl, rfl⟩) rfl ?_
  refine J_aload_n dX11_resettle_30 rfl rfl ?_
  refine J_get (v := .ref 1) dX11_resettle_31 fl_X11_10 hk0 rfl ?_
  refine J_aload_n dX11_resettle_34 rfl rfl ?_
  refine J_get (v := .ref 51) dX11_resettle_35 fl_X11_27 hk0 rfl ?_
  refine J_callV (st := [.ref 1]) dX11_resettle_38 cv_X11_122 (c_X0_places_2 rfl) rfl rfl rfl (Nat.le_of_ble_eq_true rfl) ⟨(Nat.le_of_ble_eq_true rfl), (Nat.le_of_ble_eq_true rfl)⟩ ⟨(Nat.le_of_ble_eq_true rfl), (Nat.le_of_ble_eq_true rfl)⟩ (fun r h9 hp => ?_)
  obtain ⟨rfl, rfl⟩ := hp
  refine J_nf (nh2 := nh) (ck2 := 0) (sk2 := 0) (st2 := [.int 1, .ref 1]) rfl rfl rfl rfl ?_
  refine J_callV (st := []) dX11_resettle_41 cv_X11_321 (c_X8_dropSwapsBeyond_2 rfl) rfl rfl rfl (Nat.le_of_ble_eq_true rfl) ⟨(Nat.le_of_ble_eq_true rfl), (Nat.le_of_ble_eq_true rfl)⟩ ⟨(Nat.le_of_ble_eq_true rfl), (Nat.le_of_ble_eq_true rfl)⟩ (fun r h9 hp => ?_)
  obtain ⟨rfl, rfl⟩ := hp
  refine J_nf (nh2 := nh) (ck2 := 0) (sk2 := 0) (st2 := []) rfl rfl rfl rfl ?_
  refine J_app (L3 := [(1, .inr (8, [.ref 2, .ref 3, .ref 4, .int 0, .int (-1), .ref 11, .ref 12, .int 0, .ref 13, .ref 14, .int 0, .ref 15, .ref 16, .int 0])), (1, .inr (8, [.ref 2, .ref 3, .ref 4, .int 0, .int (-1), .ref 11, .ref 12, .int 0, .ref 13, .ref 14, .int 0, .ref 15, .ref 16, .int 0])), (1, .inr (8, [.ref 2, .ref 3, .ref 4, .int 0, .int (-1), .ref 11, .ref 12, .int 0, .ref 13, .ref 14, .int 0, .ref 15, .ref 16, .int 0])), (51, .inr (0, [.ref 52, .ref 53, .int 1, .int 1])), (52, .inl (0, 1260, .inl (upd (upd (fun _ => 0) 0 0) 0 0))), (53, .inl (0, 7, .inl (upd (fun _ => 0) 0 0)))]) rfl ?_
  refine J_aload_n dX11_resettle_44 rfl rfl ?_
  refine J_get (v := .ref 57) dX11_resettle_45 fl_X11_43 hk0 rfl ?_
  refine J_callV (st := []) dX11_resettle_48 cv_X11_148 (c_X9_changeAll_1 hk57) hk57 rfl rfl (Nat.le_of_ble_eq_true rfl) ⟨(Nat.le_of_ble_eq_true rfl), (Nat.le_of_ble_eq_true rfl)⟩ ⟨(Nat.le_of_ble_eq_true rfl), (Nat.le_of_ble_eq_true rfl)⟩ (fun r h9 hp => ?_)
  obtain ⟨rfl, rfl⟩ := hp
  refine J_nf (nh2 := nh) (ck2 := 0) (sk2 := 0) (st2 := []) rfl rfl rfl rfl ?_
  refine J_app (L3 := [(57, .inr (9, [.ref 1, .ref 51, .ref 58, .ref 61, .ref 62, .ref 63, .ref 64, .int 1, .int 1, .int 1])), (1, .inr (8, [.ref 2, .ref 3, .ref 4, .int 0, .int (-1), .ref 11, .ref 12, .int 0, .ref 13, .ref 14, .int 0, .ref 15, .ref 16, .int 0])), (1, .inr (8, [.ref 2, .ref 3, .ref 4, .int 0, .int (-1), .ref 11, .ref 12, .int 0, .ref 13, .ref 14, .int 0, .ref 15, .ref 16, .int 0])), (1, .inr (8, [.ref 2, .ref 3, .ref 4, .int 0, .int (-1), .ref 11, .ref 12, .int 0, .ref 13, .ref 14, .int 0, .ref 15, .ref 16, .int 0])), (51, .inr (0, [.ref 52, .ref 53, .int 1, .int 1])), (52, .inl (0, 1260, .inl (upd (upd (fun _ => 0) 0 0) 0 0))), (53, .inl (0, 7, .inl (upd (fun _ => 0) 0 0)))]) rfl ?_
  refine J_mask (L2 := [(57, .inr (9, [.ref 1, .ref 51, .ref 58, .ref 61, .ref 62, .ref 63, .ref 64, .int 1, .int 1, .int 1])), (1, .inr (8, [.ref 2, .ref 3, .ref 4, .int 0, .int (-1), .ref 11, .ref 12, .int 0, .ref 13, .ref 14, .int 0, .ref 15, .ref 16, .int 0])), (51, .inr (0, [.ref 52, .ref 53, .int 1, .int 1])), (52, .inl (0, 1260, .inl (upd (upd (fun _ => 0) 0 0) 0 0))), (53, .inl (0, 7, .inl (upd (fun _ => 0) 0 0)))]) (ks := [57, 1, 1, 1, 51, 52, 53]) [true, true, false, false, true, true, true] rfl (by decide +kernel) rfl ?_
  exact J_vret dX11_resettle_51 rfl (Nat.le_of_ble_eq_true rfl) (Nat.le_of_ble_eq_true rfl) ⟨rfl, rfl⟩
set_option maxHeartbeats 4000000 in
set_option maxRecDepth 100000 in
theorem c_X11_beans_4 {l : Launch} {G : jG} {nh : Nat} {fh : Nat → Option va_E} (hk0 : fh 0 = some (.inr (11, [.ref 1, .ref 17, .ref 50, .ref 51, .ref 54, .ref 57, .ref 65, .ref 75, .ref 81, .ref 85, .ref 88, .ref 93, .ref 96, .int 0, .int (-1), .ref 97, .int 0]))) (hk1 : fh 1 = some (.inr (8, [.ref 2, .ref 3, .ref 4, .int 0, .int (-1), .ref 11, .ref 12, .int 0, .ref 13, .ref 14, .int 0, .ref 15, .ref 16, .int 0]))) (hk2 : fh 2 = some (.inl (0, 5, .inl (fun _ => 0)))) (hk51 : fh 51 = some (.inr (0, [.ref 52, .ref 53, .int 1, .int 0]))) (hk52 : fh 52 = some (.inl (0, 1260, .inl (upd (fun _ => 0) 0 0)))) (hk53 : fh 53 = some (.inl (0, 7, .inl (fun _ => 0)))) (hk57 : fh 57 = some (.inr (9, [.ref 1, .ref 51, .ref 58, .ref 61, .ref 62, .ref 63, .ref 64, .int 0, .int 1, .int 1]))) : JM l G yX11_beans MX11_beans { frames := 4, cells := 0, slots := 0, locals := 86 } [.ref 0, .int 0, .int 1] (nh, fh) (fun r h9 => r = some (.int 0) ∧ h9 = (nh, hc fh [(0, .inr (11, [.ref 1, .ref 17, .ref 50, .ref 51, .ref 54, .ref 57, .ref 65, .ref 75, .ref 81, .ref 85, .ref 88, .ref 93, .ref 96, .int 0, .int (-1), .ref 97, .int 0])), (57, .inr (9, [.ref 1, .ref 51, .ref 58, .ref 61, .ref 62, .ref 63, .ref 64, .int 1, .int 1, .int 1])), (1, .inr (8, [.ref 2, .ref 3, .ref 4, .int 0, .int (-1), .ref 11, .ref 12, .int 0, .ref 13, .ref 14, .int 0, .ref 15, .ref 16, .int 0])), (51, .inr (0, [.ref 52, .ref 53, .int 1, .int 1])), (52, .inl (0, 1260, .inl (upd (upd (fun _ => 0) 0 0) 0 0))), (53, .inl (0, 7, .inl (upd (fun _ => 0) 0 0))), (2, .inl (0, 5, .inl (upd (fun _ => 0) 0 1)))])) := by
  refine JM.of (by decide) rfl (fun h => by cases h) (Nat.le_of_ble_eq_true rfl) ⟨1, rfl⟩ ?_
  refine J_hc0 (J_ls (ls2 := [some (.ref 0), some (.int 0), some (.int 1), none]) rfl ?_)
  refine J_iload_n dX11_beans_0 rfl rfl ?_
  refine J_if_lt (tgt := 19) dX11_beans_1 (by decide) (fun q => absurd q (by decide +kernel)) (fun _ => ?_)
  refine J_iload_n dX11_beans_4 rfl rfl ?_
  refine J_iconst (v := 5) dX11_beans_5 (by decide) ?_
  refine J_icmp_ge (tgt := 19) dX11_beans_6 (by decide) (fun q => absurd q (by decide +kernel)) (fun _ => ?_)
  refine J_iload_n dX11_beans_9 rfl rfl ?_
  refine J_if_lt (tgt := 19) dX11_beans_10 (by decide) (fun q => absurd q (by decide +kernel)) (fun _ => ?_)
  refine J_iload_n dX11_beans_13 rfl rfl ?_
  refine J_bipush (v := 7) dX11_beans_14 (by decide +kernel) ?_
  refine J_icmp_le (tgt := 25) dX11_beans_16 (by decide) (fun _ => ?_) (fun q => absurd (by decide +kernel) q)
  refine J_aload_n dX11_beans_25 rfl rfl ?_
  refine J_get (v := .ref 1) dX11_beans_26 fl_X11_10 hk0 rfl ?_
  refine J_get (v := .ref 2) dX11_beans_29 fl_X11_111 hk1 rfl ?_
  refine J_iload_n dX11_beans_32 rfl rfl ?_
  refine J_iald (i2 := 0) (v := 0) dX11_beans_33 hk2 rfl (jin (by decide +kernel)) (by decide +kernel) rfl ?_
  refine J_istore_n dX11_beans_34 rfl (Nat.le_of_ble_eq_true rfl) rfl ?_
  refine J_aload_n dX11_beans_35 rfl rfl ?_
  refine J_get (v := .ref 51) dX11_beans_36 fl_X11_27 hk0 rfl ?_
  refine J_callV (st := []) dX11_beans_39 cv_X11_122 (c_X0_places_1 hk51) hk51 rfl rfl (Nat.le_of_ble_eq_true rfl) ⟨(Nat.le_of_ble_eq_true rfl), (Nat.le_of_ble_eq_true rfl)⟩ ⟨(Nat.le_of_ble_eq_true rfl), (Nat.le_of_ble_eq_true rfl)⟩ (fun r h9 hp => ?_)
  obtain ⟨rfl, rfl⟩ := hp
  refine J_nf (nh2 := nh) (ck2 := 0) (sk2 := 0) (st2 := [.int 0]) rfl rfl rfl rfl ?_
  refine J_iload_n dX11_beans_42 rfl rfl ?_
  refine J_isub (z := 0) dX11_beans_43 (by decide +kernel) ?_
  refine J_iload_n dX11_beans_44 rfl rfl ?_
  refine J_iadd (z := 1) dX11_beans_45 (by decide +kernel) ?_
  refine J_bipush (v := 7) dX11_beans_46 (by decide +kernel) ?_
  refine J_icmp_le (tgt := 57) dX11_beans_48 (by decide) (fun _ => ?_) (fun q => absurd (by decide +kernel) q)
  refine J_aload_n dX11_beans_57 rfl rfl ?_
  refine J_get (v := .ref 1) dX11_beans_58 fl_X11_10 hk0 rfl ?_
  refine J_get (v := .ref 2) dX11_beans_61 fl_X11_111 hk1 rfl ?_
  refine J_iload_n dX11_beans_64 rfl rfl ?_
  refine J_iload_n dX11_beans_65 rfl rfl ?_
  refine K_iast (i2 := 0) dX11_beans_66 hk2 rfl (jin (by decide +kernel)) (by decide +kernel) ?_
  refine J_aload_n dX11_beans_67 rfl rfl ?_
  refine J_callV (st := []) dX11_beans_68 cv_X11_126 (c_X11_resettle_2 hk0 hk1 rfl hk51 hk52 hk53 hk57) hk0 rfl rfl (Nat.le_of_ble_eq_true rfl) ⟨(Nat.le_of_ble_eq_true rfl), (Nat.le_of_ble_eq_true rfl)⟩ ⟨(Nat.le_of_ble_eq_true rfl), (Nat.le_of_ble_eq_true rfl)⟩ (fun r h9 hp => ?_)
  obtain ⟨rfl, rfl⟩ := hp
  refine J_nf (nh2 := nh) (ck2 := 0) (sk2 := 0) (st2 := []) rfl rfl rfl rfl ?_
  refine J_app (L3 := [(57, .inr (9, [.ref 1, .ref 51, .ref 58, .ref 61, .ref 62, .ref 63, .ref 64, .int 1, .int 1, .int 1])), (1, .inr (8, [.ref 2, .ref 3, .ref 4, .int 0, .int (-1), .ref 11, .ref 12, .int 0, .ref 13, .ref 14, .int 0, .ref 15, .ref 16, .int 0])), (51, .inr (0, [.ref 52, .ref 53, .int 1, .int 1])), (52, .inl (0, 1260, .inl (upd (upd (fun _ => 0) 0 0) 0 0))), (53, .inl (0, 7, .inl (upd (fun _ => 0) 0 0))), (2, .inl (0, 5, .inl (upd (fun _ => 0) 0 1)))]) rfl ?_
  refine J_aload_n dX11_beans_71 rfl rfl ?_
  refine J_iload_n dX11_beans_72 rfl rfl ?_
  refine J_callV (st := []) dX11_beans_73 cv_X11_129 (c_X11_accept_1 hk0) hk0 rfl rfl (Nat.le_of_ble_eq_true rfl) ⟨(Nat.le_of_ble_eq_true rfl), (Nat.le_of_ble_eq_true rfl)⟩ ⟨(Nat.le_of_ble_eq_true rfl), (Nat.le_of_ble_eq_true rfl)⟩ (fun r h9 hp => ?_)
  obtain ⟨rfl, rfl⟩ := hp
  refine J_nf (nh2 := nh) (ck2 := 0) (sk2 := 0) (st2 := [.int 0]) rfl rfl rfl rfl ?_
  refine J_app (L3 := [(0, .inr (11, [.ref 1, .ref 17, .ref 50, .ref 51, .ref 54, .ref 57, .ref 65, .ref 75, .ref 81, .ref 85, .ref 88, .ref 93, .ref 96, .int 0, .int (-1), .ref 97, .int 0])), (57, .inr (9, [.ref 1, .ref 51, .ref 58, .ref 61, .ref 62, .ref 63, .ref 64, .int 1, .int 1, .int 1])), (1, .inr (8, [.ref 2, .ref 3, .ref 4, .int 0, .int (-1), .ref 11, .ref 12, .int 0, .ref 13, .ref 14, .int 0, .ref 15, .ref 16, .int 0])), (51, .inr (0, [.ref 52, .ref 53, .int 1, .int 1])), (52, .inl (0, 1260, .inl (upd (upd (fun _ => 0) 0 0) 0 0))), (53, .inl (0, 7, .inl (upd (fun _ => 0) 0 0))), (2, .inl (0, 5, .inl (upd (fun _ => 0) 0 1)))]) rfl ?_
  exact J_iret dX11_beans_76 rfl rfl (Nat.le_of_ble_eq_true rfl) (Nat.le_of_ble_eq_true rfl) ⟨rfl, rfl⟩
set_option maxHeartbeats 4000000 in
set_option maxRecDepth 100000 in
theorem c_X12_lies_6 {l : Launch} {G : jG} {nh : Nat} {fh : Nat → Option va_E}  : JM l G yX12_lies MX12_lies { frames := 0, cells := 0, slots := 0, locals := 0 } [.int 1, .int 0, .int 7] (nh, fh) (fun r h9 => r = some (.int 1) ∧ h9 = (nh, fh)) := by
  refine JM.of (by decide) rfl (fun h => by cases h) (Nat.le_of_ble_eq_true rfl) ⟨0, rfl⟩ ?_
  refine J_hc0 (J_ls (ls2 := [some (.int 1), some (.int 0), some (.int 7)]) rfl ?_)
  refine J_iload_n dX12_lies_0 rfl rfl ?_
  refine J_iload_n dX12_lies_1 rfl rfl ?_
  refine J_icmp_lt (tgt := 14) dX12_lies_2 (by decide) (fun q => absurd q (by decide +kernel)) (fun _ => ?_)
  refine J_iload_n dX12_lies_5 rfl rfl ?_
  refine J_iload_n dX12_lies_6 rfl rfl ?_
  refine J_icmp_gt (tgt := 14) dX12_lies_7 (by decide) (fun q => absurd q (by decide +kernel)) (fun _ => ?_)
  refine J_iconst (v := 1) dX12_lies_10 (by decide) ?_
  refine J_goto (tgt := 15) dX12_lies_11 (by decide) ?_
  exact J_iret dX12_lies_15 rfl (by decide +kernel) (Nat.le_of_ble_eq_true rfl) (Nat.le_of_ble_eq_true rfl) ⟨rfl, rfl⟩
set_option maxHeartbeats 4000000 in
set_option maxRecDepth 100000 in
theorem c_X12_newBeans_2 {l : Launch} {G : jG} {nh : Nat} {fh : Nat → Option va_E} (hk98 : fh 98 = some (.inr (12, [.int 0, .int 0, .ref 99, .ref 100, .ref 101, .ref 102, .ref 103, .ref 104, .ref 105, .int 0, .int (-1), .ref 106, .ref 107, .ref 108, .int 0, .int 0, .int 0, .int 0, .int 0, .int 0, .int 0, .ref 109, .int 0, .int 0, .ref 110, .ref 111, .ref 112, .ref 113, .ref 114, .ref 115, .ref 116, .ref 117, .int 0, .int 0, .int (-1), .int (-1), .ref 118, .ref 119, .ref 120, .ref 121, .ref 122, .ref 123, .ref 124, .ref 125, .ref 126, .ref 127, .ref 128, .ref 129, .int 0, .ref 130, .ref 131, .ref 132, .ref 133, .ref 134, .int 0, .int 0]))) (hk100 : fh 100 = some (.inl (0, 4870, .inl (upd (upd (fun _ => 0) 63 (-1)) 0 1)))) : JM l G yX12_newBeans MX12_newBeans { frames := 0, cells := 0, slots := 0, locals := 0 } [.ref 98] (nh, fh) (fun r h9 => r = none ∧ h9 = (nh, hc fh [(100, .inl (0, 4870, .inl (upd (upd (upd (upd (upd (fun _ => 0) 63 (-1)) 0 1) 59 0) 61 0) 60 0)))])) := by
  refine JM.of (by decide) rfl (fun h => by cases h) (Nat.le_of_ble_eq_true rfl) ⟨2, rfl⟩ ?_
  refine J_hc0 (J_ls (ls2 := [some (.ref 98), none, none]) rfl ?_)
  refine J_aload_n dX12_newBeans_0 rfl rfl ?_
  refine J_get (v := .ref 100) dX12_newBeans_1 fl_X12_20 hk98 rfl ?_
  refine J_bipush (v := 59) dX12_newBeans_4 (by decide +kernel) ?_
  refine J_iconst (v := 0) dX12_newBeans_6 (by decide) ?_
  refine K_iast (i2 := 59) dX12_newBeans_7 hk100 rfl (jin (by decide +kernel)) (by decide +kernel) ?_
  refine J_aload_n dX12_newBeans_8 rfl rfl ?_
  refine J_get (v := .ref 100) dX12_newBeans_9 fl_X12_20 hk98 rfl ?_
  refine J_bipush (v := 61) dX12_newBeans_12 (by decide +kernel) ?_
  refine J_iconst (v := 0) dX12_newBeans_14 (by decide) ?_
  refine K_iast (i2 := 61) dX12_newBeans_15 rfl rfl (jin (by decide +kernel)) (by decide +kernel) ?_
  refine J_iconst (v := 0) dX12_newBeans_16 (by decide) ?_
  refine J_istore_n dX12_newBeans_17 rfl (Nat.le_of_ble_eq_true rfl) rfl ?_
  refine J_iconst (v := 0) dX12_newBeans_18 (by decide) ?_
  refine J_istore_n dX12_newBeans_19 rfl (Nat.le_of_ble_eq_true rfl) rfl ?_
  refine J_iload_n dX12_newBeans_20 rfl rfl ?_
  refine J_aload_n dX12_newBeans_21 rfl rfl ?_
  refine J_get (v := .ref 100) dX12_newBeans_22 fl_X12_20 hk98 rfl ?_
  refine J_bipush (v := 60) dX12_newBeans_25 (by decide +kernel) ?_
  refine J_iald (i2 := 60) (v := 0) dX12_newBeans_27 rfl rfl (jin (by decide +kernel)) (by decide +kernel) rfl ?_
  refine J_icmp_ge (tgt := 111) dX12_newBeans_28 (by decide) (fun _ => ?_) (fun q => absurd (by decide +kernel) q)
  refine J_aload_n dX12_newBeans_111 rfl rfl ?_
  refine J_get (v := .ref 100) dX12_newBeans_112 fl_X12_20 hk98 rfl ?_
  refine J_bipush (v := 60) dX12_newBeans_115 (by decide +kernel) ?_
  refine J_iload_n dX12_newBeans_117 rfl rfl ?_
  refine K_iast (i2 := 60) dX12_newBeans_118 rfl rfl (jin (by decide +kernel)) (by decide +kernel) ?_
  refine J_mask (L2 := [(100, .inl (0, 4870, .inl (upd (upd (upd (upd (upd (fun _ => 0) 63 (-1)) 0 1) 59 0) 61 0) 60 0)))]) (ks := [100, 100, 100]) [true, false, false] rfl (by decide +kernel) rfl ?_
  exact J_vret dX12_newBeans_119 rfl (Nat.le_of_ble_eq_true rfl) (Nat.le_of_ble_eq_true rfl) ⟨rfl, rfl⟩
set_option maxHeartbeats 4000000 in
set_option maxRecDepth 100000 in
theorem c_X12_beans_4 {l : Launch} {G : jG} {nh : Nat} {fh : Nat → Option va_E} (hk98 : fh 98 = some (.inr (12, [.int 0, .int 0, .ref 99, .ref 100, .ref 101, .ref 102, .ref 103, .ref 104, .ref 105, .int 0, .int (-1), .ref 106, .ref 107, .ref 108, .int 0, .int 0, .int 0, .int 0, .int 0, .int 0, .int 0, .ref 109, .int 0, .int 0, .ref 110, .ref 111, .ref 112, .ref 113, .ref 114, .ref 115, .ref 116, .ref 117, .int 0, .int 0, .int (-1), .int (-1), .ref 118, .ref 119, .ref 120, .ref 121, .ref 122, .ref 123, .ref 124, .ref 125, .ref 126, .ref 127, .ref 128, .ref 129, .int 0, .ref 130, .ref 131, .ref 132, .ref 133, .ref 134, .int 0, .int 0]))) (hk100 : fh 100 = some (.inl (0, 4870, .inl (upd (fun _ => 0) 63 (-1))))) : JM l G yX12_beans MX12_beans { frames := 1, cells := 0, slots := 0, locals := 22 } [.ref 98, .int 0, .int 1] (nh, fh) (fun r h9 => r = some (.int 0) ∧ h9 = (nh, hc fh [(98, .inr (12, [.int 0, .int 1, .ref 99, .ref 100, .ref 101, .ref 102, .ref 103, .ref 104, .ref 105, .int 0, .int (-1), .ref 106, .ref 107, .ref 108, .int 0, .int 0, .int 0, .int 0, .int 0, .int 0, .int 0, .ref 109, .int 0, .int 0, .ref 110, .ref 111, .ref 112, .ref 113, .ref 114, .ref 115, .ref 116, .ref 117, .int 0, .int 0, .int (-1), .int (-1), .ref 118, .ref 119, .ref 120, .ref 121, .ref 122, .ref 123, .ref 124, .ref 125, .ref 126, .ref 127, .ref 128, .ref 129, .int 0, .ref 130, .ref 131, .ref 132, .ref 133, .ref 134, .int 0, .int 0])), (100, .inl (0, 4870, .inl (upd (upd (upd (upd (upd (fun _ => 0) 63 (-1)) 0 1) 59 0) 61 0) 60 0)))])) := by
  refine JM.of (by decide) rfl (fun h => by cases h) (Nat.le_of_ble_eq_true rfl) ⟨1, rfl⟩ ?_
  refine J_hc0 (J_ls (ls2 := [some (.ref 98), some (.int 0), some (.int 1), none]) rfl ?_)
  refine J_iload_n dX12_beans_0 rfl rfl ?_
  refine J_iconst (v := 0) dX12_beans_1 (by decide) ?_
  refine J_iconst (v := 4) dX12_beans_2 (by decide) ?_
  refine J_callS (st := []) dX12_beans_3 cs_X12_138 (c_X12_lies_4 ) rfl rfl (Nat.le_of_ble_eq_true rfl) ⟨(Nat.le_of_ble_eq_true rfl), (Nat.le_of_ble_eq_true rfl)⟩ ⟨(Nat.le_of_ble_eq_true rfl), (Nat.le_of_ble_eq_true rfl)⟩ (fun r h9 hp => ?_)
  obtain ⟨rfl, rfl⟩ := hp
  refine J_nf (nh2 := nh) (ck2 := 0) (sk2 := 0) (st2 := [.int 1]) rfl rfl rfl rfl ?_
  refine J_if_eq (tgt := 39) dX12_beans_6 (by decide) (fun q => absurd q (by decide +kernel)) (fun _ => ?_)
  refine J_iload_n dX12_beans_9 rfl rfl ?_
  refine J_iconst (v := 0) dX12_beans_10 (by decide) ?_
  refine J_bipush (v := 7) dX12_beans_11 (by decide +kernel) ?_
  refine J_callS (st := []) dX12_beans_13 cs_X12_138 (c_X12_lies_6 ) rfl rfl (Nat.le_of_ble_eq_true rfl) ⟨(Nat.le_of_ble_eq_true rfl), (Nat.le_of_ble_eq_true rfl)⟩ ⟨(Nat.le_of_ble_eq_true rfl), (Nat.le_of_ble_eq_true rfl)⟩ (fun r h9 hp => ?_)
  obtain ⟨rfl, rfl⟩ := hp
  refine J_nf (nh2 := nh) (ck2 := 0) (sk2 := 0) (st2 := [.int 1]) rfl rfl rfl rfl ?_
  refine J_if_eq (tgt := 39) dX12_beans_16 (by decide) (fun q => absurd q (by decide +kernel)) (fun _ => ?_)
  refine J_aload_n dX12_beans_19 rfl rfl ?_
  refine J_callV (st := []) dX12_beans_20 cv_X12_149 (c_X12_places_1 hk98 hk100) hk98 rfl rfl (Nat.le_of_ble_eq_true rfl) ⟨(Nat.le_of_ble_eq_true rfl), (Nat.le_of_ble_eq_true rfl)⟩ ⟨(Nat.le_of_ble_eq_true rfl), (Nat.le_of_ble_eq_true rfl)⟩ (fun r h9 hp => ?_)
  obtain ⟨rfl, rfl⟩ := hp
  refine J_nf (nh2 := nh) (ck2 := 0) (sk2 := 0) (st2 := [.int 0]) rfl rfl rfl rfl ?_
  refine J_aload_n dX12_beans_23 rfl rfl ?_
  refine J_get (v := .ref 100) dX12_beans_24 fl_X12_20 hk98 rfl ?_
  refine J_iconst (v := 0) dX12_beans_27 (by decide) ?_
  refine J_iload_n dX12_beans_28 rfl rfl ?_
  refine J_iadd (z := 0) dX12_beans_29 (by decide +kernel) ?_
  refine J_iald (i2 := 0) (v := 0) dX12_beans_30 hk100 rfl (jin (by decide +kernel)) (by decide +kernel) rfl ?_
  refine J_isub (z := 0) dX12_beans_31 (by decide +kernel) ?_
  refine J_iload_n dX12_beans_32 rfl rfl ?_
  refine J_iadd (z := 1) dX12_beans_33 (by decide +kernel) ?_
  refine J_bipush (v := 7) dX12_beans_34 (by decide +kernel) ?_
  refine J_icmp_le (tgt := 45) dX12_beans_36 (by decide) (fun _ => ?_) (fun q => absurd (by decide +kernel) q)
  refine J_aload_n dX12_beans_45 rfl rfl ?_
  refine J_get (v := .ref 100) dX12_beans_46 fl_X12_20 hk98 rfl ?_
  refine J_iconst (v := 0) dX12_beans_49 (by decide) ?_
  refine J_iload_n dX12_beans_50 rfl rfl ?_
  refine J_iadd (z := 0) dX12_beans_51 (by decide +kernel) ?_
  refine J_iald (i2 := 0) (v := 0) dX12_beans_52 hk100 rfl (jin (by decide +kernel)) (by decide +kernel) rfl ?_
  refine J_istore_n dX12_beans_53 rfl (Nat.le_of_ble_eq_true rfl) rfl ?_
  refine J_aload_n dX12_beans_54 rfl rfl ?_
  refine J_get (v := .ref 100) dX12_beans_55 fl_X12_20 hk98 rfl ?_
  refine J_iconst (v := 0) dX12_beans_58 (by decide) ?_
  refine J_iload_n dX12_beans_59 rfl rfl ?_
  refine J_iadd (z := 0) dX12_beans_60 (by decide +kernel) ?_
  refine J_iload_n dX12_beans_61 rfl rfl ?_
  refine K_iast (i2 := 0) dX12_beans_62 hk100 rfl (jin (by decide +kernel)) (by decide +kernel) ?_
  refine J_aload_n dX12_beans_63 rfl rfl ?_
  refine J_callV (st := []) dX12_beans_64 cv_X12_153 (c_X12_newBeans_2 hk98 rfl) hk98 rfl rfl (Nat.le_of_ble_eq_true rfl) ⟨(Nat.le_of_ble_eq_true rfl), (Nat.le_of_ble_eq_true rfl)⟩ ⟨(Nat.le_of_ble_eq_true rfl), (Nat.le_of_ble_eq_true rfl)⟩ (fun r h9 hp => ?_)
  obtain ⟨rfl, rfl⟩ := hp
  refine J_nf (nh2 := nh) (ck2 := 0) (sk2 := 0) (st2 := []) rfl rfl rfl rfl ?_
  refine J_app (L3 := [(100, .inl (0, 4870, .inl (upd (upd (upd (upd (upd (fun _ => 0) 63 (-1)) 0 1) 59 0) 61 0) 60 0))), (100, .inl (0, 4870, .inl (upd (upd (fun _ => 0) 63 (-1)) 0 1)))]) rfl ?_
  refine J_aload_n dX12_beans_67 rfl rfl ?_
  refine J_iload_n dX12_beans_68 rfl rfl ?_
  refine J_callV (st := []) dX12_beans_69 cv_X12_146 (c_X12_good_1 hk98) hk98 rfl rfl (Nat.le_of_ble_eq_true rfl) ⟨(Nat.le_of_ble_eq_true rfl), (Nat.le_of_ble_eq_true rfl)⟩ ⟨(Nat.le_of_ble_eq_true rfl), (Nat.le_of_ble_eq_true rfl)⟩ (fun r h9 hp => ?_)
  obtain ⟨rfl, rfl⟩ := hp
  refine J_nf (nh2 := nh) (ck2 := 0) (sk2 := 0) (st2 := [.int 0]) rfl rfl rfl rfl ?_
  refine J_app (L3 := [(98, .inr (12, [.int 0, .int 1, .ref 99, .ref 100, .ref 101, .ref 102, .ref 103, .ref 104, .ref 105, .int 0, .int (-1), .ref 106, .ref 107, .ref 108, .int 0, .int 0, .int 0, .int 0, .int 0, .int 0, .int 0, .ref 109, .int 0, .int 0, .ref 110, .ref 111, .ref 112, .ref 113, .ref 114, .ref 115, .ref 116, .ref 117, .int 0, .int 0, .int (-1), .int (-1), .ref 118, .ref 119, .ref 120, .ref 121, .ref 122, .ref 123, .ref 124, .ref 125, .ref 126, .ref 127, .ref 128, .ref 129, .int 0, .ref 130, .ref 131, .ref 132, .ref 133, .ref 134, .int 0, .int 0])), (100, .inl (0, 4870, .inl (upd (upd (upd (upd (upd (fun _ => 0) 63 (-1)) 0 1) 59 0) 61 0) 60 0))), (100, .inl (0, 4870, .inl (upd (upd (fun _ => 0) 63 (-1)) 0 1)))]) rfl ?_
  refine J_mask (L2 := [(98, .inr (12, [.int 0, .int 1, .ref 99, .ref 100, .ref 101, .ref 102, .ref 103, .ref 104, .ref 105, .int 0, .int (-1), .ref 106, .ref 107, .ref 108, .int 0, .int 0, .int 0, .int 0, .int 0, .int 0, .int 0, .ref 109, .int 0, .int 0, .ref 110, .ref 111, .ref 112, .ref 113, .ref 114, .ref 115, .ref 116, .ref 117, .int 0, .int 0, .int (-1), .int (-1), .ref 118, .ref 119, .ref 120, .ref 121, .ref 122, .ref 123, .ref 124, .ref 125, .ref 126, .ref 127, .ref 128, .ref 129, .int 0, .ref 130, .ref 131, .ref 132, .ref 133, .ref 134, .int 0, .int 0])), (100, .inl (0, 4870, .inl (upd (upd (upd (upd (upd (fun _ => 0) 63 (-1)) 0 1) 59 0) 61 0) 60 0)))]) (ks := [98, 100, 100]) [true, true, false] rfl (by decide +kernel) rfl ?_
  exact J_iret dX12_beans_72 rfl rfl (Nat.le_of_ble_eq_true rfl) (Nat.le_of_ble_eq_true rfl) ⟨rfl, rfl⟩
set_option maxHeartbeats 4000000 in
set_option maxRecDepth 100000 in
theorem c_X0_packed_3 {l : Launch} {G : jG} {nh : Nat} {fh : Nat → Option va_E} (hk51 : fh 51 = some (.inr (0, [.ref 52, .ref 53, .int 0, .int 2]))) (hk53 : fh 53 = some (.inl (0, 7, .inl (upd (upd (fun _ => 0) 0 0) 1 0)))) : JM l G yX0_packed MX0_packed { frames := 1, cells := 0, slots := 0, locals := 21 } [.ref 51] (nh, fh) (fun r h9 => r = some (.int 0) ∧ h9 = (nh, fh)) := by
  refine JM.of (by decide) rfl (fun h => by cases h) (Nat.le_of_ble_eq_true rfl) ⟨2, rfl⟩ ?_
  refine J_hc0 (J_ls (ls2 := [some (.ref 51), none, none]) rfl ?_)
  refine J_iconst (v := 0) dX0_packed_0 (by decide) ?_
  refine J_istore_n dX0_packed_1 rfl (Nat.le_of_ble_eq_true rfl) rfl ?_
  refine J_iconst (v := 0) dX0_packed_2 (by decide) ?_
  refine J_istore_n dX0_packed_3 rfl (Nat.le_of_ble_eq_true rfl) rfl ?_
  refine J_iload_n dX0_packed_4 rfl rfl ?_
  refine J_aload_n dX0_packed_5 rfl rfl ?_
  refine J_get (v := .int 2) dX0_packed_6 fl_X0_22 hk51 rfl ?_
  refine J_icmp_ge (tgt := 29) dX0_packed_9 (by decide) (fun q => absurd q (by decide +kernel)) (fun _ => ?_)
  refine J_iload_n dX0_packed_12 rfl rfl ?_
  refine J_aload_n dX0_packed_13 rfl rfl ?_
  refine J_get (v := .ref 53) dX0_packed_14 fl_X0_15 hk51 rfl ?_
  refine J_iload_n dX0_packed_17 rfl rfl ?_
  refine J_iald (i2 := 0) (v := 0) dX0_packed_18 hk53 rfl (jin (by decide +kernel)) (by decide +kernel) rfl ?_
  refine J_callS (st := []) dX0_packed_19 cs_X0_33 (c_X0_behind_1 ) rfl rfl (Nat.le_of_ble_eq_true rfl) ⟨(Nat.le_of_ble_eq_true rfl), (Nat.le_of_ble_eq_true rfl)⟩ ⟨(Nat.le_of_ble_eq_true rfl), (Nat.le_of_ble_eq_true rfl)⟩ (fun r h9 hp => ?_)
  obtain ⟨rfl, rfl⟩ := hp
  refine J_nf (nh2 := nh) (ck2 := 0) (sk2 := 0) (st2 := [.int 0]) rfl rfl rfl rfl ?_
  refine J_istore_n dX0_packed_22 rfl (Nat.le_of_ble_eq_true rfl) rfl ?_
  refine J_iinc (v := 1) dX0_packed_23 rfl (by decide +kernel) (Nat.le_of_ble_eq_true rfl) rfl ?_
  refine J_ls (ls2 := [some (.ref 51), some (.int 0), some (.int 1)]) rfl ?_
  refine J_goto (tgt := 4) dX0_packed_26 (by decide) ?_
  refine J_iload_n dX0_packed_4 rfl rfl ?_
  refine J_aload_n dX0_packed_5 rfl rfl ?_
  refine J_get (v := .int 2) dX0_packed_6 fl_X0_22 hk51 rfl ?_
  refine J_icmp_ge (tgt := 29) dX0_packed_9 (by decide) (fun q => absurd q (by decide +kernel)) (fun _ => ?_)
  refine J_iload_n dX0_packed_12 rfl rfl ?_
  refine J_aload_n dX0_packed_13 rfl rfl ?_
  refine J_get (v := .ref 53) dX0_packed_14 fl_X0_15 hk51 rfl ?_
  refine J_iload_n dX0_packed_17 rfl rfl ?_
  refine J_iald (i2 := 1) (v := 0) dX0_packed_18 hk53 rfl (jin (by decide +kernel)) (by decide +kernel) rfl ?_
  refine J_callS (st := []) dX0_packed_19 cs_X0_33 (c_X0_behind_1 ) rfl rfl (Nat.le_of_ble_eq_true rfl) ⟨(Nat.le_of_ble_eq_true rfl), (Nat.le_of_ble_eq_true rfl)⟩ ⟨(Nat.le_of_ble_eq_true rfl), (Nat.le_of_ble_eq_true rfl)⟩ (fun r h9 hp => ?_)
  obtain ⟨rfl, rfl⟩ := hp
  refine J_nf (nh2 := nh) (ck2 := 0) (sk2 := 0) (st2 := [.int 0]) rfl rfl rfl rfl ?_
  refine J_istore_n dX0_packed_22 rfl (Nat.le_of_ble_eq_true rfl) rfl ?_
  refine J_iinc (v := 2) dX0_packed_23 rfl (by decide +kernel) (Nat.le_of_ble_eq_true rfl) rfl ?_
  refine J_ls (ls2 := [some (.ref 51), some (.int 0), some (.int 2)]) rfl ?_
  refine J_goto (tgt := 4) dX0_packed_26 (by decide) ?_
  refine J_iload_n dX0_packed_4 rfl rfl ?_
  refine J_aload_n dX0_packed_5 rfl rfl ?_
  refine J_get (v := .int 2) dX0_packed_6 fl_X0_22 hk51 rfl ?_
  refine J_icmp_ge (tgt := 29) dX0_packed_9 (by decide) (fun _ => ?_) (fun q => absurd (by decide +kernel) q)
  refine J_iload_n dX0_packed_29 rfl rfl ?_
  exact J_iret dX0_packed_30 rfl rfl (Nat.le_of_ble_eq_true rfl) (Nat.le_of_ble_eq_true rfl) ⟨rfl, rfl⟩
set_option maxHeartbeats 4000000 in
set_option maxRecDepth 100000 in
theorem c_X0_nextOrder_3 {l : Launch} {G : jG} {nh : Nat} {fh : Nat → Option va_E} (hk51 : fh 51 = some (.inr (0, [.ref 52, .ref 53, .int 1, .int 2]))) (hk53 : fh 53 = some (.inl (0, 7, .inl (upd (upd (fun _ => 0) 0 0) 1 0)))) : JM l G yX0_nextOrder MX0_nextOrder { frames := 0, cells := 0, slots := 0, locals := 0 } [.ref 51] (nh, fh) (fun r h9 => r = some (.int 0) ∧ h9 = (nh, fh)) := by
  refine JM.of (by decide) rfl (fun h => by cases h) (Nat.le_of_ble_eq_true rfl) ⟨4, rfl⟩ ?_
  refine J_hc0 (J_ls (ls2 := [some (.ref 51), none, none, none, none]) rfl ?_)
  refine J_aload_n dX0_nextOrder_0 rfl rfl ?_
  refine J_get (v := .int 2) dX0_nextOrder_1 fl_X0_22 hk51 rfl ?_
  refine J_iconst (v := 2) dX0_nextOrder_4 (by decide) ?_
  refine J_isub (z := 0) dX0_nextOrder_5 (by decide +kernel) ?_
  refine J_istore_n dX0_nextOrder_6 rfl (Nat.le_of_ble_eq_true rfl) rfl ?_
  refine J_iload_n dX0_nextOrder_7 rfl rfl ?_
  refine J_if_lt (tgt := 34) dX0_nextOrder_8 (by decide) (fun q => absurd q (by decide +kernel)) (fun _ => ?_)
  refine J_aload_n dX0_nextOrder_11 rfl rfl ?_
  refine J_get (v := .ref 53) dX0_nextOrder_12 fl_X0_15 hk51 rfl ?_
  refine J_iload_n dX0_nextOrder_15 rfl rfl ?_
  refine J_iald (i2 := 0) (v := 0) dX0_nextOrder_16 hk53 rfl (jin (by decide +kernel)) (by decide +kernel) rfl ?_
  refine J_aload_n dX0_nextOrder_17 rfl rfl ?_
  refine J_get (v := .ref 53) dX0_nextOrder_18 fl_X0_15 hk51 rfl ?_
  refine J_iload_n dX0_nextOrder_21 rfl rfl ?_
  refine J_iconst (v := 1) dX0_nextOrder_22 (by decide) ?_
  refine J_iadd (z := 1) dX0_nextOrder_23 (by decide +kernel) ?_
  refine J_iald (i2 := 1) (v := 0) dX0_nextOrder_24 hk53 rfl (jin (by decide +kernel)) (by decide +kernel) rfl ?_
  refine J_icmp_lt (tgt := 34) dX0_nextOrder_25 (by decide) (fun q => absurd q (by decide +kernel)) (fun _ => ?_)
  refine J_iinc (v := (-1)) dX0_nextOrder_28 rfl (by decide +kernel) (Nat.le_of_ble_eq_true rfl) rfl ?_
  refine J_ls (ls2 := [some (.ref 51), some (.int (-1)), none, none, none]) rfl ?_
  refine J_goto (tgt := 7) dX0_nextOrder_31 (by decide) ?_
  refine J_iload_n dX0_nextOrder_7 rfl rfl ?_
  refine J_if_lt (tgt := 34) dX0_nextOrder_8 (by decide) (fun _ => ?_) (fun q => absurd (by decide +kernel) q)
  refine J_iload_n dX0_nextOrder_34 rfl rfl ?_
  refine J_if_ge (tgt := 40) dX0_nextOrder_35 (by decide) (fun q => absurd q (by decide +kernel)) (fun _ => ?_)
  refine J_iconst (v := 0) dX0_nextOrder_38 (by decide) ?_
  exact J_iret dX0_nextOrder_39 rfl (by decide +kernel) (Nat.le_of_ble_eq_true rfl) (Nat.le_of_ble_eq_true rfl) ⟨rfl, rfl⟩
