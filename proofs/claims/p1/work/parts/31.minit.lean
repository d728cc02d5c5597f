/-! contracts at a fresh object: written by wip/tools/p1.py -/
set_option maxHeartbeats 4000000 in
set_option maxRecDepth 100000 in
theorem c_X12_init_1 {l : Launch} {G : jG} {fh : Nat → Option va_E} (hk98 : fh 98 = some (.inr (12, [.int 0, .int 0, .null, .null, .null, .null, .null, .null, .null, .int 0, .int 0, .null, .null, .null, .int 0, .int 0, .int 0, .int 0, .int 0, .int 0, .int 0, .null, .int 0, .int 0, .null, .null, .null, .null, .null, .null, .null, .null, .int 0, .int 0, .int 0, .int 0, .null, .null, .null, .null, .null, .null, .null, .null, .null, .null, .null, .null, .int 0, .null, .null, .null, .null, .null, .int 0, .int 0]))) : JM l G yX12_init MX12_init { frames := 1, cells := 36, slots := 388752, locals := 12 } [.ref 98] (99, fh) (fun r h9 => r = none ∧ h9 = (135, hc fh [(100, .inl (0, 4870, .inl (upd (fun _ => 0) 63 (-1)))), (98, .inr (12, [.int 0, .int 0, .ref 99, .ref 100, .ref 101, .ref 102, .ref 103, .ref 104, .ref 105, .int 0, .int (-1), .ref 106, .ref 107, .ref 108, .int 0, .int 0, .int 0, .int 0, .int 0, .int 0, .int 0, .ref 109, .int 0, .int 0, .ref 110, .ref 111, .ref 112, .ref 113, .ref 114, .ref 115, .ref 116, .ref 117, .int 0, .int 0, .int (-1), .int (-1), .ref 118, .ref 119, .ref 120, .ref 121, .ref 122, .ref 123, .ref 124, .ref 125, .ref 126, .ref 127, .ref 128, .ref 129, .int 0, .ref 130, .ref 131, .ref 132, .ref 133, .ref 134, .int 0, .int 0])), (134, .inl (0, 1260, .inl (fun _ => 0))), (133, .inl (0, 1600, .inl (fun _ => 0))), (132, .inl (0, 1600, .inl (fun _ => 0))), (131, .inl (0, 1261, .inl (fun _ => 0))), (130, .inl (2, 1260, .inl (fun _ => 0))), (129, .inl (2, 229376, .inl (fun _ => 0))), (128, .inl (1, 1260, .inr (.inl (fun _ => 0)))), (127, .inl (1, 1260, .inr (.inl (fun _ => 0)))), (126, .inl (0, 1260, .inl (fun _ => 0))), (125, .inl (0, 1260, .inl (fun _ => 0))), (124, .inl (2, 27720, .inl (fun _ => 0))), (123, .inl (0, 1260, .inl (fun _ => 0))), (122, .inl (2, 1260, .inl (fun _ => 0))), (121, .inl (0, 1260, .inl (fun _ => 0))), (120, .inl (0, 1260, .inl (fun _ => 0))), (119, .inl (1, 1260, .inr (.inl (fun _ => 0)))), (118, .inl (0, 1260, .inl (fun _ => 0))), (117, .inl (0, 7, .inl (fun _ => 0))), (116, .inl (0, 1260, .inl (fun _ => 0))), (115, .inl (0, 27720, .inl (fun _ => 0))), (114, .inl (0, 1260, .inl (fun _ => 0))), (113, .inl (0, 27720, .inl (fun _ => 0))), (112, .inl (0, 27720, .inl (fun _ => 0))), (111, .inl (0, 1260, .inl (fun _ => 0))), (110, .inl (0, 8820, .inl (fun _ => 0))), (109, .inl (0, 8, .inl (fun _ => 0))), (108, .inl (0, 401, .inl (fun _ => 0))), (107, .inl (0, 401, .inl (fun _ => 0))), (106, .inl (0, 401, .inl (fun _ => 0))), (105, .inl (0, 5, .inl (fun _ => 0))), (104, .inl (3, 400, .inl (fun _ => 0))), (103, .inl (3, 73, .inl (upd (upd (upd (upd (upd (upd (upd (upd (upd (upd (upd (upd (upd (upd (upd (upd (upd (upd (upd (upd (upd (upd (upd (upd (upd (upd (upd (upd (upd (upd (upd (upd (upd (upd (upd (upd (upd (upd (upd (upd (upd (upd (upd (upd (upd (upd (upd (upd (upd (upd (upd (upd (upd (upd (upd (upd (upd (upd (upd (upd (upd (upd (upd (upd (upd (upd (upd (upd (upd (upd (upd (upd (upd (fun _ => 0) 0 116) 1 97) 2 107) 3 101) 4 115) 5 32) 6 108) 7 101) 8 116) 9 115) 10 32) 11 98) 12 97) 13 114) 14 115) 15 32) 16 105) 17 102) 18 32) 19 111) 20 114) 21 32) 22 97) 23 110) 24 100) 25 32) 26 110) 27 111) 28 116) 29 32) 30 108) 31 101) 32 102) 33 116) 34 32) 35 114) 36 105) 37 103) 38 104) 39 116) 40 32) 41 111) 42 110) 43 101) 44 32) 45 111) 46 116) 47 104) 48 101) 49 114) 50 32) 51 97) 52 112) 53 97) 54 114) 55 116) 56 32) 57 102) 58 105) 59 114) 60 115) 61 116) 62 32) 63 98) 64 101) 65 97) 66 110) 67 115) 68 32) 69 100) 70 97) 71 121) 72 32))), (102, .inl (2, 2, .inl (fun _ => 0))), (101, .inl (0, 9740, .inl (fun _ => 0))), (99, .inl (0, 7, .inl (fun _ => 0)))])) := by
  refine JM.of (by decide) rfl (fun _ => rfl) (Nat.le_of_ble_eq_true rfl) ⟨0, rfl⟩ ?_
  refine J_hc0 (J_ls (ls2 := [some (.ref 98)]) rfl ?_)
  refine J_aload_n dX12_init_0 rfl rfl ?_
  refine J_objInit dX12_init_1 (jt6 72 rfl rfl) (jt1 27 rfl rfl) (jt1 28 rfl rfl) (Nat.le_of_ble_eq_true rfl) (Nat.le_of_ble_eq_true rfl) ?_
  refine J_aload_n dX12_init_4 rfl rfl ?_
  refine J_bipush (v := 7) dX12_init_5 (by decide +kernel) ?_
  refine K_newa (t := 0) (N := 7) (a0 := (7, .inl (fun _ => 0))) (nh2 := 100) (ck2 := 1) (sk2 := 7) dX12_init_7 rfl (jt1 98 rfl rfl) rfl (fun _ _ h9 => h9) (fun _ => rfl) (fun _ => rfl) (by decide +kernel) (by decide +kernel) (Nat.le_of_ble_eq_true rfl) (Nat.le_of_ble_eq_true rfl) (Nat.le_of_ble_eq_true rfl) rfl rfl rfl ?_
  refine K_putF (fs2 := [.int 0, .int 0, .ref 99, .null, .null, .null, .null, .null, .null, .int 0, .int 0, .null, .null, .null, .int 0, .int 0, .int 0, .int 0, .int 0, .int 0, .int 0, .null, .int 0, .int 0, .null, .null, .null, .null, .null, .null, .null, .null, .int 0, .int 0, .int 0, .int 0, .null, .null, .null, .null, .null, .null, .null, .null, .null, .null, .null, .null, .int 0, .null, .null, .null, .null, .null, .int 0, .int 0]) dX12_init_9 rfl fw_X12_7 hk98 (Nat.le_of_ble_eq_true rfl) (fun _ => ⟨rfl, rfl⟩) rfl ?_
  refine J_aload_n dX12_init_12 rfl rfl ?_
  refine J_sipush (v := 4870) dX12_init_13 (by decide +kernel) ?_
  refine K_newa (t := 0) (N := 4870) (a0 := (4870, .inl (fun _ => 0))) (nh2 := 101) (ck2 := 2) (sk2 := 4877) dX12_init_16 rfl (jt1 98 rfl rfl) rfl (fun _ _ h9 => h9) (fun _ => rfl) (fun _ => rfl) (by decide +kernel) (by decide +kernel) (Nat.le_of_ble_eq_true rfl) (Nat.le_of_ble_eq_true rfl) (Nat.le_of_ble_eq_true rfl) rfl rfl rfl ?_
  refine K_putF (fs2 := [.int 0, .int 0, .ref 99, .ref 100, .null, .null, .null, .null, .null, .int 0, .int 0, .null, .null, .null, .int 0, .int 0, .int 0, .int 0, .int 0, .int 0, .int 0, .null, .int 0, .int 0, .null, .null, .null, .null, .null, .null, .null, .null, .int 0, .int 0, .int 0, .int 0, .null, .null, .null, .null, .null, .null, .null, .null, .null, .null, .null, .null, .int 0, .null, .null, .null, .null, .null, .int 0, .int 0]) dX12_init_18 rfl fw_X12_20 rfl (Nat.le_of_ble_eq_true rfl) (fun _ => ⟨rfl, rfl⟩) rfl ?_
  refine J_aload_n dX12_init_21 rfl rfl ?_
  refine J_sipush (v := 9740) dX12_init_22 (by decide +kernel) ?_
  refine K_newa (t := 0) (N := 9740) (a0 := (9740, .inl (fun _ => 0))) (nh2 := 102) (ck2 := 3) (sk2 := 14617) dX12_init_25 rfl (jt1 98 rfl rfl) rfl (fun _ _ h9 => h9) (fun _ => rfl) (fun _ => rfl) (by decide +kernel) (by decide +kernel) (Nat.le_of_ble_eq_true rfl) (Nat.le_of_ble_eq_true rfl) (Nat.le_of_ble_eq_true rfl) rfl rfl rfl ?_
  refine K_putF (fs2 := [.int 0, .int 0, .ref 99, .ref 100, .ref 101, .null, .null, .null, .null, .int 0, .int 0, .null, .null, .null, .int 0, .int 0, .int 0, .int 0, .int 0, .int 0, .int 0, .null, .int 0, .int 0, .null, .null, .null, .null, .null, .null, .null, .null, .int 0, .int 0, .int 0, .int 0, .null, .null, .null, .null, .null, .null, .null, .null, .null, .null, .null, .null, .int 0, .null, .null, .null, .null, .null, .int 0, .int 0]) dX12_init_27 rfl fw_X12_23 rfl (Nat.le_of_ble_eq_true rfl) (fun _ => ⟨rfl, rfl⟩) rfl ?_
  refine J_aload_n dX12_init_30 rfl rfl ?_
  refine J_iconst (v := 2) dX12_init_31 (by decide) ?_
  refine K_newa (t := 2) (N := 2) (a0 := (2, .inl (fun _ => 0))) (nh2 := 103) (ck2 := 4) (sk2 := 14619) dX12_init_32 rfl (jt1 119 rfl rfl) rfl (fun _ _ h9 => h9) (fun _ => rfl) (fun _ => rfl) (by decide +kernel) (by decide +kernel) (Nat.le_of_ble_eq_true rfl) (Nat.le_of_ble_eq_true rfl) (Nat.le_of_ble_eq_true rfl) rfl rfl rfl ?_
  refine K_putF (fs2 := [.int 0, .int 0, .ref 99, .ref 100, .ref 101, .ref 102, .null, .null, .null, .int 0, .int 0, .null, .null, .null, .int 0, .int 0, .int 0, .int 0, .int 0, .int 0, .int 0, .null, .int 0, .int 0, .null, .null, .null, .null, .null, .null, .null, .null, .int 0, .int 0, .int 0, .int 0, .null, .null, .null, .null, .null, .null, .null, .null, .null, .null, .null, .null, .int 0, .null, .null, .null, .null, .null, .int 0, .int 0]) dX12_init_34 rfl fw_X12_26 rfl (Nat.le_of_ble_eq_true rfl) (fun _ => ⟨rfl, rfl⟩) rfl ?_
  refine J_aload_n dX12_init_37 rfl rfl ?_
  refine J_bipush (v := 73) dX12_init_38 (by decide +kernel) ?_
  refine K_newa (t := 3) (N := 73) (a0 := (73, .inl (fun _ => 0))) (nh2 := 104) (ck2 := 5) (sk2 := 14692) dX12_init_40 rfl (jt4 54 rfl rfl) rfl (fun _ _ h9 => h9) (fun _ => rfl) (fun _ => rfl) (by decide +kernel) (by decide +kernel) (Nat.le_of_ble_eq_true rfl) (Nat.le_of_ble_eq_true rfl) (Nat.le_of_ble_eq_true rfl) rfl rfl rfl ?_
  refine J_dup dX12_init_42 rfl ?_
  refine J_iconst (v := 0) dX12_init_43 (by decide) ?_
  refine J_bipush (v := 116) dX12_init_44 (by decide +kernel) ?_
  refine K_bast (i2 := 0) (y := 116) dX12_init_46 rfl rfl (jin (by decide +kernel)) (by decide +kernel) (by decide +kernel) ?_
  refine J_dup dX12_init_47 rfl ?_
  refine J_iconst (v := 1) dX12_init_48 (by decide) ?_
  refine J_bipush (v := 97) dX12_init_49 (by decide +kernel) ?_
  refine K_bast (i2 := 1) (y := 97) dX12_init_51 rfl rfl (jin (by decide +kernel)) (by decide +kernel) (by decide +kernel) ?_
  refine J_dup dX12_init_52 rfl ?_
  refine J_iconst (v := 2) dX12_init_53 (by decide) ?_
  refine J_bipush (v := 107) dX12_init_54 (by decide +kernel) ?_
  refine K_bast (i2 := 2) (y := 107) dX12_init_56 rfl rfl (jin (by decide +kernel)) (by decide +kernel) (by decide +kernel) ?_
  refine J_dup dX12_init_57 rfl ?_
  refine J_iconst (v := 3) dX12_init_58 (by decide) ?_
  refine J_bipush (v := 101) dX12_init_59 (by decide +kernel) ?_
  refine K_bast (i2 := 3) (y := 101) dX12_init_61 rfl rfl (jin (by decide +kernel)) (by decide +kernel) (by decide +kernel) ?_
  refine J_dup dX12_init_62 rfl ?_
  refine J_iconst (v := 4) dX12_init_63 (by decide) ?_
  refine J_bipush (v := 115) dX12_init_64 (by decide +kernel) ?_
  refine K_bast (i2 := 4) (y := 115) dX12_init_66 rfl rfl (jin (by decide +kernel)) (by decide +kernel) (by decide +kernel) ?_
  refine J_dup dX12_init_67 rfl ?_
  refine J_iconst (v := 5) dX12_init_68 (by decide) ?_
  refine J_bipush (v := 32) dX12_init_69 (by decide +kernel) ?_
  refine K_bast (i2 := 5) (y := 32) dX12_init_71 rfl rfl (jin (by decide +kernel)) (by decide +kernel) (by decide +kernel) ?_
  refine J_dup dX12_init_72 rfl ?_
  refine J_bipush (v := 6) dX12_init_73 (by decide +kernel) ?_
  refine J_bipush (v := 108) dX12_init_75 (by decide +kernel) ?_
  refine K_bast (i2 := 6) (y := 108) dX12_init_77 rfl rfl (jin (by decide +kernel)) (by decide +kernel) (by decide +kernel) ?_
  refine J_dup dX12_init_78 rfl ?_
  refine J_bipush (v := 7) dX12_init_79 (by decide +kernel) ?_
  refine J_bipush (v := 101) dX12_init_81 (by decide +kernel) ?_
  refine K_bast (i2 := 7) (y := 101) dX12_init_83 rfl rfl (jin (by decide +kernel)) (by decide +kernel) (by decide +kernel) ?_
  refine J_dup dX12_init_84 rfl ?_
  refine J_bipush (v := 8) dX12_init_85 (by decide +kernel) ?_
  refine J_bipush (v := 116) dX12_init_87 (by decide +kernel) ?_
  refine K_bast (i2 := 8) (y := 116) dX12_init_89 rfl rfl (jin (by decide +kernel)) (by decide +kernel) (by decide +kernel) ?_
  refine J_dup dX12_init_90 rfl ?_
  refine J_bipush (v := 9) dX12_init_91 (by decide +kernel) ?_
  refine J_bipush (v := 115) dX12_init_93 (by decide +kernel) ?_
  refine K_bast (i2 := 9) (y := 115) dX12_init_95 rfl rfl (jin (by decide +kernel)) (by decide +kernel) (by decide +kernel) ?_
  refine J_dup dX12_init_96 rfl ?_
  refine J_bipush (v := 10) dX12_init_97 (by decide +kernel) ?_
  refine J_bipush (v := 32) dX12_init_99 (by decide +kernel) ?_
  refine K_bast (i2 := 10) (y := 32) dX12_init_101 rfl rfl (jin (by decide +kernel)) (by decide +kernel) (by decide +kernel) ?_
  refine J_dup dX12_init_102 rfl ?_
  refine J_bipush (v := 11) dX12_init_103 (by decide +kernel) ?_
  refine J_bipush (v := 98) dX12_init_105 (by decide +kernel) ?_
  refine K_bast (i2 := 11) (y := 98) dX12_init_107 rfl rfl (jin (by decide +kernel)) (by decide +kernel) (by decide +kernel) ?_
  refine J_dup dX12_init_108 rfl ?_
  refine J_bipush (v := 12) dX12_init_109 (by decide +kernel) ?_
  refine J_bipush (v := 97) dX12_init_111 (by decide +kernel) ?_
  refine K_bast (i2 := 12) (y := 97) dX12_init_113 rfl rfl (jin (by decide +kernel)) (by decide +kernel) (by decide +kernel) ?_
  refine J_dup dX12_init_114 rfl ?_
  refine J_bipush (v := 13) dX12_init_115 (by decide +kernel) ?_
  refine J_bipush (v := 114) dX12_init_117 (by decide +kernel) ?_
  refine K_bast (i2 := 13) (y := 114) dX12_init_119 rfl rfl (jin (by decide +kernel)) (by decide +kernel) (by decide +kernel) ?_
  refine J_dup dX12_init_120 rfl ?_
  refine J_bipush (v := 14) dX12_init_121 (by decide +kernel) ?_
  refine J_bipush (v := 115) dX12_init_123 (by decide +kernel) ?_
  refine K_bast (i2 := 14) (y := 115) dX12_init_125 rfl rfl (jin (by decide +kernel)) (by decide +kernel) (by decide +kernel) ?_
  refine J_dup dX12_init_126 rfl ?_
  refine J_bipush (v := 15) dX12_init_127 (by decide +kernel) ?_
  refine J_bipush (v := 32) dX12_init_129 (by decide +kernel) ?_
  refine K_bast (i2 := 15) (y := 32) dX12_init_131 rfl rfl (jin (by decide +kernel)) (by decide +kernel) (by decide +kernel) ?_
  refine J_dup dX12_init_132 rfl ?_
  refine J_bipush (v := 16) dX12_init_133 (by decide +kernel) ?_
  refine J_bipush (v := 105) dX12_init_135 (by decide +kernel) ?_
  refine K_bast (i2 := 16) (y := 105) dX12_init_137 rfl rfl (jin (by decide +kernel)) (by decide +kernel) (by decide +kernel) ?_
  refine J_dup dX12_init_138 rfl ?_
  refine J_bipush (v := 17) dX12_init_139 (by decide +kernel) ?_
  refine J_bipush (v := 102) dX12_init_141 (by decide +kernel) ?_
  refine K_bast (i2 := 17) (y := 102) dX12_init_143 rfl rfl (jin (by decide +kernel)) (by decide +kernel) (by decide +kernel) ?_
  refine J_dup dX12_init_144 rfl ?_
  refine J_bipush (v := 18) dX12_init_145 (by decide +kernel) ?_
  refine J_bipush (v := 32) dX12_init_147 (by decide +kernel) ?_
  refine K_bast (i2 := 18) (y := 32) dX12_init_149 rfl rfl (jin (by decide +kernel)) (by decide +kernel) (by decide +kernel) ?_
  refine J_dup dX12_init_150 rfl ?_
  refine J_bipush (v := 19) dX12_init_151 (by decide +kernel) ?_
  refine J_bipush (v := 111) dX12_init_153 (by decide +kernel) ?_
  refine K_bast (i2 := 19) (y := 111) dX12_init_155 rfl rfl (jin (by decide +kernel)) (by decide +kernel) (by decide +kernel) ?_
  refine J_dup dX12_init_156 rfl ?_
  refine J_bipush (v := 20) dX12_init_157 (by decide +kernel) ?_
  refine J_bipush (v := 114) dX12_init_159 (by decide +kernel) ?_
  refine K_bast (i2 := 20) (y := 114) dX12_init_161 rfl rfl (jin (by decide +kernel)) (by decide +kernel) (by decide +kernel) ?_
  refine J_dup dX12_init_162 rfl ?_
  refine J_bipush (v := 21) dX12_init_163 (by decide +kernel) ?_
  refine J_bipush (v := 32) dX12_init_165 (by decide +kernel) ?_
  refine K_bast (i2 := 21) (y := 32) dX12_init_167 rfl rfl (jin (by decide +kernel)) (by decide +kernel) (by decide +kernel) ?_
  refine J_dup dX12_init_168 rfl ?_
  refine J_bipush (v := 22) dX12_init_169 (by decide +kernel) ?_
  refine J_bipush (v := 97) dX12_init_171 (by decide +kernel) ?_
  refine K_bast (i2 := 22) (y := 97) dX12_init_173 rfl rfl (jin (by decide +kernel)) (by decide +kernel) (by decide +kernel) ?_
  refine J_dup dX12_init_174 rfl ?_
  refine J_bipush (v := 23) dX12_init_175 (by decide +kernel) ?_
  refine J_bipush (v := 110) dX12_init_177 (by decide +kernel) ?_
  refine K_bast (i2 := 23) (y := 110) dX12_init_179 rfl rfl (jin (by decide +kernel)) (by decide +kernel) (by decide +kernel) ?_
  refine J_dup dX12_init_180 rfl ?_
  refine J_bipush (v := 24) dX12_init_181 (by decide +kernel) ?_
  refine J_bipush (v := 100) dX12_init_183 (by decide +kernel) ?_
  refine K_bast (i2 := 24) (y := 100) dX12_init_185 rfl rfl (jin (by decide +kernel)) (by decide +kernel) (by decide +kernel) ?_
  refine J_dup dX12_init_186 rfl ?_
  refine J_bipush (v := 25) dX12_init_187 (by decide +kernel) ?_
  refine J_bipush (v := 32) dX12_init_189 (by decide +kernel) ?_
  refine K_bast (i2 := 25) (y := 32) dX12_init_191 rfl rfl (jin (by decide +kernel)) (by decide +kernel) (by decide +kernel) ?_
  refine J_dup dX12_init_192 rfl ?_
  refine J_bipush (v := 26) dX12_init_193 (by decide +kernel) ?_
  refine J_bipush (v := 110) dX12_init_195 (by decide +kernel) ?_
  refine K_bast (i2 := 26) (y := 110) dX12_init_197 rfl rfl (jin (by decide +kernel)) (by decide +kernel) (by decide +kernel) ?_
  refine J_dup dX12_init_198 rfl ?_
  refine J_bipush (v := 27) dX12_init_199 (by decide +kernel) ?_
  refine J_bipush (v := 111) dX12_init_201 (by decide +kernel) ?_
  refine K_bast (i2 := 27) (y := 111) dX12_init_203 rfl rfl (jin (by decide +kernel)) (by decide +kernel) (by decide +kernel) ?_
  refine J_dup dX12_init_204 rfl ?_
  refine J_bipush (v := 28) dX12_init_205 (by decide +kernel) ?_
  refine J_bipush (v := 116) dX12_init_207 (by decide +kernel) ?_
  refine K_bast (i2 := 28) (y := 116) dX12_init_209 rfl rfl (jin (by decide +kernel)) (by decide +kernel) (by decide +kernel) ?_
  refine J_dup dX12_init_210 rfl ?_
  refine J_bipush (v := 29) dX12_init_211 (by decide +kernel) ?_
  refine J_bipush (v := 32) dX12_init_213 (by decide +kernel) ?_
  refine K_bast (i2 := 29) (y := 32) dX12_init_215 rfl rfl (jin (by decide +kernel)) (by decide +kernel) (by decide +kernel) ?_
  refine J_dup dX12_init_216 rfl ?_
  refine J_bipush (v := 30) dX12_init_217 (by decide +kernel) ?_
  refine J_bipush (v := 108) dX12_init_219 (by decide +kernel) ?_
  refine K_bast (i2 := 30) (y := 108) dX12_init_221 rfl rfl (jin (by decide +kernel)) (by decide +kernel) (by decide +kernel) ?_
  refine J_dup dX12_init_222 rfl ?_
  refine J_bipush (v := 31) dX12_init_223 (by decide +kernel) ?_
  refine J_bipush (v := 101) dX12_init_225 (by decide +kernel) ?_
  refine K_bast (i2 := 31) (y := 101) dX12_init_227 rfl rfl (jin (by decide +kernel)) (by decide +kernel) (by decide +kernel) ?_
  refine J_dup dX12_init_228 rfl ?_
  refine J_bipush (v := 32) dX12_init_229 (by decide +kernel) ?_
  refine J_bipush (v := 102) dX12_init_231 (by decide +kernel) ?_
  refine K_bast (i2 := 32) (y := 102) dX12_init_233 rfl rfl (jin (by decide +kernel)) (by decide +kernel) (by decide +kernel) ?_
  refine J_dup dX12_init_234 rfl ?_
  refine J_bipush (v := 33) dX12_init_235 (by decide +kernel) ?_
  refine J_bipush (v := 116) dX12_init_237 (by decide +kernel) ?_
  refine K_bast (i2 := 33) (y := 116) dX12_init_239 rfl rfl (jin (by decide +kernel)) (by decide +kernel) (by decide +kernel) ?_
  refine J_dup dX12_init_240 rfl ?_
  refine J_bipush (v := 34) dX12_init_241 (by decide +kernel) ?_
  refine J_bipush (v := 32) dX12_init_243 (by decide +kernel) ?_
  refine K_bast (i2 := 34) (y := 32) dX12_init_245 rfl rfl (jin (by decide +kernel)) (by decide +kernel) (by decide +kernel) ?_
  refine J_dup dX12_init_246 rfl ?_
  refine J_bipush (v := 35) dX12_init_247 (by decide +kernel) ?_
  refine J_bipush (v := 114) dX12_init_249 (by decide +kernel) ?_
  refine K_bast (i2 := 35) (y := 114) dX12_init_251 rfl rfl (jin (by decide +kernel)) (by decide +kernel) (by decide +kernel) ?_
  refine J_dup dX12_init_252 rfl ?_
  refine J_bipush (v := 36) dX12_init_253 (by decide +kernel) ?_
  refine J_bipush (v := 105) dX12_init_255 (by decide +kernel) ?_
  refine K_bast (i2 := 36) (y := 105) dX12_init_257 rfl rfl (jin (by decide +kernel)) (by decide +kernel) (by decide +kernel) ?_
  refine J_dup dX12_init_258 rfl ?_
  refine J_bipush (v := 37) dX12_init_259 (by decide +kernel) ?_
  refine J_bipush (v := 103) dX12_init_261 (by decide +kernel) ?_
  refine K_bast (i2 := 37) (y := 103) dX12_init_263 rfl rfl (jin (by decide +kernel)) (by decide +kernel) (by decide +kernel) ?_
  refine J_dup dX12_init_264 rfl ?_
  refine J_bipush (v := 38) dX12_init_265 (by decide +kernel) ?_
  refine J_bipush (v := 104) dX12_init_267 (by decide +kernel) ?_
  refine K_bast (i2 := 38) (y := 104) dX12_init_269 rfl rfl (jin (by decide +kernel)) (by decide +kernel) (by decide +kernel) ?_
  refine J_dup dX12_init_270 rfl ?_
  refine J_bipush (v := 39) dX12_init_271 (by decide +kernel) ?_
  refine J_bipush (v := 116) dX12_init_273 (by decide +kernel) ?_
  refine K_bast (i2 := 39) (y := 116) dX12_init_275 rfl rfl (jin (by decide +kernel)) (by decide +kernel) (by decide +kernel) ?_
  refine J_dup dX12_init_276 rfl ?_
  refine J_bipush (v := 40) dX12_init_277 (by decide +kernel) ?_
  refine J_bipush (v := 32) dX12_init_279 (by decide +kernel) ?_
  refine K_bast (i2 := 40) (y := 32) dX12_init_281 rfl rfl (jin (by decide +kernel)) (by decide +kernel) (by decide +kernel) ?_
  refine J_dup dX12_init_282 rfl ?_
  refine J_bipush (v := 41) dX12_init_283 (by decide +kernel) ?_
  refine J_bipush (v := 111) dX12_init_285 (by decide +kernel) ?_
  refine K_bast (i2 := 41) (y := 111) dX12_init_287 rfl rfl (jin (by decide +kernel)) (by decide +kernel) (by decide +kernel) ?_
  refine J_dup dX12_init_288 rfl ?_
  refine J_bipush (v := 42) dX12_init_289 (by decide +kernel) ?_
  refine J_bipush (v := 110) dX12_init_291 (by decide +kernel) ?_
  refine K_bast (i2 := 42) (y := 110) dX12_init_293 rfl rfl (jin (by decide +kernel)) (by decide +kernel) (by decide +kernel) ?_
  refine J_dup dX12_init_294 rfl ?_
  refine J_bipush (v := 43) dX12_init_295 (by decide +kernel) ?_
  refine J_bipush (v := 101) dX12_init_297 (by decide +kernel) ?_
  refine K_bast (i2 := 43) (y := 101) dX12_init_299 rfl rfl (jin (by decide +kernel)) (by decide +kernel) (by decide +kernel) ?_
  refine J_dup dX12_init_300 rfl ?_
  refine J_bipush (v := 44) dX12_init_301 (by decide +kernel) ?_
  refine J_bipush (v := 32) dX12_init_303 (by decide +kernel) ?_
  refine K_bast (i2 := 44) (y := 32) dX12_init_305 rfl rfl (jin (by decide +kernel)) (by decide +kernel) (by decide +kernel) ?_
  refine J_dup dX12_init_306 rfl ?_
  refine J_bipush (v := 45) dX12_init_307 (by decide +kernel) ?_
  refine J_bipush (v := 111) dX12_init_309 (by decide +kernel) ?_
  refine K_bast (i2 := 45) (y := 111) dX12_init_311 rfl rfl (jin (by decide +kernel)) (by decide +kernel) (by decide +kernel) ?_
  refine J_dup dX12_init_312 rfl ?_
  refine J_bipush (v := 46) dX12_init_313 (by decide +kernel) ?_
  refine J_bipush (v := 116) dX12_init_315 (by decide +kernel) ?_
  refine K_bast (i2 := 46) (y := 116) dX12_init_317 rfl rfl (jin (by decide +kernel)) (by decide +kernel) (by decide +kernel) ?_
  refine J_dup dX12_init_318 rfl ?_
  refine J_bipush (v := 47) dX12_init_319 (by decide +kernel) ?_
  refine J_bipush (v := 104) dX12_init_321 (by decide +kernel) ?_
  refine K_bast (i2 := 47) (y := 104) dX12_init_323 rfl rfl (jin (by decide +kernel)) (by decide +kernel) (by decide +kernel) ?_
  refine J_dup dX12_init_324 rfl ?_
  refine J_bipush (v := 48) dX12_init_325 (by decide +kernel) ?_
  refine J_bipush (v := 101) dX12_init_327 (by decide +kernel) ?_
  refine K_bast (i2 := 48) (y := 101) dX12_init_329 rfl rfl (jin (by decide +kernel)) (by decide +kernel) (by decide +kernel) ?_
  refine J_dup dX12_init_330 rfl ?_
  refine J_bipush (v := 49) dX12_init_331 (by decide +kernel) ?_
  refine J_bipush (v := 114) dX12_init_333 (by decide +kernel) ?_
  refine K_bast (i2 := 49) (y := 114) dX12_init_335 rfl rfl (jin (by decide +kernel)) (by decide +kernel) (by decide +kernel) ?_
  refine J_dup dX12_init_336 rfl ?_
  refine J_bipush (v := 50) dX12_init_337 (by decide +kernel) ?_
  refine J_bipush (v := 32) dX12_init_339 (by decide +kernel) ?_
  refine K_bast (i2 := 50) (y := 32) dX12_init_341 rfl rfl (jin (by decide +kernel)) (by decide +kernel) (by decide +kernel) ?_
  refine J_dup dX12_init_342 rfl ?_
  refine J_bipush (v := 51) dX12_init_343 (by decide +kernel) ?_
  refine J_bipush (v := 97) dX12_init_345 (by decide +kernel) ?_
  refine K_bast (i2 := 51) (y := 97) dX12_init_347 rfl rfl (jin (by decide +kernel)) (by decide +kernel) (by decide +kernel) ?_
  refine J_dup dX12_init_348 rfl ?_
  refine J_bipush (v := 52) dX12_init_349 (by decide +kernel) ?_
  refine J_bipush (v := 112) dX12_init_351 (by decide +kernel) ?_
  refine K_bast (i2 := 52) (y := 112) dX12_init_353 rfl rfl (jin (by decide +kernel)) (by decide +kernel) (by decide +kernel) ?_
  refine J_dup dX12_init_354 rfl ?_
  refine J_bipush (v := 53) dX12_init_355 (by decide +kernel) ?_
  refine J_bipush (v := 97) dX12_init_357 (by decide +kernel) ?_
  refine K_bast (i2 := 53) (y := 97) dX12_init_359 rfl rfl (jin (by decide +kernel)) (by decide +kernel) (by decide +kernel) ?_
  refine J_dup dX12_init_360 rfl ?_
  refine J_bipush (v := 54) dX12_init_361 (by decide +kernel) ?_
  refine J_bipush (v := 114) dX12_init_363 (by decide +kernel) ?_
  refine K_bast (i2 := 54) (y := 114) dX12_init_365 rfl rfl (jin (by decide +kernel)) (by decide +kernel) (by decide +kernel) ?_
  refine J_dup dX12_init_366 rfl ?_
  refine J_bipush (v := 55) dX12_init_367 (by decide +kernel) ?_
  refine J_bipush (v := 116) dX12_init_369 (by decide +kernel) ?_
  refine K_bast (i2 := 55) (y := 116) dX12_init_371 rfl rfl (jin (by decide +kernel)) (by decide +kernel) (by decide +kernel) ?_
  refine J_dup dX12_init_372 rfl ?_
  refine J_bipush (v := 56) dX12_init_373 (by decide +kernel) ?_
  refine J_bipush (v := 32) dX12_init_375 (by decide +kernel) ?_
  refine K_bast (i2 := 56) (y := 32) dX12_init_377 rfl rfl (jin (by decide +kernel)) (by decide +kernel) (by decide +kernel) ?_
  refine J_dup dX12_init_378 rfl ?_
  refine J_bipush (v := 57) dX12_init_379 (by decide +kernel) ?_
  refine J_bipush (v := 102) dX12_init_381 (by decide +kernel) ?_
  refine K_bast (i2 := 57) (y := 102) dX12_init_383 rfl rfl (jin (by decide +kernel)) (by decide +kernel) (by decide +kernel) ?_
  refine J_dup dX12_init_384 rfl ?_
  refine J_bipush (v := 58) dX12_init_385 (by decide +kernel) ?_
  refine J_bipush (v := 105) dX12_init_387 (by decide +kernel) ?_
  refine K_bast (i2 := 58) (y := 105) dX12_init_389 rfl rfl (jin (by decide +kernel)) (by decide +kernel) (by decide +kernel) ?_
  refine J_dup dX12_init_390 rfl ?_
  refine J_bipush (v := 59) dX12_init_391 (by decide +kernel) ?_
  refine J_bipush (v := 114) dX12_init_393 (by decide +kernel) ?_
  refine K_bast (i2 := 59) (y := 114) dX12_init_395 rfl rfl (jin (by decide +kernel)) (by decide +kernel) (by decide +kernel) ?_
  refine J_dup dX12_init_396 rfl ?_
  refine J_bipush (v := 60) dX12_init_397 (by decide +kernel) ?_
  refine J_bipush (v := 115) dX12_init_399 (by decide +kernel) ?_
  refine K_bast (i2 := 60) (y := 115) dX12_init_401 rfl rfl (jin (by decide +kernel)) (by decide +kernel) (by decide +kernel) ?_
  refine J_dup dX12_init_402 rfl ?_
  refine J_bipush (v := 61) dX12_init_403 (by decide +kernel) ?_
  refine J_bipush (v := 116) dX12_init_405 (by decide +kernel) ?_
  refine K_bast (i2 := 61) (y := 116) dX12_init_407 rfl rfl (jin (by decide +kernel)) (by decide +kernel) (by decide +kernel) ?_
  refine J_dup dX12_init_408 rfl ?_
  refine J_bipush (v := 62) dX12_init_409 (by decide +kernel) ?_
  refine J_bipush (v := 32) dX12_init_411 (by decide +kernel) ?_
  refine K_bast (i2 := 62) (y := 32) dX12_init_413 rfl rfl (jin (by decide +kernel)) (by decide +kernel) (by decide +kernel) ?_
  refine J_dup dX12_init_414 rfl ?_
  refine J_bipush (v := 63) dX12_init_415 (by decide +kernel) ?_
  refine J_bipush (v := 98) dX12_init_417 (by decide +kernel) ?_
  refine K_bast (i2 := 63) (y := 98) dX12_init_419 rfl rfl (jin (by decide +kernel)) (by decide +kernel) (by decide +kernel) ?_
  refine J_dup dX12_init_420 rfl ?_
  refine J_bipush (v := 64) dX12_init_421 (by decide +kernel) ?_
  refine J_bipush (v := 101) dX12_init_423 (by decide +kernel) ?_
  refine K_bast (i2 := 64) (y := 101) dX12_init_425 rfl rfl (jin (by decide +kernel)) (by decide +kernel) (by decide +kernel) ?_
  refine J_dup dX12_init_426 rfl ?_
  refine J_bipush (v := 65) dX12_init_427 (by decide +kernel) ?_
  refine J_bipush (v := 97) dX12_init_429 (by decide +kernel) ?_
  refine K_bast (i2 := 65) (y := 97) dX12_init_431 rfl rfl (jin (by decide +kernel)) (by decide +kernel) (by decide +kernel) ?_
  refine J_dup dX12_init_432 rfl ?_
  refine J_bipush (v := 66) dX12_init_433 (by decide +kernel) ?_
  refine J_bipush (v := 110) dX12_init_435 (by decide +kernel) ?_
  refine K_bast (i2 := 66) (y := 110) dX12_init_437 rfl rfl (jin (by decide +kernel)) (by decide +kernel) (by decide +kernel) ?_
  refine J_dup dX12_init_438 rfl ?_
  refine J_bipush (v := 67) dX12_init_439 (by decide +kernel) ?_
  refine J_bipush (v := 115) dX12_init_441 (by decide +kernel) ?_
  refine K_bast (i2 := 67) (y := 115) dX12_init_443 rfl rfl (jin (by decide +kernel)) (by decide +kernel) (by decide +kernel) ?_
  refine J_dup dX12_init_444 rfl ?_
  refine J_bipush (v := 68) dX12_init_445 (by decide +kernel) ?_
  refine J_bipush (v := 32) dX12_init_447 (by decide +kernel) ?_
  refine K_bast (i2 := 68) (y := 32) dX12_init_449 rfl rfl (jin (by decide +kernel)) (by decide +kernel) (by decide +kernel) ?_
  refine J_dup dX12_init_450 rfl ?_
  refine J_bipush (v := 69) dX12_init_451 (by decide +kernel) ?_
  refine J_bipush (v := 100) dX12_init_453 (by decide +kernel) ?_
  refine K_bast (i2 := 69) (y := 100) dX12_init_455 rfl rfl (jin (by decide +kernel)) (by decide +kernel) (by decide +kernel) ?_
  refine J_dup dX12_init_456 rfl ?_
  refine J_bipush (v := 70) dX12_init_457 (by decide +kernel) ?_
  refine J_bipush (v := 97) dX12_init_459 (by decide +kernel) ?_
  refine K_bast (i2 := 70) (y := 97) dX12_init_461 rfl rfl (jin (by decide +kernel)) (by decide +kernel) (by decide +kernel) ?_
  refine J_dup dX12_init_462 rfl ?_
  refine J_bipush (v := 71) dX12_init_463 (by decide +kernel) ?_
  refine J_bipush (v := 121) dX12_init_465 (by decide +kernel) ?_
  refine K_bast (i2 := 71) (y := 121) dX12_init_467 rfl rfl (jin (by decide +kernel)) (by decide +kernel) (by decide +kernel) ?_
  refine J_dup dX12_init_468 rfl ?_
  refine J_bipush (v := 72) dX12_init_469 (by decide +kernel) ?_
  refine J_bipush (v := 32) dX12_init_471 (by decide +kernel) ?_
  refine K_bast (i2 := 72) (y := 32) dX12_init_473 rfl rfl (jin (by decide +kernel)) (by decide +kernel) (by decide +kernel) ?_
  refine K_putF (fs2 := [.int 0, .int 0, .ref 99, .ref 100, .ref 101, .ref 102, .ref 103, .null, .null, .int 0, .int 0, .null, .null, .null, .int 0, .int 0, .int 0, .int 0, .int 0, .int 0, .int 0, .null, .int 0, .int 0, .null, .null, .null, .null, .null, .null, .null, .null, .int 0, .int 0, .int 0, .int 0, .null, .null, .null, .null, .null, .null, .null, .null, .null, .null, .null, .null, .int 0, .null, .null, .null, .null, .null, .int 0, .int 0]) dX12_init_474 rfl fw_X12_30 rfl (Nat.le_of_ble_eq_true rfl) (fun _ => ⟨rfl, rfl⟩) rfl ?_
  refine J_aload_n dX12_init_477 rfl rfl ?_
  refine J_sipush (v := 400) dX12_init_478 (by decide +kernel) ?_
  refine K_newa (t := 3) (N := 400) (a0 := (400, .inl (fun _ => 0))) (nh2 := 105) (ck2 := 6) (sk2 := 15092) dX12_init_481 rfl (jt4 54 rfl rfl) rfl (fun _ _ h9 => h9) (fun _ => rfl) (fun _ => rfl) (by decide +kernel) (by decide +kernel) (Nat.le_of_ble_eq_true rfl) (Nat.le_of_ble_eq_true rfl) (Nat.le_of_ble_eq_true rfl) rfl rfl rfl ?_
  refine K_putF (fs2 := [.int 0, .int 0, .ref 99, .ref 100, .ref 101, .ref 102, .ref 103, .ref 104, .null, .int 0, .int 0, .null, .null, .null, .int 0, .int 0, .int 0, .int 0, .int 0, .int 0, .int 0, .null, .int 0, .int 0, .null, .null, .null, .null, .null, .null, .null, .null, .int 0, .int 0, .int 0, .int 0, .null, .null, .null, .null, .null, .null, .null, .null, .null, .null, .null, .null, .int 0, .null, .null, .null, .null, .null, .int 0, .int 0]) dX12_init_483 rfl fw_X12_34 rfl (Nat.le_of_ble_eq_true rfl) (fun _ => ⟨rfl, rfl⟩) rfl ?_
  refine J_aload_n dX12_init_486 rfl rfl ?_
  refine J_iconst (v := 5) dX12_init_487 (by decide) ?_
  refine K_newa (t := 0) (N := 5) (a0 := (5, .inl (fun _ => 0))) (nh2 := 106) (ck2 := 7) (sk2 := 15097) dX12_init_488 rfl (jt1 98 rfl rfl) rfl (fun _ _ h9 => h9) (fun _ => rfl) (fun _ => rfl) (by decide +kernel) (by decide +kernel) (Nat.le_of_ble_eq_true rfl) (Nat.le_of_ble_eq_true rfl) (Nat.le_of_ble_eq_true rfl) rfl rfl rfl ?_
  refine K_putF (fs2 := [.int 0, .int 0, .ref 99, .ref 100, .ref 101, .ref 102, .ref 103, .ref 104, .ref 105, .int 0, .int 0, .null, .null, .null, .int 0, .int 0, .int 0, .int 0, .int 0, .int 0, .int 0, .null, .int 0, .int 0, .null, .null, .null, .null, .null, .null, .null, .null, .int 0, .int 0, .int 0, .int 0, .null, .null, .null, .null, .null, .null, .null, .null, .null, .null, .null, .null, .int 0, .null, .null, .null, .null, .null, .int 0, .int 0]) dX12_init_490 rfl fw_X12_37 rfl (Nat.le_of_ble_eq_true rfl) (fun _ => ⟨rfl, rfl⟩) rfl ?_
  refine J_aload_n dX12_init_493 rfl rfl ?_
  refine J_iconst (v := (-1)) dX12_init_494 (by decide) ?_
  refine K_put (fs2 := [.int 0, .int 0, .ref 99, .ref 100, .ref 101, .ref 102, .ref 103, .ref 104, .ref 105, .int 0, .int (-1), .null, .null, .null, .int 0, .int 0, .int 0, .int 0, .int 0, .int 0, .int 0, .null, .int 0, .int 0, .null, .null, .null, .null, .null, .null, .null, .null, .int 0, .int 0, .int 0, .int 0, .null, .null, .null, .null, .null, .null, .null, .null, .null, .null, .null, .null, .int 0, .null, .null, .null, .null, .null, .int 0, .int 0]) dX12_init_495 fw_X12_40 rfl (Nat.le_of_ble_eq_true rfl) (fun _ => ⟨rfl, rfl⟩) rfl ?_
  refine J_aload_n dX12_init_498 rfl rfl ?_
  refine J_sipush (v := 401) dX12_init_499 (by decide +kernel) ?_
  refine K_newa (t := 0) (N := 401) (a0 := (401, .inl (fun _ => 0))) (nh2 := 107) (ck2 := 8) (sk2 := 15498) dX12_init_502 rfl (jt1 98 rfl rfl) rfl (fun _ _ h9 => h9) (fun _ => rfl) (fun _ => rfl) (by decide +kernel) (by decide +kernel) (Nat.le_of_ble_eq_true rfl) (Nat.le_of_ble_eq_true rfl) (Nat.le_of_ble_eq_true rfl) rfl rfl rfl ?_
  refine K_putF (fs2 := [.int 0, .int 0, .ref 99, .ref 100, .ref 101, .ref 102, .ref 103, .ref 104, .ref 105, .int 0, .int (-1), .ref 106, .null, .null, .int 0, .int 0, .int 0, .int 0, .int 0, .int 0, .int 0, .null, .int 0, .int 0, .null, .null, .null, .null, .null, .null, .null, .null, .int 0, .int 0, .int 0, .int 0, .null, .null, .null, .null, .null, .null, .null, .null, .null, .null, .null, .null, .int 0, .null, .null, .null, .null, .null, .int 0, .int 0]) dX12_init_504 rfl fw_X12_43 rfl (Nat.le_of_ble_eq_true rfl) (fun _ => ⟨rfl, rfl⟩) rfl ?_
  refine J_aload_n dX12_init_507 rfl rfl ?_
  refine J_sipush (v := 401) dX12_init_508 (by decide +kernel) ?_
  refine K_newa (t := 0) (N := 401) (a0 := (401, .inl (fun _ => 0))) (nh2 := 108) (ck2 := 9) (sk2 := 15899) dX12_init_511 rfl (jt1 98 rfl rfl) rfl (fun _ _ h9 => h9) (fun _ => rfl) (fun _ => rfl) (by decide +kernel) (by decide +kernel) (Nat.le_of_ble_eq_true rfl) (Nat.le_of_ble_eq_true rfl) (Nat.le_of_ble_eq_true rfl) rfl rfl rfl ?_
  refine K_putF (fs2 := [.int 0, .int 0, .ref 99, .ref 100, .ref 101, .ref 102, .ref 103, .ref 104, .ref 105, .int 0, .int (-1), .ref 106, .ref 107, .null, .int 0, .int 0, .int 0, .int 0, .int 0, .int 0, .int 0, .null, .int 0, .int 0, .null, .null, .null, .null, .null, .null, .null, .null, .int 0, .int 0, .int 0, .int 0, .null, .null, .null, .null, .null, .null, .null, .null, .null, .null, .null, .null, .int 0, .null, .null, .null, .null, .null, .int 0, .int 0]) dX12_init_513 rfl fw_X12_46 rfl (Nat.le_of_ble_eq_true rfl) (fun _ => ⟨rfl, rfl⟩) rfl ?_
  refine J_aload_n dX12_init_516 rfl rfl ?_
  refine J_sipush (v := 401) dX12_init_517 (by decide +kernel) ?_
  refine K_newa (t := 0) (N := 401) (a0 := (401, .inl (fun _ => 0))) (nh2 := 109) (ck2 := 10) (sk2 := 16300) dX12_init_520 rfl (jt1 98 rfl rfl) rfl (fun _ _ h9 => h9) (fun _ => rfl) (fun _ => rfl) (by decide +kernel) (by decide +kernel) (Nat.le_of_ble_eq_true rfl) (Nat.le_of_ble_eq_true rfl) (Nat.le_of_ble_eq_true rfl) rfl rfl rfl ?_
  refine K_putF (fs2 := [.int 0, .int 0, .ref 99, .ref 100, .ref 101, .ref 102, .ref 103, .ref 104, .ref 105, .int 0, .int (-1), .ref 106, .ref 107, .ref 108, .int 0, .int 0, .int 0, .int 0, .int 0, .int 0, .int 0, .null, .int 0, .int 0, .null, .null, .null, .null, .null, .null, .null, .null, .int 0, .int 0, .int 0, .int 0, .null, .null, .null, .null, .null, .null, .null, .null, .null, .null, .null, .null, .int 0, .null, .null, .null, .null, .null, .int 0, .int 0]) dX12_init_522 rfl fw_X12_49 rfl (Nat.le_of_ble_eq_true rfl) (fun _ => ⟨rfl, rfl⟩) rfl ?_
  refine J_aload_n dX12_init_525 rfl rfl ?_
  refine J_bipush (v := 8) dX12_init_526 (by decide +kernel) ?_
  refine K_newa (t := 0) (N := 8) (a0 := (8, .inl (fun _ => 0))) (nh2 := 110) (ck2 := 11) (sk2 := 16308) dX12_init_528 rfl (jt1 98 rfl rfl) rfl (fun _ _ h9 => h9) (fun _ => rfl) (fun _ => rfl) (by decide +kernel) (by decide +kernel) (Nat.le_of_ble_eq_true rfl) (Nat.le_of_ble_eq_true rfl) (Nat.le_of_ble_eq_true rfl) rfl rfl rfl ?_
  refine K_putF (fs2 := [.int 0, .int 0, .ref 99, .ref 100, .ref 101, .ref 102, .ref 103, .ref 104, .ref 105, .int 0, .int (-1), .ref 106, .ref 107, .ref 108, .int 0, .int 0, .int 0, .int 0, .int 0, .int 0, .int 0, .ref 109, .int 0, .int 0, .null, .null, .null, .null, .null, .null, .null, .null, .int 0, .int 0, .int 0, .int 0, .null, .null, .null, .null, .null, .null, .null, .null, .null, .null, .null, .null, .int 0, .null, .null, .null, .null, .null, .int 0, .int 0]) dX12_init_530 rfl fw_X12_52 rfl (Nat.le_of_ble_eq_true rfl) (fun _ => ⟨rfl, rfl⟩) rfl ?_
  refine J_aload_n dX12_init_533 rfl rfl ?_
  refine J_sipush (v := 8820) dX12_init_534 (by decide +kernel) ?_
  refine K_newa (t := 0) (N := 8820) (a0 := (8820, .inl (fun _ => 0))) (nh2 := 111) (ck2 := 12) (sk2 := 25128) dX12_init_537 rfl (jt1 98 rfl rfl) rfl (fun _ _ h9 => h9) (fun _ => rfl) (fun _ => rfl) (by decide +kernel) (by decide +kernel) (Nat.le_of_ble_eq_true rfl) (Nat.le_of_ble_eq_true rfl) (Nat.le_of_ble_eq_true rfl) rfl rfl rfl ?_
  refine K_putF (fs2 := [.int 0, .int 0, .ref 99, .ref 100, .ref 101, .ref 102, .ref 103, .ref 104, .ref 105, .int 0, .int (-1), .ref 106, .ref 107, .ref 108, .int 0, .int 0, .int 0, .int 0, .int 0, .int 0, .int 0, .ref 109, .int 0, .int 0, .ref 110, .null, .null, .null, .null, .null, .null, .null, .int 0, .int 0, .int 0, .int 0, .null, .null, .null, .null, .null, .null, .null, .null, .null, .null, .null, .null, .int 0, .null, .null, .null, .null, .null, .int 0, .int 0]) dX12_init_539 rfl fw_X12_55 rfl (Nat.le_of_ble_eq_true rfl) (fun _ => ⟨rfl, rfl⟩) rfl ?_
  refine J_aload_n dX12_init_542 rfl rfl ?_
  refine J_sipush (v := 1260) dX12_init_543 (by decide +kernel) ?_
  refine K_newa (t := 0) (N := 1260) (a0 := (1260, .inl (fun _ => 0))) (nh2 := 112) (ck2 := 13) (sk2 := 26388) dX12_init_546 rfl (jt1 98 rfl rfl) rfl (fun _ _ h9 => h9) (fun _ => rfl) (fun _ => rfl) (by decide +kernel) (by decide +kernel) (Nat.le_of_ble_eq_true rfl) (Nat.le_of_ble_eq_true rfl) (Nat.le_of_ble_eq_true rfl) rfl rfl rfl ?_
  refine K_putF (fs2 := [.int 0, .int 0, .ref 99, .ref 100, .ref 101, .ref 102, .ref 103, .ref 104, .ref 105, .int 0, .int (-1), .ref 106, .ref 107, .ref 108, .int 0, .int 0, .int 0, .int 0, .int 0, .int 0, .int 0, .ref 109, .int 0, .int 0, .ref 110, .ref 111, .null, .null, .null, .null, .null, .null, .int 0, .int 0, .int 0, .int 0, .null, .null, .null, .null, .null, .null, .null, .null, .null, .null, .null, .null, .int 0, .null, .null, .null, .null, .null, .int 0, .int 0]) dX12_init_548 rfl fw_X12_58 rfl (Nat.le_of_ble_eq_true rfl) (fun _ => ⟨rfl, rfl⟩) rfl ?_
  refine J_aload_n dX12_init_551 rfl rfl ?_
  refine J_sipush (v := 27720) dX12_init_552 (by decide +kernel) ?_
  refine K_newa (t := 0) (N := 27720) (a0 := (27720, .inl (fun _ => 0))) (nh2 := 113) (ck2 := 14) (sk2 := 54108) dX12_init_555 rfl (jt1 98 rfl rfl) rfl (fun _ _ h9 => h9) (fun _ => rfl) (fun _ => rfl) (by decide +kernel) (by decide +kernel) (Nat.le_of_ble_eq_true rfl) (Nat.le_of_ble_eq_true rfl) (Nat.le_of_ble_eq_true rfl) rfl rfl rfl ?_
  refine K_putF (fs2 := [.int 0, .int 0, .ref 99, .ref 100, .ref 101, .ref 102, .ref 103, .ref 104, .ref 105, .int 0, .int (-1), .ref 106, .ref 107, .ref 108, .int 0, .int 0, .int 0, .int 0, .int 0, .int 0, .int 0, .ref 109, .int 0, .int 0, .ref 110, .ref 111, .ref 112, .null, .null, .null, .null, .null, .int 0, .int 0, .int 0, .int 0, .null, .null, .null, .null, .null, .null, .null, .null, .null, .null, .null, .null, .int 0, .null, .null, .null, .null, .null, .int 0, .int 0]) dX12_init_557 rfl fw_X12_61 rfl (Nat.le_of_ble_eq_true rfl) (fun _ => ⟨rfl, rfl⟩) rfl ?_
  refine J_aload_n dX12_init_560 rfl rfl ?_
  refine J_sipush (v := 27720) dX12_init_561 (by decide +kernel) ?_
  refine K_newa (t := 0) (N := 27720) (a0 := (27720, .inl (fun _ => 0))) (nh2 := 114) (ck2 := 15) (sk2 := 81828) dX12_init_564 rfl (jt1 98 rfl rfl) rfl (fun _ _ h9 => h9) (fun _ => rfl) (fun _ => rfl) (by decide +kernel) (by decide +kernel) (Nat.le_of_ble_eq_true rfl) (Nat.le_of_ble_eq_true rfl) (Nat.le_of_ble_eq_true rfl) rfl rfl rfl ?_
  refine K_putF (fs2 := [.int 0, .int 0, .ref 99, .ref 100, .ref 101, .ref 102, .ref 103, .ref 104, .ref 105, .int 0, .int (-1), .ref 106, .ref 107, .ref 108, .int 0, .int 0, .int 0, .int 0, .int 0, .int 0, .int 0, .ref 109, .int 0, .int 0, .ref 110, .ref 111, .ref 112, .ref 113, .null, .null, .null, .null, .int 0, .int 0, .int 0, .int 0, .null, .null, .null, .null, .null, .null, .null, .null, .null, .null, .null, .null, .int 0, .null, .null, .null, .null, .null, .int 0, .int 0]) dX12_init_566 rfl fw_X12_64 rfl (Nat.le_of_ble_eq_true rfl) (fun _ => ⟨rfl, rfl⟩) rfl ?_
  refine J_aload_n dX12_init_569 rfl rfl ?_
  refine J_sipush (v := 1260) dX12_init_570 (by decide +kernel) ?_
  refine K_newa (t := 0) (N := 1260) (a0 := (1260, .inl (fun _ => 0))) (nh2 := 115) (ck2 := 16) (sk2 := 83088) dX12_init_573 rfl (jt1 98 rfl rfl) rfl (fun _ _ h9 => h9) (fun _ => rfl) (fun _ => rfl) (by decide +kernel) (by decide +kernel) (Nat.le_of_ble_eq_true rfl) (Nat.le_of_ble_eq_true rfl) (Nat.le_of_ble_eq_true rfl) rfl rfl rfl ?_
  refine K_putF (fs2 := [.int 0, .int 0, .ref 99, .ref 100, .ref 101, .ref 102, .ref 103, .ref 104, .ref 105, .int 0, .int (-1), .ref 106, .ref 107, .ref 108, .int 0, .int 0, .int 0, .int 0, .int 0, .int 0, .int 0, .ref 109, .int 0, .int 0, .ref 110, .ref 111, .ref 112, .ref 113, .ref 114, .null, .null, .null, .int 0, .int 0, .int 0, .int 0, .null, .null, .null, .null, .null, .null, .null, .null, .null, .null, .null, .null, .int 0, .null, .null, .null, .null, .null, .int 0, .int 0]) dX12_init_575 rfl fw_X12_67 rfl (Nat.le_of_ble_eq_true rfl) (fun _ => ⟨rfl, rfl⟩) rfl ?_
  refine J_aload_n dX12_init_578 rfl rfl ?_
  refine J_sipush (v := 27720) dX12_init_579 (by decide +kernel) ?_
  refine K_newa (t := 0) (N := 27720) (a0 := (27720, .inl (fun _ => 0))) (nh2 := 116) (ck2 := 17) (sk2 := 110808) dX12_init_582 rfl (jt1 98 rfl rfl) rfl (fun _ _ h9 => h9) (fun _ => rfl) (fun _ => rfl) (by decide +kernel) (by decide +kernel) (Nat.le_of_ble_eq_true rfl) (Nat.le_of_ble_eq_true rfl) (Nat.le_of_ble_eq_true rfl) rfl rfl rfl ?_
  refine K_putF (fs2 := [.int 0, .int 0, .ref 99, .ref 100, .ref 101, .ref 102, .ref 103, .ref 104, .ref 105, .int 0, .int (-1), .ref 106, .ref 107, .ref 108, .int 0, .int 0, .int 0, .int 0, .int 0, .int 0, .int 0, .ref 109, .int 0, .int 0, .ref 110, .ref 111, .ref 112, .ref 113, .ref 114, .ref 115, .null, .null, .int 0, .int 0, .int 0, .int 0, .null, .null, .null, .null, .null, .null, .null, .null, .null, .null, .null, .null, .int 0, .null, .null, .null, .null, .null, .int 0, .int 0]) dX12_init_584 rfl fw_X12_70 rfl (Nat.le_of_ble_eq_true rfl) (fun _ => ⟨rfl, rfl⟩) rfl ?_
  refine J_aload_n dX12_init_587 rfl rfl ?_
  refine J_sipush (v := 1260) dX12_init_588 (by decide +kernel) ?_
  refine K_newa (t := 0) (N := 1260) (a0 := (1260, .inl (fun _ => 0))) (nh2 := 117) (ck2 := 18) (sk2 := 112068) dX12_init_591 rfl (jt1 98 rfl rfl) rfl (fun _ _ h9 => h9) (fun _ => rfl) (fun _ => rfl) (by decide +kernel) (by decide +kernel) (Nat.le_of_ble_eq_true rfl) (Nat.le_of_ble_eq_true rfl) (Nat.le_of_ble_eq_true rfl) rfl rfl rfl ?_
  refine K_putF (fs2 := [.int 0, .int 0, .ref 99, .ref 100, .ref 101, .ref 102, .ref 103, .ref 104, .ref 105, .int 0, .int (-1), .ref 106, .ref 107, .ref 108, .int 0, .int 0, .int 0, .int 0, .int 0, .int 0, .int 0, .ref 109, .int 0, .int 0, .ref 110, .ref 111, .ref 112, .ref 113, .ref 114, .ref 115, .ref 116, .null, .int 0, .int 0, .int 0, .int 0, .null, .null, .null, .null, .null, .null, .null, .null, .null, .null, .null, .null, .int 0, .null, .null, .null, .null, .null, .int 0, .int 0]) dX12_init_593 rfl fw_X12_73 rfl (Nat.le_of_ble_eq_true rfl) (fun _ => ⟨rfl, rfl⟩) rfl ?_
  refine J_aload_n dX12_init_596 rfl rfl ?_
  refine J_bipush (v := 7) dX12_init_597 (by decide +kernel) ?_
  refine K_newa (t := 0) (N := 7) (a0 := (7, .inl (fun _ => 0))) (nh2 := 118) (ck2 := 19) (sk2 := 112075) dX12_init_599 rfl (jt1 98 rfl rfl) rfl (fun _ _ h9 => h9) (fun _ => rfl) (fun _ => rfl) (by decide +kernel) (by decide +kernel) (Nat.le_of_ble_eq_true rfl) (Nat.le_of_ble_eq_true rfl) (Nat.le_of_ble_eq_true rfl) rfl rfl rfl ?_
  refine K_putF (fs2 := [.int 0, .int 0, .ref 99, .ref 100, .ref 101, .ref 102, .ref 103, .ref 104, .ref 105, .int 0, .int (-1), .ref 106, .ref 107, .ref 108, .int 0, .int 0, .int 0, .int 0, .int 0, .int 0, .int 0, .ref 109, .int 0, .int 0, .ref 110, .ref 111, .ref 112, .ref 113, .ref 114, .ref 115, .ref 116, .ref 117, .int 0, .int 0, .int 0, .int 0, .null, .null, .null, .null, .null, .null, .null, .null, .null, .null, .null, .null, .int 0, .null, .null, .null, .null, .null, .int 0, .int 0]) dX12_init_601 rfl fw_X12_76 rfl (Nat.le_of_ble_eq_true rfl) (fun _ => ⟨rfl, rfl⟩) rfl ?_
  refine J_aload_n dX12_init_604 rfl rfl ?_
  refine J_iconst (v := (-1)) dX12_init_605 (by decide) ?_
  refine K_put (fs2 := [.int 0, .int 0, .ref 99, .ref 100, .ref 101, .ref 102, .ref 103, .ref 104, .ref 105, .int 0, .int (-1), .ref 106, .ref 107, .ref 108, .int 0, .int 0, .int 0, .int 0, .int 0, .int 0, .int 0, .ref 109, .int 0, .int 0, .ref 110, .ref 111, .ref 112, .ref 113, .ref 114, .ref 115, .ref 116, .ref 117, .int 0, .int 0, .int (-1), .int 0, .null, .null, .null, .null, .null, .null, .null, .null, .null, .null, .null, .null, .int 0, .null, .null, .null, .null, .null, .int 0, .int 0]) dX12_init_606 fw_X12_79 rfl (Nat.le_of_ble_eq_true rfl) (fun _ => ⟨rfl, rfl⟩) rfl ?_
  refine J_aload_n dX12_init_609 rfl rfl ?_
  refine J_iconst (v := (-1)) dX12_init_610 (by decide) ?_
  refine K_put (fs2 := [.int 0, .int 0, .ref 99, .ref 100, .ref 101, .ref 102, .ref 103, .ref 104, .ref 105, .int 0, .int (-1), .ref 106, .ref 107, .ref 108, .int 0, .int 0, .int 0, .int 0, .int 0, .int 0, .int 0, .ref 109, .int 0, .int 0, .ref 110, .ref 111, .ref 112, .ref 113, .ref 114, .ref 115, .ref 116, .ref 117, .int 0, .int 0, .int (-1), .int (-1), .null, .null, .null, .null, .null, .null, .null, .null, .null, .null, .null, .null, .int 0, .null, .null, .null, .null, .null, .int 0, .int 0]) dX12_init_611 fw_X12_82 rfl (Nat.le_of_ble_eq_true rfl) (fun _ => ⟨rfl, rfl⟩) rfl ?_
  refine J_aload_n dX12_init_614 rfl rfl ?_
  refine J_sipush (v := 1260) dX12_init_615 (by decide +kernel) ?_
  refine K_newa (t := 0) (N := 1260) (a0 := (1260, .inl (fun _ => 0))) (nh2 := 119) (ck2 := 20) (sk2 := 113335) dX12_init_618 rfl (jt1 98 rfl rfl) rfl (fun _ _ h9 => h9) (fun _ => rfl) (fun _ => rfl) (by decide +kernel) (by decide +kernel) (Nat.le_of_ble_eq_true rfl) (Nat.le_of_ble_eq_true rfl) (Nat.le_of_ble_eq_true rfl) rfl rfl rfl ?_
  refine K_putF (fs2 := [.int 0, .int 0, .ref 99, .ref 100, .ref 101, .ref 102, .ref 103, .ref 104, .ref 105, .int 0, .int (-1), .ref 106, .ref 107, .ref 108, .int 0, .int 0, .int 0, .int 0, .int 0, .int 0, .int 0, .ref 109, .int 0, .int 0, .ref 110, .ref 111, .ref 112, .ref 113, .ref 114, .ref 115, .ref 116, .ref 117, .int 0, .int 0, .int (-1), .int (-1), .ref 118, .null, .null, .null, .null, .null, .null, .null, .null, .null, .null, .null, .int 0, .null, .null, .null, .null, .null, .int 0, .int 0]) dX12_init_620 rfl fw_X12_85 rfl (Nat.le_of_ble_eq_true rfl) (fun _ => ⟨rfl, rfl⟩) rfl ?_
  refine J_aload_n dX12_init_623 rfl rfl ?_
  refine J_sipush (v := 1260) dX12_init_624 (by decide +kernel) ?_
  refine K_newa (t := 1) (N := 1260) (a0 := (1260, .inr (.inl (fun _ => 0)))) (nh2 := 120) (ck2 := 21) (sk2 := 114595) dX12_init_627 rfl (jt1 194 rfl rfl) rfl (fun _ _ h9 => h9) (fun _ => rfl) (fun _ => rfl) (by decide +kernel) (by decide +kernel) (Nat.le_of_ble_eq_true rfl) (Nat.le_of_ble_eq_true rfl) (Nat.le_of_ble_eq_true rfl) rfl rfl rfl ?_
  refine K_putF (fs2 := [.int 0, .int 0, .ref 99, .ref 100, .ref 101, .ref 102, .ref 103, .ref 104, .ref 105, .int 0, .int (-1), .ref 106, .ref 107, .ref 108, .int 0, .int 0, .int 0, .int 0, .int 0, .int 0, .int 0, .ref 109, .int 0, .int 0, .ref 110, .ref 111, .ref 112, .ref 113, .ref 114, .ref 115, .ref 116, .ref 117, .int 0, .int 0, .int (-1), .int (-1), .ref 118, .ref 119, .null, .null, .null, .null, .null, .null, .null, .null, .null, .null, .int 0, .null, .null, .null, .null, .null, .int 0, .int 0]) dX12_init_629 rfl fw_X12_88 rfl (Nat.le_of_ble_eq_true rfl) (fun _ => ⟨rfl, rfl⟩) rfl ?_
  refine J_aload_n dX12_init_632 rfl rfl ?_
  refine J_sipush (v := 1260) dX12_init_633 (by decide +kernel) ?_
  refine K_newa (t := 0) (N := 1260) (a0 := (1260, .inl (fun _ => 0))) (nh2 := 121) (ck2 := 22) (sk2 := 115855) dX12_init_636 rfl (jt1 98 rfl rfl) rfl (fun _ _ h9 => h9) (fun _ => rfl) (fun _ => rfl) (by decide +kernel) (by decide +kernel) (Nat.le_of_ble_eq_true rfl) (Nat.le_of_ble_eq_true rfl) (Nat.le_of_ble_eq_true rfl) rfl rfl rfl ?_
  refine K_putF (fs2 := [.int 0, .int 0, .ref 99, .ref 100, .ref 101, .ref 102, .ref 103, .ref 104, .ref 105, .int 0, .int (-1), .ref 106, .ref 107, .ref 108, .int 0, .int 0, .int 0, .int 0, .int 0, .int 0, .int 0, .ref 109, .int 0, .int 0, .ref 110, .ref 111, .ref 112, .ref 113, .ref 114, .ref 115, .ref 116, .ref 117, .int 0, .int 0, .int (-1), .int (-1), .ref 118, .ref 119, .ref 120, .null, .null, .null, .null, .null, .null, .null, .null, .null, .int 0, .null, .null, .null, .null, .null, .int 0, .int 0]) dX12_init_638 rfl fw_X12_92 rfl (Nat.le_of_ble_eq_true rfl) (fun _ => ⟨rfl, rfl⟩) rfl ?_
  refine J_aload_n dX12_init_641 rfl rfl ?_
  refine J_sipush (v := 1260) dX12_init_642 (by decide +kernel) ?_
  refine K_newa (t := 0) (N := 1260) (a0 := (1260, .inl (fun _ => 0))) (nh2 := 122) (ck2 := 23) (sk2 := 117115) dX12_init_645 rfl (jt1 98 rfl rfl) rfl (fun _ _ h9 => h9) (fun _ => rfl) (fun _ => rfl) (by decide +kernel) (by decide +kernel) (Nat.le_of_ble_eq_true rfl) (Nat.le_of_ble_eq_true rfl) (Nat.le_of_ble_eq_true rfl) rfl rfl rfl ?_
  refine K_putF (fs2 := [.int 0, .int 0, .ref 99, .ref 100, .ref 101, .ref 102, .ref 103, .ref 104, .ref 105, .int 0, .int (-1), .ref 106, .ref 107, .ref 108, .int 0, .int 0, .int 0, .int 0, .int 0, .int 0, .int 0, .ref 109, .int 0, .int 0, .ref 110, .ref 111, .ref 112, .ref 113, .ref 114, .ref 115, .ref 116, .ref 117, .int 0, .int 0, .int (-1), .int (-1), .ref 118, .ref 119, .ref 120, .ref 121, .null, .null, .null, .null, .null, .null, .null, .null, .int 0, .null, .null, .null, .null, .null, .int 0, .int 0]) dX12_init_647 rfl fw_X12_95 rfl (Nat.le_of_ble_eq_true rfl) (fun _ => ⟨rfl, rfl⟩) rfl ?_
  refine J_aload_n dX12_init_650 rfl rfl ?_
  refine J_sipush (v := 1260) dX12_init_651 (by decide +kernel) ?_
  refine K_newa (t := 2) (N := 1260) (a0 := (1260, .inl (fun _ => 0))) (nh2 := 123) (ck2 := 24) (sk2 := 118375) dX12_init_654 rfl (jt1 119 rfl rfl) rfl (fun _ _ h9 => h9) (fun _ => rfl) (fun _ => rfl) (by decide +kernel) (by decide +kernel) (Nat.le_of_ble_eq_true rfl) (Nat.le_of_ble_eq_true rfl) (Nat.le_of_ble_eq_true rfl) rfl rfl rfl ?_
  refine K_putF (fs2 := [.int 0, .int 0, .ref 99, .ref 100, .ref 101, .ref 102, .ref 103, .ref 104, .ref 105, .int 0, .int (-1), .ref 106, .ref 107, .ref 108, .int 0, .int 0, .int 0, .int 0, .int 0, .int 0, .int 0, .ref 109, .int 0, .int 0, .ref 110, .ref 111, .ref 112, .ref 113, .ref 114, .ref 115, .ref 116, .ref 117, .int 0, .int 0, .int (-1), .int (-1), .ref 118, .ref 119, .ref 120, .ref 121, .ref 122, .null, .null, .null, .null, .null, .null, .null, .int 0, .null, .null, .null, .null, .null, .int 0, .int 0]) dX12_init_656 rfl fw_X12_98 rfl (Nat.le_of_ble_eq_true rfl) (fun _ => ⟨rfl, rfl⟩) rfl ?_
  refine J_aload_n dX12_init_659 rfl rfl ?_
  refine J_sipush (v := 1260) dX12_init_660 (by decide +kernel) ?_
  refine K_newa (t := 0) (N := 1260) (a0 := (1260, .inl (fun _ => 0))) (nh2 := 124) (ck2 := 25) (sk2 := 119635) dX12_init_663 rfl (jt1 98 rfl rfl) rfl (fun _ _ h9 => h9) (fun _ => rfl) (fun _ => rfl) (by decide +kernel) (by decide +kernel) (Nat.le_of_ble_eq_true rfl) (Nat.le_of_ble_eq_true rfl) (Nat.le_of_ble_eq_true rfl) rfl rfl rfl ?_
  refine K_putF (fs2 := [.int 0, .int 0, .ref 99, .ref 100, .ref 101, .ref 102, .ref 103, .ref 104, .ref 105, .int 0, .int (-1), .ref 106, .ref 107, .ref 108, .int 0, .int 0, .int 0, .int 0, .int 0, .int 0, .int 0, .ref 109, .int 0, .int 0, .ref 110, .ref 111, .ref 112, .ref 113, .ref 114, .ref 115, .ref 116, .ref 117, .int 0, .int 0, .int (-1), .int (-1), .ref 118, .ref 119, .ref 120, .ref 121, .ref 122, .ref 123, .null, .null, .null, .null, .null, .null, .int 0, .null, .null, .null, .null, .null, .int 0, .int 0]) dX12_init_665 rfl fw_X12_101 rfl (Nat.le_of_ble_eq_true rfl) (fun _ => ⟨rfl, rfl⟩) rfl ?_
  refine J_aload_n dX12_init_668 rfl rfl ?_
  refine J_sipush (v := 27720) dX12_init_669 (by decide +kernel) ?_
  refine K_newa (t := 2) (N := 27720) (a0 := (27720, .inl (fun _ => 0))) (nh2 := 125) (ck2 := 26) (sk2 := 147355) dX12_init_672 rfl (jt1 119 rfl rfl) rfl (fun _ _ h9 => h9) (fun _ => rfl) (fun _ => rfl) (by decide +kernel) (by decide +kernel) (Nat.le_of_ble_eq_true rfl) (Nat.le_of_ble_eq_true rfl) (Nat.le_of_ble_eq_true rfl) rfl rfl rfl ?_
  refine K_putF (fs2 := [.int 0, .int 0, .ref 99, .ref 100, .ref 101, .ref 102, .ref 103, .ref 104, .ref 105, .int 0, .int (-1), .ref 106, .ref 107, .ref 108, .int 0, .int 0, .int 0, .int 0, .int 0, .int 0, .int 0, .ref 109, .int 0, .int 0, .ref 110, .ref 111, .ref 112, .ref 113, .ref 114, .ref 115, .ref 116, .ref 117, .int 0, .int 0, .int (-1), .int (-1), .ref 118, .ref 119, .ref 120, .ref 121, .ref 122, .ref 123, .ref 124, .null, .null, .null, .null, .null, .int 0, .null, .null, .null, .null, .null, .int 0, .int 0]) dX12_init_674 rfl fw_X12_104 rfl (Nat.le_of_ble_eq_true rfl) (fun _ => ⟨rfl, rfl⟩) rfl ?_
  refine J_aload_n dX12_init_677 rfl rfl ?_
  refine J_sipush (v := 1260) dX12_init_678 (by decide +kernel) ?_
  refine K_newa (t := 0) (N := 1260) (a0 := (1260, .inl (fun _ => 0))) (nh2 := 126) (ck2 := 27) (sk2 := 148615) dX12_init_681 rfl (jt1 98 rfl rfl) rfl (fun _ _ h9 => h9) (fun _ => rfl) (fun _ => rfl) (by decide +kernel) (by decide +kernel) (Nat.le_of_ble_eq_true rfl) (Nat.le_of_ble_eq_true rfl) (Nat.le_of_ble_eq_true rfl) rfl rfl rfl ?_
  refine K_putF (fs2 := [.int 0, .int 0, .ref 99, .ref 100, .ref 101, .ref 102, .ref 103, .ref 104, .ref 105, .int 0, .int (-1), .ref 106, .ref 107, .ref 108, .int 0, .int 0, .int 0, .int 0, .int 0, .int 0, .int 0, .ref 109, .int 0, .int 0, .ref 110, .ref 111, .ref 112, .ref 113, .ref 114, .ref 115, .ref 116, .ref 117, .int 0, .int 0, .int (-1), .int (-1), .ref 118, .ref 119, .ref 120, .ref 121, .ref 122, .ref 123, .ref 124, .ref 125, .null, .null, .null, .null, .int 0, .null, .null, .null, .null, .null, .int 0, .int 0]) dX12_init_683 rfl fw_X12_107 rfl (Nat.le_of_ble_eq_true rfl) (fun _ => ⟨rfl, rfl⟩) rfl ?_
  refine J_aload_n dX12_init_686 rfl rfl ?_
  refine J_sipush (v := 1260) dX12_init_687 (by decide +kernel) ?_
  refine K_newa (t := 0) (N := 1260) (a0 := (1260, .inl (fun _ => 0))) (nh2 := 127) (ck2 := 28) (sk2 := 149875) dX12_init_690 rfl (jt1 98 rfl rfl) rfl (fun _ _ h9 => h9) (fun _ => rfl) (fun _ => rfl) (by decide +kernel) (by decide +kernel) (Nat.le_of_ble_eq_true rfl) (Nat.le_of_ble_eq_true rfl) (Nat.le_of_ble_eq_true rfl) rfl rfl rfl ?_
  refine K_putF (fs2 := [.int 0, .int 0, .ref 99, .ref 100, .ref 101, .ref 102, .ref 103, .ref 104, .ref 105, .int 0, .int (-1), .ref 106, .ref 107, .ref 108, .int 0, .int 0, .int 0, .int 0, .int 0, .int 0, .int 0, .ref 109, .int 0, .int 0, .ref 110, .ref 111, .ref 112, .ref 113, .ref 114, .ref 115, .ref 116, .ref 117, .int 0, .int 0, .int (-1), .int (-1), .ref 118, .ref 119, .ref 120, .ref 121, .ref 122, .ref 123, .ref 124, .ref 125, .ref 126, .null, .null, .null, .int 0, .null, .null, .null, .null, .null, .int 0, .int 0]) dX12_init_692 rfl fw_X12_110 rfl (Nat.le_of_ble_eq_true rfl) (fun _ => ⟨rfl, rfl⟩) rfl ?_
  refine J_aload_n dX12_init_695 rfl rfl ?_
  refine J_sipush (v := 1260) dX12_init_696 (by decide +kernel) ?_
  refine K_newa (t := 1) (N := 1260) (a0 := (1260, .inr (.inl (fun _ => 0)))) (nh2 := 128) (ck2 := 29) (sk2 := 151135) dX12_init_699 rfl (jt1 194 rfl rfl) rfl (fun _ _ h9 => h9) (fun _ => rfl) (fun _ => rfl) (by decide +kernel) (by decide +kernel) (Nat.le_of_ble_eq_true rfl) (Nat.le_of_ble_eq_true rfl) (Nat.le_of_ble_eq_true rfl) rfl rfl rfl ?_
  refine K_putF (fs2 := [.int 0, .int 0, .ref 99, .ref 100, .ref 101, .ref 102, .ref 103, .ref 104, .ref 105, .int 0, .int (-1), .ref 106, .ref 107, .ref 108, .int 0, .int 0, .int 0, .int 0, .int 0, .int 0, .int 0, .ref 109, .int 0, .int 0, .ref 110, .ref 111, .ref 112, .ref 113, .ref 114, .ref 115, .ref 116, .ref 117, .int 0, .int 0, .int (-1), .int (-1), .ref 118, .ref 119, .ref 120, .ref 121, .ref 122, .ref 123, .ref 124, .ref 125, .ref 126, .ref 127, .null, .null, .int 0, .null, .null, .null, .null, .null, .int 0, .int 0]) dX12_init_701 rfl fw_X12_113 rfl (Nat.le_of_ble_eq_true rfl) (fun _ => ⟨rfl, rfl⟩) rfl ?_
  refine J_aload_n dX12_init_704 rfl rfl ?_
  refine J_sipush (v := 1260) dX12_init_705 (by decide +kernel) ?_
  refine K_newa (t := 1) (N := 1260) (a0 := (1260, .inr (.inl (fun _ => 0)))) (nh2 := 129) (ck2 := 30) (sk2 := 152395) dX12_init_708 rfl (jt1 194 rfl rfl) rfl (fun _ _ h9 => h9) (fun _ => rfl) (fun _ => rfl) (by decide +kernel) (by decide +kernel) (Nat.le_of_ble_eq_true rfl) (Nat.le_of_ble_eq_true rfl) (Nat.le_of_ble_eq_true rfl) rfl rfl rfl ?_
  refine K_putF (fs2 := [.int 0, .int 0, .ref 99, .ref 100, .ref 101, .ref 102, .ref 103, .ref 104, .ref 105, .int 0, .int (-1), .ref 106, .ref 107, .ref 108, .int 0, .int 0, .int 0, .int 0, .int 0, .int 0, .int 0, .ref 109, .int 0, .int 0, .ref 110, .ref 111, .ref 112, .ref 113, .ref 114, .ref 115, .ref 116, .ref 117, .int 0, .int 0, .int (-1), .int (-1), .ref 118, .ref 119, .ref 120, .ref 121, .ref 122, .ref 123, .ref 124, .ref 125, .ref 126, .ref 127, .ref 128, .null, .int 0, .null, .null, .null, .null, .null, .int 0, .int 0]) dX12_init_710 rfl fw_X12_116 rfl (Nat.le_of_ble_eq_true rfl) (fun _ => ⟨rfl, rfl⟩) rfl ?_
  refine J_aload_n dX12_init_713 rfl rfl ?_
  refine J_ldc (v := 229376) dX12_init_714 (jt6 73 rfl rfl) ?_
  refine K_newa (t := 2) (N := 229376) (a0 := (229376, .inl (fun _ => 0))) (nh2 := 130) (ck2 := 31) (sk2 := 381771) dX12_init_716 rfl (jt1 119 rfl rfl) rfl (fun _ _ h9 => h9) (fun _ => rfl) (fun _ => rfl) (by decide +kernel) (by decide +kernel) (Nat.le_of_ble_eq_true rfl) (Nat.le_of_ble_eq_true rfl) (Nat.le_of_ble_eq_true rfl) rfl rfl rfl ?_
  refine K_putF (fs2 := [.int 0, .int 0, .ref 99, .ref 100, .ref 101, .ref 102, .ref 103, .ref 104, .ref 105, .int 0, .int (-1), .ref 106, .ref 107, .ref 108, .int 0, .int 0, .int 0, .int 0, .int 0, .int 0, .int 0, .ref 109, .int 0, .int 0, .ref 110, .ref 111, .ref 112, .ref 113, .ref 114, .ref 115, .ref 116, .ref 117, .int 0, .int 0, .int (-1), .int (-1), .ref 118, .ref 119, .ref 120, .ref 121, .ref 122, .ref 123, .ref 124, .ref 125, .ref 126, .ref 127, .ref 128, .ref 129, .int 0, .null, .null, .null, .null, .null, .int 0, .int 0]) dX12_init_718 rfl fw_X12_120 rfl (Nat.le_of_ble_eq_true rfl) (fun _ => ⟨rfl, rfl⟩) rfl ?_
  refine J_aload_n dX12_init_721 rfl rfl ?_
  refine J_sipush (v := 1260) dX12_init_722 (by decide +kernel) ?_
  refine K_newa (t := 2) (N := 1260) (a0 := (1260, .inl (fun _ => 0))) (nh2 := 131) (ck2 := 32) (sk2 := 383031) dX12_init_725 rfl (jt1 119 rfl rfl) rfl (fun _ _ h9 => h9) (fun _ => rfl) (fun _ => rfl) (by decide +kernel) (by decide +kernel) (Nat.le_of_ble_eq_true rfl) (Nat.le_of_ble_eq_true rfl) (Nat.le_of_ble_eq_true rfl) rfl rfl rfl ?_
  refine K_putF (fs2 := [.int 0, .int 0, .ref 99, .ref 100, .ref 101, .ref 102, .ref 103, .ref 104, .ref 105, .int 0, .int (-1), .ref 106, .ref 107, .ref 108, .int 0, .int 0, .int 0, .int 0, .int 0, .int 0, .int 0, .ref 109, .int 0, .int 0, .ref 110, .ref 111, .ref 112, .ref 113, .ref 114, .ref 115, .ref 116, .ref 117, .int 0, .int 0, .int (-1), .int (-1), .ref 118, .ref 119, .ref 120, .ref 121, .ref 122, .ref 123, .ref 124, .ref 125, .ref 126, .ref 127, .ref 128, .ref 129, .int 0, .ref 130, .null, .null, .null, .null, .int 0, .int 0]) dX12_init_727 rfl fw_X12_123 rfl (Nat.le_of_ble_eq_true rfl) (fun _ => ⟨rfl, rfl⟩) rfl ?_
  refine J_aload_n dX12_init_730 rfl rfl ?_
  refine J_sipush (v := 1261) dX12_init_731 (by decide +kernel) ?_
  refine K_newa (t := 0) (N := 1261) (a0 := (1261, .inl (fun _ => 0))) (nh2 := 132) (ck2 := 33) (sk2 := 384292) dX12_init_734 rfl (jt1 98 rfl rfl) rfl (fun _ _ h9 => h9) (fun _ => rfl) (fun _ => rfl) (by decide +kernel) (by decide +kernel) (Nat.le_of_ble_eq_true rfl) (Nat.le_of_ble_eq_true rfl) (Nat.le_of_ble_eq_true rfl) rfl rfl rfl ?_
  refine K_putF (fs2 := [.int 0, .int 0, .ref 99, .ref 100, .ref 101, .ref 102, .ref 103, .ref 104, .ref 105, .int 0, .int (-1), .ref 106, .ref 107, .ref 108, .int 0, .int 0, .int 0, .int 0, .int 0, .int 0, .int 0, .ref 109, .int 0, .int 0, .ref 110, .ref 111, .ref 112, .ref 113, .ref 114, .ref 115, .ref 116, .ref 117, .int 0, .int 0, .int (-1), .int (-1), .ref 118, .ref 119, .ref 120, .ref 121, .ref 122, .ref 123, .ref 124, .ref 125, .ref 126, .ref 127, .ref 128, .ref 129, .int 0, .ref 130, .ref 131, .null, .null, .null, .int 0, .int 0]) dX12_init_736 rfl fw_X12_126 rfl (Nat.le_of_ble_eq_true rfl) (fun _ => ⟨rfl, rfl⟩) rfl ?_
  refine J_aload_n dX12_init_739 rfl rfl ?_
  refine J_sipush (v := 1600) dX12_init_740 (by decide +kernel) ?_
  refine K_newa (t := 0) (N := 1600) (a0 := (1600, .inl (fun _ => 0))) (nh2 := 133) (ck2 := 34) (sk2 := 385892) dX12_init_743 rfl (jt1 98 rfl rfl) rfl (fun _ _ h9 => h9) (fun _ => rfl) (fun _ => rfl) (by decide +kernel) (by decide +kernel) (Nat.le_of_ble_eq_true rfl) (Nat.le_of_ble_eq_true rfl) (Nat.le_of_ble_eq_true rfl) rfl rfl rfl ?_
  refine K_putF (fs2 := [.int 0, .int 0, .ref 99, .ref 100, .ref 101, .ref 102, .ref 103, .ref 104, .ref 105, .int 0, .int (-1), .ref 106, .ref 107, .ref 108, .int 0, .int 0, .int 0, .int 0, .int 0, .int 0, .int 0, .ref 109, .int 0, .int 0, .ref 110, .ref 111, .ref 112, .ref 113, .ref 114, .ref 115, .ref 116, .ref 117, .int 0, .int 0, .int (-1), .int (-1), .ref 118, .ref 119, .ref 120, .ref 121, .ref 122, .ref 123, .ref 124, .ref 125, .ref 126, .ref 127, .ref 128, .ref 129, .int 0, .ref 130, .ref 131, .ref 132, .null, .null, .int 0, .int 0]) dX12_init_745 rfl fw_X12_129 rfl (Nat.le_of_ble_eq_true rfl) (fun _ => ⟨rfl, rfl⟩) rfl ?_
  refine J_aload_n dX12_init_748 rfl rfl ?_
  refine J_sipush (v := 1600) dX12_init_749 (by decide +kernel) ?_
  refine K_newa (t := 0) (N := 1600) (a0 := (1600, .inl (fun _ => 0))) (nh2 := 134) (ck2 := 35) (sk2 := 387492) dX12_init_752 rfl (jt1 98 rfl rfl) rfl (fun _ _ h9 => h9) (fun _ => rfl) (fun _ => rfl) (by decide +kernel) (by decide +kernel) (Nat.le_of_ble_eq_true rfl) (Nat.le_of_ble_eq_true rfl) (Nat.le_of_ble_eq_true rfl) rfl rfl rfl ?_
  refine K_putF (fs2 := [.int 0, .int 0, .ref 99, .ref 100, .ref 101, .ref 102, .ref 103, .ref 104, .ref 105, .int 0, .int (-1), .ref 106, .ref 107, .ref 108, .int 0, .int 0, .int 0, .int 0, .int 0, .int 0, .int 0, .ref 109, .int 0, .int 0, .ref 110, .ref 111, .ref 112, .ref 113, .ref 114, .ref 115, .ref 116, .ref 117, .int 0, .int 0, .int (-1), .int (-1), .ref 118, .ref 119, .ref 120, .ref 121, .ref 122, .ref 123, .ref 124, .ref 125, .ref 126, .ref 127, .ref 128, .ref 129, .int 0, .ref 130, .ref 131, .ref 132, .ref 133, .null, .int 0, .int 0]) dX12_init_754 rfl fw_X12_132 rfl (Nat.le_of_ble_eq_true rfl) (fun _ => ⟨rfl, rfl⟩) rfl ?_
  refine J_aload_n dX12_init_757 rfl rfl ?_
  refine J_sipush (v := 1260) dX12_init_758 (by decide +kernel) ?_
  refine K_newa (t := 0) (N := 1260) (a0 := (1260, .inl (fun _ => 0))) (nh2 := 135) (ck2 := 36) (sk2 := 388752) dX12_init_761 rfl (jt1 98 rfl rfl) rfl (fun _ _ h9 => h9) (fun _ => rfl) (fun _ => rfl) (by decide +kernel) (by decide +kernel) (Nat.le_of_ble_eq_true rfl) (Nat.le_of_ble_eq_true rfl) (Nat.le_of_ble_eq_true rfl) rfl rfl rfl ?_
  refine K_putF (fs2 := [.int 0, .int 0, .ref 99, .ref 100, .ref 101, .ref 102, .ref 103, .ref 104, .ref 105, .int 0, .int (-1), .ref 106, .ref 107, .ref 108, .int 0, .int 0, .int 0, .int 0, .int 0, .int 0, .int 0, .ref 109, .int 0, .int 0, .ref 110, .ref 111, .ref 112, .ref 113, .ref 114, .ref 115, .ref 116, .ref 117, .int 0, .int 0, .int (-1), .int (-1), .ref 118, .ref 119, .ref 120, .ref 121, .ref 122, .ref 123, .ref 124, .ref 125, .ref 126, .ref 127, .ref 128, .ref 129, .int 0, .ref 130, .ref 131, .ref 132, .ref 133, .ref 134, .int 0, .int 0]) dX12_init_763 rfl fw_X12_135 rfl (Nat.le_of_ble_eq_true rfl) (fun _ => ⟨rfl, rfl⟩) rfl ?_
  refine J_aload_n dX12_init_766 rfl rfl ?_
  refine J_get (v := .ref 100) dX12_init_767 fl_X12_20 rfl rfl ?_
  refine J_bipush (v := 63) dX12_init_770 (by decide +kernel) ?_
  refine J_iconst (v := (-1)) dX12_init_772 (by decide) ?_
  refine K_iast (i2 := 63) dX12_init_773 rfl rfl (jin (by decide +kernel)) (by decide +kernel) ?_
  refine J_mask (L2 := [(100, .inl (0, 4870, .inl (upd (fun _ => 0) 63 (-1)))), (98, .inr (12, [.int 0, .int 0, .ref 99, .ref 100, .ref 101, .ref 102, .ref 103, .ref 104, .ref 105, .int 0, .int (-1), .ref 106, .ref 107, .ref 108, .int 0, .int 0, .int 0, .int 0, .int 0, .int 0, .int 0, .ref 109, .int 0, .int 0, .ref 110, .ref 111, .ref 112, .ref 113, .ref 114, .ref 115, .ref 116, .ref 117, .int 0, .int 0, .int (-1), .int (-1), .ref 118, .ref 119, .ref 120, .ref 121, .ref 122, .ref 123, .ref 124, .ref 125, .ref 126, .ref 127, .ref 128, .ref 129, .int 0, .ref 130, .ref 131, .ref 132, .ref 133, .ref 134, .int 0, .int 0])), (134, .inl (0, 1260, .inl (fun _ => 0))), (133, .inl (0, 1600, .inl (fun _ => 0))), (132, .inl (0, 1600, .inl (fun _ => 0))), (131, .inl (0, 1261, .inl (fun _ => 0))), (130, .inl (2, 1260, .inl (fun _ => 0))), (129, .inl (2, 229376, .inl (fun _ => 0))), (128, .inl (1, 1260, .inr (.inl (fun _ => 0)))), (127, .inl (1, 1260, .inr (.inl (fun _ => 0)))), (126, .inl (0, 1260, .inl (fun _ => 0))), (125, .inl (0, 1260, .inl (fun _ => 0))), (124, .inl (2, 27720, .inl (fun _ => 0))), (123, .inl (0, 1260, .inl (fun _ => 0))), (122, .inl (2, 1260, .inl (fun _ => 0))), (121, .inl (0, 1260, .inl (fun _ => 0))), (120, .inl (0, 1260, .inl (fun _ => 0))), (119, .inl (1, 1260, .inr (.inl (fun _ => 0)))), (118, .inl (0, 1260, .inl (fun _ => 0))), (117, .inl (0, 7, .inl (fun _ => 0))), (116, .inl (0, 1260, .inl (fun _ => 0))), (115, .inl (0, 27720, .inl (fun _ => 0))), (114, .inl (0, 1260, .inl (fun _ => 0))), (113, .inl (0, 27720, .inl (fun _ => 0))), (112, .inl (0, 27720, .inl (fun _ => 0))), (111, .inl (0, 1260, .inl (fun _ => 0))), (110, .inl (0, 8820, .inl (fun _ => 0))), (109, .inl (0, 8, .inl (fun _ => 0))), (108, .inl (0, 401, .inl (fun _ => 0))), (107, .inl (0, 401, .inl (fun _ => 0))), (106, .inl (0, 401, .inl (fun _ => 0))), (105, .inl (0, 5, .inl (fun _ => 0))), (104, .inl (3, 400, .inl (fun _ => 0))), (103, .inl (3, 73, .inl (upd (upd (upd (upd (upd (upd (upd (upd (upd (upd (upd (upd (upd (upd (upd (upd (upd (upd (upd (upd (upd (upd (upd (upd (upd (upd (upd (upd (upd (upd (upd (upd (upd (upd (upd (upd (upd (upd (upd (upd (upd (upd (upd (upd (upd (upd (upd (upd (upd (upd (upd (upd (upd (upd (upd (upd (upd (upd (upd (upd (upd (upd (upd (upd (upd (upd (upd (upd (upd (upd (upd (upd (upd (fun _ => 0) 0 116) 1 97) 2 107) 3 101) 4 115) 5 32) 6 108) 7 101) 8 116) 9 115) 10 32) 11 98) 12 97) 13 114) 14 115) 15 32) 16 105) 17 102) 18 32) 19 111) 20 114) 21 32) 22 97) 23 110) 24 100) 25 32) 26 110) 27 111) 28 116) 29 32) 30 108) 31 101) 32 102) 33 116) 34 32) 35 114) 36 105) 37 103) 38 104) 39 116) 40 32) 41 111) 42 110) 43 101) 44 32) 45 111) 46 116) 47 104) 48 101) 49 114) 50 32) 51 97) 52 112) 53 97) 54 114) 55 116) 56 32) 57 102) 58 105) 59 114) 60 115) 61 116) 62 32) 63 98) 64 101) 65 97) 66 110) 67 115) 68 32) 69 100) 70 97) 71 121) 72 32))), (102, .inl (2, 2, .inl (fun _ => 0))), (101, .inl (0, 9740, .inl (fun _ => 0))), (99, .inl (0, 7, .inl (fun _ => 0)))]) (ks := [100, 98, 134, 98, 133, 98, 132, 98, 131, 98, 130, 98, 129, 98, 128, 98, 127, 98, 126, 98, 125, 98, 124, 98, 123, 98, 122, 98, 121, 98, 120, 98, 119, 98, 118, 98, 98, 98, 117, 98, 116, 98, 115, 98, 114, 98, 113, 98, 112, 98, 111, 98, 110, 98, 109, 98, 108, 98, 107, 98, 106, 98, 98, 105, 98, 104, 98, 103, 103, 103, 103, 103, 103, 103, 103, 103, 103, 103, 103, 103, 103, 103, 103, 103, 103, 103, 103, 103, 103, 103, 103, 103, 103, 103, 103, 103, 103, 103, 103, 103, 103, 103, 103, 103, 103, 103, 103, 103, 103, 103, 103, 103, 103, 103, 103, 103, 103, 103, 103, 103, 103, 103, 103, 103, 103, 103, 103, 103, 103, 103, 103, 103, 103, 103, 103, 103, 103, 103, 103, 103, 103, 98, 102, 98, 101, 98, 100, 98, 99]) [true, true, true, false, true, false, true, false, true, false, true, false, true, false, true, false, true, false, true, false, true, false, true, false, true, false, true, false, true, false, true, false, true, false, true, false, false, false, true, false, true, false, true, false, true, false, true, false, true, false, true, false, true, false, true, false, true, false, true, false, true, false, false, true, false, true, false, true, false, false, false, false, false, false, false, false, false, false, false, false, false, false, false, false, false, false, false, false, false, false, false, false, false, false, false, false, false, false, false, false, false, false, false, false, false, false, false, false, false, false, false, false, false, false, false, false, false, false, false, false, false, false, false, false, false, false, false, false, false, false, false, false, false, false, false, false, false, false, false, false, false, false, true, false, true, false, false, false, true] rfl (by decide +kernel) rfl ?_
  exact J_vret dX12_init_774 rfl (Nat.le_of_ble_eq_true rfl) (Nat.le_of_ble_eq_true rfl) ⟨rfl, rfl⟩
