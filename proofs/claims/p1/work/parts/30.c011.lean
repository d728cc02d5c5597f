/-! contracts at fresh objects: written by wip/tools/law.py -/
set_option maxHeartbeats 4000000 in
set_option maxRecDepth 100000 in
theorem c_X10_leave_1 {l : Launch} {G : jG} {nh : Nat} {fh : Nat → Option va_E} (hk1 : fh 1 = some (.inr (8, [.ref 2, .ref 3, .ref 4, .int 0, .int (-1), .ref 11, .ref 12, .int 0, .ref 13, .ref 14, .int 0, .ref 15, .ref 16, .int 0]))) (hk3 : fh 3 = some (.inl (0, 2, .inl (fun _ => 0)))) (hk51 : fh 51 = some (.inr (0, [.ref 52, .ref 53, .int 1, .int 0]))) (hk52 : fh 52 = some (.inl (0, 1260, .inl (upd (fun _ => 0) 0 0)))) (hk57 : fh 57 = some (.inr (9, [.ref 1, .ref 51, .ref 58, .ref 61, .ref 62, .ref 135, .ref 64, .int 0, .int 0, .int 0]))) (hk62 : fh 62 = some (.inl (0, 1260, .inl (upd (fun _ => 0) 0 (-1))))) (hk65 : fh 65 = some (.inr (10, [.ref 51, .ref 57, .ref 66, .ref 67, .ref 68, .int 1, .int 0, .int 0, .ref 69, .ref 70, .ref 71, .ref 72, .int 0, .int (-1), .int (-1), .ref 73, .ref 74]))) (hk66 : fh 66 = some (.inl (0, 1260, .inl (upd (upd (fun _ => 0) 0 (-1)) 0 0)))) : JM l G yX10_leave MX10_leave { frames := 4, cells := 0, slots := 0, locals := 95 } [.ref 65, .int 0] (nh, fh) (fun r h9 => r = none ∧ h9 = (nh, hc fh [(62, .inl (0, 1260, .inl (upd (upd (fun _ => 0) 0 (-1)) 0 0)))])) := by
  refine JM.of (by decide) rfl (fun h => by cases h) (Nat.le_of_ble_eq_true rfl) ⟨4, rfl⟩ ?_
  refine J_hc0 (J_ls (ls2 := [some (.ref 65), some (.int 0), none, none, none, none]) rfl ?_)
  refine J_aload_n dX10_leave_0 rfl rfl ?_
  refine J_get (v := .ref 57) dX10_leave_1 fl_X10_63 hk65 rfl ?_
  refine J_iload_n dX10_leave_4 rfl rfl ?_
  refine J_callV (st := []) dX10_leave_5 cv_X10_95 (c_X9_degree_1 hk1 hk3 hk51 hk52 hk57 hk62) hk57 rfl rfl (Nat.le_of_ble_eq_true rfl) ⟨(Nat.le_of_ble_eq_true rfl), (Nat.le_of_ble_eq_true rfl)⟩ ⟨(Nat.le_of_ble_eq_true rfl), (Nat.le_of_ble_eq_true rfl)⟩ (fun r h9 hp => ?_)
  obtain ⟨rfl, rfl⟩ := hp
  refine J_nf (nh2 := nh) (ck2 := 0) (sk2 := 0) (st2 := [.int 0]) rfl rfl rfl rfl ?_
  refine J_app (L3 := [(62, .inl (0, 1260, .inl (upd (upd (fun _ => 0) 0 (-1)) 0 0)))]) rfl ?_
  refine J_istore_n dX10_leave_8 rfl (Nat.le_of_ble_eq_true rfl) rfl ?_
  refine J_aload_n dX10_leave_9 rfl rfl ?_
  refine J_get (v := .ref 66) dX10_leave_10 fl_X10_9 hk65 rfl ?_
  refine J_iload_n dX10_leave_13 rfl rfl ?_
  refine J_iald (i2 := 0) (v := 0) dX10_leave_14 hk66 rfl (jin (by decide +kernel)) (by decide +kernel) rfl ?_
  refine J_iconst (v := 1) dX10_leave_15 (by decide) ?_
  refine J_iadd (z := 1) dX10_leave_16 (by decide +kernel) ?_
  refine J_istore_n dX10_leave_17 rfl (Nat.le_of_ble_eq_true rfl) rfl ?_
  refine J_iconst (v := 0) dX10_leave_18 (by decide) ?_
  refine J_istore dX10_leave_19 (Nat.le_of_ble_eq_true rfl) rfl ?_
  refine J_iload dX10_leave_21 rfl ?_
  refine J_iload_n dX10_leave_23 rfl rfl ?_
  refine J_icmp_ge (tgt := 130) dX10_leave_24 (by decide) (fun _ => ?_) (fun q => absurd (by decide +kernel) q)
  exact J_vret dX10_leave_130 rfl (Nat.le_of_ble_eq_true rfl) (Nat.le_of_ble_eq_true rfl) ⟨rfl, rfl⟩
set_option maxHeartbeats 4000000 in
set_option maxRecDepth 100000 in
theorem c_X10_walkFrom_1 {l : Launch} {G : jG} {nh : Nat} {fh : Nat → Option va_E} (hk1 : fh 1 = some (.inr (8, [.ref 2, .ref 3, .ref 4, .int 0, .int (-1), .ref 11, .ref 12, .int 0, .ref 13, .ref 14, .int 0, .ref 15, .ref 16, .int 0]))) (hk3 : fh 3 = some (.inl (0, 2, .inl (fun _ => 0)))) (hk51 : fh 51 = some (.inr (0, [.ref 52, .ref 53, .int 1, .int 0]))) (hk52 : fh 52 = some (.inl (0, 1260, .inl (upd (fun _ => 0) 0 0)))) (hk57 : fh 57 = some (.inr (9, [.ref 1, .ref 51, .ref 58, .ref 61, .ref 62, .ref 135, .ref 64, .int 0, .int 0, .int 0]))) (hk62 : fh 62 = some (.inl (0, 1260, .inl (upd (fun _ => 0) 0 (-1))))) (hk65 : fh 65 = some (.inr (10, [.ref 51, .ref 57, .ref 66, .ref 67, .ref 68, .int 0, .int (-1), .int (-1), .ref 69, .ref 70, .ref 71, .ref 72, .int 0, .int (-1), .int (-1), .ref 73, .ref 74]))) (hk66 : fh 66 = some (.inl (0, 1260, .inl (fun _ => 0)))) (hk67 : fh 67 = some (.inl (0, 1260, .inl (fun _ => 0)))) (hk68 : fh 68 = some (.inl (0, 1260, .inl (fun _ => 0)))) : JM l G yX10_walkFrom MX10_walkFrom { frames := 5, cells := 0, slots := 0, locals := 120 } [.ref 65, .int 0] (nh, fh) (fun r h9 => r = none ∧ h9 = (nh, hc fh [(62, .inl (0, 1260, .inl (upd (upd (fun _ => 0) 0 (-1)) 0 0))), (65, .inr (10, [.ref 51, .ref 57, .ref 66, .ref 67, .ref 68, .int 1, .int 0, .int 0, .ref 69, .ref 70, .ref 71, .ref 72, .int 0, .int (-1), .int (-1), .ref 73, .ref 74])), (68, .inl (0, 1260, .inl (upd (fun _ => 0) 0 0))), (67, .inl (0, 1260, .inl (upd (fun _ => 0) 0 1))), (66, .inl (0, 1260, .inl (upd (upd (fun _ => 0) 0 (-1)) 0 0)))])) := by
  refine JM.of (by decide) rfl (fun h => by cases h) (Nat.le_of_ble_eq_true rfl) ⟨1, rfl⟩ ?_
  refine J_hc0 (J_ls (ls2 := [some (.ref 65), some (.int 0), none]) rfl ?_)
  refine J_aload_n dX10_walkFrom_0 rfl rfl ?_
  refine J_get (v := .int (-1)) dX10_walkFrom_1 fl_X10_25 hk65 rfl ?_
  refine J_iload_n dX10_walkFrom_4 rfl rfl ?_
  refine J_icmp_ne (tgt := 23) dX10_walkFrom_5 (by decide) (fun _ => ?_) (fun q => absurd q (by decide +kernel))
  refine J_aload_n dX10_walkFrom_23 rfl rfl ?_
  refine J_iload_n dX10_walkFrom_24 rfl rfl ?_
  refine K_put (fs2 := [.ref 51, .ref 57, .ref 66, .ref 67, .ref 68, .int 0, .int 0, .int (-1), .ref 69, .ref 70, .ref 71, .ref 72, .int 0, .int (-1), .int (-1), .ref 73, .ref 74]) dX10_walkFrom_25 fw_X10_25 hk65 (Nat.le_of_ble_eq_true rfl) (fun _ => ⟨rfl, rfl⟩) rfl ?_
  refine J_aload_n dX10_walkFrom_28 rfl rfl ?_
  refine J_aload_n dX10_walkFrom_29 rfl rfl ?_
  refine J_get (v := .ref 57) dX10_walkFrom_30 fl_X10_63 rfl rfl ?_
  refine J_callV (st := [.ref 65]) dX10_walkFrom_33 cv_X10_104 (c_X9_version_1 hk57) hk57 rfl rfl (Nat.le_of_ble_eq_true rfl) ⟨(Nat.le_of_ble_eq_true rfl), (Nat.le_of_ble_eq_true rfl)⟩ ⟨(Nat.le_of_ble_eq_true rfl), (Nat.le_of_ble_eq_true rfl)⟩ (fun r h9 hp => ?_)
  obtain ⟨rfl, rfl⟩ := hp
  refine J_nf (nh2 := nh) (ck2 := 0) (sk2 := 0) (st2 := [.int 0, .ref 65]) rfl rfl rfl rfl ?_
  refine K_put (fs2 := [.ref 51, .ref 57, .ref 66, .ref 67, .ref 68, .int 0, .int 0, .int 0, .ref 69, .ref 70, .ref 71, .ref 72, .int 0, .int (-1), .int (-1), .ref 73, .ref 74]) dX10_walkFrom_36 fw_X10_28 rfl (Nat.le_of_ble_eq_true rfl) (fun _ => ⟨rfl, rfl⟩) rfl ?_
  refine J_aload_n dX10_walkFrom_39 rfl rfl ?_
  refine J_get (v := .ref 66) dX10_walkFrom_40 fl_X10_9 rfl rfl ?_
  refine J_iconst (v := 0) dX10_walkFrom_43 (by decide) ?_
  refine J_aload_n dX10_walkFrom_44 rfl rfl ?_
  refine J_get (v := .ref 51) dX10_walkFrom_45 fl_X10_59 rfl rfl ?_
  refine J_callV (st := [.int 0, .ref 66]) dX10_walkFrom_48 cv_X10_83 (c_X0_many_1 hk51) hk51 rfl rfl (Nat.le_of_ble_eq_true rfl) ⟨(Nat.le_of_ble_eq_true rfl), (Nat.le_of_ble_eq_true rfl)⟩ ⟨(Nat.le_of_ble_eq_true rfl), (Nat.le_of_ble_eq_true rfl)⟩ (fun r h9 hp => ?_)
  obtain ⟨rfl, rfl⟩ := hp
  refine J_nf (nh2 := nh) (ck2 := 0) (sk2 := 0) (st2 := [.int 1, .int 0, .ref 66]) rfl rfl rfl rfl ?_
  refine J_iconst (v := (-1)) dX10_walkFrom_51 (by decide) ?_
  refine J_callS (st := []) dX10_walkFrom_52 cs_X10_89 (c_J7_fill_fda19_2 hk66) rfl rfl (Nat.le_of_ble_eq_true rfl) ⟨(Nat.le_of_ble_eq_true rfl), (Nat.le_of_ble_eq_true rfl)⟩ ⟨(Nat.le_of_ble_eq_true rfl), (Nat.le_of_ble_eq_true rfl)⟩ (fun r h9 hp => ?_)
  obtain ⟨rfl, rfl⟩ := hp
  refine J_nf (nh2 := nh) (ck2 := 0) (sk2 := 0) (st2 := []) rfl rfl rfl rfl ?_
  refine J_app (L3 := [(66, .inl (0, 1260, .inl (upd (fun _ => 0) 0 (-1)))), (65, .inr (10, [.ref 51, .ref 57, .ref 66, .ref 67, .ref 68, .int 0, .int 0, .int 0, .ref 69, .ref 70, .ref 71, .ref 72, .int 0, .int (-1), .int (-1), .ref 73, .ref 74])), (65, .inr (10, [.ref 51, .ref 57, .ref 66, .ref 67, .ref 68, .int 0, .int 0, .int (-1), .ref 69, .ref 70, .ref 71, .ref 72, .int 0, .int (-1), .int (-1), .ref 73, .ref 74]))]) rfl ?_
  refine J_aload_n dX10_walkFrom_55 rfl rfl ?_
  refine J_get (v := .ref 66) dX10_walkFrom_56 fl_X10_9 rfl rfl ?_
  refine J_iload_n dX10_walkFrom_59 rfl rfl ?_
  refine J_iconst (v := 0) dX10_walkFrom_60 (by decide) ?_
  refine K_iast (i2 := 0) dX10_walkFrom_61 rfl rfl (jin (by decide +kernel)) (by decide +kernel) ?_
  refine J_aload_n dX10_walkFrom_62 rfl rfl ?_
  refine J_get (v := .ref 67) dX10_walkFrom_63 fl_X10_15 rfl rfl ?_
  refine J_iload_n dX10_walkFrom_66 rfl rfl ?_
  refine J_iconst (v := 1) dX10_walkFrom_67 (by decide) ?_
  refine K_iast (i2 := 0) dX10_walkFrom_68 hk67 rfl (jin (by decide +kernel)) (by decide +kernel) ?_
  refine J_aload_n dX10_walkFrom_69 rfl rfl ?_
  refine J_get (v := .ref 68) dX10_walkFrom_70 fl_X10_18 rfl rfl ?_
  refine J_iconst (v := 0) dX10_walkFrom_73 (by decide) ?_
  refine J_iload_n dX10_walkFrom_74 rfl rfl ?_
  refine K_iast (i2 := 0) dX10_walkFrom_75 hk68 rfl (jin (by decide +kernel)) (by decide +kernel) ?_
  refine J_aload_n dX10_walkFrom_76 rfl rfl ?_
  refine J_iconst (v := 1) dX10_walkFrom_77 (by decide) ?_
  refine K_put (fs2 := [.ref 51, .ref 57, .ref 66, .ref 67, .ref 68, .int 1, .int 0, .int 0, .ref 69, .ref 70, .ref 71, .ref 72, .int 0, .int (-1), .int (-1), .ref 73, .ref 74]) dX10_walkFrom_78 fw_X10_21 rfl (Nat.le_of_ble_eq_true rfl) (fun _ => ⟨rfl, rfl⟩) rfl ?_
  refine J_iconst (v := 0) dX10_walkFrom_81 (by decide) ?_
  refine J_istore_n dX10_walkFrom_82 rfl (Nat.le_of_ble_eq_true rfl) rfl ?_
  refine J_iload_n dX10_walkFrom_83 rfl rfl ?_
  refine J_aload_n dX10_walkFrom_84 rfl rfl ?_
  refine J_get (v := .int 1) dX10_walkFrom_85 fl_X10_21 rfl rfl ?_
  refine J_icmp_ge (tgt := 114) dX10_walkFrom_88 (by decide) (fun q => absurd q (by decide +kernel)) (fun _ => ?_)
  refine J_iload_n dX10_walkFrom_91 rfl rfl ?_
  refine J_sipush (v := 1260) dX10_walkFrom_92 (by decide +kernel) ?_
  refine J_icmp_ge (tgt := 114) dX10_walkFrom_95 (by decide) (fun q => absurd q (by decide +kernel)) (fun _ => ?_)
  refine J_aload_n dX10_walkFrom_98 rfl rfl ?_
  refine J_aload_n dX10_walkFrom_99 rfl rfl ?_
  refine J_get (v := .ref 68) dX10_walkFrom_100 fl_X10_18 rfl rfl ?_
  refine J_iload_n dX10_walkFrom_103 rfl rfl ?_
  refine J_iald (i2 := 0) (v := 0) dX10_walkFrom_104 rfl rfl (jin (by decide +kernel)) (by decide +kernel) rfl ?_
  refine J_callV (st := []) dX10_walkFrom_105 cv_X10_106 (c_X10_leave_1 hk1 hk3 hk51 hk52 hk57 hk62 rfl rfl) rfl rfl rfl (Nat.le_of_ble_eq_true rfl) ⟨(Nat.le_of_ble_eq_true rfl), (Nat.le_of_ble_eq_true rfl)⟩ ⟨(Nat.le_of_ble_eq_true rfl), (Nat.le_of_ble_eq_true rfl)⟩ (fun r h9 hp => ?_)
  obtain ⟨rfl, rfl⟩ := hp
  refine J_nf (nh2 := nh) (ck2 := 0) (sk2 := 0) (st2 := []) rfl rfl rfl rfl ?_
  refine J_app (L3 := [(62, .inl (0, 1260, .inl (upd (upd (fun _ => 0) 0 (-1)) 0 0))), (65, .inr (10, [.ref 51, .ref 57, .ref 66, .ref 67, .ref 68, .int 1, .int 0, .int 0, .ref 69, .ref 70, .ref 71, .ref 72, .int 0, .int (-1), .int (-1), .ref 73, .ref 74])), (68, .inl (0, 1260, .inl (upd (fun _ => 0) 0 0))), (67, .inl (0, 1260, .inl (upd (fun _ => 0) 0 1))), (66, .inl (0, 1260, .inl (upd (upd (fun _ => 0) 0 (-1)) 0 0))), (66, .inl (0, 1260, .inl (upd (fun _ => 0) 0 (-1)))), (65, .inr (10, [.ref 51, .ref 57, .ref 66, .ref 67, .ref 68, .int 0, .int 0, .int 0, .ref 69, .ref 70, .ref 71, .ref 72, .int 0, .int (-1), .int (-1), .ref 73, .ref 74])), (65, .inr (10, [.ref 51, .ref 57, .ref 66, .ref 67, .ref 68, .int 0, .int 0, .int (-1), .ref 69, .ref 70, .ref 71, .ref 72, .int 0, .int (-1), .int (-1), .ref 73, .ref 74]))]) rfl ?_
  refine J_iinc (v := 1) dX10_walkFrom_108 rfl (by decide +kernel) (Nat.le_of_ble_eq_true rfl) rfl ?_
  refine J_ls (ls2 := [some (.ref 65), some (.int 0), some (.int 1)]) rfl ?_
  refine J_goto (tgt := 83) dX10_walkFrom_111 (by decide) ?_
  refine J_iload_n dX10_walkFrom_83 rfl rfl ?_
  refine J_aload_n dX10_walkFrom_84 rfl rfl ?_
  refine J_get (v := .int 1) dX10_walkFrom_85 fl_X10_21 rfl rfl ?_
  refine J_icmp_ge (tgt := 114) dX10_walkFrom_88 (by decide) (fun _ => ?_) (fun q => absurd (by decide +kernel) q)
  refine J_mask (L2 := [(62, .inl (0, 1260, .inl (upd (upd (fun _ => 0) 0 (-1)) 0 0))), (65, .inr (10, [.ref 51, .ref 57, .ref 66, .ref 67, .ref 68, .int 1, .int 0, .int 0, .ref 69, .ref 70, .ref 71, .ref 72, .int 0, .int (-1), .int (-1), .ref 73, .ref 74])), (68, .inl (0, 1260, .inl (upd (fun _ => 0) 0 0))), (67, .inl (0, 1260, .inl (upd (fun _ => 0) 0 1))), (66, .inl (0, 1260, .inl (upd (upd (fun _ => 0) 0 (-1)) 0 0)))]) (ks := [62, 65, 68, 67, 66, 66, 65, 65]) [true, true, true, true, true, false, false, false] rfl (by decide +kernel) rfl ?_
  exact J_vret dX10_walkFrom_114 rfl (Nat.le_of_ble_eq_true rfl) (Nat.le_of_ble_eq_true rfl) ⟨rfl, rfl⟩
set_option maxHeartbeats 4000000 in
set_option maxRecDepth 100000 in
theorem c_X10_farTo_1 {l : Launch} {G : jG} {nh : Nat} {fh : Nat → Option va_E} (hk1 : fh 1 = some (.inr (8, [.ref 2, .ref 3, .ref 4, .int 0, .int (-1), .ref 11, .ref 12, .int 0, .ref 13, .ref 14, .int 0, .ref 15, .ref 16, .int 0]))) (hk3 : fh 3 = some (.inl (0, 2, .inl (fun _ => 0)))) (hk51 : fh 51 = some (.inr (0, [.ref 52, .ref 53, .int 1, .int 0]))) (hk52 : fh 52 = some (.inl (0, 1260, .inl (upd (fun _ => 0) 0 0)))) (hk57 : fh 57 = some (.inr (9, [.ref 1, .ref 51, .ref 58, .ref 61, .ref 62, .ref 135, .ref 64, .int 0, .int 0, .int 0]))) (hk62 : fh 62 = some (.inl (0, 1260, .inl (upd (fun _ => 0) 0 (-1))))) (hk65 : fh 65 = some (.inr (10, [.ref 51, .ref 57, .ref 66, .ref 67, .ref 68, .int 0, .int (-1), .int (-1), .ref 69, .ref 70, .ref 71, .ref 72, .int 0, .int (-1), .int (-1), .ref 73, .ref 74]))) (hk66 : fh 66 = some (.inl (0, 1260, .inl (fun _ => 0)))) (hk67 : fh 67 = some (.inl (0, 1260, .inl (fun _ => 0)))) (hk68 : fh 68 = some (.inl (0, 1260, .inl (fun _ => 0)))) : JM l G yX10_farTo MX10_farTo { frames := 6, cells := 0, slots := 0, locals := 142 } [.ref 65, .int 0, .int 0] (nh, fh) (fun r h9 => r = some (.int 0) ∧ h9 = (nh, hc fh [(62, .inl (0, 1260, .inl (upd (upd (fun _ => 0) 0 (-1)) 0 0))), (65, .inr (10, [.ref 51, .ref 57, .ref 66, .ref 67, .ref 68, .int 1, .int 0, .int 0, .ref 69, .ref 70, .ref 71, .ref 72, .int 0, .int (-1), .int (-1), .ref 73, .ref 74])), (68, .inl (0, 1260, .inl (upd (fun _ => 0) 0 0))), (67, .inl (0, 1260, .inl (upd (fun _ => 0) 0 1))), (66, .inl (0, 1260, .inl (upd (upd (fun _ => 0) 0 (-1)) 0 0)))])) := by
  refine JM.of (by decide) rfl (fun h => by cases h) (Nat.le_of_ble_eq_true rfl) ⟨0, rfl⟩ ?_
  refine J_hc0 (J_ls (ls2 := [some (.ref 65), some (.int 0), some (.int 0)]) rfl ?_)
  refine J_aload_n dX10_farTo_0 rfl rfl ?_
  refine J_iload_n dX10_farTo_1 rfl rfl ?_
  refine J_callV (st := []) dX10_farTo_2 cv_X10_67 (c_X10_walkFrom_1 hk1 hk3 hk51 hk52 hk57 hk62 hk65 hk66 hk67 hk68) hk65 rfl rfl (Nat.le_of_ble_eq_true rfl) ⟨(Nat.le_of_ble_eq_true rfl), (Nat.le_of_ble_eq_true rfl)⟩ ⟨(Nat.le_of_ble_eq_true rfl), (Nat.le_of_ble_eq_true rfl)⟩ (fun r h9 hp => ?_)
  obtain ⟨rfl, rfl⟩ := hp
  refine J_nf (nh2 := nh) (ck2 := 0) (sk2 := 0) (st2 := []) rfl rfl rfl rfl ?_
  refine J_app (L3 := [(62, .inl (0, 1260, .inl (upd (upd (fun _ => 0) 0 (-1)) 0 0))), (65, .inr (10, [.ref 51, .ref 57, .ref 66, .ref 67, .ref 68, .int 1, .int 0, .int 0, .ref 69, .ref 70, .ref 71, .ref 72, .int 0, .int (-1), .int (-1), .ref 73, .ref 74])), (68, .inl (0, 1260, .inl (upd (fun _ => 0) 0 0))), (67, .inl (0, 1260, .inl (upd (fun _ => 0) 0 1))), (66, .inl (0, 1260, .inl (upd (upd (fun _ => 0) 0 (-1)) 0 0)))]) rfl ?_
  refine J_aload_n dX10_farTo_5 rfl rfl ?_
  refine J_get (v := .ref 66) dX10_farTo_6 fl_X10_9 rfl rfl ?_
  refine J_iload_n dX10_farTo_9 rfl rfl ?_
  refine J_iald (i2 := 0) (v := 0) dX10_farTo_10 rfl rfl (jin (by decide +kernel)) (by decide +kernel) rfl ?_
  exact J_iret dX10_farTo_11 rfl rfl (Nat.le_of_ble_eq_true rfl) (Nat.le_of_ble_eq_true rfl) ⟨rfl, rfl⟩
set_option maxHeartbeats 4000000 in
set_option maxRecDepth 100000 in
theorem c_X11_far_4 {l : Launch} {G : jG} {fh : Nat → Option va_E} (hk0 : fh 0 = some (.inr (11, [.ref 1, .ref 17, .ref 50, .ref 51, .ref 54, .ref 57, .ref 65, .ref 75, .ref 81, .ref 85, .ref 88, .ref 93, .ref 96, .int 0, .int (-1), .ref 97, .int 0]))) (hk1 : fh 1 = some (.inr (8, [.ref 2, .ref 3, .ref 4, .int 0, .int (-1), .ref 11, .ref 12, .int 0, .ref 13, .ref 14, .int 0, .ref 15, .ref 16, .int 0]))) (hk3 : fh 3 = some (.inl (0, 2, .inl (fun _ => 0)))) (hk51 : fh 51 = some (.inr (0, [.ref 52, .ref 53, .int 1, .int 0]))) (hk52 : fh 52 = some (.inl (0, 1260, .inl (upd (fun _ => 0) 0 0)))) (hk57 : fh 57 = some (.inr (9, [.ref 1, .ref 51, .ref 58, .ref 61, .ref 62, .ref 63, .ref 64, .int 0, .int 1, .int 1]))) (hk58 : fh 58 = some (.inr (1, [.ref 59, .ref 60, .int 0, .int 0, .int 0, .int 0, .int 0, .int 1]))) (hk59 : fh 59 = some (.inl (0, 8, .inl (fun _ => 0)))) (hk62 : fh 62 = some (.inl (0, 1260, .inl (fun _ => 0)))) (hk63 : fh 63 = some (.inl (0, 0, .inl (fun _ => 0)))) (hk65 : fh 65 = some (.inr (10, [.ref 51, .ref 57, .ref 66, .ref 67, .ref 68, .int 0, .int (-1), .int (-1), .ref 69, .ref 70, .ref 71, .ref 72, .int 0, .int (-1), .int (-1), .ref 73, .ref 74]))) (hk66 : fh 66 = some (.inl (0, 1260, .inl (fun _ => 0)))) (hk67 : fh 67 = some (.inl (0, 1260, .inl (fun _ => 0)))) (hk68 : fh 68 = some (.inl (0, 1260, .inl (fun _ => 0)))) : JM l G yX11_far MX11_far { frames := 7, cells := 1, slots := 22, locals := 164 } [.ref 0, .int 0, .int 0, .int 0] (135, fh) (fun r h9 => r = some (.int 0) ∧ h9 = (136, hc fh [(62, .inl (0, 1260, .inl (upd (upd (fun _ => 0) 0 (-1)) 0 0))), (65, .inr (10, [.ref 51, .ref 57, .ref 66, .ref 67, .ref 68, .int 1, .int 0, .int 0, .ref 69, .ref 70, .ref 71, .ref 72, .int 0, .int (-1), .int (-1), .ref 73, .ref 74])), (68, .inl (0, 1260, .inl (upd (fun _ => 0) 0 0))), (67, .inl (0, 1260, .inl (upd (fun _ => 0) 0 1))), (66, .inl (0, 1260, .inl (upd (upd (fun _ => 0) 0 (-1)) 0 0))), (57, .inr (9, [.ref 1, .ref 51, .ref 58, .ref 61, .ref 62, .ref 135, .ref 64, .int 0, .int 0, .int 0])), (135, .inl (0, 22, .inl (fun _ => 0))), (59, .inl (0, 8, .inl (upd (upd (fun _ => 0) 6 0) 7 0)))])) := by
  refine JM.of (by decide) rfl (fun h => by cases h) (Nat.le_of_ble_eq_true rfl) ⟨0, rfl⟩ ?_
  refine J_hc0 (J_ls (ls2 := [some (.ref 0), some (.int 0), some (.int 0), some (.int 0)]) rfl ?_)
  refine J_aload_n dX11_far_0 rfl rfl ?_
  refine J_get (v := .ref 51) dX11_far_1 fl_X11_27 hk0 rfl ?_
  refine J_iload_n dX11_far_4 rfl rfl ?_
  refine J_callV (st := []) dX11_far_5 cv_X11_135 (c_X0_has_2 hk51) hk51 rfl rfl (Nat.le_of_ble_eq_true rfl) ⟨(Nat.le_of_ble_eq_true rfl), (Nat.le_of_ble_eq_true rfl)⟩ ⟨(Nat.le_of_ble_eq_true rfl), (Nat.le_of_ble_eq_true rfl)⟩ (fun r h9 hp => ?_)
  obtain ⟨rfl, rfl⟩ := hp
  refine J_nf (nh2 := 135) (ck2 := 0) (sk2 := 0) (st2 := [.int 1]) rfl rfl rfl rfl ?_
  refine J_if_eq (tgt := 22) dX11_far_8 (by decide) (fun q => absurd q (by decide +kernel)) (fun _ => ?_)
  refine J_aload_n dX11_far_11 rfl rfl ?_
  refine J_get (v := .ref 51) dX11_far_12 fl_X11_27 hk0 rfl ?_
  refine J_iload_n dX11_far_15 rfl rfl ?_
  refine J_callV (st := []) dX11_far_16 cv_X11_135 (c_X0_has_2 hk51) hk51 rfl rfl (Nat.le_of_ble_eq_true rfl) ⟨(Nat.le_of_ble_eq_true rfl), (Nat.le_of_ble_eq_true rfl)⟩ ⟨(Nat.le_of_ble_eq_true rfl), (Nat.le_of_ble_eq_true rfl)⟩ (fun r h9 hp => ?_)
  obtain ⟨rfl, rfl⟩ := hp
  refine J_nf (nh2 := 135) (ck2 := 0) (sk2 := 0) (st2 := [.int 1]) rfl rfl rfl rfl ?_
  refine J_if_ne (tgt := 24) dX11_far_19 (by decide) (fun _ => ?_) (fun q => absurd q (by decide +kernel))
  refine J_aload_n dX11_far_24 rfl rfl ?_
  refine J_get (v := .ref 57) dX11_far_25 fl_X11_43 hk0 rfl ?_
  refine J_callV (st := []) dX11_far_28 cv_X11_217 (c_X9_prepare_1 hk1 hk3 hk51 hk57 hk58 hk59 hk62 hk63) hk57 rfl rfl (Nat.le_of_ble_eq_true rfl) ⟨(Nat.le_of_ble_eq_true rfl), (Nat.le_of_ble_eq_true rfl)⟩ ⟨(Nat.le_of_ble_eq_true rfl), (Nat.le_of_ble_eq_true rfl)⟩ (fun r h9 hp => ?_)
  obtain ⟨rfl, rfl⟩ := hp
  refine J_nf (nh2 := 136) (ck2 := 1) (sk2 := 22) (st2 := []) rfl rfl rfl rfl ?_
  refine J_app (L3 := [(57, .inr (9, [.ref 1, .ref 51, .ref 58, .ref 61, .ref 62, .ref 135, .ref 64, .int 0, .int 0, .int 0])), (62, .inl (0, 1260, .inl (upd (fun _ => 0) 0 (-1)))), (135, .inl (0, 22, .inl (fun _ => 0))), (59, .inl (0, 8, .inl (upd (upd (fun _ => 0) 6 0) 7 0)))]) rfl ?_
  refine J_iload_n dX11_far_31 rfl rfl ?_
  refine J_tableIn (tgt := 60) dX11_far_32 (by decide +kernel) (by decide +kernel) (off := 28) (by decide +kernel) (by decide) ?_
  refine J_aload_n dX11_far_60 rfl rfl ?_
  refine J_get (v := .ref 65) dX11_far_61 fl_X11_52 hk0 rfl ?_
  refine J_iload_n dX11_far_64 rfl rfl ?_
  refine J_iload_n dX11_far_65 rfl rfl ?_
  refine J_callV (st := []) dX11_far_66 cv_X11_229 (c_X10_farTo_1 hk1 hk3 hk51 hk52 rfl rfl hk65 hk66 hk67 hk68) hk65 rfl rfl (Nat.le_of_ble_eq_true rfl) ⟨(Nat.le_of_ble_eq_true rfl), (Nat.le_of_ble_eq_true rfl)⟩ ⟨(Nat.le_of_ble_eq_true rfl), (Nat.le_of_ble_eq_true rfl)⟩ (fun r h9 hp => ?_)
  obtain ⟨rfl, rfl⟩ := hp
  refine J_nf (nh2 := 136) (ck2 := 1) (sk2 := 22) (st2 := [.int 0]) rfl rfl rfl rfl ?_
  refine J_app (L3 := [(62, .inl (0, 1260, .inl (upd (upd (fun _ => 0) 0 (-1)) 0 0))), (65, .inr (10, [.ref 51, .ref 57, .ref 66, .ref 67, .ref 68, .int 1, .int 0, .int 0, .ref 69, .ref 70, .ref 71, .ref 72, .int 0, .int (-1), .int (-1), .ref 73, .ref 74])), (68, .inl (0, 1260, .inl (upd (fun _ => 0) 0 0))), (67, .inl (0, 1260, .inl (upd (fun _ => 0) 0 1))), (66, .inl (0, 1260, .inl (upd (upd (fun _ => 0) 0 (-1)) 0 0))), (57, .inr (9, [.ref 1, .ref 51, .ref 58, .ref 61, .ref 62, .ref 135, .ref 64, .int 0, .int 0, .int 0])), (62, .inl (0, 1260, .inl (upd (fun _ => 0) 0 (-1)))), (135, .inl (0, 22, .inl (fun _ => 0))), (59, .inl (0, 8, .inl (upd (upd (fun _ => 0) 6 0) 7 0)))]) rfl ?_
  refine J_mask (L2 := [(62, .inl (0, 1260, .inl (upd (upd (fun _ => 0) 0 (-1)) 0 0))), (65, .inr (10, [.ref 51, .ref 57, .ref 66, .ref 67, .ref 68, .int 1, .int 0, .int 0, .ref 69, .ref 70, .ref 71, .ref 72, .int 0, .int (-1), .int (-1), .ref 73, .ref 74])), (68, .inl (0, 1260, .inl (upd (fun _ => 0) 0 0))), (67, .inl (0, 1260, .inl (upd (fun _ => 0) 0 1))), (66, .inl (0, 1260, .inl (upd (upd (fun _ => 0) 0 (-1)) 0 0))), (57, .inr (9, [.ref 1, .ref 51, .ref 58, .ref 61, .ref 62, .ref 135, .ref 64, .int 0, .int 0, .int 0])), (135, .inl (0, 22, .inl (fun _ => 0))), (59, .inl (0, 8, .inl (upd (upd (fun _ => 0) 6 0) 7 0)))]) (ks := [62, 65, 68, 67, 66, 57, 62, 135, 59]) [true, true, true, true, true, true, false, true, true] rfl (by decide +kernel) rfl ?_
  exact J_iret dX11_far_69 rfl rfl (Nat.le_of_ble_eq_true rfl) (Nat.le_of_ble_eq_true rfl) ⟨rfl, rfl⟩
set_option maxHeartbeats 4000000 in
set_option maxRecDepth 100000 in
theorem c_X12_lies_37 {l : Launch} {G : jG} {nh : Nat} {fh : Nat → Option va_E}  : JM l G yX12_lies MX12_lies { frames := 0, cells := 0, slots := 0, locals := 0 } [.int 0, .int 0, .int 2] (nh, fh) (fun r h9 => r = some (.int 1) ∧ h9 = (nh, fh)) := by
  refine JM.of (by decide) rfl (fun h => by cases h) (Nat.le_of_ble_eq_true rfl) ⟨0, rfl⟩ ?_
  refine J_hc0 (J_ls (ls2 := [some (.int 0), some (.int 0), some (.int 2)]) rfl ?_)
  refine J_iload_n dX12_lies_0 rfl rfl ?_
  refine J_iload_n dX12_lies_1 rfl rfl ?_
  refine J_icmp_lt (tgt := 14) dX12_lies_2 (by decide) (fun q => absurd q (by decide +kernel)) (fun _ => ?_)
  refine J_iload_n dX12_lies_5 rfl rfl ?_
  refine J_iload_n dX12_lies_6 rfl rfl ?_
  refine J_icmp_gt (tgt := 14) dX12_lies_7 (by decide) (fun q => absurd q (by decide +kernel)) (fun _ => ?_)
  refine J_iconst (v := 1) dX12_lies_10 (by decide) ?_
  refine J_goto (tgt := 15) dX12_lies_11 (by decide) ?_
  exact J_iret dX12_lies_15 rfl (by decide +kernel) (Nat.le_of_ble_eq_true rfl) (Nat.le_of_ble_eq_true rfl) ⟨rfl, rfl⟩
set_option maxHeartbeats 4000000 in
set_option maxRecDepth 100000 in
theorem c_X12_measures_1 {l : Launch} {G : jG} {nh : Nat} {fh : Nat → Option va_E} (hk98 : fh 98 = some (.inr (12, [.int 0, .int 0, .ref 99, .ref 100, .ref 101, .ref 102, .ref 103, .ref 104, .ref 105, .int 0, .int (-1), .ref 106, .ref 107, .ref 108, .int 0, .int 0, .int 0, .int 0, .int 0, .int 0, .int 0, .ref 109, .int 0, .int 0, .ref 110, .ref 111, .ref 112, .ref 113, .ref 114, .ref 115, .ref 116, .ref 117, .int 1, .int 0, .int 0, .int 0, .ref 118, .ref 119, .ref 120, .ref 121, .ref 122, .ref 123, .ref 124, .ref 125, .ref 126, .ref 127, .ref 128, .ref 129, .int 0, .ref 130, .ref 131, .ref 132, .ref 133, .ref 134, .int 0, .int 0]))) (hk114 : fh 114 = some (.inl (0, 1260, .inl (upd (fun _ => 0) 0 0)))) (hk118 : fh 118 = some (.inl (0, 1260, .inl (fun _ => 0)))) (hk119 : fh 119 = some (.inl (1, 1260, .inr (.inl (fun _ => 0))))) (hk120 : fh 120 = some (.inl (0, 1260, .inl (fun _ => 0)))) : JM l G yX12_measures MX12_measures { frames := 0, cells := 0, slots := 0, locals := 0 } [.ref 98, .int 0] (nh, fh) (fun r h9 => r = some (.int 1) ∧ h9 = (nh, hc fh [(120, .inl (0, 1260, .inl (upd (fun _ => 0) 0 0))), (119, .inl (1, 1260, .inr (.inl (vp_updL (vp_updL (fun _ => 0) 0 0) 0 1)))), (118, .inl (0, 1260, .inl (upd (upd (fun _ => 0) 0 (-1)) 0 0)))])) := by
  refine JM.of (by decide) rfl (fun h => by cases h) (Nat.le_of_ble_eq_true rfl) ⟨5, rfl⟩ ?_
  refine J_hc0 (J_ls (ls2 := [some (.ref 98), some (.int 0), none, none, none, none, none]) rfl ?_)
  refine J_iconst (v := 0) dX12_measures_0 (by decide) ?_
  refine J_istore_n dX12_measures_1 rfl (Nat.le_of_ble_eq_true rfl) rfl ?_
  refine J_iload_n dX12_measures_2 rfl rfl ?_
  refine J_aload_n dX12_measures_3 rfl rfl ?_
  refine J_get (v := .int 1) dX12_measures_4 fl_X12_298 hk98 rfl ?_
  refine J_icmp_ge (tgt := 30) dX12_measures_7 (by decide) (fun q => absurd q (by decide +kernel)) (fun _ => ?_)
  refine J_aload_n dX12_measures_10 rfl rfl ?_
  refine J_get (v := .ref 118) dX12_measures_11 fl_X12_85 hk98 rfl ?_
  refine J_iload_n dX12_measures_14 rfl rfl ?_
  refine J_iconst (v := (-1)) dX12_measures_15 (by decide) ?_
  refine K_iast (i2 := 0) dX12_measures_16 hk118 rfl (jin (by decide +kernel)) (by decide +kernel) ?_
  refine J_aload_n dX12_measures_17 rfl rfl ?_
  refine J_get (v := .ref 119) dX12_measures_18 fl_X12_88 hk98 rfl ?_
  refine J_iload_n dX12_measures_21 rfl rfl ?_
  refine J_lconst (v := 0) dX12_measures_22 (by decide +kernel) ?_
  refine K_last (i2 := 0) dX12_measures_23 hk119 rfl (jin (by decide +kernel)) (by decide +kernel) ?_
  refine J_iinc (v := 1) dX12_measures_24 rfl (by decide +kernel) (Nat.le_of_ble_eq_true rfl) rfl ?_
  refine J_ls (ls2 := [some (.ref 98), some (.int 0), some (.int 1), none, none, none, none]) rfl ?_
  refine J_goto (tgt := 2) dX12_measures_27 (by decide) ?_
  refine J_iload_n dX12_measures_2 rfl rfl ?_
  refine J_aload_n dX12_measures_3 rfl rfl ?_
  refine J_get (v := .int 1) dX12_measures_4 fl_X12_298 hk98 rfl ?_
  refine J_icmp_ge (tgt := 30) dX12_measures_7 (by decide) (fun _ => ?_) (fun q => absurd (by decide +kernel) q)
  refine J_aload_n dX12_measures_30 rfl rfl ?_
  refine J_get (v := .ref 118) dX12_measures_31 fl_X12_85 hk98 rfl ?_
  refine J_iload_n dX12_measures_34 rfl rfl ?_
  refine J_iconst (v := 0) dX12_measures_35 (by decide) ?_
  refine K_iast (i2 := 0) dX12_measures_36 rfl rfl (jin (by decide +kernel)) (by decide +kernel) ?_
  refine J_aload_n dX12_measures_37 rfl rfl ?_
  refine J_get (v := .ref 119) dX12_measures_38 fl_X12_88 hk98 rfl ?_
  refine J_iload_n dX12_measures_41 rfl rfl ?_
  refine J_lconst (v := 1) dX12_measures_42 (by decide +kernel) ?_
  refine K_last (i2 := 0) dX12_measures_43 rfl rfl (jin (by decide +kernel)) (by decide +kernel) ?_
  refine J_aload_n dX12_measures_44 rfl rfl ?_
  refine J_get (v := .ref 120) dX12_measures_45 fl_X12_92 hk98 rfl ?_
  refine J_iconst (v := 0) dX12_measures_48 (by decide) ?_
  refine J_iload_n dX12_measures_49 rfl rfl ?_
  refine K_iast (i2 := 0) dX12_measures_50 hk120 rfl (jin (by decide +kernel)) (by decide +kernel) ?_
  refine J_iconst (v := 1) dX12_measures_51 (by decide) ?_
  refine J_istore_n dX12_measures_52 rfl (Nat.le_of_ble_eq_true rfl) rfl ?_
  refine J_iconst (v := 0) dX12_measures_53 (by decide) ?_
  refine J_istore_n dX12_measures_54 rfl (Nat.le_of_ble_eq_true rfl) rfl ?_
  refine J_iload_n dX12_measures_55 rfl rfl ?_
  refine J_iload_n dX12_measures_56 rfl rfl ?_
  refine J_icmp_ge (tgt := 217) dX12_measures_57 (by decide) (fun q => absurd q (by decide +kernel)) (fun _ => ?_)
  refine J_aload_n dX12_measures_60 rfl rfl ?_
  refine J_get (v := .ref 120) dX12_measures_61 fl_X12_92 hk98 rfl ?_
  refine J_iload_n dX12_measures_64 rfl rfl ?_
  refine J_iald (i2 := 0) (v := 0) dX12_measures_65 rfl rfl (jin (by decide +kernel)) (by decide +kernel) rfl ?_
  refine J_istore dX12_measures_66 (Nat.le_of_ble_eq_true rfl) rfl ?_
  refine J_iconst (v := 0) dX12_measures_68 (by decide) ?_
  refine J_istore dX12_measures_69 (Nat.le_of_ble_eq_true rfl) rfl ?_
  refine J_iload dX12_measures_71 rfl ?_
  refine J_aload_n dX12_measures_73 rfl rfl ?_
  refine J_get (v := .ref 114) dX12_measures_74 fl_X12_67 hk98 rfl ?_
  refine J_iload dX12_measures_77 rfl ?_
  refine J_iald (i2 := 0) (v := 0) dX12_measures_79 hk114 rfl (jin (by decide +kernel)) (by decide +kernel) rfl ?_
  refine J_icmp_ge (tgt := 211) dX12_measures_80 (by decide) (fun _ => ?_) (fun q => absurd (by decide +kernel) q)
  refine J_iinc (v := 1) dX12_measures_211 rfl (by decide +kernel) (Nat.le_of_ble_eq_true rfl) rfl ?_
  refine J_ls (ls2 := [some (.ref 98), some (.int 0), some (.int 1), some (.int 1), some (.int 0), some (.int 0), none]) rfl ?_
  refine J_goto (tgt := 55) dX12_measures_214 (by decide) ?_
  refine J_iload_n dX12_measures_55 rfl rfl ?_
  refine J_iload_n dX12_measures_56 rfl rfl ?_
  refine J_icmp_ge (tgt := 217) dX12_measures_57 (by decide) (fun _ => ?_) (fun q => absurd (by decide +kernel) q)
  refine J_iload_n dX12_measures_217 rfl rfl ?_
  refine J_mask (L2 := [(120, .inl (0, 1260, .inl (upd (fun _ => 0) 0 0))), (119, .inl (1, 1260, .inr (.inl (vp_updL (vp_updL (fun _ => 0) 0 0) 0 1)))), (118, .inl (0, 1260, .inl (upd (upd (fun _ => 0) 0 (-1)) 0 0)))]) (ks := [120, 119, 118, 119, 118]) [true, true, true, false, false] rfl (by decide +kernel) rfl ?_
  exact J_iret dX12_measures_218 rfl rfl (Nat.le_of_ble_eq_true rfl) (Nat.le_of_ble_eq_true rfl) ⟨rfl, rfl⟩
set_option maxHeartbeats 4000000 in
set_option maxRecDepth 100000 in
theorem c_X12_far_4 {l : Launch} {G : jG} {nh : Nat} {fh : Nat → Option va_E} (hk98 : fh 98 = some (.inr (12, [.int 0, .int 0, .ref 99, .ref 100, .ref 101, .ref 102, .ref 103, .ref 104, .ref 105, .int 0, .int (-1), .ref 106, .ref 107, .ref 108, .int 0, .int 0, .int 0, .int 0, .int 0, .int 0, .int 0, .ref 109, .int 0, .int 0, .ref 110, .ref 111, .ref 112, .ref 113, .ref 114, .ref 115, .ref 116, .ref 117, .int 0, .int 0, .int (-1), .int (-1), .ref 118, .ref 119, .ref 120, .ref 121, .ref 122, .ref 123, .ref 124, .ref 125, .ref 126, .ref 127, .ref 128, .ref 129, .int 0, .ref 130, .ref 131, .ref 132, .ref 133, .ref 134, .int 0, .int 0]))) (hk100 : fh 100 = some (.inl (0, 4870, .inl (upd (fun _ => 0) 63 (-1))))) (hk111 : fh 111 = some (.inl (0, 1260, .inl (fun _ => 0)))) (hk114 : fh 114 = some (.inl (0, 1260, .inl (fun _ => 0)))) (hk116 : fh 116 = some (.inl (0, 1260, .inl (fun _ => 0)))) (hk118 : fh 118 = some (.inl (0, 1260, .inl (fun _ => 0)))) (hk119 : fh 119 = some (.inl (1, 1260, .inr (.inl (fun _ => 0))))) (hk120 : fh 120 = some (.inl (0, 1260, .inl (fun _ => 0)))) : JM l G yX12_far MX12_far { frames := 3, cells := 0, slots := 0, locals := 69 } [.ref 98, .int 0, .int 0, .int 0] (nh, fh) (fun r h9 => r = some (.int 0) ∧ h9 = (nh, hc fh [(120, .inl (0, 1260, .inl (upd (fun _ => 0) 0 0))), (119, .inl (1, 1260, .inr (.inl (vp_updL (vp_updL (fun _ => 0) 0 0) 0 1)))), (118, .inl (0, 1260, .inl (upd (upd (fun _ => 0) 0 (-1)) 0 0))), (114, .inl (0, 1260, .inl (upd (fun _ => 0) 0 0))), (116, .inl (0, 1260, .inl (upd (fun _ => 0) 0 0))), (98, .inr (12, [.int 0, .int 0, .ref 99, .ref 100, .ref 101, .ref 102, .ref 103, .ref 104, .ref 105, .int 0, .int (-1), .ref 106, .ref 107, .ref 108, .int 0, .int 0, .int 0, .int 0, .int 0, .int 0, .int 0, .ref 109, .int 0, .int 0, .ref 110, .ref 111, .ref 112, .ref 113, .ref 114, .ref 115, .ref 116, .ref 117, .int 1, .int 0, .int 0, .int 0, .ref 118, .ref 119, .ref 120, .ref 121, .ref 122, .ref 123, .ref 124, .ref 125, .ref 126, .ref 127, .ref 128, .ref 129, .int 0, .ref 130, .ref 131, .ref 132, .ref 133, .ref 134, .int 0, .int 0])), (111, .inl (0, 1260, .inl (upd (fun _ => 0) 0 0)))])) := by
  refine JM.of (by decide) rfl (fun h => by cases h) (Nat.le_of_ble_eq_true rfl) ⟨0, rfl⟩ ?_
  refine J_hc0 (J_ls (ls2 := [some (.ref 98), some (.int 0), some (.int 0), some (.int 0)]) rfl ?_)
  refine J_aload_n dX12_far_0 rfl rfl ?_
  refine J_iload_n dX12_far_1 rfl rfl ?_
  refine J_callV (st := []) dX12_far_2 cv_X12_325 (c_X12_isHouse_2 hk98 hk100 hk111) hk98 rfl rfl (Nat.le_of_ble_eq_true rfl) ⟨(Nat.le_of_ble_eq_true rfl), (Nat.le_of_ble_eq_true rfl)⟩ ⟨(Nat.le_of_ble_eq_true rfl), (Nat.le_of_ble_eq_true rfl)⟩ (fun r h9 hp => ?_)
  obtain ⟨rfl, rfl⟩ := hp
  refine J_nf (nh2 := nh) (ck2 := 0) (sk2 := 0) (st2 := [.int 1]) rfl rfl rfl rfl ?_
  refine J_app (L3 := [(98, .inr (12, [.int 0, .int 0, .ref 99, .ref 100, .ref 101, .ref 102, .ref 103, .ref 104, .ref 105, .int 0, .int (-1), .ref 106, .ref 107, .ref 108, .int 0, .int 0, .int 0, .int 0, .int 0, .int 0, .int 0, .ref 109, .int 0, .int 0, .ref 110, .ref 111, .ref 112, .ref 113, .ref 114, .ref 115, .ref 116, .ref 117, .int 1, .int 0, .int 0, .int (-1), .ref 118, .ref 119, .ref 120, .ref 121, .ref 122, .ref 123, .ref 124, .ref 125, .ref 126, .ref 127, .ref 128, .ref 129, .int 0, .ref 130, .ref 131, .ref 132, .ref 133, .ref 134, .int 0, .int 0])), (111, .inl (0, 1260, .inl (upd (fun _ => 0) 0 0)))]) rfl ?_
  refine J_if_eq (tgt := 25) dX12_far_5 (by decide) (fun q => absurd q (by decide +kernel)) (fun _ => ?_)
  refine J_aload_n dX12_far_8 rfl rfl ?_
  refine J_iload_n dX12_far_9 rfl rfl ?_
  refine J_callV (st := []) dX12_far_10 cv_X12_325 (c_X12_isHouse_5 rfl) rfl rfl rfl (Nat.le_of_ble_eq_true rfl) ⟨(Nat.le_of_ble_eq_true rfl), (Nat.le_of_ble_eq_true rfl)⟩ ⟨(Nat.le_of_ble_eq_true rfl), (Nat.le_of_ble_eq_true rfl)⟩ (fun r h9 hp => ?_)
  obtain ⟨rfl, rfl⟩ := hp
  refine J_nf (nh2 := nh) (ck2 := 0) (sk2 := 0) (st2 := [.int 1]) rfl rfl rfl rfl ?_
  refine J_if_eq (tgt := 25) dX12_far_13 (by decide) (fun q => absurd q (by decide +kernel)) (fun _ => ?_)
  refine J_iload_n dX12_far_16 rfl rfl ?_
  refine J_iconst (v := 0) dX12_far_17 (by decide) ?_
  refine J_iconst (v := 2) dX12_far_18 (by decide) ?_
  refine J_callS (st := []) dX12_far_19 cs_X12_138 (c_X12_lies_37 ) rfl rfl (Nat.le_of_ble_eq_true rfl) ⟨(Nat.le_of_ble_eq_true rfl), (Nat.le_of_ble_eq_true rfl)⟩ ⟨(Nat.le_of_ble_eq_true rfl), (Nat.le_of_ble_eq_true rfl)⟩ (fun r h9 hp => ?_)
  obtain ⟨rfl, rfl⟩ := hp
  refine J_nf (nh2 := nh) (ck2 := 0) (sk2 := 0) (st2 := [.int 1]) rfl rfl rfl rfl ?_
  refine J_if_ne (tgt := 27) dX12_far_22 (by decide) (fun _ => ?_) (fun q => absurd q (by decide +kernel))
  refine J_aload_n dX12_far_27 rfl rfl ?_
  refine J_callV (st := []) dX12_far_28 cv_X12_328 (c_X12_looks_1 rfl hk100 hk114 hk116) rfl rfl rfl (Nat.le_of_ble_eq_true rfl) ⟨(Nat.le_of_ble_eq_true rfl), (Nat.le_of_ble_eq_true rfl)⟩ ⟨(Nat.le_of_ble_eq_true rfl), (Nat.le_of_ble_eq_true rfl)⟩ (fun r h9 hp => ?_)
  obtain ⟨rfl, rfl⟩ := hp
  refine J_nf (nh2 := nh) (ck2 := 0) (sk2 := 0) (st2 := []) rfl rfl rfl rfl ?_
  refine J_app (L3 := [(114, .inl (0, 1260, .inl (upd (fun _ => 0) 0 0))), (116, .inl (0, 1260, .inl (upd (fun _ => 0) 0 0))), (98, .inr (12, [.int 0, .int 0, .ref 99, .ref 100, .ref 101, .ref 102, .ref 103, .ref 104, .ref 105, .int 0, .int (-1), .ref 106, .ref 107, .ref 108, .int 0, .int 0, .int 0, .int 0, .int 0, .int 0, .int 0, .ref 109, .int 0, .int 0, .ref 110, .ref 111, .ref 112, .ref 113, .ref 114, .ref 115, .ref 116, .ref 117, .int 1, .int 0, .int 0, .int 0, .ref 118, .ref 119, .ref 120, .ref 121, .ref 122, .ref 123, .ref 124, .ref 125, .ref 126, .ref 127, .ref 128, .ref 129, .int 0, .ref 130, .ref 131, .ref 132, .ref 133, .ref 134, .int 0, .int 0])), (98, .inr (12, [.int 0, .int 0, .ref 99, .ref 100, .ref 101, .ref 102, .ref 103, .ref 104, .ref 105, .int 0, .int (-1), .ref 106, .ref 107, .ref 108, .int 0, .int 0, .int 0, .int 0, .int 0, .int 0, .int 0, .ref 109, .int 0, .int 0, .ref 110, .ref 111, .ref 112, .ref 113, .ref 114, .ref 115, .ref 116, .ref 117, .int 1, .int 0, .int 0, .int (-1), .ref 118, .ref 119, .ref 120, .ref 121, .ref 122, .ref 123, .ref 124, .ref 125, .ref 126, .ref 127, .ref 128, .ref 129, .int 0, .ref 130, .ref 131, .ref 132, .ref 133, .ref 134, .int 0, .int 0])), (111, .inl (0, 1260, .inl (upd (fun _ => 0) 0 0)))]) rfl ?_
  refine J_iload_n dX12_far_31 rfl rfl ?_
  refine J_iconst (v := 2) dX12_far_32 (by decide) ?_
  refine J_icmp_ne (tgt := 43) dX12_far_33 (by decide) (fun _ => ?_) (fun q => absurd q (by decide +kernel))
  refine J_aload_n dX12_far_43 rfl rfl ?_
  refine J_iload_n dX12_far_44 rfl rfl ?_
  refine J_callV (st := []) dX12_far_45 cv_X12_334 (c_X12_measures_1 rfl rfl hk118 hk119 hk120) rfl rfl rfl (Nat.le_of_ble_eq_true rfl) ⟨(Nat.le_of_ble_eq_true rfl), (Nat.le_of_ble_eq_true rfl)⟩ ⟨(Nat.le_of_ble_eq_true rfl), (Nat.le_of_ble_eq_true rfl)⟩ (fun r h9 hp => ?_)
  obtain ⟨rfl, rfl⟩ := hp
  refine J_nf (nh2 := nh) (ck2 := 0) (sk2 := 0) (st2 := [.int 1]) rfl rfl rfl rfl ?_
  refine J_app (L3 := [(120, .inl (0, 1260, .inl (upd (fun _ => 0) 0 0))), (119, .inl (1, 1260, .inr (.inl (vp_updL (vp_updL (fun _ => 0) 0 0) 0 1)))), (118, .inl (0, 1260, .inl (upd (upd (fun _ => 0) 0 (-1)) 0 0))), (114, .inl (0, 1260, .inl (upd (fun _ => 0) 0 0))), (116, .inl (0, 1260, .inl (upd (fun _ => 0) 0 0))), (98, .inr (12, [.int 0, .int 0, .ref 99, .ref 100, .ref 101, .ref 102, .ref 103, .ref 104, .ref 105, .int 0, .int (-1), .ref 106, .ref 107, .ref 108, .int 0, .int 0, .int 0, .int 0, .int 0, .int 0, .int 0, .ref 109, .int 0, .int 0, .ref 110, .ref 111, .ref 112, .ref 113, .ref 114, .ref 115, .ref 116, .ref 117, .int 1, .int 0, .int 0, .int 0, .ref 118, .ref 119, .ref 120, .ref 121, .ref 122, .ref 123, .ref 124, .ref 125, .ref 126, .ref 127, .ref 128, .ref 129, .int 0, .ref 130, .ref 131, .ref 132, .ref 133, .ref 134, .int 0, .int 0])), (98, .inr (12, [.int 0, .int 0, .ref 99, .ref 100, .ref 101, .ref 102, .ref 103, .ref 104, .ref 105, .int 0, .int (-1), .ref 106, .ref 107, .ref 108, .int 0, .int 0, .int 0, .int 0, .int 0, .int 0, .int 0, .ref 109, .int 0, .int 0, .ref 110, .ref 111, .ref 112, .ref 113, .ref 114, .ref 115, .ref 116, .ref 117, .int 1, .int 0, .int 0, .int (-1), .ref 118, .ref 119, .ref 120, .ref 121, .ref 122, .ref 123, .ref 124, .ref 125, .ref 126, .ref 127, .ref 128, .ref 129, .int 0, .ref 130, .ref 131, .ref 132, .ref 133, .ref 134, .int 0, .int 0])), (111, .inl (0, 1260, .inl (upd (fun _ => 0) 0 0)))]) rfl ?_
  refine J_pop dX12_far_48 rfl ?_
  refine J_iload_n dX12_far_49 rfl rfl ?_
  refine J_if_ne (tgt := 62) dX12_far_50 (by decide) (fun q => absurd (by decide +kernel) q) (fun _ => ?_)
  refine J_aload_n dX12_far_53 rfl rfl ?_
  refine J_get (v := .ref 118) dX12_far_54 fl_X12_85 rfl rfl ?_
  refine J_iload_n dX12_far_57 rfl rfl ?_
  refine J_iald (i2 := 0) (v := 0) dX12_far_58 rfl rfl (jin (by decide +kernel)) (by decide +kernel) rfl ?_
  refine J_goto (tgt := 69) dX12_far_59 (by decide) ?_
  refine J_mask (L2 := [(120, .inl (0, 1260, .inl (upd (fun _ => 0) 0 0))), (119, .inl (1, 1260, .inr (.inl (vp_updL (vp_updL (fun _ => 0) 0 0) 0 1)))), (118, .inl (0, 1260, .inl (upd (upd (fun _ => 0) 0 (-1)) 0 0))), (114, .inl (0, 1260, .inl (upd (fun _ => 0) 0 0))), (116, .inl (0, 1260, .inl (upd (fun _ => 0) 0 0))), (98, .inr (12, [.int 0, .int 0, .ref 99, .ref 100, .ref 101, .ref 102, .ref 103, .ref 104, .ref 105, .int 0, .int (-1), .ref 106, .ref 107, .ref 108, .int 0, .int 0, .int 0, .int 0, .int 0, .int 0, .int 0, .ref 109, .int 0, .int 0, .ref 110, .ref 111, .ref 112, .ref 113, .ref 114, .ref 115, .ref 116, .ref 117, .int 1, .int 0, .int 0, .int 0, .ref 118, .ref 119, .ref 120, .ref 121, .ref 122, .ref 123, .ref 124, .ref 125, .ref 126, .ref 127, .ref 128, .ref 129, .int 0, .ref 130, .ref 131, .ref 132, .ref 133, .ref 134, .int 0, .int 0])), (111, .inl (0, 1260, .inl (upd (fun _ => 0) 0 0)))]) (ks := [120, 119, 118, 114, 116, 98, 98, 111]) [true, true, true, true, true, true, false, true] rfl (by decide +kernel) rfl ?_
  exact J_iret dX12_far_69 rfl rfl (Nat.le_of_ble_eq_true rfl) (Nat.le_of_ble_eq_true rfl) ⟨rfl, rfl⟩
set_option maxHeartbeats 4000000 in
set_option maxRecDepth 100000 in
theorem c_X10_waysTo_1 {l : Launch} {G : jG} {nh : Nat} {fh : Nat → Option va_E} (hk1 : fh 1 = some (.inr (8, [.ref 2, .ref 3, .ref 4, .int 0, .int (-1), .ref 11, .ref 12, .int 0, .ref 13, .ref 14, .int 0, .ref 15, .ref 16, .int 0]))) (hk3 : fh 3 = some (.inl (0, 2, .inl (fun _ => 0)))) (hk51 : fh 51 = some (.inr (0, [.ref 52, .ref 53, .int 1, .int 0]))) (hk52 : fh 52 = some (.inl (0, 1260, .inl (upd (fun _ => 0) 0 0)))) (hk57 : fh 57 = some (.inr (9, [.ref 1, .ref 51, .ref 58, .ref 61, .ref 62, .ref 135, .ref 64, .int 0, .int 0, .int 0]))) (hk62 : fh 62 = some (.inl (0, 1260, .inl (upd (fun _ => 0) 0 (-1))))) (hk65 : fh 65 = some (.inr (10, [.ref 51, .ref 57, .ref 66, .ref 67, .ref 68, .int 0, .int (-1), .int (-1), .ref 69, .ref 70, .ref 71, .ref 72, .int 0, .int (-1), .int (-1), .ref 73, .ref 74]))) (hk66 : fh 66 = some (.inl (0, 1260, .inl (fun _ => 0)))) (hk67 : fh 67 = some (.inl (0, 1260, .inl (fun _ => 0)))) (hk68 : fh 68 = some (.inl (0, 1260, .inl (fun _ => 0)))) : JM l G yX10_waysTo MX10_waysTo { frames := 6, cells := 0, slots := 0, locals := 142 } [.ref 65, .int 0, .int 0] (nh, fh) (fun r h9 => r = some (.int 1) ∧ h9 = (nh, hc fh [(62, .inl (0, 1260, .inl (upd (upd (fun _ => 0) 0 (-1)) 0 0))), (65, .inr (10, [.ref 51, .ref 57, .ref 66, .ref 67, .ref 68, .int 1, .int 0, .int 0, .ref 69, .ref 70, .ref 71, .ref 72, .int 0, .int (-1), .int (-1), .ref 73, .ref 74])), (68, .inl (0, 1260, .inl (upd (fun _ => 0) 0 0))), (67, .inl (0, 1260, .inl (upd (fun _ => 0) 0 1))), (66, .inl (0, 1260, .inl (upd (upd (fun _ => 0) 0 (-1)) 0 0)))])) := by
  refine JM.of (by decide) rfl (fun h => by cases h) (Nat.le_of_ble_eq_true rfl) ⟨0, rfl⟩ ?_
  refine J_hc0 (J_ls (ls2 := [some (.ref 65), some (.int 0), some (.int 0)]) rfl ?_)
  refine J_aload_n dX10_waysTo_0 rfl rfl ?_
  refine J_iload_n dX10_waysTo_1 rfl rfl ?_
  refine J_callV (st := []) dX10_waysTo_2 cv_X10_67 (c_X10_walkFrom_1 hk1 hk3 hk51 hk52 hk57 hk62 hk65 hk66 hk67 hk68) hk65 rfl rfl (Nat.le_of_ble_eq_true rfl) ⟨(Nat.le_of_ble_eq_true rfl), (Nat.le_of_ble_eq_true rfl)⟩ ⟨(Nat.le_of_ble_eq_true rfl), (Nat.le_of_ble_eq_true rfl)⟩ (fun r h9 hp => ?_)
  obtain ⟨rfl, rfl⟩ := hp
  refine J_nf (nh2 := nh) (ck2 := 0) (sk2 := 0) (st2 := []) rfl rfl rfl rfl ?_
  refine J_app (L3 := [(62, .inl (0, 1260, .inl (upd (upd (fun _ => 0) 0 (-1)) 0 0))), (65, .inr (10, [.ref 51, .ref 57, .ref 66, .ref 67, .ref 68, .int 1, .int 0, .int 0, .ref 69, .ref 70, .ref 71, .ref 72, .int 0, .int (-1), .int (-1), .ref 73, .ref 74])), (68, .inl (0, 1260, .inl (upd (fun _ => 0) 0 0))), (67, .inl (0, 1260, .inl (upd (fun _ => 0) 0 1))), (66, .inl (0, 1260, .inl (upd (upd (fun _ => 0) 0 (-1)) 0 0)))]) rfl ?_
  refine J_aload_n dX10_waysTo_5 rfl rfl ?_
  refine J_get (v := .ref 66) dX10_waysTo_6 fl_X10_9 rfl rfl ?_
  refine J_iload_n dX10_waysTo_9 rfl rfl ?_
  refine J_iald (i2 := 0) (v := 0) dX10_waysTo_10 rfl rfl (jin (by decide +kernel)) (by decide +kernel) rfl ?_
  refine J_iconst (v := (-1)) dX10_waysTo_11 (by decide) ?_
  refine J_icmp_ne (tgt := 19) dX10_waysTo_12 (by decide) (fun _ => ?_) (fun q => absurd q (by decide +kernel))
  refine J_aload_n dX10_waysTo_19 rfl rfl ?_
  refine J_get (v := .ref 67) dX10_waysTo_20 fl_X10_15 rfl rfl ?_
  refine J_iload_n dX10_waysTo_23 rfl rfl ?_
  refine J_iald (i2 := 0) (v := 1) dX10_waysTo_24 rfl rfl (jin (by decide +kernel)) (by decide +kernel) rfl ?_
  exact J_iret dX10_waysTo_25 rfl rfl (Nat.le_of_ble_eq_true rfl) (Nat.le_of_ble_eq_true rfl) ⟨rfl, rfl⟩
set_option maxHeartbeats 4000000 in
set_option maxRecDepth 100000 in
theorem c_X11_far_5 {l : Launch} {G : jG} {fh : Nat → Option va_E} (hk0 : fh 0 = some (.inr (11, [.ref 1, .ref 17, .ref 50, .ref 51, .ref 54, .ref 57, .ref 65, .ref 75, .ref 81, .ref 85, .ref 88, .ref 93, .ref 96, .int 0, .int (-1), .ref 97, .int 0]))) (hk1 : fh 1 = some (.inr (8, [.ref 2, .ref 3, .ref 4, .int 0, .int (-1), .ref 11, .ref 12, .int 0, .ref 13, .ref 14, .int 0, .ref 15, .ref 16, .int 0]))) (hk3 : fh 3 = some (.inl (0, 2, .inl (fun _ => 0)))) (hk51 : fh 51 = some (.inr (0, [.ref 52, .ref 53, .int 1, .int 0]))) (hk52 : fh 52 = some (.inl (0, 1260, .inl (upd (fun _ => 0) 0 0)))) (hk57 : fh 57 = some (.inr (9, [.ref 1, .ref 51, .ref 58, .ref 61, .ref 62, .ref 63, .ref 64, .int 0, .int 1, .int 1]))) (hk58 : fh 58 = some (.inr (1, [.ref 59, .ref 60, .int 0, .int 0, .int 0, .int 0, .int 0, .int 1]))) (hk59 : fh 59 = some (.inl (0, 8, .inl (fun _ => 0)))) (hk62 : fh 62 = some (.inl (0, 1260, .inl (fun _ => 0)))) (hk63 : fh 63 = some (.inl (0, 0, .inl (fun _ => 0)))) (hk65 : fh 65 = some (.inr (10, [.ref 51, .ref 57, .ref 66, .ref 67, .ref 68, .int 0, .int (-1), .int (-1), .ref 69, .ref 70, .ref 71, .ref 72, .int 0, .int (-1), .int (-1), .ref 73, .ref 74]))) (hk66 : fh 66 = some (.inl (0, 1260, .inl (fun _ => 0)))) (hk67 : fh 67 = some (.inl (0, 1260, .inl (fun _ => 0)))) (hk68 : fh 68 = some (.inl (0, 1260, .inl (fun _ => 0)))) : JM l G yX11_far MX11_far { frames := 7, cells := 1, slots := 22, locals := 164 } [.ref 0, .int 0, .int 0, .int 1] (135, fh) (fun r h9 => r = some (.int 1) ∧ h9 = (136, hc fh [(62, .inl (0, 1260, .inl (upd (upd (fun _ => 0) 0 (-1)) 0 0))), (65, .inr (10, [.ref 51, .ref 57, .ref 66, .ref 67, .ref 68, .int 1, .int 0, .int 0, .ref 69, .ref 70, .ref 71, .ref 72, .int 0, .int (-1), .int (-1), .ref 73, .ref 74])), (68, .inl (0, 1260, .inl (upd (fun _ => 0) 0 0))), (67, .inl (0, 1260, .inl (upd (fun _ => 0) 0 1))), (66, .inl (0, 1260, .inl (upd (upd (fun _ => 0) 0 (-1)) 0 0))), (57, .inr (9, [.ref 1, .ref 51, .ref 58, .ref 61, .ref 62, .ref 135, .ref 64, .int 0, .int 0, .int 0])), (135, .inl (0, 22, .inl (fun _ => 0))), (59, .inl (0, 8, .inl (upd (upd (fun _ => 0) 6 0) 7 0)))])) := by
  refine JM.of (by decide) rfl (fun h => by cases h) (Nat.le_of_ble_eq_true rfl) ⟨0, rfl⟩ ?_
  refine J_hc0 (J_ls (ls2 := [some (.ref 0), some (.int 0), some (.int 0), some (.int 1)]) rfl ?_)
  refine J_aload_n dX11_far_0 rfl rfl ?_
  refine J_get (v := .ref 51) dX11_far_1 fl_X11_27 hk0 rfl ?_
  refine J_iload_n dX11_far_4 rfl rfl ?_
  refine J_callV (st := []) dX11_far_5 cv_X11_135 (c_X0_has_2 hk51) hk51 rfl rfl (Nat.le_of_ble_eq_true rfl) ⟨(Nat.le_of_ble_eq_true rfl), (Nat.le_of_ble_eq_true rfl)⟩ ⟨(Nat.le_of_ble_eq_true rfl), (Nat.le_of_ble_eq_true rfl)⟩ (fun r h9 hp => ?_)
  obtain ⟨rfl, rfl⟩ := hp
  refine J_nf (nh2 := 135) (ck2 := 0) (sk2 := 0) (st2 := [.int 1]) rfl rfl rfl rfl ?_
  refine J_if_eq (tgt := 22) dX11_far_8 (by decide) (fun q => absurd q (by decide +kernel)) (fun _ => ?_)
  refine J_aload_n dX11_far_11 rfl rfl ?_
  refine J_get (v := .ref 51) dX11_far_12 fl_X11_27 hk0 rfl ?_
  refine J_iload_n dX11_far_15 rfl rfl ?_
  refine J_callV (st := []) dX11_far_16 cv_X11_135 (c_X0_has_2 hk51) hk51 rfl rfl (Nat.le_of_ble_eq_true rfl) ⟨(Nat.le_of_ble_eq_true rfl), (Nat.le_of_ble_eq_true rfl)⟩ ⟨(Nat.le_of_ble_eq_true rfl), (Nat.le_of_ble_eq_true rfl)⟩ (fun r h9 hp => ?_)
  obtain ⟨rfl, rfl⟩ := hp
  refine J_nf (nh2 := 135) (ck2 := 0) (sk2 := 0) (st2 := [.int 1]) rfl rfl rfl rfl ?_
  refine J_if_ne (tgt := 24) dX11_far_19 (by decide) (fun _ => ?_) (fun q => absurd q (by decide +kernel))
  refine J_aload_n dX11_far_24 rfl rfl ?_
  refine J_get (v := .ref 57) dX11_far_25 fl_X11_43 hk0 rfl ?_
  refine J_callV (st := []) dX11_far_28 cv_X11_217 (c_X9_prepare_1 hk1 hk3 hk51 hk57 hk58 hk59 hk62 hk63) hk57 rfl rfl (Nat.le_of_ble_eq_true rfl) ⟨(Nat.le_of_ble_eq_true rfl), (Nat.le_of_ble_eq_true rfl)⟩ ⟨(Nat.le_of_ble_eq_true rfl), (Nat.le_of_ble_eq_true rfl)⟩ (fun r h9 hp => ?_)
  obtain ⟨rfl, rfl⟩ := hp
  refine J_nf (nh2 := 136) (ck2 := 1) (sk2 := 22) (st2 := []) rfl rfl rfl rfl ?_
  refine J_app (L3 := [(57, .inr (9, [.ref 1, .ref 51, .ref 58, .ref 61, .ref 62, .ref 135, .ref 64, .int 0, .int 0, .int 0])), (62, .inl (0, 1260, .inl (upd (fun _ => 0) 0 (-1)))), (135, .inl (0, 22, .inl (fun _ => 0))), (59, .inl (0, 8, .inl (upd (upd (fun _ => 0) 6 0) 7 0)))]) rfl ?_
  refine J_iload_n dX11_far_31 rfl rfl ?_
  refine J_tableIn (tgt := 70) dX11_far_32 (by decide +kernel) (by decide +kernel) (off := 38) (by decide +kernel) (by decide) ?_
  refine J_aload_n dX11_far_70 rfl rfl ?_
  refine J_get (v := .ref 65) dX11_far_71 fl_X11_52 hk0 rfl ?_
  refine J_iload_n dX11_far_74 rfl rfl ?_
  refine J_iload_n dX11_far_75 rfl rfl ?_
  refine J_callV (st := []) dX11_far_76 cv_X11_232 (c_X10_waysTo_1 hk1 hk3 hk51 hk52 rfl rfl hk65 hk66 hk67 hk68) hk65 rfl rfl (Nat.le_of_ble_eq_true rfl) ⟨(Nat.le_of_ble_eq_true rfl), (Nat.le_of_ble_eq_true rfl)⟩ ⟨(Nat.le_of_ble_eq_true rfl), (Nat.le_of_ble_eq_true rfl)⟩ (fun r h9 hp => ?_)
  obtain ⟨rfl, rfl⟩ := hp
  refine J_nf (nh2 := 136) (ck2 := 1) (sk2 := 22) (st2 := [.int 1]) rfl rfl rfl rfl ?_
  refine J_app (L3 := [(62, .inl (0, 1260, .inl (upd (upd (fun _ => 0) 0 (-1)) 0 0))), (65, .inr (10, [.ref 51, .ref 57, .ref 66, .ref 67, .ref 68, .int 1, .int 0, .int 0, .ref 69, .ref 70, .ref 71, .ref 72, .int 0, .int (-1), .int (-1), .ref 73, .ref 74])), (68, .inl (0, 1260, .inl (upd (fun _ => 0) 0 0))), (67, .inl (0, 1260, .inl (upd (fun _ => 0) 0 1))), (66, .inl (0, 1260, .inl (upd (upd (fun _ => 0) 0 (-1)) 0 0))), (57, .inr (9, [.ref 1, .ref 51, .ref 58, .ref 61, .ref 62, .ref 135, .ref 64, .int 0, .int 0, .int 0])), (62, .inl (0, 1260, .inl (upd (fun _ => 0) 0 (-1)))), (135, .inl (0, 22, .inl (fun _ => 0))), (59, .inl (0, 8, .inl (upd (upd (fun _ => 0) 6 0) 7 0)))]) rfl ?_
  refine J_mask (L2 := [(62, .inl (0, 1260, .inl (upd (upd (fun _ => 0) 0 (-1)) 0 0))), (65, .inr (10, [.ref 51, .ref 57, .ref 66, .ref 67, .ref 68, .int 1, .int 0, .int 0, .ref 69, .ref 70, .ref 71, .ref 72, .int 0, .int (-1), .int (-1), .ref 73, .ref 74])), (68, .inl (0, 1260, .inl (upd (fun _ => 0) 0 0))), (67, .inl (0, 1260, .inl (upd (fun _ => 0) 0 1))), (66, .inl (0, 1260, .inl (upd (upd (fun _ => 0) 0 (-1)) 0 0))), (57, .inr (9, [.ref 1, .ref 51, .ref 58, .ref 61, .ref 62, .ref 135, .ref 64, .int 0, .int 0, .int 0])), (135, .inl (0, 22, .inl (fun _ => 0))), (59, .inl (0, 8, .inl (upd (upd (fun _ => 0) 6 0) 7 0)))]) (ks := [62, 65, 68, 67, 66, 57, 62, 135, 59]) [true, true, true, true, true, true, false, true, true] rfl (by decide +kernel) rfl ?_
  exact J_iret dX11_far_79 rfl rfl (Nat.le_of_ble_eq_true rfl) (Nat.le_of_ble_eq_true rfl) ⟨rfl, rfl⟩
set_option maxHeartbeats 4000000 in
set_option maxRecDepth 100000 in
theorem c_X12_lies_38 {l : Launch} {G : jG} {nh : Nat} {fh : Nat → Option va_E}  : JM l G yX12_lies MX12_lies { frames := 0, cells := 0, slots := 0, locals := 0 } [.int 1, .int 0, .int 2] (nh, fh) (fun r h9 => r = some (.int 1) ∧ h9 = (nh, fh)) := by
  refine JM.of (by decide) rfl (fun h => by cases h) (Nat.le_of_ble_eq_true rfl) ⟨0, rfl⟩ ?_
  refine J_hc0 (J_ls (ls2 := [some (.int 1), some (.int 0), some (.int 2)]) rfl ?_)
  refine J_iload_n dX12_lies_0 rfl rfl ?_
  refine J_iload_n dX12_lies_1 rfl rfl ?_
  refine J_icmp_lt (tgt := 14) dX12_lies_2 (by decide) (fun q => absurd q (by decide +kernel)) (fun _ => ?_)
  refine J_iload_n dX12_lies_5 rfl rfl ?_
  refine J_iload_n dX12_lies_6 rfl rfl ?_
  refine J_icmp_gt (tgt := 14) dX12_lies_7 (by decide) (fun q => absurd q (by decide +kernel)) (fun _ => ?_)
  refine J_iconst (v := 1) dX12_lies_10 (by decide) ?_
  refine J_goto (tgt := 15) dX12_lies_11 (by decide) ?_
  exact J_iret dX12_lies_15 rfl (by decide +kernel) (Nat.le_of_ble_eq_true rfl) (Nat.le_of_ble_eq_true rfl) ⟨rfl, rfl⟩
set_option maxHeartbeats 4000000 in
set_option maxRecDepth 100000 in
theorem c_X12_far_5 {l : Launch} {G : jG} {nh : Nat} {fh : Nat → Option va_E} (hk98 : fh 98 = some (.inr (12, [.int 0, .int 0, .ref 99, .ref 100, .ref 101, .ref 102, .ref 103, .ref 104, .ref 105, .int 0, .int (-1), .ref 106, .ref 107, .ref 108, .int 0, .int 0, .int 0, .int 0, .int 0, .int 0, .int 0, .ref 109, .int 0, .int 0, .ref 110, .ref 111, .ref 112, .ref 113, .ref 114, .ref 115, .ref 116, .ref 117, .int 0, .int 0, .int (-1), .int (-1), .ref 118, .ref 119, .ref 120, .ref 121, .ref 122, .ref 123, .ref 124, .ref 125, .ref 126, .ref 127, .ref 128, .ref 129, .int 0, .ref 130, .ref 131, .ref 132, .ref 133, .ref 134, .int 0, .int 0]))) (hk100 : fh 100 = some (.inl (0, 4870, .inl (upd (fun _ => 0) 63 (-1))))) (hk111 : fh 111 = some (.inl (0, 1260, .inl (fun _ => 0)))) (hk114 : fh 114 = some (.inl (0, 1260, .inl (fun _ => 0)))) (hk116 : fh 116 = some (.inl (0, 1260, .inl (fun _ => 0)))) (hk118 : fh 118 = some (.inl (0, 1260, .inl (fun _ => 0)))) (hk119 : fh 119 = some (.inl (1, 1260, .inr (.inl (fun _ => 0))))) (hk120 : fh 120 = some (.inl (0, 1260, .inl (fun _ => 0)))) : JM l G yX12_far MX12_far { frames := 3, cells := 0, slots := 0, locals := 69 } [.ref 98, .int 0, .int 0, .int 1] (nh, fh) (fun r h9 => r = some (.int 1) ∧ h9 = (nh, hc fh [(120, .inl (0, 1260, .inl (upd (fun _ => 0) 0 0))), (119, .inl (1, 1260, .inr (.inl (vp_updL (vp_updL (fun _ => 0) 0 0) 0 1)))), (118, .inl (0, 1260, .inl (upd (upd (fun _ => 0) 0 (-1)) 0 0))), (114, .inl (0, 1260, .inl (upd (fun _ => 0) 0 0))), (116, .inl (0, 1260, .inl (upd (fun _ => 0) 0 0))), (98, .inr (12, [.int 0, .int 0, .ref 99, .ref 100, .ref 101, .ref 102, .ref 103, .ref 104, .ref 105, .int 0, .int (-1), .ref 106, .ref 107, .ref 108, .int 0, .int 0, .int 0, .int 0, .int 0, .int 0, .int 0, .ref 109, .int 0, .int 0, .ref 110, .ref 111, .ref 112, .ref 113, .ref 114, .ref 115, .ref 116, .ref 117, .int 1, .int 0, .int 0, .int 0, .ref 118, .ref 119, .ref 120, .ref 121, .ref 122, .ref 123, .ref 124, .ref 125, .ref 126, .ref 127, .ref 128, .ref 129, .int 0, .ref 130, .ref 131, .ref 132, .ref 133, .ref 134, .int 0, .int 0])), (111, .inl (0, 1260, .inl (upd (fun _ => 0) 0 0)))])) := by
  refine JM.of (by decide) rfl (fun h => by cases h) (Nat.le_of_ble_eq_true rfl) ⟨0, rfl⟩ ?_
  refine J_hc0 (J_ls (ls2 := [some (.ref 98), some (.int 0), some (.int 0), some (.int 1)]) rfl ?_)
  refine J_aload_n dX12_far_0 rfl rfl ?_
  refine J_iload_n dX12_far_1 rfl rfl ?_
  refine J_callV (st := []) dX12_far_2 cv_X12_325 (c_X12_isHouse_2 hk98 hk100 hk111) hk98 rfl rfl (Nat.le_of_ble_eq_true rfl) ⟨(Nat.le_of_ble_eq_true rfl), (Nat.le_of_ble_eq_true rfl)⟩ ⟨(Nat.le_of_ble_eq_true rfl), (Nat.le_of_ble_eq_true rfl)⟩ (fun r h9 hp => ?_)
  obtain ⟨rfl, rfl⟩ := hp
  refine J_nf (nh2 := nh) (ck2 := 0) (sk2 := 0) (st2 := [.int 1]) rfl rfl rfl rfl ?_
  refine J_app (L3 := [(98, .inr (12, [.int 0, .int 0, .ref 99, .ref 100, .ref 101, .ref 102, .ref 103, .ref 104, .ref 105, .int 0, .int (-1), .ref 106, .ref 107, .ref 108, .int 0, .int 0, .int 0, .int 0, .int 0, .int 0, .int 0, .ref 109, .int 0, .int 0, .ref 110, .ref 111, .ref 112, .ref 113, .ref 114, .ref 115, .ref 116, .ref 117, .int 1, .int 0, .int 0, .int (-1), .ref 118, .ref 119, .ref 120, .ref 121, .ref 122, .ref 123, .ref 124, .ref 125, .ref 126, .ref 127, .ref 128, .ref 129, .int 0, .ref 130, .ref 131, .ref 132, .ref 133, .ref 134, .int 0, .int 0])), (111, .inl (0, 1260, .inl (upd (fun _ => 0) 0 0)))]) rfl ?_
  refine J_if_eq (tgt := 25) dX12_far_5 (by decide) (fun q => absurd q (by decide +kernel)) (fun _ => ?_)
  refine J_aload_n dX12_far_8 rfl rfl ?_
  refine J_iload_n dX12_far_9 rfl rfl ?_
  refine J_callV (st := []) dX12_far_10 cv_X12_325 (c_X12_isHouse_5 rfl) rfl rfl rfl (Nat.le_of_ble_eq_true rfl) ⟨(Nat.le_of_ble_eq_true rfl), (Nat.le_of_ble_eq_true rfl)⟩ ⟨(Nat.le_of_ble_eq_true rfl), (Nat.le_of_ble_eq_true rfl)⟩ (fun r h9 hp => ?_)
  obtain ⟨rfl, rfl⟩ := hp
  refine J_nf (nh2 := nh) (ck2 := 0) (sk2 := 0) (st2 := [.int 1]) rfl rfl rfl rfl ?_
  refine J_if_eq (tgt := 25) dX12_far_13 (by decide) (fun q => absurd q (by decide +kernel)) (fun _ => ?_)
  refine J_iload_n dX12_far_16 rfl rfl ?_
  refine J_iconst (v := 0) dX12_far_17 (by decide) ?_
  refine J_iconst (v := 2) dX12_far_18 (by decide) ?_
  refine J_callS (st := []) dX12_far_19 cs_X12_138 (c_X12_lies_38 ) rfl rfl (Nat.le_of_ble_eq_true rfl) ⟨(Nat.le_of_ble_eq_true rfl), (Nat.le_of_ble_eq_true rfl)⟩ ⟨(Nat.le_of_ble_eq_true rfl), (Nat.le_of_ble_eq_true rfl)⟩ (fun r h9 hp => ?_)
  obtain ⟨rfl, rfl⟩ := hp
  refine J_nf (nh2 := nh) (ck2 := 0) (sk2 := 0) (st2 := [.int 1]) rfl rfl rfl rfl ?_
  refine J_if_ne (tgt := 27) dX12_far_22 (by decide) (fun _ => ?_) (fun q => absurd q (by decide +kernel))
  refine J_aload_n dX12_far_27 rfl rfl ?_
  refine J_callV (st := []) dX12_far_28 cv_X12_328 (c_X12_looks_1 rfl hk100 hk114 hk116) rfl rfl rfl (Nat.le_of_ble_eq_true rfl) ⟨(Nat.le_of_ble_eq_true rfl), (Nat.le_of_ble_eq_true rfl)⟩ ⟨(Nat.le_of_ble_eq_true rfl), (Nat.le_of_ble_eq_true rfl)⟩ (fun r h9 hp => ?_)
  obtain ⟨rfl, rfl⟩ := hp
  refine J_nf (nh2 := nh) (ck2 := 0) (sk2 := 0) (st2 := []) rfl rfl rfl rfl ?_
  refine J_app (L3 := [(114, .inl (0, 1260, .inl (upd (fun _ => 0) 0 0))), (116, .inl (0, 1260, .inl (upd (fun _ => 0) 0 0))), (98, .inr (12, [.int 0, .int 0, .ref 99, .ref 100, .ref 101, .ref 102, .ref 103, .ref 104, .ref 105, .int 0, .int (-1), .ref 106, .ref 107, .ref 108, .int 0, .int 0, .int 0, .int 0, .int 0, .int 0, .int 0, .ref 109, .int 0, .int 0, .ref 110, .ref 111, .ref 112, .ref 113, .ref 114, .ref 115, .ref 116, .ref 117, .int 1, .int 0, .int 0, .int 0, .ref 118, .ref 119, .ref 120, .ref 121, .ref 122, .ref 123, .ref 124, .ref 125, .ref 126, .ref 127, .ref 128, .ref 129, .int 0, .ref 130, .ref 131, .ref 132, .ref 133, .ref 134, .int 0, .int 0])), (98, .inr (12, [.int 0, .int 0, .ref 99, .ref 100, .ref 101, .ref 102, .ref 103, .ref 104, .ref 105, .int 0, .int (-1), .ref 106, .ref 107, .ref 108, .int 0, .int 0, .int 0, .int 0, .int 0, .int 0, .int 0, .ref 109, .int 0, .int 0, .ref 110, .ref 111, .ref 112, .ref 113, .ref 114, .ref 115, .ref 116, .ref 117, .int 1, .int 0, .int 0, .int (-1), .ref 118, .ref 119, .ref 120, .ref 121, .ref 122, .ref 123, .ref 124, .ref 125, .ref 126, .ref 127, .ref 128, .ref 129, .int 0, .ref 130, .ref 131, .ref 132, .ref 133, .ref 134, .int 0, .int 0])), (111, .inl (0, 1260, .inl (upd (fun _ => 0) 0 0)))]) rfl ?_
  refine J_iload_n dX12_far_31 rfl rfl ?_
  refine J_iconst (v := 2) dX12_far_32 (by decide) ?_
  refine J_icmp_ne (tgt := 43) dX12_far_33 (by decide) (fun _ => ?_) (fun q => absurd q (by decide +kernel))
  refine J_aload_n dX12_far_43 rfl rfl ?_
  refine J_iload_n dX12_far_44 rfl rfl ?_
  refine J_callV (st := []) dX12_far_45 cv_X12_334 (c_X12_measures_1 rfl rfl hk118 hk119 hk120) rfl rfl rfl (Nat.le_of_ble_eq_true rfl) ⟨(Nat.le_of_ble_eq_true rfl), (Nat.le_of_ble_eq_true rfl)⟩ ⟨(Nat.le_of_ble_eq_true rfl), (Nat.le_of_ble_eq_true rfl)⟩ (fun r h9 hp => ?_)
  obtain ⟨rfl, rfl⟩ := hp
  refine J_nf (nh2 := nh) (ck2 := 0) (sk2 := 0) (st2 := [.int 1]) rfl rfl rfl rfl ?_
  refine J_app (L3 := [(120, .inl (0, 1260, .inl (upd (fun _ => 0) 0 0))), (119, .inl (1, 1260, .inr (.inl (vp_updL (vp_updL (fun _ => 0) 0 0) 0 1)))), (118, .inl (0, 1260, .inl (upd (upd (fun _ => 0) 0 (-1)) 0 0))), (114, .inl (0, 1260, .inl (upd (fun _ => 0) 0 0))), (116, .inl (0, 1260, .inl (upd (fun _ => 0) 0 0))), (98, .inr (12, [.int 0, .int 0, .ref 99, .ref 100, .ref 101, .ref 102, .ref 103, .ref 104, .ref 105, .int 0, .int (-1), .ref 106, .ref 107, .ref 108, .int 0, .int 0, .int 0, .int 0, .int 0, .int 0, .int 0, .ref 109, .int 0, .int 0, .ref 110, .ref 111, .ref 112, .ref 113, .ref 114, .ref 115, .ref 116, .ref 117, .int 1, .int 0, .int 0, .int 0, .ref 118, .ref 119, .ref 120, .ref 121, .ref 122, .ref 123, .ref 124, .ref 125, .ref 126, .ref 127, .ref 128, .ref 129, .int 0, .ref 130, .ref 131, .ref 132, .ref 133, .ref 134, .int 0, .int 0])), (98, .inr (12, [.int 0, .int 0, .ref 99, .ref 100, .ref 101, .ref 102, .ref 103, .ref 104, .ref 105, .int 0, .int (-1), .ref 106, .ref 107, .ref 108, .int 0, .int 0, .int 0, .int 0, .int 0, .int 0, .int 0, .ref 109, .int 0, .int 0, .ref 110, .ref 111, .ref 112, .ref 113, .ref 114, .ref 115, .ref 116, .ref 117, .int 1, .int 0, .int 0, .int (-1), .ref 118, .ref 119, .ref 120, .ref 121, .ref 122, .ref 123, .ref 124, .ref 125, .ref 126, .ref 127, .ref 128, .ref 129, .int 0, .ref 130, .ref 131, .ref 132, .ref 133, .ref 134, .int 0, .int 0])), (111, .inl (0, 1260, .inl (upd (fun _ => 0) 0 0)))]) rfl ?_
  refine J_pop dX12_far_48 rfl ?_
  refine J_iload_n dX12_far_49 rfl rfl ?_
  refine J_if_ne (tgt := 62) dX12_far_50 (by decide) (fun _ => ?_) (fun q => absurd q (by decide +kernel))
  refine J_aload_n dX12_far_62 rfl rfl ?_
  refine J_get (v := .ref 119) dX12_far_63 fl_X12_88 rfl rfl ?_
  refine J_iload_n dX12_far_66 rfl rfl ?_
  refine J_lald (i2 := 0) (v := 1) dX12_far_67 rfl rfl (jin (by decide +kernel)) (by decide +kernel) rfl ?_
  refine J_l2i (z := 1) dX12_far_68 (by decide +kernel) ?_
  refine J_mask (L2 := [(120, .inl (0, 1260, .inl (upd (fun _ => 0) 0 0))), (119, .inl (1, 1260, .inr (.inl (vp_updL (vp_updL (fun _ => 0) 0 0) 0 1)))), (118, .inl (0, 1260, .inl (upd (upd (fun _ => 0) 0 (-1)) 0 0))), (114, .inl (0, 1260, .inl (upd (fun _ => 0) 0 0))), (116, .inl (0, 1260, .inl (upd (fun _ => 0) 0 0))), (98, .inr (12, [.int 0, .int 0, .ref 99, .ref 100, .ref 101, .ref 102, .ref 103, .ref 104, .ref 105, .int 0, .int (-1), .ref 106, .ref 107, .ref 108, .int 0, .int 0, .int 0, .int 0, .int 0, .int 0, .int 0, .ref 109, .int 0, .int 0, .ref 110, .ref 111, .ref 112, .ref 113, .ref 114, .ref 115, .ref 116, .ref 117, .int 1, .int 0, .int 0, .int 0, .ref 118, .ref 119, .ref 120, .ref 121, .ref 122, .ref 123, .ref 124, .ref 125, .ref 126, .ref 127, .ref 128, .ref 129, .int 0, .ref 130, .ref 131, .ref 132, .ref 133, .ref 134, .int 0, .int 0])), (111, .inl (0, 1260, .inl (upd (fun _ => 0) 0 0)))]) (ks := [120, 119, 118, 114, 116, 98, 98, 111]) [true, true, true, true, true, true, false, true] rfl (by decide +kernel) rfl ?_
  exact J_iret dX12_far_69 rfl rfl (Nat.le_of_ble_eq_true rfl) (Nat.le_of_ble_eq_true rfl) ⟨rfl, rfl⟩
set_option maxHeartbeats 4000000 in
set_option maxRecDepth 100000 in
theorem c_J7_fill_fda19_3 {l : Launch} {G : jG} {nh : Nat} {fh : Nat → Option va_E} (hk69 : fh 69 = some (.inl (0, 1260, .inl (fun _ => 0)))) : JM l G yJ7_fill_fda19 MJ7_fill_fda19 { frames := 1, cells := 0, slots := 0, locals := 22 } [.ref 69, .int 0, .int 1, .int (-1)] (nh, fh) (fun r h9 => r = none ∧ h9 = (nh, hc fh [(69, .inl (0, 1260, .inl (upd (fun _ => 0) 0 (-1))))])) := by
  refine JM.of (by decide) rfl (fun h => by cases h) (Nat.le_of_ble_eq_true rfl) ⟨1, rfl⟩ ?_
  refine J_hc0 (J_ls (ls2 := [some (.ref 69), some (.int 0), some (.int 1), some (.int (-1)), none]) rfl ?_)
  refine J_aload_n dJ7_fill_fda19_0 rfl rfl ?_
  refine J_alen (v := 1260) dJ7_fill_fda19_1 hk69 rfl (by decide +kernel) ?_
  refine J_iload_n dJ7_fill_fda19_2 rfl rfl ?_
  refine J_iload_n dJ7_fill_fda19_3 rfl rfl ?_
  refine J_callS (st := []) dJ7_fill_fda19_4 cs_J7_13 (c_J7_rangeCheck_23922_1 ) rfl rfl (Nat.le_of_ble_eq_true rfl) ⟨(Nat.le_of_ble_eq_true rfl), (Nat.le_of_ble_eq_true rfl)⟩ ⟨(Nat.le_of_ble_eq_true rfl), (Nat.le_of_ble_eq_true rfl)⟩ (fun r h9 hp => ?_)
  obtain ⟨rfl, rfl⟩ := hp
  refine J_nf (nh2 := nh) (ck2 := 0) (sk2 := 0) (st2 := []) rfl rfl rfl rfl ?_
  refine J_iload_n dJ7_fill_fda19_7 rfl rfl ?_
  refine J_istore dJ7_fill_fda19_8 (Nat.le_of_ble_eq_true rfl) rfl ?_
  refine J_iload dJ7_fill_fda19_10 rfl ?_
  refine J_iload_n dJ7_fill_fda19_12 rfl rfl ?_
  refine J_icmp_ge (tgt := 27) dJ7_fill_fda19_13 (by decide) (fun q => absurd q (by decide +kernel)) (fun _ => ?_)
  refine J_aload_n dJ7_fill_fda19_16 rfl rfl ?_
  refine J_iload dJ7_fill_fda19_17 rfl ?_
  refine J_iload_n dJ7_fill_fda19_19 rfl rfl ?_
  refine K_iast (i2 := 0) dJ7_fill_fda19_20 hk69 rfl (jin (by decide +kernel)) (by decide +kernel) ?_
  refine J_iinc (v := 1) dJ7_fill_fda19_21 rfl (by decide +kernel) (Nat.le_of_ble_eq_true rfl) rfl ?_
  refine J_ls (ls2 := [some (.ref 69), some (.int 0), some (.int 1), some (.int (-1)), some (.int 1)]) rfl ?_
  refine J_goto (tgt := 10) dJ7_fill_fda19_24 (by decide) ?_
  refine J_iload dJ7_fill_fda19_10 rfl ?_
  refine J_iload_n dJ7_fill_fda19_12 rfl rfl ?_
  refine J_icmp_ge (tgt := 27) dJ7_fill_fda19_13 (by decide) (fun _ => ?_) (fun q => absurd (by decide +kernel) q)
  exact J_vret dJ7_fill_fda19_27 rfl (Nat.le_of_ble_eq_true rfl) (Nat.le_of_ble_eq_true rfl) ⟨rfl, rfl⟩
set_option maxHeartbeats 4000000 in
set_option maxRecDepth 100000 in
theorem c_X10_enter_1 {l : Launch} {G : jG} {nh : Nat} {fh : Nat → Option va_E} (hk65 : fh 65 = some (.inr (10, [.ref 51, .ref 57, .ref 66, .ref 67, .ref 68, .int 0, .int (-1), .int (-1), .ref 69, .ref 70, .ref 71, .ref 72, .int 0, .int 0, .int 0, .ref 73, .ref 74]))) (hk69 : fh 69 = some (.inl (0, 1260, .inl (upd (fun _ => 0) 0 (-1))))) (hk70 : fh 70 = some (.inl (0, 100, .inl (fun _ => (-1))))) (hk71 : fh 71 = some (.inl (0, 1260, .inl (fun _ => 0)))) (hk72 : fh 72 = some (.inl (0, 1260, .inl (fun _ => 0)))) : JM l G yX10_enter MX10_enter { frames := 0, cells := 0, slots := 0, locals := 0 } [.ref 65, .int 0, .int 0] (nh, fh) (fun r h9 => r = none ∧ h9 = (nh, hc fh [(65, .inr (10, [.ref 51, .ref 57, .ref 66, .ref 67, .ref 68, .int 0, .int (-1), .int (-1), .ref 69, .ref 70, .ref 71, .ref 72, .int 1, .int 0, .int 0, .ref 73, .ref 74])), (70, .inl (0, 100, .inl (upd (fun _ => (-1)) 0 0))), (71, .inl (0, 1260, .inl (upd (fun _ => 0) 0 (-1)))), (72, .inl (0, 1260, .inl (upd (fun _ => 0) 0 (-1)))), (69, .inl (0, 1260, .inl (upd (upd (fun _ => 0) 0 (-1)) 0 0)))])) := by
  refine JM.of (by decide) rfl (fun h => by cases h) (Nat.le_of_ble_eq_true rfl) ⟨1, rfl⟩ ?_
  refine J_hc0 (J_ls (ls2 := [some (.ref 65), some (.int 0), some (.int 0), none]) rfl ?_)
  refine J_iload_n dX10_enter_0 rfl rfl ?_
  refine J_bipush (v := 100) dX10_enter_1 (by decide +kernel) ?_
  refine J_irem (z := 0) dX10_enter_3 (by decide) (by decide +kernel) ?_
  refine J_istore_n dX10_enter_4 rfl (Nat.le_of_ble_eq_true rfl) rfl ?_
  refine J_aload_n dX10_enter_5 rfl rfl ?_
  refine J_get (v := .ref 69) dX10_enter_6 fl_X10_31 hk65 rfl ?_
  refine J_iload_n dX10_enter_9 rfl rfl ?_
  refine J_iload_n dX10_enter_10 rfl rfl ?_
  refine K_iast (i2 := 0) dX10_enter_11 hk69 rfl (jin (by decide +kernel)) (by decide +kernel) ?_
  refine J_aload_n dX10_enter_12 rfl rfl ?_
  refine J_get (v := .ref 72) dX10_enter_13 fl_X10_40 hk65 rfl ?_
  refine J_iload_n dX10_enter_16 rfl rfl ?_
  refine J_iconst (v := (-1)) dX10_enter_17 (by decide) ?_
  refine K_iast (i2 := 0) dX10_enter_18 hk72 rfl (jin (by decide +kernel)) (by decide +kernel) ?_
  refine J_aload_n dX10_enter_19 rfl rfl ?_
  refine J_get (v := .ref 71) dX10_enter_20 fl_X10_37 hk65 rfl ?_
  refine J_iload_n dX10_enter_23 rfl rfl ?_
  refine J_aload_n dX10_enter_24 rfl rfl ?_
  refine J_get (v := .ref 70) dX10_enter_25 fl_X10_34 hk65 rfl ?_
  refine J_iload_n dX10_enter_28 rfl rfl ?_
  refine J_iald (i2 := 0) (v := (-1)) dX10_enter_29 hk70 rfl (jin (by decide +kernel)) (by decide +kernel) rfl ?_
  refine K_iast (i2 := 0) dX10_enter_30 hk71 rfl (jin (by decide +kernel)) (by decide +kernel) ?_
  refine J_aload_n dX10_enter_31 rfl rfl ?_
  refine J_get (v := .ref 70) dX10_enter_32 fl_X10_34 hk65 rfl ?_
  refine J_iload_n dX10_enter_35 rfl rfl ?_
  refine J_iald (i2 := 0) (v := (-1)) dX10_enter_36 hk70 rfl (jin (by decide +kernel)) (by decide +kernel) rfl ?_
  refine J_iconst (v := (-1)) dX10_enter_37 (by decide) ?_
  refine J_icmp_eq (tgt := 53) dX10_enter_38 (by decide) (fun _ => ?_) (fun q => absurd (by decide +kernel) q)
  refine J_aload_n dX10_enter_53 rfl rfl ?_
  refine J_get (v := .ref 70) dX10_enter_54 fl_X10_34 hk65 rfl ?_
  refine J_iload_n dX10_enter_57 rfl rfl ?_
  refine J_iload_n dX10_enter_58 rfl rfl ?_
  refine K_iast (i2 := 0) dX10_enter_59 hk70 rfl (jin (by decide +kernel)) (by decide +kernel) ?_
  refine J_aload_n dX10_enter_60 rfl rfl ?_
  refine J_dup dX10_enter_61 rfl ?_
  refine J_get (v := .int 0) dX10_enter_62 fl_X10_43 hk65 rfl ?_
  refine J_iconst (v := 1) dX10_enter_65 (by decide) ?_
  refine J_iadd (z := 1) dX10_enter_66 (by decide +kernel) ?_
  refine K_put (fs2 := [.ref 51, .ref 57, .ref 66, .ref 67, .ref 68, .int 0, .int (-1), .int (-1), .ref 69, .ref 70, .ref 71, .ref 72, .int 1, .int 0, .int 0, .ref 73, .ref 74]) dX10_enter_67 fw_X10_43 hk65 (Nat.le_of_ble_eq_true rfl) (fun _ => ⟨rfl, rfl⟩) rfl ?_
  exact J_vret dX10_enter_70 rfl (Nat.le_of_ble_eq_true rfl) (Nat.le_of_ble_eq_true rfl) ⟨rfl, rfl⟩
set_option maxHeartbeats 4000000 in
set_option maxRecDepth 100000 in
theorem c_X10_remove_1 {l : Launch} {G : jG} {nh : Nat} {fh : Nat → Option va_E} (hk65 : fh 65 = some (.inr (10, [.ref 51, .ref 57, .ref 66, .ref 67, .ref 68, .int 0, .int (-1), .int (-1), .ref 69, .ref 70, .ref 71, .ref 72, .int 1, .int 0, .int 0, .ref 73, .ref 74]))) (hk69 : fh 69 = some (.inl (0, 1260, .inl (upd (upd (fun _ => 0) 0 (-1)) 0 0)))) (hk70 : fh 70 = some (.inl (0, 100, .inl (upd (fun _ => (-1)) 0 0)))) (hk71 : fh 71 = some (.inl (0, 1260, .inl (upd (fun _ => 0) 0 (-1))))) (hk72 : fh 72 = some (.inl (0, 1260, .inl (upd (fun _ => 0) 0 (-1))))) : JM l G yX10_remove MX10_remove { frames := 0, cells := 0, slots := 0, locals := 0 } [.ref 65, .int 0] (nh, fh) (fun r h9 => r = none ∧ h9 = (nh, hc fh [(65, .inr (10, [.ref 51, .ref 57, .ref 66, .ref 67, .ref 68, .int 0, .int (-1), .int (-1), .ref 69, .ref 70, .ref 71, .ref 72, .int 0, .int 0, .int 0, .ref 73, .ref 74])), (70, .inl (0, 100, .inl (upd (upd (fun _ => (-1)) 0 0) 0 (-1))))])) := by
  refine JM.of (by decide) rfl (fun h => by cases h) (Nat.le_of_ble_eq_true rfl) ⟨0, rfl⟩ ?_
  refine J_hc0 (J_ls (ls2 := [some (.ref 65), some (.int 0)]) rfl ?_)
  refine J_aload_n dX10_remove_0 rfl rfl ?_
  refine J_get (v := .ref 72) dX10_remove_1 fl_X10_40 hk65 rfl ?_
  refine J_iload_n dX10_remove_4 rfl rfl ?_
  refine J_iald (i2 := 0) (v := (-1)) dX10_remove_5 hk72 rfl (jin (by decide +kernel)) (by decide +kernel) rfl ?_
  refine J_iconst (v := (-1)) dX10_remove_6 (by decide) ?_
  refine J_icmp_ne (tgt := 33) dX10_remove_7 (by decide) (fun q => absurd (by decide +kernel) q) (fun _ => ?_)
  refine J_aload_n dX10_remove_10 rfl rfl ?_
  refine J_get (v := .ref 70) dX10_remove_11 fl_X10_34 hk65 rfl ?_
  refine J_aload_n dX10_remove_14 rfl rfl ?_
  refine J_get (v := .ref 69) dX10_remove_15 fl_X10_31 hk65 rfl ?_
  refine J_iload_n dX10_remove_18 rfl rfl ?_
  refine J_iald (i2 := 0) (v := 0) dX10_remove_19 hk69 rfl (jin (by decide +kernel)) (by decide +kernel) rfl ?_
  refine J_bipush (v := 100) dX10_remove_20 (by decide +kernel) ?_
  refine J_irem (z := 0) dX10_remove_22 (by decide) (by decide +kernel) ?_
  refine J_aload_n dX10_remove_23 rfl rfl ?_
  refine J_get (v := .ref 71) dX10_remove_24 fl_X10_37 hk65 rfl ?_
  refine J_iload_n dX10_remove_27 rfl rfl ?_
  refine J_iald (i2 := 0) (v := (-1)) dX10_remove_28 hk71 rfl (jin (by decide +kernel)) (by decide +kernel) rfl ?_
  refine K_iast (i2 := 0) dX10_remove_29 hk70 rfl (jin (by decide +kernel)) (by decide +kernel) ?_
  refine J_goto (tgt := 50) dX10_remove_30 (by decide) ?_
  refine J_aload_n dX10_remove_50 rfl rfl ?_
  refine J_get (v := .ref 71) dX10_remove_51 fl_X10_37 hk65 rfl ?_
  refine J_iload_n dX10_remove_54 rfl rfl ?_
  refine J_iald (i2 := 0) (v := (-1)) dX10_remove_55 hk71 rfl (jin (by decide +kernel)) (by decide +kernel) rfl ?_
  refine J_iconst (v := (-1)) dX10_remove_56 (by decide) ?_
  refine J_icmp_eq (tgt := 77) dX10_remove_57 (by decide) (fun _ => ?_) (fun q => absurd (by decide +kernel) q)
  refine J_aload_n dX10_remove_77 rfl rfl ?_
  refine J_dup dX10_remove_78 rfl ?_
  refine J_get (v := .int 1) dX10_remove_79 fl_X10_43 hk65 rfl ?_
  refine J_iconst (v := 1) dX10_remove_82 (by decide) ?_
  refine J_isub (z := 0) dX10_remove_83 (by decide +kernel) ?_
  refine K_put (fs2 := [.ref 51, .ref 57, .ref 66, .ref 67, .ref 68, .int 0, .int (-1), .int (-1), .ref 69, .ref 70, .ref 71, .ref 72, .int 0, .int 0, .int 0, .ref 73, .ref 74]) dX10_remove_84 fw_X10_43 hk65 (Nat.le_of_ble_eq_true rfl) (fun _ => ⟨rfl, rfl⟩) rfl ?_
  exact J_vret dX10_remove_87 rfl (Nat.le_of_ble_eq_true rfl) (Nat.le_of_ble_eq_true rfl) ⟨rfl, rfl⟩
set_option maxHeartbeats 4000000 in
set_option maxRecDepth 100000 in
theorem c_X10_weighSteps_1 {l : Launch} {G : jG} {nh : Nat} {fh : Nat → Option va_E} (hk1 : fh 1 = some (.inr (8, [.ref 2, .ref 3, .ref 4, .int 0, .int (-1), .ref 11, .ref 12, .int 0, .ref 13, .ref 14, .int 0, .ref 15, .ref 16, .int 0]))) (hk3 : fh 3 = some (.inl (0, 2, .inl (fun _ => 0)))) (hk51 : fh 51 = some (.inr (0, [.ref 52, .ref 53, .int 1, .int 0]))) (hk52 : fh 52 = some (.inl (0, 1260, .inl (upd (fun _ => 0) 0 0)))) (hk57 : fh 57 = some (.inr (9, [.ref 1, .ref 51, .ref 58, .ref 61, .ref 62, .ref 135, .ref 64, .int 0, .int 0, .int 0]))) (hk62 : fh 62 = some (.inl (0, 1260, .inl (upd (fun _ => 0) 0 (-1))))) (hk65 : fh 65 = some (.inr (10, [.ref 51, .ref 57, .ref 66, .ref 67, .ref 68, .int 0, .int (-1), .int (-1), .ref 69, .ref 70, .ref 71, .ref 72, .int 0, .int 0, .int 0, .ref 73, .ref 74]))) : JM l G yX10_weighSteps MX10_weighSteps { frames := 4, cells := 0, slots := 0, locals := 95 } [.ref 65, .int 0] (nh, fh) (fun r h9 => r = none ∧ h9 = (nh, hc fh [(62, .inl (0, 1260, .inl (upd (upd (fun _ => 0) 0 (-1)) 0 0)))])) := by
  refine JM.of (by decide) rfl (fun h => by cases h) (Nat.le_of_ble_eq_true rfl) ⟨4, rfl⟩ ?_
  refine J_hc0 (J_ls (ls2 := [some (.ref 65), some (.int 0), none, none, none, none]) rfl ?_)
  refine J_aload_n dX10_weighSteps_0 rfl rfl ?_
  refine J_get (v := .ref 57) dX10_weighSteps_1 fl_X10_63 hk65 rfl ?_
  refine J_iload_n dX10_weighSteps_4 rfl rfl ?_
  refine J_callV (st := []) dX10_weighSteps_5 cv_X10_95 (c_X9_degree_1 hk1 hk3 hk51 hk52 hk57 hk62) hk57 rfl rfl (Nat.le_of_ble_eq_true rfl) ⟨(Nat.le_of_ble_eq_true rfl), (Nat.le_of_ble_eq_true rfl)⟩ ⟨(Nat.le_of_ble_eq_true rfl), (Nat.le_of_ble_eq_true rfl)⟩ (fun r h9 hp => ?_)
  obtain ⟨rfl, rfl⟩ := hp
  refine J_nf (nh2 := nh) (ck2 := 0) (sk2 := 0) (st2 := [.int 0]) rfl rfl rfl rfl ?_
  refine J_app (L3 := [(62, .inl (0, 1260, .inl (upd (upd (fun _ => 0) 0 (-1)) 0 0)))]) rfl ?_
  refine J_istore_n dX10_weighSteps_8 rfl (Nat.le_of_ble_eq_true rfl) rfl ?_
  refine J_iconst (v := 0) dX10_weighSteps_9 (by decide) ?_
  refine J_istore_n dX10_weighSteps_10 rfl (Nat.le_of_ble_eq_true rfl) rfl ?_
  refine J_iload_n dX10_weighSteps_11 rfl rfl ?_
  refine J_iload_n dX10_weighSteps_12 rfl rfl ?_
  refine J_icmp_ge (tgt := 99) dX10_weighSteps_13 (by decide) (fun _ => ?_) (fun q => absurd (by decide +kernel) q)
  exact J_vret dX10_weighSteps_99 rfl (Nat.le_of_ble_eq_true rfl) (Nat.le_of_ble_eq_true rfl) ⟨rfl, rfl⟩
set_option maxHeartbeats 4000000 in
set_option maxRecDepth 100000 in
theorem c_X10_weighFrom_1 {l : Launch} {G : jG} {nh : Nat} {fh : Nat → Option va_E} (hk1 : fh 1 = some (.inr (8, [.ref 2, .ref 3, .ref 4, .int 0, .int (-1), .ref 11, .ref 12, .int 0, .ref 13, .ref 14, .int 0, .ref 15, .ref 16, .int 0]))) (hk3 : fh 3 = some (.inl (0, 2, .inl (fun _ => 0)))) (hk51 : fh 51 = some (.inr (0, [.ref 52, .ref 53, .int 1, .int 0]))) (hk52 : fh 52 = some (.inl (0, 1260, .inl (upd (fun _ => 0) 0 0)))) (hk57 : fh 57 = some (.inr (9, [.ref 1, .ref 51, .ref 58, .ref 61, .ref 62, .ref 135, .ref 64, .int 0, .int 0, .int 0]))) (hk62 : fh 62 = some (.inl (0, 1260, .inl (upd (fun _ => 0) 0 (-1))))) (hk65 : fh 65 = some (.inr (10, [.ref 51, .ref 57, .ref 66, .ref 67, .ref 68, .int 0, .int (-1), .int (-1), .ref 69, .ref 70, .ref 71, .ref 72, .int 0, .int (-1), .int (-1), .ref 73, .ref 74]))) (hk69 : fh 69 = some (.inl (0, 1260, .inl (fun _ => 0)))) (hk70 : fh 70 = some (.inl (0, 100, .inl (fun _ => 0)))) (hk71 : fh 71 = some (.inl (0, 1260, .inl (fun _ => 0)))) (hk72 : fh 72 = some (.inl (0, 1260, .inl (fun _ => 0)))) : JM l G yX10_weighFrom MX10_weighFrom { frames := 5, cells := 0, slots := 0, locals := 120 } [.ref 65, .int 0] (nh, fh) (fun r h9 => r = none ∧ h9 = (nh, hc fh [(62, .inl (0, 1260, .inl (upd (upd (fun _ => 0) 0 (-1)) 0 0))), (65, .inr (10, [.ref 51, .ref 57, .ref 66, .ref 67, .ref 68, .int 0, .int (-1), .int (-1), .ref 69, .ref 70, .ref 71, .ref 72, .int 0, .int 0, .int 0, .ref 73, .ref 74])), (70, .inl (0, 100, .inl (upd (upd (fun _ => (-1)) 0 0) 0 (-1)))), (71, .inl (0, 1260, .inl (upd (fun _ => 0) 0 (-1)))), (72, .inl (0, 1260, .inl (upd (fun _ => 0) 0 (-1)))), (69, .inl (0, 1260, .inl (upd (upd (fun _ => 0) 0 (-1)) 0 0)))])) := by
  refine JM.of (by decide) rfl (fun h => by cases h) (Nat.le_of_ble_eq_true rfl) ⟨5, rfl⟩ ?_
  refine J_hc0 (J_ls (ls2 := [some (.ref 65), some (.int 0), none, none, none, none, none]) rfl ?_)
  refine J_aload_n dX10_weighFrom_0 rfl rfl ?_
  refine J_get (v := .int (-1)) dX10_weighFrom_1 fl_X10_46 hk65 rfl ?_
  refine J_iload_n dX10_weighFrom_4 rfl rfl ?_
  refine J_icmp_ne (tgt := 23) dX10_weighFrom_5 (by decide) (fun _ => ?_) (fun q => absurd q (by decide +kernel))
  refine J_aload_n dX10_weighFrom_23 rfl rfl ?_
  refine J_iload_n dX10_weighFrom_24 rfl rfl ?_
  refine K_put (fs2 := [.ref 51, .ref 57, .ref 66, .ref 67, .ref 68, .int 0, .int (-1), .int (-1), .ref 69, .ref 70, .ref 71, .ref 72, .int 0, .int 0, .int (-1), .ref 73, .ref 74]) dX10_weighFrom_25 fw_X10_46 hk65 (Nat.le_of_ble_eq_true rfl) (fun _ => ⟨rfl, rfl⟩) rfl ?_
  refine J_aload_n dX10_weighFrom_28 rfl rfl ?_
  refine J_aload_n dX10_weighFrom_29 rfl rfl ?_
  refine J_get (v := .ref 57) dX10_weighFrom_30 fl_X10_63 rfl rfl ?_
  refine J_callV (st := [.ref 65]) dX10_weighFrom_33 cv_X10_104 (c_X9_version_1 hk57) hk57 rfl rfl (Nat.le_of_ble_eq_true rfl) ⟨(Nat.le_of_ble_eq_true rfl), (Nat.le_of_ble_eq_true rfl)⟩ ⟨(Nat.le_of_ble_eq_true rfl), (Nat.le_of_ble_eq_true rfl)⟩ (fun r h9 hp => ?_)
  obtain ⟨rfl, rfl⟩ := hp
  refine J_nf (nh2 := nh) (ck2 := 0) (sk2 := 0) (st2 := [.int 0, .ref 65]) rfl rfl rfl rfl ?_
  refine K_put (fs2 := [.ref 51, .ref 57, .ref 66, .ref 67, .ref 68, .int 0, .int (-1), .int (-1), .ref 69, .ref 70, .ref 71, .ref 72, .int 0, .int 0, .int 0, .ref 73, .ref 74]) dX10_weighFrom_36 fw_X10_49 rfl (Nat.le_of_ble_eq_true rfl) (fun _ => ⟨rfl, rfl⟩) rfl ?_
  refine J_aload_n dX10_weighFrom_39 rfl rfl ?_
  refine J_get (v := .ref 69) dX10_weighFrom_40 fl_X10_31 rfl rfl ?_
  refine J_iconst (v := 0) dX10_weighFrom_43 (by decide) ?_
  refine J_aload_n dX10_weighFrom_44 rfl rfl ?_
  refine J_get (v := .ref 51) dX10_weighFrom_45 fl_X10_59 rfl rfl ?_
  refine J_callV (st := [.int 0, .ref 69]) dX10_weighFrom_48 cv_X10_83 (c_X0_many_1 hk51) hk51 rfl rfl (Nat.le_of_ble_eq_true rfl) ⟨(Nat.le_of_ble_eq_true rfl), (Nat.le_of_ble_eq_true rfl)⟩ ⟨(Nat.le_of_ble_eq_true rfl), (Nat.le_of_ble_eq_true rfl)⟩ (fun r h9 hp => ?_)
  obtain ⟨rfl, rfl⟩ := hp
  refine J_nf (nh2 := nh) (ck2 := 0) (sk2 := 0) (st2 := [.int 1, .int 0, .ref 69]) rfl rfl rfl rfl ?_
  refine J_iconst (v := (-1)) dX10_weighFrom_51 (by decide) ?_
  refine J_callS (st := []) dX10_weighFrom_52 cs_X10_89 (c_J7_fill_fda19_3 hk69) rfl rfl (Nat.le_of_ble_eq_true rfl) ⟨(Nat.le_of_ble_eq_true rfl), (Nat.le_of_ble_eq_true rfl)⟩ ⟨(Nat.le_of_ble_eq_true rfl), (Nat.le_of_ble_eq_true rfl)⟩ (fun r h9 hp => ?_)
  obtain ⟨rfl, rfl⟩ := hp
  refine J_nf (nh2 := nh) (ck2 := 0) (sk2 := 0) (st2 := []) rfl rfl rfl rfl ?_
  refine J_app (L3 := [(69, .inl (0, 1260, .inl (upd (fun _ => 0) 0 (-1)))), (65, .inr (10, [.ref 51, .ref 57, .ref 66, .ref 67, .ref 68, .int 0, .int (-1), .int (-1), .ref 69, .ref 70, .ref 71, .ref 72, .int 0, .int 0, .int 0, .ref 73, .ref 74])), (65, .inr (10, [.ref 51, .ref 57, .ref 66, .ref 67, .ref 68, .int 0, .int (-1), .int (-1), .ref 69, .ref 70, .ref 71, .ref 72, .int 0, .int 0, .int (-1), .ref 73, .ref 74]))]) rfl ?_
  refine J_aload_n dX10_weighFrom_55 rfl rfl ?_
  refine J_get (v := .ref 70) dX10_weighFrom_56 fl_X10_34 rfl rfl ?_
  refine J_iconst (v := (-1)) dX10_weighFrom_59 (by decide) ?_
  refine J_callS (st := []) dX10_weighFrom_60 cs_X10_110 (c_fill (k := 70) (n := 100) (-1) (by decide) hk70) rfl rfl (Nat.le_of_ble_eq_true rfl) ⟨(Nat.le_of_ble_eq_true rfl), (Nat.le_of_ble_eq_true rfl)⟩ ⟨(Nat.le_of_ble_eq_true rfl), (Nat.le_of_ble_eq_true rfl)⟩ (fun r h9 hp => ?_)
  obtain ⟨rfl, rfl⟩ := hp
  refine J_nf (nh2 := nh) (ck2 := 0) (sk2 := 0) (st2 := []) rfl rfl rfl rfl ?_
  refine J_app (L3 := [(70, .inl (0, 100, .inl (fun _ => (-1)))), (69, .inl (0, 1260, .inl (upd (fun _ => 0) 0 (-1)))), (65, .inr (10, [.ref 51, .ref 57, .ref 66, .ref 67, .ref 68, .int 0, .int (-1), .int (-1), .ref 69, .ref 70, .ref 71, .ref 72, .int 0, .int 0, .int 0, .ref 73, .ref 74])), (65, .inr (10, [.ref 51, .ref 57, .ref 66, .ref 67, .ref 68, .int 0, .int (-1), .int (-1), .ref 69, .ref 70, .ref 71, .ref 72, .int 0, .int 0, .int (-1), .ref 73, .ref 74]))]) rfl ?_
  refine J_aload_n dX10_weighFrom_63 rfl rfl ?_
  refine J_iconst (v := 0) dX10_weighFrom_64 (by decide) ?_
  refine K_put (fs2 := [.ref 51, .ref 57, .ref 66, .ref 67, .ref 68, .int 0, .int (-1), .int (-1), .ref 69, .ref 70, .ref 71, .ref 72, .int 0, .int 0, .int 0, .ref 73, .ref 74]) dX10_weighFrom_65 fw_X10_43 rfl (Nat.le_of_ble_eq_true rfl) (fun _ => ⟨rfl, rfl⟩) rfl ?_
  refine J_aload_n dX10_weighFrom_68 rfl rfl ?_
  refine J_iload_n dX10_weighFrom_69 rfl rfl ?_
  refine J_iconst (v := 0) dX10_weighFrom_70 (by decide) ?_
  refine J_callV (st := []) dX10_weighFrom_71 cv_X10_113 (c_X10_enter_1 rfl rfl rfl hk71 hk72) rfl rfl rfl (Nat.le_of_ble_eq_true rfl) ⟨(Nat.le_of_ble_eq_true rfl), (Nat.le_of_ble_eq_true rfl)⟩ ⟨(Nat.le_of_ble_eq_true rfl), (Nat.le_of_ble_eq_true rfl)⟩ (fun r h9 hp => ?_)
  obtain ⟨rfl, rfl⟩ := hp
  refine J_nf (nh2 := nh) (ck2 := 0) (sk2 := 0) (st2 := []) rfl rfl rfl rfl ?_
  refine J_app (L3 := [(65, .inr (10, [.ref 51, .ref 57, .ref 66, .ref 67, .ref 68, .int 0, .int (-1), .int (-1), .ref 69, .ref 70, .ref 71, .ref 72, .int 1, .int 0, .int 0, .ref 73, .ref 74])), (70, .inl (0, 100, .inl (upd (fun _ => (-1)) 0 0))), (71, .inl (0, 1260, .inl (upd (fun _ => 0) 0 (-1)))), (72, .inl (0, 1260, .inl (upd (fun _ => 0) 0 (-1)))), (69, .inl (0, 1260, .inl (upd (upd (fun _ => 0) 0 (-1)) 0 0))), (65, .inr (10, [.ref 51, .ref 57, .ref 66, .ref 67, .ref 68, .int 0, .int (-1), .int (-1), .ref 69, .ref 70, .ref 71, .ref 72, .int 0, .int 0, .int 0, .ref 73, .ref 74])), (70, .inl (0, 100, .inl (fun _ => (-1)))), (69, .inl (0, 1260, .inl (upd (fun _ => 0) 0 (-1)))), (65, .inr (10, [.ref 51, .ref 57, .ref 66, .ref 67, .ref 68, .int 0, .int (-1), .int (-1), .ref 69, .ref 70, .ref 71, .ref 72, .int 0, .int 0, .int 0, .ref 73, .ref 74])), (65, .inr (10, [.ref 51, .ref 57, .ref 66, .ref 67, .ref 68, .int 0, .int (-1), .int (-1), .ref 69, .ref 70, .ref 71, .ref 72, .int 0, .int 0, .int (-1), .ref 73, .ref 74]))]) rfl ?_
  refine J_ldc (v := 124740) dX10_weighFrom_74 (jt5 14 rfl rfl) ?_
  refine J_istore_n dX10_weighFrom_76 rfl (Nat.le_of_ble_eq_true rfl) rfl ?_
  refine J_iconst (v := 0) dX10_weighFrom_77 (by decide) ?_
  refine J_istore_n dX10_weighFrom_78 rfl (Nat.le_of_ble_eq_true rfl) rfl ?_
  refine J_iload_n dX10_weighFrom_79 rfl rfl ?_
  refine J_iload_n dX10_weighFrom_80 rfl rfl ?_
  refine J_icmp_gt (tgt := 152) dX10_weighFrom_81 (by decide) (fun q => absurd q (by decide +kernel)) (fun _ => ?_)
  refine J_aload_n dX10_weighFrom_84 rfl rfl ?_
  refine J_get (v := .int 1) dX10_weighFrom_85 fl_X10_43 rfl rfl ?_
  refine J_if_le (tgt := 152) dX10_weighFrom_88 (by decide) (fun q => absurd q (by decide +kernel)) (fun _ => ?_)
  refine J_iload_n dX10_weighFrom_91 rfl rfl ?_
  refine J_bipush (v := 100) dX10_weighFrom_92 (by decide +kernel) ?_
  refine J_irem (z := 0) dX10_weighFrom_94 (by decide) (by decide +kernel) ?_
  refine J_istore dX10_weighFrom_95 (Nat.le_of_ble_eq_true rfl) rfl ?_
  refine J_iconst (v := 0) dX10_weighFrom_97 (by decide) ?_
  refine J_istore dX10_weighFrom_98 (Nat.le_of_ble_eq_true rfl) rfl ?_
  refine J_iload dX10_weighFrom_100 rfl ?_
  refine J_sipush (v := 1260) dX10_weighFrom_102 (by decide +kernel) ?_
  refine J_icmp_ge (tgt := 146) dX10_weighFrom_105 (by decide) (fun q => absurd q (by decide +kernel)) (fun _ => ?_)
  refine J_aload_n dX10_weighFrom_108 rfl rfl ?_
  refine J_get (v := .ref 70) dX10_weighFrom_109 fl_X10_34 rfl rfl ?_
  refine J_iload dX10_weighFrom_112 rfl ?_
  refine J_iald (i2 := 0) (v := 0) dX10_weighFrom_114 rfl rfl (jin (by decide +kernel)) (by decide +kernel) rfl ?_
  refine J_iconst (v := (-1)) dX10_weighFrom_115 (by decide) ?_
  refine J_icmp_eq (tgt := 146) dX10_weighFrom_116 (by decide) (fun q => absurd q (by decide +kernel)) (fun _ => ?_)
  refine J_aload_n dX10_weighFrom_119 rfl rfl ?_
  refine J_get (v := .ref 70) dX10_weighFrom_120 fl_X10_34 rfl rfl ?_
  refine J_iload dX10_weighFrom_123 rfl ?_
  refine J_iald (i2 := 0) (v := 0) dX10_weighFrom_125 rfl rfl (jin (by decide +kernel)) (by decide +kernel) rfl ?_
  refine J_istore dX10_weighFrom_126 (Nat.le_of_ble_eq_true rfl) rfl ?_
  refine J_aload_n dX10_weighFrom_128 rfl rfl ?_
  refine J_iload dX10_weighFrom_129 rfl ?_
  refine J_callV (st := []) dX10_weighFrom_131 cv_X10_118 (c_X10_remove_1 rfl rfl rfl rfl rfl) rfl rfl rfl (Nat.le_of_ble_eq_true rfl) ⟨(Nat.le_of_ble_eq_true rfl), (Nat.le_of_ble_eq_true rfl)⟩ ⟨(Nat.le_of_ble_eq_true rfl), (Nat.le_of_ble_eq_true rfl)⟩ (fun r h9 hp => ?_)
  obtain ⟨rfl, rfl⟩ := hp
  refine J_nf (nh2 := nh) (ck2 := 0) (sk2 := 0) (st2 := []) rfl rfl rfl rfl ?_
  refine J_app (L3 := [(65, .inr (10, [.ref 51, .ref 57, .ref 66, .ref 67, .ref 68, .int 0, .int (-1), .int (-1), .ref 69, .ref 70, .ref 71, .ref 72, .int 0, .int 0, .int 0, .ref 73, .ref 74])), (70, .inl (0, 100, .inl (upd (upd (fun _ => (-1)) 0 0) 0 (-1)))), (65, .inr (10, [.ref 51, .ref 57, .ref 66, .ref 67, .ref 68, .int 0, .int (-1), .int (-1), .ref 69, .ref 70, .ref 71, .ref 72, .int 1, .int 0, .int 0, .ref 73, .ref 74])), (70, .inl (0, 100, .inl (upd (fun _ => (-1)) 0 0))), (71, .inl (0, 1260, .inl (upd (fun _ => 0) 0 (-1)))), (72, .inl (0, 1260, .inl (upd (fun _ => 0) 0 (-1)))), (69, .inl (0, 1260, .inl (upd (upd (fun _ => 0) 0 (-1)) 0 0))), (65, .inr (10, [.ref 51, .ref 57, .ref 66, .ref 67, .ref 68, .int 0, .int (-1), .int (-1), .ref 69, .ref 70, .ref 71, .ref 72, .int 0, .int 0, .int 0, .ref 73, .ref 74])), (70, .inl (0, 100, .inl (fun _ => (-1)))), (69, .inl (0, 1260, .inl (upd (fun _ => 0) 0 (-1)))), (65, .inr (10, [.ref 51, .ref 57, .ref 66, .ref 67, .ref 68, .int 0, .int (-1), .int (-1), .ref 69, .ref 70, .ref 71, .ref 72, .int 0, .int 0, .int 0, .ref 73, .ref 74])), (65, .inr (10, [.ref 51, .ref 57, .ref 66, .ref 67, .ref 68, .int 0, .int (-1), .int (-1), .ref 69, .ref 70, .ref 71, .ref 72, .int 0, .int 0, .int (-1), .ref 73, .ref 74]))]) rfl ?_
  refine J_aload_n dX10_weighFrom_134 rfl rfl ?_
  refine J_iload dX10_weighFrom_135 rfl ?_
  refine J_callV (st := []) dX10_weighFrom_137 cv_X10_121 (c_X10_weighSteps_1 hk1 hk3 hk51 hk52 hk57 hk62 rfl) rfl rfl rfl (Nat.le_of_ble_eq_true rfl) ⟨(Nat.le_of_ble_eq_true rfl), (Nat.le_of_ble_eq_true rfl)⟩ ⟨(Nat.le_of_ble_eq_true rfl), (Nat.le_of_ble_eq_true rfl)⟩ (fun r h9 hp => ?_)
  obtain ⟨rfl, rfl⟩ := hp
  refine J_nf (nh2 := nh) (ck2 := 0) (sk2 := 0) (st2 := []) rfl rfl rfl rfl ?_
  refine J_app (L3 := [(62, .inl (0, 1260, .inl (upd (upd (fun _ => 0) 0 (-1)) 0 0))), (65, .inr (10, [.ref 51, .ref 57, .ref 66, .ref 67, .ref 68, .int 0, .int (-1), .int (-1), .ref 69, .ref 70, .ref 71, .ref 72, .int 0, .int 0, .int 0, .ref 73, .ref 74])), (70, .inl (0, 100, .inl (upd (upd (fun _ => (-1)) 0 0) 0 (-1)))), (65, .inr (10, [.ref 51, .ref 57, .ref 66, .ref 67, .ref 68, .int 0, .int (-1), .int (-1), .ref 69, .ref 70, .ref 71, .ref 72, .int 1, .int 0, .int 0, .ref 73, .ref 74])), (70, .inl (0, 100, .inl (upd (fun _ => (-1)) 0 0))), (71, .inl (0, 1260, .inl (upd (fun _ => 0) 0 (-1)))), (72, .inl (0, 1260, .inl (upd (fun _ => 0) 0 (-1)))), (69, .inl (0, 1260, .inl (upd (upd (fun _ => 0) 0 (-1)) 0 0))), (65, .inr (10, [.ref 51, .ref 57, .ref 66, .ref 67, .ref 68, .int 0, .int (-1), .int (-1), .ref 69, .ref 70, .ref 71, .ref 72, .int 0, .int 0, .int 0, .ref 73, .ref 74])), (70, .inl (0, 100, .inl (fun _ => (-1)))), (69, .inl (0, 1260, .inl (upd (fun _ => 0) 0 (-1)))), (65, .inr (10, [.ref 51, .ref 57, .ref 66, .ref 67, .ref 68, .int 0, .int (-1), .int (-1), .ref 69, .ref 70, .ref 71, .ref 72, .int 0, .int 0, .int 0, .ref 73, .ref 74])), (65, .inr (10, [.ref 51, .ref 57, .ref 66, .ref 67, .ref 68, .int 0, .int (-1), .int (-1), .ref 69, .ref 70, .ref 71, .ref 72, .int 0, .int 0, .int (-1), .ref 73, .ref 74]))]) rfl ?_
  refine J_iinc (v := 1) dX10_weighFrom_140 rfl (by decide +kernel) (Nat.le_of_ble_eq_true rfl) rfl ?_
  refine J_ls (ls2 := [some (.ref 65), some (.int 0), some (.int 124740), some (.int 0), some (.int 0), some (.int 1), some (.int 0)]) rfl ?_
  refine J_goto (tgt := 100) dX10_weighFrom_143 (by decide) ?_
  refine J_iload dX10_weighFrom_100 rfl ?_
  refine J_sipush (v := 1260) dX10_weighFrom_102 (by decide +kernel) ?_
  refine J_icmp_ge (tgt := 146) dX10_weighFrom_105 (by decide) (fun q => absurd q (by decide +kernel)) (fun _ => ?_)
  refine J_aload_n dX10_weighFrom_108 rfl rfl ?_
  refine J_get (v := .ref 70) dX10_weighFrom_109 fl_X10_34 rfl rfl ?_
  refine J_iload dX10_weighFrom_112 rfl ?_
  refine J_iald (i2 := 0) (v := (-1)) dX10_weighFrom_114 rfl rfl (jin (by decide +kernel)) (by decide +kernel) rfl ?_
  refine J_iconst (v := (-1)) dX10_weighFrom_115 (by decide) ?_
  refine J_icmp_eq (tgt := 146) dX10_weighFrom_116 (by decide) (fun _ => ?_) (fun q => absurd (by decide +kernel) q)
  refine J_iinc (v := 1) dX10_weighFrom_146 rfl (by decide +kernel) (Nat.le_of_ble_eq_true rfl) rfl ?_
  refine J_ls (ls2 := [some (.ref 65), some (.int 0), some (.int 124740), some (.int 1), some (.int 0), some (.int 1), some (.int 0)]) rfl ?_
  refine J_goto (tgt := 79) dX10_weighFrom_149 (by decide) ?_
  refine J_iload_n dX10_weighFrom_79 rfl rfl ?_
  refine J_iload_n dX10_weighFrom_80 rfl rfl ?_
  refine J_icmp_gt (tgt := 152) dX10_weighFrom_81 (by decide) (fun q => absurd q (by decide +kernel)) (fun _ => ?_)
  refine J_aload_n dX10_weighFrom_84 rfl rfl ?_
  refine J_get (v := .int 0) dX10_weighFrom_85 fl_X10_43 rfl rfl ?_
  refine J_if_le (tgt := 152) dX10_weighFrom_88 (by decide) (fun _ => ?_) (fun q => absurd (by decide +kernel) q)
  refine J_mask (L2 := [(62, .inl (0, 1260, .inl (upd (upd (fun _ => 0) 0 (-1)) 0 0))), (65, .inr (10, [.ref 51, .ref 57, .ref 66, .ref 67, .ref 68, .int 0, .int (-1), .int (-1), .ref 69, .ref 70, .ref 71, .ref 72, .int 0, .int 0, .int 0, .ref 73, .ref 74])), (70, .inl (0, 100, .inl (upd (upd (fun _ => (-1)) 0 0) 0 (-1)))), (71, .inl (0, 1260, .inl (upd (fun _ => 0) 0 (-1)))), (72, .inl (0, 1260, .inl (upd (fun _ => 0) 0 (-1)))), (69, .inl (0, 1260, .inl (upd (upd (fun _ => 0) 0 (-1)) 0 0)))]) (ks := [62, 65, 70, 65, 70, 71, 72, 69, 65, 70, 69, 65, 65]) [true, true, true, false, false, true, true, true, false, false, false, false, false] rfl (by decide +kernel) rfl ?_
  exact J_vret dX10_weighFrom_152 rfl (Nat.le_of_ble_eq_true rfl) (Nat.le_of_ble_eq_true rfl) ⟨rfl, rfl⟩
set_option maxHeartbeats 4000000 in
set_option maxRecDepth 100000 in
theorem c_X10_leastTo_1 {l : Launch} {G : jG} {nh : Nat} {fh : Nat → Option va_E} (hk1 : fh 1 = some (.inr (8, [.ref 2, .ref 3, .ref 4, .int 0, .int (-1), .ref 11, .ref 12, .int 0, .ref 13, .ref 14, .int 0, .ref 15, .ref 16, .int 0]))) (hk3 : fh 3 = some (.inl (0, 2, .inl (fun _ => 0)))) (hk51 : fh 51 = some (.inr (0, [.ref 52, .ref 53, .int 1, .int 0]))) (hk52 : fh 52 = some (.inl (0, 1260, .inl (upd (fun _ => 0) 0 0)))) (hk57 : fh 57 = some (.inr (9, [.ref 1, .ref 51, .ref 58, .ref 61, .ref 62, .ref 135, .ref 64, .int 0, .int 0, .int 0]))) (hk62 : fh 62 = some (.inl (0, 1260, .inl (upd (fun _ => 0) 0 (-1))))) (hk65 : fh 65 = some (.inr (10, [.ref 51, .ref 57, .ref 66, .ref 67, .ref 68, .int 0, .int (-1), .int (-1), .ref 69, .ref 70, .ref 71, .ref 72, .int 0, .int (-1), .int (-1), .ref 73, .ref 74]))) (hk69 : fh 69 = some (.inl (0, 1260, .inl (fun _ => 0)))) (hk70 : fh 70 = some (.inl (0, 100, .inl (fun _ => 0)))) (hk71 : fh 71 = some (.inl (0, 1260, .inl (fun _ => 0)))) (hk72 : fh 72 = some (.inl (0, 1260, .inl (fun _ => 0)))) : JM l G yX10_leastTo MX10_leastTo { frames := 6, cells := 0, slots := 0, locals := 146 } [.ref 65, .int 0, .int 0] (nh, fh) (fun r h9 => r = some (.int 0) ∧ h9 = (nh, hc fh [(62, .inl (0, 1260, .inl (upd (upd (fun _ => 0) 0 (-1)) 0 0))), (65, .inr (10, [.ref 51, .ref 57, .ref 66, .ref 67, .ref 68, .int 0, .int (-1), .int (-1), .ref 69, .ref 70, .ref 71, .ref 72, .int 0, .int 0, .int 0, .ref 73, .ref 74])), (70, .inl (0, 100, .inl (upd (upd (fun _ => (-1)) 0 0) 0 (-1)))), (71, .inl (0, 1260, .inl (upd (fun _ => 0) 0 (-1)))), (72, .inl (0, 1260, .inl (upd (fun _ => 0) 0 (-1)))), (69, .inl (0, 1260, .inl (upd (upd (fun _ => 0) 0 (-1)) 0 0)))])) := by
  refine JM.of (by decide) rfl (fun h => by cases h) (Nat.le_of_ble_eq_true rfl) ⟨0, rfl⟩ ?_
  refine J_hc0 (J_ls (ls2 := [some (.ref 65), some (.int 0), some (.int 0)]) rfl ?_)
  refine J_aload_n dX10_leastTo_0 rfl rfl ?_
  refine J_iload_n dX10_leastTo_1 rfl rfl ?_
  refine J_callV (st := []) dX10_leastTo_2 cv_X10_71 (c_X10_weighFrom_1 hk1 hk3 hk51 hk52 hk57 hk62 hk65 hk69 hk70 hk71 hk72) hk65 rfl rfl (Nat.le_of_ble_eq_true rfl) ⟨(Nat.le_of_ble_eq_true rfl), (Nat.le_of_ble_eq_true rfl)⟩ ⟨(Nat.le_of_ble_eq_true rfl), (Nat.le_of_ble_eq_true rfl)⟩ (fun r h9 hp => ?_)
  obtain ⟨rfl, rfl⟩ := hp
  refine J_nf (nh2 := nh) (ck2 := 0) (sk2 := 0) (st2 := []) rfl rfl rfl rfl ?_
  refine J_app (L3 := [(62, .inl (0, 1260, .inl (upd (upd (fun _ => 0) 0 (-1)) 0 0))), (65, .inr (10, [.ref 51, .ref 57, .ref 66, .ref 67, .ref 68, .int 0, .int (-1), .int (-1), .ref 69, .ref 70, .ref 71, .ref 72, .int 0, .int 0, .int 0, .ref 73, .ref 74])), (70, .inl (0, 100, .inl (upd (upd (fun _ => (-1)) 0 0) 0 (-1)))), (71, .inl (0, 1260, .inl (upd (fun _ => 0) 0 (-1)))), (72, .inl (0, 1260, .inl (upd (fun _ => 0) 0 (-1)))), (69, .inl (0, 1260, .inl (upd (upd (fun _ => 0) 0 (-1)) 0 0)))]) rfl ?_
  refine J_aload_n dX10_leastTo_5 rfl rfl ?_
  refine J_get (v := .ref 69) dX10_leastTo_6 fl_X10_31 rfl rfl ?_
  refine J_iload_n dX10_leastTo_9 rfl rfl ?_
  refine J_iald (i2 := 0) (v := 0) dX10_leastTo_10 rfl rfl (jin (by decide +kernel)) (by decide +kernel) rfl ?_
  exact J_iret dX10_leastTo_11 rfl rfl (Nat.le_of_ble_eq_true rfl) (Nat.le_of_ble_eq_true rfl) ⟨rfl, rfl⟩
set_option maxHeartbeats 4000000 in
set_option maxRecDepth 100000 in
theorem c_X11_far_6 {l : Launch} {G : jG} {fh : Nat → Option va_E} (hk0 : fh 0 = some (.inr (11, [.ref 1, .ref 17, .ref 50, .ref 51, .ref 54, .ref 57, .ref 65, .ref 75, .ref 81, .ref 85, .ref 88, .ref 93, .ref 96, .int 0, .int (-1), .ref 97, .int 0]))) (hk1 : fh 1 = some (.inr (8, [.ref 2, .ref 3, .ref 4, .int 0, .int (-1), .ref 11, .ref 12, .int 0, .ref 13, .ref 14, .int 0, .ref 15, .ref 16, .int 0]))) (hk3 : fh 3 = some (.inl (0, 2, .inl (fun _ => 0)))) (hk51 : fh 51 = some (.inr (0, [.ref 52, .ref 53, .int 1, .int 0]))) (hk52 : fh 52 = some (.inl (0, 1260, .inl (upd (fun _ => 0) 0 0)))) (hk57 : fh 57 = some (.inr (9, [.ref 1, .ref 51, .ref 58, .ref 61, .ref 62, .ref 63, .ref 64, .int 0, .int 1, .int 1]))) (hk58 : fh 58 = some (.inr (1, [.ref 59, .ref 60, .int 0, .int 0, .int 0, .int 0, .int 0, .int 1]))) (hk59 : fh 59 = some (.inl (0, 8, .inl (fun _ => 0)))) (hk62 : fh 62 = some (.inl (0, 1260, .inl (fun _ => 0)))) (hk63 : fh 63 = some (.inl (0, 0, .inl (fun _ => 0)))) (hk65 : fh 65 = some (.inr (10, [.ref 51, .ref 57, .ref 66, .ref 67, .ref 68, .int 0, .int (-1), .int (-1), .ref 69, .ref 70, .ref 71, .ref 72, .int 0, .int (-1), .int (-1), .ref 73, .ref 74]))) (hk69 : fh 69 = some (.inl (0, 1260, .inl (fun _ => 0)))) (hk70 : fh 70 = some (.inl (0, 100, .inl (fun _ => 0)))) (hk71 : fh 71 = some (.inl (0, 1260, .inl (fun _ => 0)))) (hk72 : fh 72 = some (.inl (0, 1260, .inl (fun _ => 0)))) : JM l G yX11_far MX11_far { frames := 7, cells := 1, slots := 22, locals := 168 } [.ref 0, .int 0, .int 0, .int 2] (135, fh) (fun r h9 => r = some (.int 0) ∧ h9 = (136, hc fh [(62, .inl (0, 1260, .inl (upd (upd (fun _ => 0) 0 (-1)) 0 0))), (65, .inr (10, [.ref 51, .ref 57, .ref 66, .ref 67, .ref 68, .int 0, .int (-1), .int (-1), .ref 69, .ref 70, .ref 71, .ref 72, .int 0, .int 0, .int 0, .ref 73, .ref 74])), (70, .inl (0, 100, .inl (upd (upd (fun _ => (-1)) 0 0) 0 (-1)))), (71, .inl (0, 1260, .inl (upd (fun _ => 0) 0 (-1)))), (72, .inl (0, 1260, .inl (upd (fun _ => 0) 0 (-1)))), (69, .inl (0, 1260, .inl (upd (upd (fun _ => 0) 0 (-1)) 0 0))), (57, .inr (9, [.ref 1, .ref 51, .ref 58, .ref 61, .ref 62, .ref 135, .ref 64, .int 0, .int 0, .int 0])), (135, .inl (0, 22, .inl (fun _ => 0))), (59, .inl (0, 8, .inl (upd (upd (fun _ => 0) 6 0) 7 0)))])) := by
  refine JM.of (by decide) rfl (fun h => by cases h) (Nat.le_of_ble_eq_true rfl) ⟨0, rfl⟩ ?_
  refine J_hc0 (J_ls (ls2 := [some (.ref 0), some (.int 0), some (.int 0), some (.int 2)]) rfl ?_)
  refine J_aload_n dX11_far_0 rfl rfl ?_
  refine J_get (v := .ref 51) dX11_far_1 fl_X11_27 hk0 rfl ?_
  refine J_iload_n dX11_far_4 rfl rfl ?_
  refine J_callV (st := []) dX11_far_5 cv_X11_135 (c_X0_has_2 hk51) hk51 rfl rfl (Nat.le_of_ble_eq_true rfl) ⟨(Nat.le_of_ble_eq_true rfl), (Nat.le_of_ble_eq_true rfl)⟩ ⟨(Nat.le_of_ble_eq_true rfl), (Nat.le_of_ble_eq_true rfl)⟩ (fun r h9 hp => ?_)
  obtain ⟨rfl, rfl⟩ := hp
  refine J_nf (nh2 := 135) (ck2 := 0) (sk2 := 0) (st2 := [.int 1]) rfl rfl rfl rfl ?_
  refine J_if_eq (tgt := 22) dX11_far_8 (by decide) (fun q => absurd q (by decide +kernel)) (fun _ => ?_)
  refine J_aload_n dX11_far_11 rfl rfl ?_
  refine J_get (v := .ref 51) dX11_far_12 fl_X11_27 hk0 rfl ?_
  refine J_iload_n dX11_far_15 rfl rfl ?_
  refine J_callV (st := []) dX11_far_16 cv_X11_135 (c_X0_has_2 hk51) hk51 rfl rfl (Nat.le_of_ble_eq_true rfl) ⟨(Nat.le_of_ble_eq_true rfl), (Nat.le_of_ble_eq_true rfl)⟩ ⟨(Nat.le_of_ble_eq_true rfl), (Nat.le_of_ble_eq_true rfl)⟩ (fun r h9 hp => ?_)
  obtain ⟨rfl, rfl⟩ := hp
  refine J_nf (nh2 := 135) (ck2 := 0) (sk2 := 0) (st2 := [.int 1]) rfl rfl rfl rfl ?_
  refine J_if_ne (tgt := 24) dX11_far_19 (by decide) (fun _ => ?_) (fun q => absurd q (by decide +kernel))
  refine J_aload_n dX11_far_24 rfl rfl ?_
  refine J_get (v := .ref 57) dX11_far_25 fl_X11_43 hk0 rfl ?_
  refine J_callV (st := []) dX11_far_28 cv_X11_217 (c_X9_prepare_1 hk1 hk3 hk51 hk57 hk58 hk59 hk62 hk63) hk57 rfl rfl (Nat.le_of_ble_eq_true rfl) ⟨(Nat.le_of_ble_eq_true rfl), (Nat.le_of_ble_eq_true rfl)⟩ ⟨(Nat.le_of_ble_eq_true rfl), (Nat.le_of_ble_eq_true rfl)⟩ (fun r h9 hp => ?_)
  obtain ⟨rfl, rfl⟩ := hp
  refine J_nf (nh2 := 136) (ck2 := 1) (sk2 := 22) (st2 := []) rfl rfl rfl rfl ?_
  refine J_app (L3 := [(57, .inr (9, [.ref 1, .ref 51, .ref 58, .ref 61, .ref 62, .ref 135, .ref 64, .int 0, .int 0, .int 0])), (62, .inl (0, 1260, .inl (upd (fun _ => 0) 0 (-1)))), (135, .inl (0, 22, .inl (fun _ => 0))), (59, .inl (0, 8, .inl (upd (upd (fun _ => 0) 6 0) 7 0)))]) rfl ?_
  refine J_iload_n dX11_far_31 rfl rfl ?_
  refine J_tableIn (tgt := 80) dX11_far_32 (by decide +kernel) (by decide +kernel) (off := 48) (by decide +kernel) (by decide) ?_
  refine J_aload_n dX11_far_80 rfl rfl ?_
  refine J_get (v := .ref 65) dX11_far_81 fl_X11_52 hk0 rfl ?_
  refine J_iload_n dX11_far_84 rfl rfl ?_
  refine J_iload_n dX11_far_85 rfl rfl ?_
  refine J_callV (st := []) dX11_far_86 cv_X11_235 (c_X10_leastTo_1 hk1 hk3 hk51 hk52 rfl rfl hk65 hk69 hk70 hk71 hk72) hk65 rfl rfl (Nat.le_of_ble_eq_true rfl) ⟨(Nat.le_of_ble_eq_true rfl), (Nat.le_of_ble_eq_true rfl)⟩ ⟨(Nat.le_of_ble_eq_true rfl), (Nat.le_of_ble_eq_true rfl)⟩ (fun r h9 hp => ?_)
  obtain ⟨rfl, rfl⟩ := hp
  refine J_nf (nh2 := 136) (ck2 := 1) (sk2 := 22) (st2 := [.int 0]) rfl rfl rfl rfl ?_
  refine J_app (L3 := [(62, .inl (0, 1260, .inl (upd (upd (fun _ => 0) 0 (-1)) 0 0))), (65, .inr (10, [.ref 51, .ref 57, .ref 66, .ref 67, .ref 68, .int 0, .int (-1), .int (-1), .ref 69, .ref 70, .ref 71, .ref 72, .int 0, .int 0, .int 0, .ref 73, .ref 74])), (70, .inl (0, 100, .inl (upd (upd (fun _ => (-1)) 0 0) 0 (-1)))), (71, .inl (0, 1260, .inl (upd (fun _ => 0) 0 (-1)))), (72, .inl (0, 1260, .inl (upd (fun _ => 0) 0 (-1)))), (69, .inl (0, 1260, .inl (upd (upd (fun _ => 0) 0 (-1)) 0 0))), (57, .inr (9, [.ref 1, .ref 51, .ref 58, .ref 61, .ref 62, .ref 135, .ref 64, .int 0, .int 0, .int 0])), (62, .inl (0, 1260, .inl (upd (fun _ => 0) 0 (-1)))), (135, .inl (0, 22, .inl (fun _ => 0))), (59, .inl (0, 8, .inl (upd (upd (fun _ => 0) 6 0) 7 0)))]) rfl ?_
  refine J_mask (L2 := [(62, .inl (0, 1260, .inl (upd (upd (fun _ => 0) 0 (-1)) 0 0))), (65, .inr (10, [.ref 51, .ref 57, .ref 66, .ref 67, .ref 68, .int 0, .int (-1), .int (-1), .ref 69, .ref 70, .ref 71, .ref 72, .int 0, .int 0, .int 0, .ref 73, .ref 74])), (70, .inl (0, 100, .inl (upd (upd (fun _ => (-1)) 0 0) 0 (-1)))), (71, .inl (0, 1260, .inl (upd (fun _ => 0) 0 (-1)))), (72, .inl (0, 1260, .inl (upd (fun _ => 0) 0 (-1)))), (69, .inl (0, 1260, .inl (upd (upd (fun _ => 0) 0 (-1)) 0 0))), (57, .inr (9, [.ref 1, .ref 51, .ref 58, .ref 61, .ref 62, .ref 135, .ref 64, .int 0, .int 0, .int 0])), (135, .inl (0, 22, .inl (fun _ => 0))), (59, .inl (0, 8, .inl (upd (upd (fun _ => 0) 6 0) 7 0)))]) (ks := [62, 65, 70, 71, 72, 69, 57, 62, 135, 59]) [true, true, true, true, true, true, true, false, true, true] rfl (by decide +kernel) rfl ?_
  exact J_iret dX11_far_89 rfl rfl (Nat.le_of_ble_eq_true rfl) (Nat.le_of_ble_eq_true rfl) ⟨rfl, rfl⟩
set_option maxHeartbeats 4000000 in
set_option maxRecDepth 100000 in
theorem c_X12_lies_39 {l : Launch} {G : jG} {nh : Nat} {fh : Nat → Option va_E}  : JM l G yX12_lies MX12_lies { frames := 0, cells := 0, slots := 0, locals := 0 } [.int 2, .int 0, .int 2] (nh, fh) (fun r h9 => r = some (.int 1) ∧ h9 = (nh, fh)) := by
  refine JM.of (by decide) rfl (fun h => by cases h) (Nat.le_of_ble_eq_true rfl) ⟨0, rfl⟩ ?_
  refine J_hc0 (J_ls (ls2 := [some (.int 2), some (.int 0), some (.int 2)]) rfl ?_)
  refine J_iload_n dX12_lies_0 rfl rfl ?_
  refine J_iload_n dX12_lies_1 rfl rfl ?_
  refine J_icmp_lt (tgt := 14) dX12_lies_2 (by decide) (fun q => absurd q (by decide +kernel)) (fun _ => ?_)
  refine J_iload_n dX12_lies_5 rfl rfl ?_
  refine J_iload_n dX12_lies_6 rfl rfl ?_
  refine J_icmp_gt (tgt := 14) dX12_lies_7 (by decide) (fun q => absurd q (by decide +kernel)) (fun _ => ?_)
  refine J_iconst (v := 1) dX12_lies_10 (by decide) ?_
  refine J_goto (tgt := 15) dX12_lies_11 (by decide) ?_
  exact J_iret dX12_lies_15 rfl (by decide +kernel) (Nat.le_of_ble_eq_true rfl) (Nat.le_of_ble_eq_true rfl) ⟨rfl, rfl⟩
set_option maxHeartbeats 4000000 in
set_option maxRecDepth 100000 in
theorem c_X12_leastOf_1 {l : Launch} {G : jG} {nh : Nat} {fh : Nat → Option va_E} (hk98 : fh 98 = some (.inr (12, [.int 0, .int 0, .ref 99, .ref 100, .ref 101, .ref 102, .ref 103, .ref 104, .ref 105, .int 0, .int (-1), .ref 106, .ref 107, .ref 108, .int 0, .int 0, .int 0, .int 0, .int 0, .int 0, .int 0, .ref 109, .int 0, .int 0, .ref 110, .ref 111, .ref 112, .ref 113, .ref 114, .ref 115, .ref 116, .ref 117, .int 1, .int 0, .int 0, .int 0, .ref 118, .ref 119, .ref 120, .ref 121, .ref 122, .ref 123, .ref 124, .ref 125, .ref 126, .ref 127, .ref 128, .ref 129, .int 0, .ref 130, .ref 131, .ref 132, .ref 133, .ref 134, .int 0, .int 0]))) (hk121 : fh 121 = some (.inl (0, 1260, .inl (fun _ => 0)))) (hk122 : fh 122 = some (.inl (2, 1260, .inl (fun _ => 0)))) : JM l G yX12_leastOf MX12_leastOf { frames := 0, cells := 0, slots := 0, locals := 0 } [.ref 98, .int 0, .int 0] (nh, fh) (fun r h9 => r = some (.int 0) ∧ h9 = (nh, hc fh [(122, .inl (2, 1260, .inl (upd (fun _ => 0) 0 0))), (121, .inl (0, 1260, .inl (upd (fun _ => 0) 0 0)))])) := by
  refine JM.of (by decide) rfl (fun h => by cases h) (Nat.le_of_ble_eq_true rfl) ⟨4, rfl⟩ ?_
  refine J_hc0 (J_ls (ls2 := [some (.ref 98), some (.int 0), some (.int 0), none, none, none, none]) rfl ?_)
  refine J_iconst (v := 0) dX12_leastOf_0 (by decide) ?_
  refine J_istore_n dX12_leastOf_1 rfl (Nat.le_of_ble_eq_true rfl) rfl ?_
  refine J_iload_n dX12_leastOf_2 rfl rfl ?_
  refine J_aload_n dX12_leastOf_3 rfl rfl ?_
  refine J_get (v := .int 1) dX12_leastOf_4 fl_X12_298 hk98 rfl ?_
  refine J_icmp_ge (tgt := 40) dX12_leastOf_7 (by decide) (fun q => absurd q (by decide +kernel)) (fun _ => ?_)
  refine J_aload_n dX12_leastOf_10 rfl rfl ?_
  refine J_get (v := .ref 121) dX12_leastOf_11 fl_X12_95 hk98 rfl ?_
  refine J_iload_n dX12_leastOf_14 rfl rfl ?_
  refine J_iload_n dX12_leastOf_15 rfl rfl ?_
  refine J_iload_n dX12_leastOf_16 rfl rfl ?_
  refine J_icmp_ne (tgt := 24) dX12_leastOf_17 (by decide) (fun q => absurd (by decide +kernel) q) (fun _ => ?_)
  refine J_iconst (v := 0) dX12_leastOf_20 (by decide) ?_
  refine J_goto (tgt := 26) dX12_leastOf_21 (by decide) ?_
  refine K_iast (i2 := 0) dX12_leastOf_26 hk121 rfl (jin (by decide +kernel)) (by decide +kernel) ?_
  refine J_aload_n dX12_leastOf_27 rfl rfl ?_
  refine J_get (v := .ref 122) dX12_leastOf_28 fl_X12_98 hk98 rfl ?_
  refine J_iload_n dX12_leastOf_31 rfl rfl ?_
  refine J_iconst (v := 0) dX12_leastOf_32 (by decide) ?_
  refine K_zast (i2 := 0) (y := 0) dX12_leastOf_33 hk122 rfl (jin (by decide +kernel)) (by decide +kernel) (by decide +kernel) ?_
  refine J_iinc (v := 1) dX12_leastOf_34 rfl (by decide +kernel) (Nat.le_of_ble_eq_true rfl) rfl ?_
  refine J_ls (ls2 := [some (.ref 98), some (.int 0), some (.int 0), some (.int 1), none, none, none]) rfl ?_
  refine J_goto (tgt := 2) dX12_leastOf_37 (by decide) ?_
  refine J_iload_n dX12_leastOf_2 rfl rfl ?_
  refine J_aload_n dX12_leastOf_3 rfl rfl ?_
  refine J_get (v := .int 1) dX12_leastOf_4 fl_X12_298 hk98 rfl ?_
  refine J_icmp_ge (tgt := 40) dX12_leastOf_7 (by decide) (fun _ => ?_) (fun q => absurd (by decide +kernel) q)
  refine J_iconst (v := (-1)) dX12_leastOf_40 (by decide) ?_
  refine J_istore_n dX12_leastOf_41 rfl (Nat.le_of_ble_eq_true rfl) rfl ?_
  refine J_iconst (v := 0) dX12_leastOf_42 (by decide) ?_
  refine J_istore dX12_leastOf_43 (Nat.le_of_ble_eq_true rfl) rfl ?_
  refine J_iload dX12_leastOf_45 rfl ?_
  refine J_aload_n dX12_leastOf_47 rfl rfl ?_
  refine J_get (v := .int 1) dX12_leastOf_48 fl_X12_298 hk98 rfl ?_
  refine J_icmp_ge (tgt := 106) dX12_leastOf_51 (by decide) (fun q => absurd q (by decide +kernel)) (fun _ => ?_)
  refine J_aload_n dX12_leastOf_54 rfl rfl ?_
  refine J_get (v := .ref 122) dX12_leastOf_55 fl_X12_98 hk98 rfl ?_
  refine J_iload dX12_leastOf_58 rfl ?_
  refine J_zald (i2 := 0) (v := 0) dX12_leastOf_60 rfl rfl (jin (by decide +kernel)) (by decide +kernel) rfl ?_
  refine J_if_ne (tgt := 100) dX12_leastOf_61 (by decide) (fun q => absurd (by decide +kernel) q) (fun _ => ?_)
  refine J_aload_n dX12_leastOf_64 rfl rfl ?_
  refine J_get (v := .ref 121) dX12_leastOf_65 fl_X12_95 hk98 rfl ?_
  refine J_iload dX12_leastOf_68 rfl ?_
  refine J_iald (i2 := 0) (v := 0) dX12_leastOf_70 rfl rfl (jin (by decide +kernel)) (by decide +kernel) rfl ?_
  refine J_ldc (v := 1000000) dX12_leastOf_71 (jt7 88 rfl rfl) ?_
  refine J_icmp_ge (tgt := 100) dX12_leastOf_73 (by decide) (fun q => absurd q (by decide +kernel)) (fun _ => ?_)
  refine J_iload_n dX12_leastOf_76 rfl rfl ?_
  refine J_iconst (v := (-1)) dX12_leastOf_77 (by decide) ?_
  refine J_icmp_eq (tgt := 97) dX12_leastOf_78 (by decide) (fun _ => ?_) (fun q => absurd (by decide +kernel) q)
  refine J_iload dX12_leastOf_97 rfl ?_
  refine J_istore_n dX12_leastOf_99 rfl (Nat.le_of_ble_eq_true rfl) rfl ?_
  refine J_iinc (v := 1) dX12_leastOf_100 rfl (by decide +kernel) (Nat.le_of_ble_eq_true rfl) rfl ?_
  refine J_ls (ls2 := [some (.ref 98), some (.int 0), some (.int 0), some (.int 0), some (.int 1), none, none]) rfl ?_
  refine J_goto (tgt := 45) dX12_leastOf_103 (by decide) ?_
  refine J_iload dX12_leastOf_45 rfl ?_
  refine J_aload_n dX12_leastOf_47 rfl rfl ?_
  refine J_get (v := .int 1) dX12_leastOf_48 fl_X12_298 hk98 rfl ?_
  refine J_icmp_ge (tgt := 106) dX12_leastOf_51 (by decide) (fun _ => ?_) (fun q => absurd (by decide +kernel) q)
  refine J_iload_n dX12_leastOf_106 rfl rfl ?_
  refine J_iconst (v := (-1)) dX12_leastOf_107 (by decide) ?_
  refine J_icmp_eq (tgt := 116) dX12_leastOf_108 (by decide) (fun q => absurd q (by decide +kernel)) (fun _ => ?_)
  refine J_iload_n dX12_leastOf_111 rfl rfl ?_
  refine J_iload_n dX12_leastOf_112 rfl rfl ?_
  refine J_icmp_ne (tgt := 132) dX12_leastOf_113 (by decide) (fun q => absurd (by decide +kernel) q) (fun _ => ?_)
  refine J_iload_n dX12_leastOf_116 rfl rfl ?_
  refine J_iconst (v := (-1)) dX12_leastOf_117 (by decide) ?_
  refine J_icmp_ne (tgt := 125) dX12_leastOf_118 (by decide) (fun _ => ?_) (fun q => absurd q (by decide +kernel))
  refine J_aload_n dX12_leastOf_125 rfl rfl ?_
  refine J_get (v := .ref 121) dX12_leastOf_126 fl_X12_95 hk98 rfl ?_
  refine J_iload_n dX12_leastOf_129 rfl rfl ?_
  refine J_iald (i2 := 0) (v := 0) dX12_leastOf_130 rfl rfl (jin (by decide +kernel)) (by decide +kernel) rfl ?_
  exact J_iret dX12_leastOf_131 rfl rfl (Nat.le_of_ble_eq_true rfl) (Nat.le_of_ble_eq_true rfl) ⟨rfl, rfl⟩
set_option maxHeartbeats 4000000 in
set_option maxRecDepth 100000 in
theorem c_X12_far_6 {l : Launch} {G : jG} {nh : Nat} {fh : Nat → Option va_E} (hk98 : fh 98 = some (.inr (12, [.int 0, .int 0, .ref 99, .ref 100, .ref 101, .ref 102, .ref 103, .ref 104, .ref 105, .int 0, .int (-1), .ref 106, .ref 107, .ref 108, .int 0, .int 0, .int 0, .int 0, .int 0, .int 0, .int 0, .ref 109, .int 0, .int 0, .ref 110, .ref 111, .ref 112, .ref 113, .ref 114, .ref 115, .ref 116, .ref 117, .int 0, .int 0, .int (-1), .int (-1), .ref 118, .ref 119, .ref 120, .ref 121, .ref 122, .ref 123, .ref 124, .ref 125, .ref 126, .ref 127, .ref 128, .ref 129, .int 0, .ref 130, .ref 131, .ref 132, .ref 133, .ref 134, .int 0, .int 0]))) (hk100 : fh 100 = some (.inl (0, 4870, .inl (upd (fun _ => 0) 63 (-1))))) (hk111 : fh 111 = some (.inl (0, 1260, .inl (fun _ => 0)))) (hk114 : fh 114 = some (.inl (0, 1260, .inl (fun _ => 0)))) (hk116 : fh 116 = some (.inl (0, 1260, .inl (fun _ => 0)))) (hk121 : fh 121 = some (.inl (0, 1260, .inl (fun _ => 0)))) (hk122 : fh 122 = some (.inl (2, 1260, .inl (fun _ => 0)))) : JM l G yX12_far MX12_far { frames := 3, cells := 0, slots := 0, locals := 69 } [.ref 98, .int 0, .int 0, .int 2] (nh, fh) (fun r h9 => r = some (.int 0) ∧ h9 = (nh, hc fh [(122, .inl (2, 1260, .inl (upd (fun _ => 0) 0 0))), (121, .inl (0, 1260, .inl (upd (fun _ => 0) 0 0))), (114, .inl (0, 1260, .inl (upd (fun _ => 0) 0 0))), (116, .inl (0, 1260, .inl (upd (fun _ => 0) 0 0))), (98, .inr (12, [.int 0, .int 0, .ref 99, .ref 100, .ref 101, .ref 102, .ref 103, .ref 104, .ref 105, .int 0, .int (-1), .ref 106, .ref 107, .ref 108, .int 0, .int 0, .int 0, .int 0, .int 0, .int 0, .int 0, .ref 109, .int 0, .int 0, .ref 110, .ref 111, .ref 112, .ref 113, .ref 114, .ref 115, .ref 116, .ref 117, .int 1, .int 0, .int 0, .int 0, .ref 118, .ref 119, .ref 120, .ref 121, .ref 122, .ref 123, .ref 124, .ref 125, .ref 126, .ref 127, .ref 128, .ref 129, .int 0, .ref 130, .ref 131, .ref 132, .ref 133, .ref 134, .int 0, .int 0])), (111, .inl (0, 1260, .inl (upd (fun _ => 0) 0 0)))])) := by
  refine JM.of (by decide) rfl (fun h => by cases h) (Nat.le_of_ble_eq_true rfl) ⟨0, rfl⟩ ?_
  refine J_hc0 (J_ls (ls2 := [some (.ref 98), some (.int 0), some (.int 0), some (.int 2)]) rfl ?_)
  refine J_aload_n dX12_far_0 rfl rfl ?_
  refine J_iload_n dX12_far_1 rfl rfl ?_
  refine J_callV (st := []) dX12_far_2 cv_X12_325 (c_X12_isHouse_2 hk98 hk100 hk111) hk98 rfl rfl (Nat.le_of_ble_eq_true rfl) ⟨(Nat.le_of_ble_eq_true rfl), (Nat.le_of_ble_eq_true rfl)⟩ ⟨(Nat.le_of_ble_eq_true rfl), (Nat.le_of_ble_eq_true rfl)⟩ (fun r h9 hp => ?_)
  obtain ⟨rfl, rfl⟩ := hp
  refine J_nf (nh2 := nh) (ck2 := 0) (sk2 := 0) (st2 := [.int 1]) rfl rfl rfl rfl ?_
  refine J_app (L3 := [(98, .inr (12, [.int 0, .int 0, .ref 99, .ref 100, .ref 101, .ref 102, .ref 103, .ref 104, .ref 105, .int 0, .int (-1), .ref 106, .ref 107, .ref 108, .int 0, .int 0, .int 0, .int 0, .int 0, .int 0, .int 0, .ref 109, .int 0, .int 0, .ref 110, .ref 111, .ref 112, .ref 113, .ref 114, .ref 115, .ref 116, .ref 117, .int 1, .int 0, .int 0, .int (-1), .ref 118, .ref 119, .ref 120, .ref 121, .ref 122, .ref 123, .ref 124, .ref 125, .ref 126, .ref 127, .ref 128, .ref 129, .int 0, .ref 130, .ref 131, .ref 132, .ref 133, .ref 134, .int 0, .int 0])), (111, .inl (0, 1260, .inl (upd (fun _ => 0) 0 0)))]) rfl ?_
  refine J_if_eq (tgt := 25) dX12_far_5 (by decide) (fun q => absurd q (by decide +kernel)) (fun _ => ?_)
  refine J_aload_n dX12_far_8 rfl rfl ?_
  refine J_iload_n dX12_far_9 rfl rfl ?_
  refine J_callV (st := []) dX12_far_10 cv_X12_325 (c_X12_isHouse_5 rfl) rfl rfl rfl (Nat.le_of_ble_eq_true rfl) ⟨(Nat.le_of_ble_eq_true rfl), (Nat.le_of_ble_eq_true rfl)⟩ ⟨(Nat.le_of_ble_eq_true rfl), (Nat.le_of_ble_eq_true rfl)⟩ (fun r h9 hp => ?_)
  obtain ⟨rfl, rfl⟩ := hp
  refine J_nf (nh2 := nh) (ck2 := 0) (sk2 := 0) (st2 := [.int 1]) rfl rfl rfl rfl ?_
  refine J_if_eq (tgt := 25) dX12_far_13 (by decide) (fun q => absurd q (by decide +kernel)) (fun _ => ?_)
  refine J_iload_n dX12_far_16 rfl rfl ?_
  refine J_iconst (v := 0) dX12_far_17 (by decide) ?_
  refine J_iconst (v := 2) dX12_far_18 (by decide) ?_
  refine J_callS (st := []) dX12_far_19 cs_X12_138 (c_X12_lies_39 ) rfl rfl (Nat.le_of_ble_eq_true rfl) ⟨(Nat.le_of_ble_eq_true rfl), (Nat.le_of_ble_eq_true rfl)⟩ ⟨(Nat.le_of_ble_eq_true rfl), (Nat.le_of_ble_eq_true rfl)⟩ (fun r h9 hp => ?_)
  obtain ⟨rfl, rfl⟩ := hp
  refine J_nf (nh2 := nh) (ck2 := 0) (sk2 := 0) (st2 := [.int 1]) rfl rfl rfl rfl ?_
  refine J_if_ne (tgt := 27) dX12_far_22 (by decide) (fun _ => ?_) (fun q => absurd q (by decide +kernel))
  refine J_aload_n dX12_far_27 rfl rfl ?_
  refine J_callV (st := []) dX12_far_28 cv_X12_328 (c_X12_looks_1 rfl hk100 hk114 hk116) rfl rfl rfl (Nat.le_of_ble_eq_true rfl) ⟨(Nat.le_of_ble_eq_true rfl), (Nat.le_of_ble_eq_true rfl)⟩ ⟨(Nat.le_of_ble_eq_true rfl), (Nat.le_of_ble_eq_true rfl)⟩ (fun r h9 hp => ?_)
  obtain ⟨rfl, rfl⟩ := hp
  refine J_nf (nh2 := nh) (ck2 := 0) (sk2 := 0) (st2 := []) rfl rfl rfl rfl ?_
  refine J_app (L3 := [(114, .inl (0, 1260, .inl (upd (fun _ => 0) 0 0))), (116, .inl (0, 1260, .inl (upd (fun _ => 0) 0 0))), (98, .inr (12, [.int 0, .int 0, .ref 99, .ref 100, .ref 101, .ref 102, .ref 103, .ref 104, .ref 105, .int 0, .int (-1), .ref 106, .ref 107, .ref 108, .int 0, .int 0, .int 0, .int 0, .int 0, .int 0, .int 0, .ref 109, .int 0, .int 0, .ref 110, .ref 111, .ref 112, .ref 113, .ref 114, .ref 115, .ref 116, .ref 117, .int 1, .int 0, .int 0, .int 0, .ref 118, .ref 119, .ref 120, .ref 121, .ref 122, .ref 123, .ref 124, .ref 125, .ref 126, .ref 127, .ref 128, .ref 129, .int 0, .ref 130, .ref 131, .ref 132, .ref 133, .ref 134, .int 0, .int 0])), (98, .inr (12, [.int 0, .int 0, .ref 99, .ref 100, .ref 101, .ref 102, .ref 103, .ref 104, .ref 105, .int 0, .int (-1), .ref 106, .ref 107, .ref 108, .int 0, .int 0, .int 0, .int 0, .int 0, .int 0, .int 0, .ref 109, .int 0, .int 0, .ref 110, .ref 111, .ref 112, .ref 113, .ref 114, .ref 115, .ref 116, .ref 117, .int 1, .int 0, .int 0, .int (-1), .ref 118, .ref 119, .ref 120, .ref 121, .ref 122, .ref 123, .ref 124, .ref 125, .ref 126, .ref 127, .ref 128, .ref 129, .int 0, .ref 130, .ref 131, .ref 132, .ref 133, .ref 134, .int 0, .int 0])), (111, .inl (0, 1260, .inl (upd (fun _ => 0) 0 0)))]) rfl ?_
  refine J_iload_n dX12_far_31 rfl rfl ?_
  refine J_iconst (v := 2) dX12_far_32 (by decide) ?_
  refine J_icmp_ne (tgt := 43) dX12_far_33 (by decide) (fun q => absurd (by decide +kernel) q) (fun _ => ?_)
  refine J_aload_n dX12_far_36 rfl rfl ?_
  refine J_iload_n dX12_far_37 rfl rfl ?_
  refine J_iload_n dX12_far_38 rfl rfl ?_
  refine J_callV (st := []) dX12_far_39 cv_X12_331 (c_X12_leastOf_1 rfl hk121 hk122) rfl rfl rfl (Nat.le_of_ble_eq_true rfl) ⟨(Nat.le_of_ble_eq_true rfl), (Nat.le_of_ble_eq_true rfl)⟩ ⟨(Nat.le_of_ble_eq_true rfl), (Nat.le_of_ble_eq_true rfl)⟩ (fun r h9 hp => ?_)
  obtain ⟨rfl, rfl⟩ := hp
  refine J_nf (nh2 := nh) (ck2 := 0) (sk2 := 0) (st2 := [.int 0]) rfl rfl rfl rfl ?_
  refine J_app (L3 := [(122, .inl (2, 1260, .inl (upd (fun _ => 0) 0 0))), (121, .inl (0, 1260, .inl (upd (fun _ => 0) 0 0))), (114, .inl (0, 1260, .inl (upd (fun _ => 0) 0 0))), (116, .inl (0, 1260, .inl (upd (fun _ => 0) 0 0))), (98, .inr (12, [.int 0, .int 0, .ref 99, .ref 100, .ref 101, .ref 102, .ref 103, .ref 104, .ref 105, .int 0, .int (-1), .ref 106, .ref 107, .ref 108, .int 0, .int 0, .int 0, .int 0, .int 0, .int 0, .int 0, .ref 109, .int 0, .int 0, .ref 110, .ref 111, .ref 112, .ref 113, .ref 114, .ref 115, .ref 116, .ref 117, .int 1, .int 0, .int 0, .int 0, .ref 118, .ref 119, .ref 120, .ref 121, .ref 122, .ref 123, .ref 124, .ref 125, .ref 126, .ref 127, .ref 128, .ref 129, .int 0, .ref 130, .ref 131, .ref 132, .ref 133, .ref 134, .int 0, .int 0])), (98, .inr (12, [.int 0, .int 0, .ref 99, .ref 100, .ref 101, .ref 102, .ref 103, .ref 104, .ref 105, .int 0, .int (-1), .ref 106, .ref 107, .ref 108, .int 0, .int 0, .int 0, .int 0, .int 0, .int 0, .int 0, .ref 109, .int 0, .int 0, .ref 110, .ref 111, .ref 112, .ref 113, .ref 114, .ref 115, .ref 116, .ref 117, .int 1, .int 0, .int 0, .int (-1), .ref 118, .ref 119, .ref 120, .ref 121, .ref 122, .ref 123, .ref 124, .ref 125, .ref 126, .ref 127, .ref 128, .ref 129, .int 0, .ref 130, .ref 131, .ref 132, .ref 133, .ref 134, .int 0, .int 0])), (111, .inl (0, 1260, .inl (upd (fun _ => 0) 0 0)))]) rfl ?_
  refine J_mask (L2 := [(122, .inl (2, 1260, .inl (upd (fun _ => 0) 0 0))), (121, .inl (0, 1260, .inl (upd (fun _ => 0) 0 0))), (114, .inl (0, 1260, .inl (upd (fun _ => 0) 0 0))), (116, .inl (0, 1260, .inl (upd (fun _ => 0) 0 0))), (98, .inr (12, [.int 0, .int 0, .ref 99, .ref 100, .ref 101, .ref 102, .ref 103, .ref 104, .ref 105, .int 0, .int (-1), .ref 106, .ref 107, .ref 108, .int 0, .int 0, .int 0, .int 0, .int 0, .int 0, .int 0, .ref 109, .int 0, .int 0, .ref 110, .ref 111, .ref 112, .ref 113, .ref 114, .ref 115, .ref 116, .ref 117, .int 1, .int 0, .int 0, .int 0, .ref 118, .ref 119, .ref 120, .ref 121, .ref 122, .ref 123, .ref 124, .ref 125, .ref 126, .ref 127, .ref 128, .ref 129, .int 0, .ref 130, .ref 131, .ref 132, .ref 133, .ref 134, .int 0, .int 0])), (111, .inl (0, 1260, .inl (upd (fun _ => 0) 0 0)))]) (ks := [122, 121, 114, 116, 98, 98, 111]) [true, true, true, true, true, false, true] rfl (by decide +kernel) rfl ?_
  exact J_iret dX12_far_42 rfl rfl (Nat.le_of_ble_eq_true rfl) (Nat.le_of_ble_eq_true rfl) ⟨rfl, rfl⟩
set_option maxHeartbeats 4000000 in
set_option maxRecDepth 100000 in
theorem c_X11_far_7 {l : Launch} {G : jG} {fh : Nat → Option va_E} (a3 : Int32) (b_a3 : 3 ≤ a3.toInt ∧ a3.toInt ≤ 2147483647) (hk0 : fh 0 = some (.inr (11, [.ref 1, .ref 17, .ref 50, .ref 51, .ref 54, .ref 57, .ref 65, .ref 75, .ref 81, .ref 85, .ref 88, .ref 93, .ref 96, .int 0, .int (-1), .ref 97, .int 0]))) (hk1 : fh 1 = some (.inr (8, [.ref 2, .ref 3, .ref 4, .int 0, .int (-1), .ref 11, .ref 12, .int 0, .ref 13, .ref 14, .int 0, .ref 15, .ref 16, .int 0]))) (hk3 : fh 3 = some (.inl (0, 2, .inl (fun _ => 0)))) (hk51 : fh 51 = some (.inr (0, [.ref 52, .ref 53, .int 1, .int 0]))) (hk57 : fh 57 = some (.inr (9, [.ref 1, .ref 51, .ref 58, .ref 61, .ref 62, .ref 63, .ref 64, .int 0, .int 1, .int 1]))) (hk58 : fh 58 = some (.inr (1, [.ref 59, .ref 60, .int 0, .int 0, .int 0, .int 0, .int 0, .int 1]))) (hk59 : fh 59 = some (.inl (0, 8, .inl (fun _ => 0)))) (hk62 : fh 62 = some (.inl (0, 1260, .inl (fun _ => 0)))) (hk63 : fh 63 = some (.inl (0, 0, .inl (fun _ => 0)))) : JM l G yX11_far MX11_far { frames := 3, cells := 1, slots := 22, locals := 67 } [.ref 0, .int 0, .int 0, .int a3] (135, fh) (fun r h9 => r = some (.int (-1)) ∧ h9 = (136, hc fh [(57, .inr (9, [.ref 1, .ref 51, .ref 58, .ref 61, .ref 62, .ref 135, .ref 64, .int 0, .int 0, .int 0])), (62, .inl (0, 1260, .inl (upd (fun _ => 0) 0 (-1)))), (135, .inl (0, 22, .inl (fun _ => 0))), (59, .inl (0, 8, .inl (upd (upd (fun _ => 0) 6 0) 7 0)))])) := by
  refine JM.of (by decide) rfl (fun h => by cases h) (Nat.le_of_ble_eq_true rfl) ⟨0, rfl⟩ ?_
  refine J_hc0 (J_ls (ls2 := [some (.ref 0), some (.int 0), some (.int 0), some (.int a3)]) rfl ?_)
  refine J_aload_n dX11_far_0 rfl rfl ?_
  refine J_get (v := .ref 51) dX11_far_1 fl_X11_27 hk0 rfl ?_
  refine J_iload_n dX11_far_4 rfl rfl ?_
  refine J_callV (st := []) dX11_far_5 cv_X11_135 (c_X0_has_2 hk51) hk51 rfl rfl (Nat.le_of_ble_eq_true rfl) ⟨(Nat.le_of_ble_eq_true rfl), (Nat.le_of_ble_eq_true rfl)⟩ ⟨(Nat.le_of_ble_eq_true rfl), (Nat.le_of_ble_eq_true rfl)⟩ (fun r h9 hp => ?_)
  obtain ⟨rfl, rfl⟩ := hp
  refine J_nf (nh2 := 135) (ck2 := 0) (sk2 := 0) (st2 := [.int 1]) rfl rfl rfl rfl ?_
  refine J_if_eq (tgt := 22) dX11_far_8 (by decide) (fun q => absurd q (by decide +kernel)) (fun _ => ?_)
  refine J_aload_n dX11_far_11 rfl rfl ?_
  refine J_get (v := .ref 51) dX11_far_12 fl_X11_27 hk0 rfl ?_
  refine J_iload_n dX11_far_15 rfl rfl ?_
  refine J_callV (st := []) dX11_far_16 cv_X11_135 (c_X0_has_2 hk51) hk51 rfl rfl (Nat.le_of_ble_eq_true rfl) ⟨(Nat.le_of_ble_eq_true rfl), (Nat.le_of_ble_eq_true rfl)⟩ ⟨(Nat.le_of_ble_eq_true rfl), (Nat.le_of_ble_eq_true rfl)⟩ (fun r h9 hp => ?_)
  obtain ⟨rfl, rfl⟩ := hp
  refine J_nf (nh2 := 135) (ck2 := 0) (sk2 := 0) (st2 := [.int 1]) rfl rfl rfl rfl ?_
  refine J_if_ne (tgt := 24) dX11_far_19 (by decide) (fun _ => ?_) (fun q => absurd q (by decide +kernel))
  refine J_aload_n dX11_far_24 rfl rfl ?_
  refine J_get (v := .ref 57) dX11_far_25 fl_X11_43 hk0 rfl ?_
  refine J_callV (st := []) dX11_far_28 cv_X11_217 (c_X9_prepare_1 hk1 hk3 hk51 hk57 hk58 hk59 hk62 hk63) hk57 rfl rfl (Nat.le_of_ble_eq_true rfl) ⟨(Nat.le_of_ble_eq_true rfl), (Nat.le_of_ble_eq_true rfl)⟩ ⟨(Nat.le_of_ble_eq_true rfl), (Nat.le_of_ble_eq_true rfl)⟩ (fun r h9 hp => ?_)
  obtain ⟨rfl, rfl⟩ := hp
  refine J_nf (nh2 := 136) (ck2 := 1) (sk2 := 22) (st2 := []) rfl rfl rfl rfl ?_
  refine J_app (L3 := [(57, .inr (9, [.ref 1, .ref 51, .ref 58, .ref 61, .ref 62, .ref 135, .ref 64, .int 0, .int 0, .int 0])), (62, .inl (0, 1260, .inl (upd (fun _ => 0) 0 (-1)))), (135, .inl (0, 22, .inl (fun _ => 0))), (59, .inl (0, 8, .inl (upd (upd (fun _ => 0) 6 0) 7 0)))]) rfl ?_
  refine J_iload_n dX11_far_31 rfl rfl ?_
  refine J_tableOut (tgt := 90) dX11_far_32 (by have hb := b_a3; omega) (by decide) ?_
  refine J_iconst (v := (-1)) dX11_far_90 (by decide) ?_
  exact J_iret dX11_far_91 rfl rfl (Nat.le_of_ble_eq_true rfl) (Nat.le_of_ble_eq_true rfl) ⟨rfl, rfl⟩
set_option maxHeartbeats 4000000 in
set_option maxRecDepth 100000 in
theorem c_X12_lies_40 {l : Launch} {G : jG} {nh : Nat} {fh : Nat → Option va_E} (a0 : Int32) (b_a0 : 3 ≤ a0.toInt ∧ a0.toInt ≤ 2147483647) : JM l G yX12_lies MX12_lies { frames := 0, cells := 0, slots := 0, locals := 0 } [.int a0, .int 0, .int 2] (nh, fh) (fun r h9 => r = some (.int 0) ∧ h9 = (nh, fh)) := by
  refine JM.of (by decide) rfl (fun h => by cases h) (Nat.le_of_ble_eq_true rfl) ⟨0, rfl⟩ ?_
  refine J_hc0 (J_ls (ls2 := [some (.int a0), some (.int 0), some (.int 2)]) rfl ?_)
  refine J_iload_n dX12_lies_0 rfl rfl ?_
  refine J_iload_n dX12_lies_1 rfl rfl ?_
  refine J_icmp_lt (tgt := 14) dX12_lies_2 (by decide) (fun q => absurd q (by have hb0 := b_a0; simp only [fa_lt, fa_le, fa_eq, kc_0]; omega)) (fun _ => ?_)
  refine J_iload_n dX12_lies_5 rfl rfl ?_
  refine J_iload_n dX12_lies_6 rfl rfl ?_
  refine J_icmp_gt (tgt := 14) dX12_lies_7 (by decide) (fun _ => ?_) (fun q => absurd (by have hb0 := b_a0; simp only [fa_lt, fa_le, fa_eq, kc_2]; omega) q)
  refine J_iconst (v := 0) dX12_lies_14 (by decide) ?_
  exact J_iret dX12_lies_15 rfl (by decide +kernel) (Nat.le_of_ble_eq_true rfl) (Nat.le_of_ble_eq_true rfl) ⟨rfl, rfl⟩
set_option maxHeartbeats 4000000 in
set_option maxRecDepth 100000 in
theorem c_X12_far_7 {l : Launch} {G : jG} {nh : Nat} {fh : Nat → Option va_E} (a3 : Int32) (b_a3 : 3 ≤ a3.toInt ∧ a3.toInt ≤ 2147483647) (hk98 : fh 98 = some (.inr (12, [.int 0, .int 0, .ref 99, .ref 100, .ref 101, .ref 102, .ref 103, .ref 104, .ref 105, .int 0, .int (-1), .ref 106, .ref 107, .ref 108, .int 0, .int 0, .int 0, .int 0, .int 0, .int 0, .int 0, .ref 109, .int 0, .int 0, .ref 110, .ref 111, .ref 112, .ref 113, .ref 114, .ref 115, .ref 116, .ref 117, .int 0, .int 0, .int (-1), .int (-1), .ref 118, .ref 119, .ref 120, .ref 121, .ref 122, .ref 123, .ref 124, .ref 125, .ref 126, .ref 127, .ref 128, .ref 129, .int 0, .ref 130, .ref 131, .ref 132, .ref 133, .ref 134, .int 0, .int 0]))) (hk100 : fh 100 = some (.inl (0, 4870, .inl (upd (fun _ => 0) 63 (-1))))) (hk111 : fh 111 = some (.inl (0, 1260, .inl (fun _ => 0)))) : JM l G yX12_far MX12_far { frames := 3, cells := 0, slots := 0, locals := 69 } [.ref 98, .int 0, .int 0, .int a3] (nh, fh) (fun r h9 => r = some (.int (-1)) ∧ h9 = (nh, hc fh [(98, .inr (12, [.int 0, .int 0, .ref 99, .ref 100, .ref 101, .ref 102, .ref 103, .ref 104, .ref 105, .int 0, .int (-1), .ref 106, .ref 107, .ref 108, .int 0, .int 0, .int 0, .int 0, .int 0, .int 0, .int 0, .ref 109, .int 0, .int 0, .ref 110, .ref 111, .ref 112, .ref 113, .ref 114, .ref 115, .ref 116, .ref 117, .int 1, .int 0, .int 0, .int (-1), .ref 118, .ref 119, .ref 120, .ref 121, .ref 122, .ref 123, .ref 124, .ref 125, .ref 126, .ref 127, .ref 128, .ref 129, .int 0, .ref 130, .ref 131, .ref 132, .ref 133, .ref 134, .int 0, .int 0])), (111, .inl (0, 1260, .inl (upd (fun _ => 0) 0 0)))])) := by
  refine JM.of (by decide) rfl (fun h => by cases h) (Nat.le_of_ble_eq_true rfl) ⟨0, rfl⟩ ?_
  refine J_hc0 (J_ls (ls2 := [some (.ref 98), some (.int 0), some (.int 0), some (.int a3)]) rfl ?_)
  refine J_aload_n dX12_far_0 rfl rfl ?_
  refine J_iload_n dX12_far_1 rfl rfl ?_
  refine J_callV (st := []) dX12_far_2 cv_X12_325 (c_X12_isHouse_2 hk98 hk100 hk111) hk98 rfl rfl (Nat.le_of_ble_eq_true rfl) ⟨(Nat.le_of_ble_eq_true rfl), (Nat.le_of_ble_eq_true rfl)⟩ ⟨(Nat.le_of_ble_eq_true rfl), (Nat.le_of_ble_eq_true rfl)⟩ (fun r h9 hp => ?_)
  obtain ⟨rfl, rfl⟩ := hp
  refine J_nf (nh2 := nh) (ck2 := 0) (sk2 := 0) (st2 := [.int 1]) rfl rfl rfl rfl ?_
  refine J_app (L3 := [(98, .inr (12, [.int 0, .int 0, .ref 99, .ref 100, .ref 101, .ref 102, .ref 103, .ref 104, .ref 105, .int 0, .int (-1), .ref 106, .ref 107, .ref 108, .int 0, .int 0, .int 0, .int 0, .int 0, .int 0, .int 0, .ref 109, .int 0, .int 0, .ref 110, .ref 111, .ref 112, .ref 113, .ref 114, .ref 115, .ref 116, .ref 117, .int 1, .int 0, .int 0, .int (-1), .ref 118, .ref 119, .ref 120, .ref 121, .ref 122, .ref 123, .ref 124, .ref 125, .ref 126, .ref 127, .ref 128, .ref 129, .int 0, .ref 130, .ref 131, .ref 132, .ref 133, .ref 134, .int 0, .int 0])), (111, .inl (0, 1260, .inl (upd (fun _ => 0) 0 0)))]) rfl ?_
  refine J_if_eq (tgt := 25) dX12_far_5 (by decide) (fun q => absurd q (by decide +kernel)) (fun _ => ?_)
  refine J_aload_n dX12_far_8 rfl rfl ?_
  refine J_iload_n dX12_far_9 rfl rfl ?_
  refine J_callV (st := []) dX12_far_10 cv_X12_325 (c_X12_isHouse_5 rfl) rfl rfl rfl (Nat.le_of_ble_eq_true rfl) ⟨(Nat.le_of_ble_eq_true rfl), (Nat.le_of_ble_eq_true rfl)⟩ ⟨(Nat.le_of_ble_eq_true rfl), (Nat.le_of_ble_eq_true rfl)⟩ (fun r h9 hp => ?_)
  obtain ⟨rfl, rfl⟩ := hp
  refine J_nf (nh2 := nh) (ck2 := 0) (sk2 := 0) (st2 := [.int 1]) rfl rfl rfl rfl ?_
  refine J_if_eq (tgt := 25) dX12_far_13 (by decide) (fun q => absurd q (by decide +kernel)) (fun _ => ?_)
  refine J_iload_n dX12_far_16 rfl rfl ?_
  refine J_iconst (v := 0) dX12_far_17 (by decide) ?_
  refine J_iconst (v := 2) dX12_far_18 (by decide) ?_
  refine J_callS (st := []) dX12_far_19 cs_X12_138 (c_X12_lies_40 (a3) b_a3) rfl rfl (Nat.le_of_ble_eq_true rfl) ⟨(Nat.le_of_ble_eq_true rfl), (Nat.le_of_ble_eq_true rfl)⟩ ⟨(Nat.le_of_ble_eq_true rfl), (Nat.le_of_ble_eq_true rfl)⟩ (fun r h9 hp => ?_)
  obtain ⟨rfl, rfl⟩ := hp
  refine J_nf (nh2 := nh) (ck2 := 0) (sk2 := 0) (st2 := [.int 0]) rfl rfl rfl rfl ?_
  refine J_if_ne (tgt := 27) dX12_far_22 (by decide) (fun q => absurd (by decide +kernel) q) (fun _ => ?_)
  refine J_iconst (v := (-1)) dX12_far_25 (by decide) ?_
  exact J_iret dX12_far_26 rfl rfl (Nat.le_of_ble_eq_true rfl) (Nat.le_of_ble_eq_true rfl) ⟨rfl, rfl⟩
set_option maxHeartbeats 4000000 in
set_option maxRecDepth 100000 in
theorem c_X11_far_8 {l : Launch} {G : jG} {nh : Nat} {fh : Nat → Option va_E} (a2 : Int32) (b_a2 : 1 ≤ a2.toInt ∧ a2.toInt ≤ 2147483647) (a3 : Int32) (b_a3 : (-2147483648) ≤ a3.toInt ∧ a3.toInt ≤ 2147483647) (hk0 : fh 0 = some (.inr (11, [.ref 1, .ref 17, .ref 50, .ref 51, .ref 54, .ref 57, .ref 65, .ref 75, .ref 81, .ref 85, .ref 88, .ref 93, .ref 96, .int 0, .int (-1), .ref 97, .int 0]))) (hk51 : fh 51 = some (.inr (0, [.ref 52, .ref 53, .int 1, .int 0]))) : JM l G yX11_far MX11_far { frames := 1, cells := 0, slots := 0, locals := 21 } [.ref 0, .int 0, .int a2, .int a3] (nh, fh) (fun r h9 => r = some (.int (-1)) ∧ h9 = (nh, fh)) := by
  refine JM.of (by decide) rfl (fun h => by cases h) (Nat.le_of_ble_eq_true rfl) ⟨0, rfl⟩ ?_
  refine J_hc0 (J_ls (ls2 := [some (.ref 0), some (.int 0), some (.int a2), some (.int a3)]) rfl ?_)
  refine J_aload_n dX11_far_0 rfl rfl ?_
  refine J_get (v := .ref 51) dX11_far_1 fl_X11_27 hk0 rfl ?_
  refine J_iload_n dX11_far_4 rfl rfl ?_
  refine J_callV (st := []) dX11_far_5 cv_X11_135 (c_X0_has_2 hk51) hk51 rfl rfl (Nat.le_of_ble_eq_true rfl) ⟨(Nat.le_of_ble_eq_true rfl), (Nat.le_of_ble_eq_true rfl)⟩ ⟨(Nat.le_of_ble_eq_true rfl), (Nat.le_of_ble_eq_true rfl)⟩ (fun r h9 hp => ?_)
  obtain ⟨rfl, rfl⟩ := hp
  refine J_nf (nh2 := nh) (ck2 := 0) (sk2 := 0) (st2 := [.int 1]) rfl rfl rfl rfl ?_
  refine J_if_eq (tgt := 22) dX11_far_8 (by decide) (fun q => absurd q (by decide +kernel)) (fun _ => ?_)
  refine J_aload_n dX11_far_11 rfl rfl ?_
  refine J_get (v := .ref 51) dX11_far_12 fl_X11_27 hk0 rfl ?_
  refine J_iload_n dX11_far_15 rfl rfl ?_
  refine J_callV (st := []) dX11_far_16 cv_X11_135 (c_X0_has_3 (a2) b_a2 hk51) hk51 rfl rfl (Nat.le_of_ble_eq_true rfl) ⟨(Nat.le_of_ble_eq_true rfl), (Nat.le_of_ble_eq_true rfl)⟩ ⟨(Nat.le_of_ble_eq_true rfl), (Nat.le_of_ble_eq_true rfl)⟩ (fun r h9 hp => ?_)
  obtain ⟨rfl, rfl⟩ := hp
  refine J_nf (nh2 := nh) (ck2 := 0) (sk2 := 0) (st2 := [.int 0]) rfl rfl rfl rfl ?_
  refine J_if_ne (tgt := 24) dX11_far_19 (by decide) (fun q => absurd (by decide +kernel) q) (fun _ => ?_)
  refine J_iconst (v := (-1)) dX11_far_22 (by decide) ?_
  exact J_iret dX11_far_23 rfl rfl (Nat.le_of_ble_eq_true rfl) (Nat.le_of_ble_eq_true rfl) ⟨rfl, rfl⟩
set_option maxHeartbeats 4000000 in
set_option maxRecDepth 100000 in
theorem c_X12_far_8 {l : Launch} {G : jG} {nh : Nat} {fh : Nat → Option va_E} (a2 : Int32) (b_a2 : 1 ≤ a2.toInt ∧ a2.toInt ≤ 2147483647) (a3 : Int32) (b_a3 : (-2147483648) ≤ a3.toInt ∧ a3.toInt ≤ 2147483647) (hk98 : fh 98 = some (.inr (12, [.int 0, .int 0, .ref 99, .ref 100, .ref 101, .ref 102, .ref 103, .ref 104, .ref 105, .int 0, .int (-1), .ref 106, .ref 107, .ref 108, .int 0, .int 0, .int 0, .int 0, .int 0, .int 0, .int 0, .ref 109, .int 0, .int 0, .ref 110, .ref 111, .ref 112, .ref 113, .ref 114, .ref 115, .ref 116, .ref 117, .int 0, .int 0, .int (-1), .int (-1), .ref 118, .ref 119, .ref 120, .ref 121, .ref 122, .ref 123, .ref 124, .ref 125, .ref 126, .ref 127, .ref 128, .ref 129, .int 0, .ref 130, .ref 131, .ref 132, .ref 133, .ref 134, .int 0, .int 0]))) (hk100 : fh 100 = some (.inl (0, 4870, .inl (upd (fun _ => 0) 63 (-1))))) (hk111 : fh 111 = some (.inl (0, 1260, .inl (fun _ => 0)))) : JM l G yX12_far MX12_far { frames := 3, cells := 0, slots := 0, locals := 69 } [.ref 98, .int 0, .int a2, .int a3] (nh, fh) (fun r h9 => r = some (.int (-1)) ∧ h9 = (nh, hc fh [(98, .inr (12, [.int 0, .int 0, .ref 99, .ref 100, .ref 101, .ref 102, .ref 103, .ref 104, .ref 105, .int 0, .int (-1), .ref 106, .ref 107, .ref 108, .int 0, .int 0, .int 0, .int 0, .int 0, .int 0, .int 0, .ref 109, .int 0, .int 0, .ref 110, .ref 111, .ref 112, .ref 113, .ref 114, .ref 115, .ref 116, .ref 117, .int 1, .int 0, .int 0, .int (-1), .ref 118, .ref 119, .ref 120, .ref 121, .ref 122, .ref 123, .ref 124, .ref 125, .ref 126, .ref 127, .ref 128, .ref 129, .int 0, .ref 130, .ref 131, .ref 132, .ref 133, .ref 134, .int 0, .int 0])), (111, .inl (0, 1260, .inl (upd (fun _ => 0) 0 0)))])) := by
  refine JM.of (by decide) rfl (fun h => by cases h) (Nat.le_of_ble_eq_true rfl) ⟨0, rfl⟩ ?_
  refine J_hc0 (J_ls (ls2 := [some (.ref 98), some (.int 0), some (.int a2), some (.int a3)]) rfl ?_)
  refine J_aload_n dX12_far_0 rfl rfl ?_
  refine J_iload_n dX12_far_1 rfl rfl ?_
  refine J_callV (st := []) dX12_far_2 cv_X12_325 (c_X12_isHouse_2 hk98 hk100 hk111) hk98 rfl rfl (Nat.le_of_ble_eq_true rfl) ⟨(Nat.le_of_ble_eq_true rfl), (Nat.le_of_ble_eq_true rfl)⟩ ⟨(Nat.le_of_ble_eq_true rfl), (Nat.le_of_ble_eq_true rfl)⟩ (fun r h9 hp => ?_)
  obtain ⟨rfl, rfl⟩ := hp
  refine J_nf (nh2 := nh) (ck2 := 0) (sk2 := 0) (st2 := [.int 1]) rfl rfl rfl rfl ?_
  refine J_app (L3 := [(98, .inr (12, [.int 0, .int 0, .ref 99, .ref 100, .ref 101, .ref 102, .ref 103, .ref 104, .ref 105, .int 0, .int (-1), .ref 106, .ref 107, .ref 108, .int 0, .int 0, .int 0, .int 0, .int 0, .int 0, .int 0, .ref 109, .int 0, .int 0, .ref 110, .ref 111, .ref 112, .ref 113, .ref 114, .ref 115, .ref 116, .ref 117, .int 1, .int 0, .int 0, .int (-1), .ref 118, .ref 119, .ref 120, .ref 121, .ref 122, .ref 123, .ref 124, .ref 125, .ref 126, .ref 127, .ref 128, .ref 129, .int 0, .ref 130, .ref 131, .ref 132, .ref 133, .ref 134, .int 0, .int 0])), (111, .inl (0, 1260, .inl (upd (fun _ => 0) 0 0)))]) rfl ?_
  refine J_if_eq (tgt := 25) dX12_far_5 (by decide) (fun q => absurd q (by decide +kernel)) (fun _ => ?_)
  refine J_aload_n dX12_far_8 rfl rfl ?_
  refine J_iload_n dX12_far_9 rfl rfl ?_
  refine J_callV (st := []) dX12_far_10 cv_X12_325 (c_X12_isHouse_6 (a2) b_a2 rfl) rfl rfl rfl (Nat.le_of_ble_eq_true rfl) ⟨(Nat.le_of_ble_eq_true rfl), (Nat.le_of_ble_eq_true rfl)⟩ ⟨(Nat.le_of_ble_eq_true rfl), (Nat.le_of_ble_eq_true rfl)⟩ (fun r h9 hp => ?_)
  obtain ⟨rfl, rfl⟩ := hp
  refine J_nf (nh2 := nh) (ck2 := 0) (sk2 := 0) (st2 := [.int 0]) rfl rfl rfl rfl ?_
  refine J_if_eq (tgt := 25) dX12_far_13 (by decide) (fun _ => ?_) (fun q => absurd (by decide +kernel) q)
  refine J_iconst (v := (-1)) dX12_far_25 (by decide) ?_
  exact J_iret dX12_far_26 rfl rfl (Nat.le_of_ble_eq_true rfl) (Nat.le_of_ble_eq_true rfl) ⟨rfl, rfl⟩
set_option maxHeartbeats 4000000 in
set_option maxRecDepth 100000 in
theorem c_X11_far_9 {l : Launch} {G : jG} {nh : Nat} {fh : Nat → Option va_E} (a1 : Int32) (b_a1 : 1 ≤ a1.toInt ∧ a1.toInt ≤ 2147483647) (a2 : Int32) (b_a2 : (-2147483648) ≤ a2.toInt ∧ a2.toInt ≤ 2147483647) (a3 : Int32) (b_a3 : (-2147483648) ≤ a3.toInt ∧ a3.toInt ≤ 2147483647) (hk0 : fh 0 = some (.inr (11, [.ref 1, .ref 17, .ref 50, .ref 51, .ref 54, .ref 57, .ref 65, .ref 75, .ref 81, .ref 85, .ref 88, .ref 93, .ref 96, .int 0, .int (-1), .ref 97, .int 0]))) (hk51 : fh 51 = some (.inr (0, [.ref 52, .ref 53, .int 1, .int 0]))) : JM l G yX11_far MX11_far { frames := 1, cells := 0, slots := 0, locals := 21 } [.ref 0, .int a1, .int a2, .int a3] (nh, fh) (fun r h9 => r = some (.int (-1)) ∧ h9 = (nh, fh)) := by
  refine JM.of (by decide) rfl (fun h => by cases h) (Nat.le_of_ble_eq_true rfl) ⟨0, rfl⟩ ?_
  refine J_hc0 (J_ls (ls2 := [some (.ref 0), some (.int a1), some (.int a2), some (.int a3)]) rfl ?_)
  refine J_aload_n dX11_far_0 rfl rfl ?_
  refine J_get (v := .ref 51) dX11_far_1 fl_X11_27 hk0 rfl ?_
  refine J_iload_n dX11_far_4 rfl rfl ?_
  refine J_callV (st := []) dX11_far_5 cv_X11_135 (c_X0_has_3 (a1) b_a1 hk51) hk51 rfl rfl (Nat.le_of_ble_eq_true rfl) ⟨(Nat.le_of_ble_eq_true rfl), (Nat.le_of_ble_eq_true rfl)⟩ ⟨(Nat.le_of_ble_eq_true rfl), (Nat.le_of_ble_eq_true rfl)⟩ (fun r h9 hp => ?_)
  obtain ⟨rfl, rfl⟩ := hp
  refine J_nf (nh2 := nh) (ck2 := 0) (sk2 := 0) (st2 := [.int 0]) rfl rfl rfl rfl ?_
  refine J_if_eq (tgt := 22) dX11_far_8 (by decide) (fun _ => ?_) (fun q => absurd (by decide +kernel) q)
  refine J_iconst (v := (-1)) dX11_far_22 (by decide) ?_
  exact J_iret dX11_far_23 rfl rfl (Nat.le_of_ble_eq_true rfl) (Nat.le_of_ble_eq_true rfl) ⟨rfl, rfl⟩
set_option maxHeartbeats 4000000 in
set_option maxRecDepth 100000 in
theorem c_X12_far_9 {l : Launch} {G : jG} {nh : Nat} {fh : Nat → Option va_E} (a1 : Int32) (b_a1 : 1 ≤ a1.toInt ∧ a1.toInt ≤ 2147483647) (a2 : Int32) (b_a2 : (-2147483648) ≤ a2.toInt ∧ a2.toInt ≤ 2147483647) (a3 : Int32) (b_a3 : (-2147483648) ≤ a3.toInt ∧ a3.toInt ≤ 2147483647) (hk98 : fh 98 = some (.inr (12, [.int 0, .int 0, .ref 99, .ref 100, .ref 101, .ref 102, .ref 103, .ref 104, .ref 105, .int 0, .int (-1), .ref 106, .ref 107, .ref 108, .int 0, .int 0, .int 0, .int 0, .int 0, .int 0, .int 0, .ref 109, .int 0, .int 0, .ref 110, .ref 111, .ref 112, .ref 113, .ref 114, .ref 115, .ref 116, .ref 117, .int 0, .int 0, .int (-1), .int (-1), .ref 118, .ref 119, .ref 120, .ref 121, .ref 122, .ref 123, .ref 124, .ref 125, .ref 126, .ref 127, .ref 128, .ref 129, .int 0, .ref 130, .ref 131, .ref 132, .ref 133, .ref 134, .int 0, .int 0]))) (hk100 : fh 100 = some (.inl (0, 4870, .inl (upd (fun _ => 0) 63 (-1))))) (hk111 : fh 111 = some (.inl (0, 1260, .inl (fun _ => 0)))) : JM l G yX12_far MX12_far { frames := 3, cells := 0, slots := 0, locals := 69 } [.ref 98, .int a1, .int a2, .int a3] (nh, fh) (fun r h9 => r = some (.int (-1)) ∧ h9 = (nh, hc fh [(98, .inr (12, [.int 0, .int 0, .ref 99, .ref 100, .ref 101, .ref 102, .ref 103, .ref 104, .ref 105, .int 0, .int (-1), .ref 106, .ref 107, .ref 108, .int 0, .int 0, .int 0, .int 0, .int 0, .int 0, .int 0, .ref 109, .int 0, .int 0, .ref 110, .ref 111, .ref 112, .ref 113, .ref 114, .ref 115, .ref 116, .ref 117, .int 1, .int 0, .int 0, .int (-1), .ref 118, .ref 119, .ref 120, .ref 121, .ref 122, .ref 123, .ref 124, .ref 125, .ref 126, .ref 127, .ref 128, .ref 129, .int 0, .ref 130, .ref 131, .ref 132, .ref 133, .ref 134, .int 0, .int 0])), (111, .inl (0, 1260, .inl (upd (fun _ => 0) 0 0)))])) := by
  refine JM.of (by decide) rfl (fun h => by cases h) (Nat.le_of_ble_eq_true rfl) ⟨0, rfl⟩ ?_
  refine J_hc0 (J_ls (ls2 := [some (.ref 98), some (.int a1), some (.int a2), some (.int a3)]) rfl ?_)
  refine J_aload_n dX12_far_0 rfl rfl ?_
  refine J_iload_n dX12_far_1 rfl rfl ?_
  refine J_callV (st := []) dX12_far_2 cv_X12_325 (c_X12_isHouse_3 (a1) b_a1 hk98 hk100 hk111) hk98 rfl rfl (Nat.le_of_ble_eq_true rfl) ⟨(Nat.le_of_ble_eq_true rfl), (Nat.le_of_ble_eq_true rfl)⟩ ⟨(Nat.le_of_ble_eq_true rfl), (Nat.le_of_ble_eq_true rfl)⟩ (fun r h9 hp => ?_)
  obtain ⟨rfl, rfl⟩ := hp
  refine J_nf (nh2 := nh) (ck2 := 0) (sk2 := 0) (st2 := [.int 0]) rfl rfl rfl rfl ?_
  refine J_app (L3 := [(98, .inr (12, [.int 0, .int 0, .ref 99, .ref 100, .ref 101, .ref 102, .ref 103, .ref 104, .ref 105, .int 0, .int (-1), .ref 106, .ref 107, .ref 108, .int 0, .int 0, .int 0, .int 0, .int 0, .int 0, .int 0, .ref 109, .int 0, .int 0, .ref 110, .ref 111, .ref 112, .ref 113, .ref 114, .ref 115, .ref 116, .ref 117, .int 1, .int 0, .int 0, .int (-1), .ref 118, .ref 119, .ref 120, .ref 121, .ref 122, .ref 123, .ref 124, .ref 125, .ref 126, .ref 127, .ref 128, .ref 129, .int 0, .ref 130, .ref 131, .ref 132, .ref 133, .ref 134, .int 0, .int 0])), (111, .inl (0, 1260, .inl (upd (fun _ => 0) 0 0)))]) rfl ?_
  refine J_if_eq (tgt := 25) dX12_far_5 (by decide) (fun _ => ?_) (fun q => absurd (by decide +kernel) q)
  refine J_iconst (v := (-1)) dX12_far_25 (by decide) ?_
  exact J_iret dX12_far_26 rfl rfl (Nat.le_of_ble_eq_true rfl) (Nat.le_of_ble_eq_true rfl) ⟨rfl, rfl⟩
set_option maxHeartbeats 4000000 in
set_option maxRecDepth 100000 in
theorem c_X11_way_1 {l : Launch} {G : jG} {nh : Nat} {fh : Nat → Option va_E} (a1 : Int32) (b_a1 : (-2147483648) ≤ a1.toInt ∧ a1.toInt ≤ (-1)) (a2 : Int32) (b_a2 : (-2147483648) ≤ a2.toInt ∧ a2.toInt ≤ 2147483647) (a3 : Int32) (b_a3 : (-2147483648) ≤ a3.toInt ∧ a3.toInt ≤ 2147483647) (hk0 : fh 0 = some (.inr (11, [.ref 1, .ref 17, .ref 50, .ref 51, .ref 54, .ref 57, .ref 65, .ref 75, .ref 81, .ref 85, .ref 88, .ref 93, .ref 96, .int 0, .int (-1), .ref 97, .int 0]))) (hk51 : fh 51 = some (.inr (0, [.ref 52, .ref 53, .int 1, .int 0]))) : JM l G yX11_way MX11_way { frames := 1, cells := 0, slots := 0, locals := 21 } [.ref 0, .int a1, .int a2, .int a3] (nh, fh) (fun r h9 => r = some (.int (-1)) ∧ h9 = (nh, fh)) := by
  refine JM.of (by decide) rfl (fun h => by cases h) (Nat.le_of_ble_eq_true rfl) ⟨0, rfl⟩ ?_
  refine J_hc0 (J_ls (ls2 := [some (.ref 0), some (.int a1), some (.int a2), some (.int a3)]) rfl ?_)
  refine J_aload_n dX11_way_0 rfl rfl ?_
  refine J_get (v := .ref 51) dX11_way_1 fl_X11_27 hk0 rfl ?_
  refine J_iload_n dX11_way_4 rfl rfl ?_
  refine J_callV (st := []) dX11_way_5 cv_X11_135 (c_X0_has_1 (a1) b_a1) hk51 rfl rfl (Nat.le_of_ble_eq_true rfl) ⟨(Nat.le_of_ble_eq_true rfl), (Nat.le_of_ble_eq_true rfl)⟩ ⟨(Nat.le_of_ble_eq_true rfl), (Nat.le_of_ble_eq_true rfl)⟩ (fun r h9 hp => ?_)
  obtain ⟨rfl, rfl⟩ := hp
  refine J_nf (nh2 := nh) (ck2 := 0) (sk2 := 0) (st2 := [.int 0]) rfl rfl rfl rfl ?_
  refine J_if_eq (tgt := 22) dX11_way_8 (by decide) (fun _ => ?_) (fun q => absurd (by decide +kernel) q)
  refine J_iconst (v := (-1)) dX11_way_22 (by decide) ?_
  exact J_iret dX11_way_23 rfl rfl (Nat.le_of_ble_eq_true rfl) (Nat.le_of_ble_eq_true rfl) ⟨rfl, rfl⟩
set_option maxHeartbeats 4000000 in
set_option maxRecDepth 100000 in
theorem c_X12_way_1 {l : Launch} {G : jG} {nh : Nat} {fh : Nat → Option va_E} (a1 : Int32) (b_a1 : (-2147483648) ≤ a1.toInt ∧ a1.toInt ≤ (-1)) (a2 : Int32) (b_a2 : (-2147483648) ≤ a2.toInt ∧ a2.toInt ≤ 2147483647) (a3 : Int32) (b_a3 : (-2147483648) ≤ a3.toInt ∧ a3.toInt ≤ 2147483647) (hk98 : fh 98 = some (.inr (12, [.int 0, .int 0, .ref 99, .ref 100, .ref 101, .ref 102, .ref 103, .ref 104, .ref 105, .int 0, .int (-1), .ref 106, .ref 107, .ref 108, .int 0, .int 0, .int 0, .int 0, .int 0, .int 0, .int 0, .ref 109, .int 0, .int 0, .ref 110, .ref 111, .ref 112, .ref 113, .ref 114, .ref 115, .ref 116, .ref 117, .int 0, .int 0, .int (-1), .int (-1), .ref 118, .ref 119, .ref 120, .ref 121, .ref 122, .ref 123, .ref 124, .ref 125, .ref 126, .ref 127, .ref 128, .ref 129, .int 0, .ref 130, .ref 131, .ref 132, .ref 133, .ref 134, .int 0, .int 0]))) (hk100 : fh 100 = some (.inl (0, 4870, .inl (upd (fun _ => 0) 63 (-1))))) (hk111 : fh 111 = some (.inl (0, 1260, .inl (fun _ => 0)))) : JM l G yX12_way MX12_way { frames := 3, cells := 0, slots := 0, locals := 69 } [.ref 98, .int a1, .int a2, .int a3] (nh, fh) (fun r h9 => r = some (.int (-1)) ∧ h9 = (nh, hc fh [(98, .inr (12, [.int 0, .int 0, .ref 99, .ref 100, .ref 101, .ref 102, .ref 103, .ref 104, .ref 105, .int 0, .int (-1), .ref 106, .ref 107, .ref 108, .int 0, .int 0, .int 0, .int 0, .int 0, .int 0, .int 0, .ref 109, .int 0, .int 0, .ref 110, .ref 111, .ref 112, .ref 113, .ref 114, .ref 115, .ref 116, .ref 117, .int 1, .int 0, .int 0, .int (-1), .ref 118, .ref 119, .ref 120, .ref 121, .ref 122, .ref 123, .ref 124, .ref 125, .ref 126, .ref 127, .ref 128, .ref 129, .int 0, .ref 130, .ref 131, .ref 132, .ref 133, .ref 134, .int 0, .int 0])), (111, .inl (0, 1260, .inl (upd (fun _ => 0) 0 0)))])) := by
  refine JM.of (by decide) rfl (fun h => by cases h) (Nat.le_of_ble_eq_true rfl) ⟨5, rfl⟩ ?_
  refine J_hc0 (J_ls (ls2 := [some (.ref 98), some (.int a1), some (.int a2), some (.int a3), none, none, none, none, none]) rfl ?_)
  refine J_aload_n dX12_way_0 rfl rfl ?_
  refine J_iload_n dX12_way_1 rfl rfl ?_
  refine J_callV (st := []) dX12_way_2 cv_X12_325 (c_X12_isHouse_1 (a1) b_a1 hk98 hk100 hk111) hk98 rfl rfl (Nat.le_of_ble_eq_true rfl) ⟨(Nat.le_of_ble_eq_true rfl), (Nat.le_of_ble_eq_true rfl)⟩ ⟨(Nat.le_of_ble_eq_true rfl), (Nat.le_of_ble_eq_true rfl)⟩ (fun r h9 hp => ?_)
  obtain ⟨rfl, rfl⟩ := hp
  refine J_nf (nh2 := nh) (ck2 := 0) (sk2 := 0) (st2 := [.int 0]) rfl rfl rfl rfl ?_
  refine J_app (L3 := [(98, .inr (12, [.int 0, .int 0, .ref 99, .ref 100, .ref 101, .ref 102, .ref 103, .ref 104, .ref 105, .int 0, .int (-1), .ref 106, .ref 107, .ref 108, .int 0, .int 0, .int 0, .int 0, .int 0, .int 0, .int 0, .ref 109, .int 0, .int 0, .ref 110, .ref 111, .ref 112, .ref 113, .ref 114, .ref 115, .ref 116, .ref 117, .int 1, .int 0, .int 0, .int (-1), .ref 118, .ref 119, .ref 120, .ref 121, .ref 122, .ref 123, .ref 124, .ref 125, .ref 126, .ref 127, .ref 128, .ref 129, .int 0, .ref 130, .ref 131, .ref 132, .ref 133, .ref 134, .int 0, .int 0])), (111, .inl (0, 1260, .inl (upd (fun _ => 0) 0 0)))]) rfl ?_
  refine J_if_eq (tgt := 20) dX12_way_5 (by decide) (fun _ => ?_) (fun q => absurd (by decide +kernel) q)
  refine J_iconst (v := (-1)) dX12_way_20 (by decide) ?_
  exact J_iret dX12_way_21 rfl rfl (Nat.le_of_ble_eq_true rfl) (Nat.le_of_ble_eq_true rfl) ⟨rfl, rfl⟩
set_option maxHeartbeats 4000000 in
set_option maxRecDepth 100000 in
theorem c_X11_way_2 {l : Launch} {G : jG} {nh : Nat} {fh : Nat → Option va_E} (a2 : Int32) (b_a2 : (-2147483648) ≤ a2.toInt ∧ a2.toInt ≤ (-1)) (a3 : Int32) (b_a3 : (-2147483648) ≤ a3.toInt ∧ a3.toInt ≤ 2147483647) (hk0 : fh 0 = some (.inr (11, [.ref 1, .ref 17, .ref 50, .ref 51, .ref 54, .ref 57, .ref 65, .ref 75, .ref 81, .ref 85, .ref 88, .ref 93, .ref 96, .int 0, .int (-1), .ref 97, .int 0]))) (hk51 : fh 51 = some (.inr (0, [.ref 52, .ref 53, .int 1, .int 0]))) : JM l G yX11_way MX11_way { frames := 1, cells := 0, slots := 0, locals := 21 } [.ref 0, .int 0, .int a2, .int a3] (nh, fh) (fun r h9 => r = some (.int (-1)) ∧ h9 = (nh, fh)) := by
  refine JM.of (by decide) rfl (fun h => by cases h) (Nat.le_of_ble_eq_true rfl) ⟨0, rfl⟩ ?_
  refine J_hc0 (J_ls (ls2 := [some (.ref 0), some (.int 0), some (.int a2), some (.int a3)]) rfl ?_)
  refine J_aload_n dX11_way_0 rfl rfl ?_
  refine J_get (v := .ref 51) dX11_way_1 fl_X11_27 hk0 rfl ?_
  refine J_iload_n dX11_way_4 rfl rfl ?_
  refine J_callV (st := []) dX11_way_5 cv_X11_135 (c_X0_has_2 hk51) hk51 rfl rfl (Nat.le_of_ble_eq_true rfl) ⟨(Nat.le_of_ble_eq_true rfl), (Nat.le_of_ble_eq_true rfl)⟩ ⟨(Nat.le_of_ble_eq_true rfl), (Nat.le_of_ble_eq_true rfl)⟩ (fun r h9 hp => ?_)
  obtain ⟨rfl, rfl⟩ := hp
  refine J_nf (nh2 := nh) (ck2 := 0) (sk2 := 0) (st2 := [.int 1]) rfl rfl rfl rfl ?_
  refine J_if_eq (tgt := 22) dX11_way_8 (by decide) (fun q => absurd q (by decide +kernel)) (fun _ => ?_)
  refine J_aload_n dX11_way_11 rfl rfl ?_
  refine J_get (v := .ref 51) dX11_way_12 fl_X11_27 hk0 rfl ?_
  refine J_iload_n dX11_way_15 rfl rfl ?_
  refine J_callV (st := []) dX11_way_16 cv_X11_135 (c_X0_has_1 (a2) b_a2) hk51 rfl rfl (Nat.le_of_ble_eq_true rfl) ⟨(Nat.le_of_ble_eq_true rfl), (Nat.le_of_ble_eq_true rfl)⟩ ⟨(Nat.le_of_ble_eq_true rfl), (Nat.le_of_ble_eq_true rfl)⟩ (fun r h9 hp => ?_)
  obtain ⟨rfl, rfl⟩ := hp
  refine J_nf (nh2 := nh) (ck2 := 0) (sk2 := 0) (st2 := [.int 0]) rfl rfl rfl rfl ?_
  refine J_if_ne (tgt := 24) dX11_way_19 (by decide) (fun q => absurd (by decide +kernel) q) (fun _ => ?_)
  refine J_iconst (v := (-1)) dX11_way_22 (by decide) ?_
  exact J_iret dX11_way_23 rfl rfl (Nat.le_of_ble_eq_true rfl) (Nat.le_of_ble_eq_true rfl) ⟨rfl, rfl⟩
set_option maxHeartbeats 4000000 in
set_option maxRecDepth 100000 in
theorem c_X12_way_2 {l : Launch} {G : jG} {nh : Nat} {fh : Nat → Option va_E} (a2 : Int32) (b_a2 : (-2147483648) ≤ a2.toInt ∧ a2.toInt ≤ (-1)) (a3 : Int32) (b_a3 : (-2147483648) ≤ a3.toInt ∧ a3.toInt ≤ 2147483647) (hk98 : fh 98 = some (.inr (12, [.int 0, .int 0, .ref 99, .ref 100, .ref 101, .ref 102, .ref 103, .ref 104, .ref 105, .int 0, .int (-1), .ref 106, .ref 107, .ref 108, .int 0, .int 0, .int 0, .int 0, .int 0, .int 0, .int 0, .ref 109, .int 0, .int 0, .ref 110, .ref 111, .ref 112, .ref 113, .ref 114, .ref 115, .ref 116, .ref 117, .int 0, .int 0, .int (-1), .int (-1), .ref 118, .ref 119, .ref 120, .ref 121, .ref 122, .ref 123, .ref 124, .ref 125, .ref 126, .ref 127, .ref 128, .ref 129, .int 0, .ref 130, .ref 131, .ref 132, .ref 133, .ref 134, .int 0, .int 0]))) (hk100 : fh 100 = some (.inl (0, 4870, .inl (upd (fun _ => 0) 63 (-1))))) (hk111 : fh 111 = some (.inl (0, 1260, .inl (fun _ => 0)))) : JM l G yX12_way MX12_way { frames := 3, cells := 0, slots := 0, locals := 69 } [.ref 98, .int 0, .int a2, .int a3] (nh, fh) (fun r h9 => r = some (.int (-1)) ∧ h9 = (nh, hc fh [(98, .inr (12, [.int 0, .int 0, .ref 99, .ref 100, .ref 101, .ref 102, .ref 103, .ref 104, .ref 105, .int 0, .int (-1), .ref 106, .ref 107, .ref 108, .int 0, .int 0, .int 0, .int 0, .int 0, .int 0, .int 0, .ref 109, .int 0, .int 0, .ref 110, .ref 111, .ref 112, .ref 113, .ref 114, .ref 115, .ref 116, .ref 117, .int 1, .int 0, .int 0, .int (-1), .ref 118, .ref 119, .ref 120, .ref 121, .ref 122, .ref 123, .ref 124, .ref 125, .ref 126, .ref 127, .ref 128, .ref 129, .int 0, .ref 130, .ref 131, .ref 132, .ref 133, .ref 134, .int 0, .int 0])), (111, .inl (0, 1260, .inl (upd (fun _ => 0) 0 0)))])) := by
  refine JM.of (by decide) rfl (fun h => by cases h) (Nat.le_of_ble_eq_true rfl) ⟨5, rfl⟩ ?_
  refine J_hc0 (J_ls (ls2 := [some (.ref 98), some (.int 0), some (.int a2), some (.int a3), none, none, none, none, none]) rfl ?_)
  refine J_aload_n dX12_way_0 rfl rfl ?_
  refine J_iload_n dX12_way_1 rfl rfl ?_
  refine J_callV (st := []) dX12_way_2 cv_X12_325 (c_X12_isHouse_2 hk98 hk100 hk111) hk98 rfl rfl (Nat.le_of_ble_eq_true rfl) ⟨(Nat.le_of_ble_eq_true rfl), (Nat.le_of_ble_eq_true rfl)⟩ ⟨(Nat.le_of_ble_eq_true rfl), (Nat.le_of_ble_eq_true rfl)⟩ (fun r h9 hp => ?_)
  obtain ⟨rfl, rfl⟩ := hp
  refine J_nf (nh2 := nh) (ck2 := 0) (sk2 := 0) (st2 := [.int 1]) rfl rfl rfl rfl ?_
  refine J_app (L3 := [(98, .inr (12, [.int 0, .int 0, .ref 99, .ref 100, .ref 101, .ref 102, .ref 103, .ref 104, .ref 105, .int 0, .int (-1), .ref 106, .ref 107, .ref 108, .int 0, .int 0, .int 0, .int 0, .int 0, .int 0, .int 0, .ref 109, .int 0, .int 0, .ref 110, .ref 111, .ref 112, .ref 113, .ref 114, .ref 115, .ref 116, .ref 117, .int 1, .int 0, .int 0, .int (-1), .ref 118, .ref 119, .ref 120, .ref 121, .ref 122, .ref 123, .ref 124, .ref 125, .ref 126, .ref 127, .ref 128, .ref 129, .int 0, .ref 130, .ref 131, .ref 132, .ref 133, .ref 134, .int 0, .int 0])), (111, .inl (0, 1260, .inl (upd (fun _ => 0) 0 0)))]) rfl ?_
  refine J_if_eq (tgt := 20) dX12_way_5 (by decide) (fun q => absurd q (by decide +kernel)) (fun _ => ?_)
  refine J_aload_n dX12_way_8 rfl rfl ?_
  refine J_iload_n dX12_way_9 rfl rfl ?_
  refine J_callV (st := []) dX12_way_10 cv_X12_325 (c_X12_isHouse_4 (a2) b_a2 rfl) rfl rfl rfl (Nat.le_of_ble_eq_true rfl) ⟨(Nat.le_of_ble_eq_true rfl), (Nat.le_of_ble_eq_true rfl)⟩ ⟨(Nat.le_of_ble_eq_true rfl), (Nat.le_of_ble_eq_true rfl)⟩ (fun r h9 hp => ?_)
  obtain ⟨rfl, rfl⟩ := hp
  refine J_nf (nh2 := nh) (ck2 := 0) (sk2 := 0) (st2 := [.int 0]) rfl rfl rfl rfl ?_
  refine J_if_eq (tgt := 20) dX12_way_13 (by decide) (fun _ => ?_) (fun q => absurd (by decide +kernel) q)
  refine J_iconst (v := (-1)) dX12_way_20 (by decide) ?_
  exact J_iret dX12_way_21 rfl rfl (Nat.le_of_ble_eq_true rfl) (Nat.le_of_ble_eq_true rfl) ⟨rfl, rfl⟩
set_option maxHeartbeats 4000000 in
set_option maxRecDepth 100000 in
theorem c_X10_onWay_1 {l : Launch} {G : jG} {nh : Nat} {fh : Nat → Option va_E} (a3 : Int32) (b_a3 : (-2147483648) ≤ a3.toInt ∧ a3.toInt ≤ (-1)) (hk1 : fh 1 = some (.inr (8, [.ref 2, .ref 3, .ref 4, .int 0, .int (-1), .ref 11, .ref 12, .int 0, .ref 13, .ref 14, .int 0, .ref 15, .ref 16, .int 0]))) (hk3 : fh 3 = some (.inl (0, 2, .inl (fun _ => 0)))) (hk51 : fh 51 = some (.inr (0, [.ref 52, .ref 53, .int 1, .int 0]))) (hk52 : fh 52 = some (.inl (0, 1260, .inl (upd (fun _ => 0) 0 0)))) (hk57 : fh 57 = some (.inr (9, [.ref 1, .ref 51, .ref 58, .ref 61, .ref 62, .ref 135, .ref 64, .int 0, .int 0, .int 0]))) (hk62 : fh 62 = some (.inl (0, 1260, .inl (upd (fun _ => 0) 0 (-1))))) (hk65 : fh 65 = some (.inr (10, [.ref 51, .ref 57, .ref 66, .ref 67, .ref 68, .int 0, .int (-1), .int (-1), .ref 69, .ref 70, .ref 71, .ref 72, .int 0, .int (-1), .int (-1), .ref 73, .ref 74]))) (hk66 : fh 66 = some (.inl (0, 1260, .inl (fun _ => 0)))) (hk67 : fh 67 = some (.inl (0, 1260, .inl (fun _ => 0)))) (hk68 : fh 68 = some (.inl (0, 1260, .inl (fun _ => 0)))) : JM l G yX10_onWay MX10_onWay { frames := 6, cells := 0, slots := 0, locals := 142 } [.ref 65, .int 0, .int 0, .int a3] (nh, fh) (fun r h9 => r = some (.int (-1)) ∧ h9 = (nh, hc fh [(62, .inl (0, 1260, .inl (upd (upd (fun _ => 0) 0 (-1)) 0 0))), (65, .inr (10, [.ref 51, .ref 57, .ref 66, .ref 67, .ref 68, .int 1, .int 0, .int 0, .ref 69, .ref 70, .ref 71, .ref 72, .int 0, .int (-1), .int (-1), .ref 73, .ref 74])), (68, .inl (0, 1260, .inl (upd (fun _ => 0) 0 0))), (67, .inl (0, 1260, .inl (upd (fun _ => 0) 0 1))), (66, .inl (0, 1260, .inl (upd (upd (fun _ => 0) 0 (-1)) 0 0)))])) := by
  refine JM.of (by decide) rfl (fun h => by cases h) (Nat.le_of_ble_eq_true rfl) ⟨2, rfl⟩ ?_
  refine J_hc0 (J_ls (ls2 := [some (.ref 65), some (.int 0), some (.int 0), some (.int a3), none, none]) rfl ?_)
  refine J_aload_n dX10_onWay_0 rfl rfl ?_
  refine J_iload_n dX10_onWay_1 rfl rfl ?_
  refine J_callV (st := []) dX10_onWay_2 cv_X10_67 (c_X10_walkFrom_1 hk1 hk3 hk51 hk52 hk57 hk62 hk65 hk66 hk67 hk68) hk65 rfl rfl (Nat.le_of_ble_eq_true rfl) ⟨(Nat.le_of_ble_eq_true rfl), (Nat.le_of_ble_eq_true rfl)⟩ ⟨(Nat.le_of_ble_eq_true rfl), (Nat.le_of_ble_eq_true rfl)⟩ (fun r h9 hp => ?_)
  obtain ⟨rfl, rfl⟩ := hp
  refine J_nf (nh2 := nh) (ck2 := 0) (sk2 := 0) (st2 := []) rfl rfl rfl rfl ?_
  refine J_app (L3 := [(62, .inl (0, 1260, .inl (upd (upd (fun _ => 0) 0 (-1)) 0 0))), (65, .inr (10, [.ref 51, .ref 57, .ref 66, .ref 67, .ref 68, .int 1, .int 0, .int 0, .ref 69, .ref 70, .ref 71, .ref 72, .int 0, .int (-1), .int (-1), .ref 73, .ref 74])), (68, .inl (0, 1260, .inl (upd (fun _ => 0) 0 0))), (67, .inl (0, 1260, .inl (upd (fun _ => 0) 0 1))), (66, .inl (0, 1260, .inl (upd (upd (fun _ => 0) 0 (-1)) 0 0)))]) rfl ?_
  refine J_iload_n dX10_onWay_5 rfl rfl ?_
  refine J_if_lt (tgt := 19) dX10_onWay_6 (by decide) (fun _ => ?_) (fun q => absurd (by have hb0 := b_a3; simp only [fa_lt, fa_le, fa_eq, kc_0]; omega) q)
  refine J_iconst (v := (-1)) dX10_onWay_19 (by decide) ?_
  exact J_iret dX10_onWay_20 rfl rfl (Nat.le_of_ble_eq_true rfl) (Nat.le_of_ble_eq_true rfl) ⟨rfl, rfl⟩
set_option maxHeartbeats 4000000 in
set_option maxRecDepth 100000 in
theorem c_X11_way_3 {l : Launch} {G : jG} {fh : Nat → Option va_E} (a3 : Int32) (b_a3 : (-2147483648) ≤ a3.toInt ∧ a3.toInt ≤ (-1)) (hk0 : fh 0 = some (.inr (11, [.ref 1, .ref 17, .ref 50, .ref 51, .ref 54, .ref 57, .ref 65, .ref 75, .ref 81, .ref 85, .ref 88, .ref 93, .ref 96, .int 0, .int (-1), .ref 97, .int 0]))) (hk1 : fh 1 = some (.inr (8, [.ref 2, .ref 3, .ref 4, .int 0, .int (-1), .ref 11, .ref 12, .int 0, .ref 13, .ref 14, .int 0, .ref 15, .ref 16, .int 0]))) (hk3 : fh 3 = some (.inl (0, 2, .inl (fun _ => 0)))) (hk51 : fh 51 = some (.inr (0, [.ref 52, .ref 53, .int 1, .int 0]))) (hk52 : fh 52 = some (.inl (0, 1260, .inl (upd (fun _ => 0) 0 0)))) (hk57 : fh 57 = some (.inr (9, [.ref 1, .ref 51, .ref 58, .ref 61, .ref 62, .ref 63, .ref 64, .int 0, .int 1, .int 1]))) (hk58 : fh 58 = some (.inr (1, [.ref 59, .ref 60, .int 0, .int 0, .int 0, .int 0, .int 0, .int 1]))) (hk59 : fh 59 = some (.inl (0, 8, .inl (fun _ => 0)))) (hk62 : fh 62 = some (.inl (0, 1260, .inl (fun _ => 0)))) (hk63 : fh 63 = some (.inl (0, 0, .inl (fun _ => 0)))) (hk65 : fh 65 = some (.inr (10, [.ref 51, .ref 57, .ref 66, .ref 67, .ref 68, .int 0, .int (-1), .int (-1), .ref 69, .ref 70, .ref 71, .ref 72, .int 0, .int (-1), .int (-1), .ref 73, .ref 74]))) (hk66 : fh 66 = some (.inl (0, 1260, .inl (fun _ => 0)))) (hk67 : fh 67 = some (.inl (0, 1260, .inl (fun _ => 0)))) (hk68 : fh 68 = some (.inl (0, 1260, .inl (fun _ => 0)))) : JM l G yX11_way MX11_way { frames := 7, cells := 1, slots := 22, locals := 167 } [.ref 0, .int 0, .int 0, .int a3] (135, fh) (fun r h9 => r = some (.int (-1)) ∧ h9 = (136, hc fh [(62, .inl (0, 1260, .inl (upd (upd (fun _ => 0) 0 (-1)) 0 0))), (65, .inr (10, [.ref 51, .ref 57, .ref 66, .ref 67, .ref 68, .int 1, .int 0, .int 0, .ref 69, .ref 70, .ref 71, .ref 72, .int 0, .int (-1), .int (-1), .ref 73, .ref 74])), (68, .inl (0, 1260, .inl (upd (fun _ => 0) 0 0))), (67, .inl (0, 1260, .inl (upd (fun _ => 0) 0 1))), (66, .inl (0, 1260, .inl (upd (upd (fun _ => 0) 0 (-1)) 0 0))), (57, .inr (9, [.ref 1, .ref 51, .ref 58, .ref 61, .ref 62, .ref 135, .ref 64, .int 0, .int 0, .int 0])), (135, .inl (0, 22, .inl (fun _ => 0))), (59, .inl (0, 8, .inl (upd (upd (fun _ => 0) 6 0) 7 0)))])) := by
  refine JM.of (by decide) rfl (fun h => by cases h) (Nat.le_of_ble_eq_true rfl) ⟨0, rfl⟩ ?_
  refine J_hc0 (J_ls (ls2 := [some (.ref 0), some (.int 0), some (.int 0), some (.int a3)]) rfl ?_)
  refine J_aload_n dX11_way_0 rfl rfl ?_
  refine J_get (v := .ref 51) dX11_way_1 fl_X11_27 hk0 rfl ?_
  refine J_iload_n dX11_way_4 rfl rfl ?_
  refine J_callV (st := []) dX11_way_5 cv_X11_135 (c_X0_has_2 hk51) hk51 rfl rfl (Nat.le_of_ble_eq_true rfl) ⟨(Nat.le_of_ble_eq_true rfl), (Nat.le_of_ble_eq_true rfl)⟩ ⟨(Nat.le_of_ble_eq_true rfl), (Nat.le_of_ble_eq_true rfl)⟩ (fun r h9 hp => ?_)
  obtain ⟨rfl, rfl⟩ := hp
  refine J_nf (nh2 := 135) (ck2 := 0) (sk2 := 0) (st2 := [.int 1]) rfl rfl rfl rfl ?_
  refine J_if_eq (tgt := 22) dX11_way_8 (by decide) (fun q => absurd q (by decide +kernel)) (fun _ => ?_)
  refine J_aload_n dX11_way_11 rfl rfl ?_
  refine J_get (v := .ref 51) dX11_way_12 fl_X11_27 hk0 rfl ?_
  refine J_iload_n dX11_way_15 rfl rfl ?_
  refine J_callV (st := []) dX11_way_16 cv_X11_135 (c_X0_has_2 hk51) hk51 rfl rfl (Nat.le_of_ble_eq_true rfl) ⟨(Nat.le_of_ble_eq_true rfl), (Nat.le_of_ble_eq_true rfl)⟩ ⟨(Nat.le_of_ble_eq_true rfl), (Nat.le_of_ble_eq_true rfl)⟩ (fun r h9 hp => ?_)
  obtain ⟨rfl, rfl⟩ := hp
  refine J_nf (nh2 := 135) (ck2 := 0) (sk2 := 0) (st2 := [.int 1]) rfl rfl rfl rfl ?_
  refine J_if_ne (tgt := 24) dX11_way_19 (by decide) (fun _ => ?_) (fun q => absurd q (by decide +kernel))
  refine J_aload_n dX11_way_24 rfl rfl ?_
  refine J_get (v := .ref 57) dX11_way_25 fl_X11_43 hk0 rfl ?_
  refine J_callV (st := []) dX11_way_28 cv_X11_217 (c_X9_prepare_1 hk1 hk3 hk51 hk57 hk58 hk59 hk62 hk63) hk57 rfl rfl (Nat.le_of_ble_eq_true rfl) ⟨(Nat.le_of_ble_eq_true rfl), (Nat.le_of_ble_eq_true rfl)⟩ ⟨(Nat.le_of_ble_eq_true rfl), (Nat.le_of_ble_eq_true rfl)⟩ (fun r h9 hp => ?_)
  obtain ⟨rfl, rfl⟩ := hp
  refine J_nf (nh2 := 136) (ck2 := 1) (sk2 := 22) (st2 := []) rfl rfl rfl rfl ?_
  refine J_app (L3 := [(57, .inr (9, [.ref 1, .ref 51, .ref 58, .ref 61, .ref 62, .ref 135, .ref 64, .int 0, .int 0, .int 0])), (62, .inl (0, 1260, .inl (upd (fun _ => 0) 0 (-1)))), (135, .inl (0, 22, .inl (fun _ => 0))), (59, .inl (0, 8, .inl (upd (upd (fun _ => 0) 6 0) 7 0)))]) rfl ?_
  refine J_aload_n dX11_way_31 rfl rfl ?_
  refine J_get (v := .ref 65) dX11_way_32 fl_X11_52 hk0 rfl ?_
  refine J_iload_n dX11_way_35 rfl rfl ?_
  refine J_iload_n dX11_way_36 rfl rfl ?_
  refine J_iload_n dX11_way_37 rfl rfl ?_
  refine J_callV (st := []) dX11_way_38 cv_X11_238 (c_X10_onWay_1 (a3) b_a3 hk1 hk3 hk51 hk52 rfl rfl hk65 hk66 hk67 hk68) hk65 rfl rfl (Nat.le_of_ble_eq_true rfl) ⟨(Nat.le_of_ble_eq_true rfl), (Nat.le_of_ble_eq_true rfl)⟩ ⟨(Nat.le_of_ble_eq_true rfl), (Nat.le_of_ble_eq_true rfl)⟩ (fun r h9 hp => ?_)
  obtain ⟨rfl, rfl⟩ := hp
  refine J_nf (nh2 := 136) (ck2 := 1) (sk2 := 22) (st2 := [.int (-1)]) rfl rfl rfl rfl ?_
  refine J_app (L3 := [(62, .inl (0, 1260, .inl (upd (upd (fun _ => 0) 0 (-1)) 0 0))), (65, .inr (10, [.ref 51, .ref 57, .ref 66, .ref 67, .ref 68, .int 1, .int 0, .int 0, .ref 69, .ref 70, .ref 71, .ref 72, .int 0, .int (-1), .int (-1), .ref 73, .ref 74])), (68, .inl (0, 1260, .inl (upd (fun _ => 0) 0 0))), (67, .inl (0, 1260, .inl (upd (fun _ => 0) 0 1))), (66, .inl (0, 1260, .inl (upd (upd (fun _ => 0) 0 (-1)) 0 0))), (57, .inr (9, [.ref 1, .ref 51, .ref 58, .ref 61, .ref 62, .ref 135, .ref 64, .int 0, .int 0, .int 0])), (62, .inl (0, 1260, .inl (upd (fun _ => 0) 0 (-1)))), (135, .inl (0, 22, .inl (fun _ => 0))), (59, .inl (0, 8, .inl (upd (upd (fun _ => 0) 6 0) 7 0)))]) rfl ?_
  refine J_mask (L2 := [(62, .inl (0, 1260, .inl (upd (upd (fun _ => 0) 0 (-1)) 0 0))), (65, .inr (10, [.ref 51, .ref 57, .ref 66, .ref 67, .ref 68, .int 1, .int 0, .int 0, .ref 69, .ref 70, .ref 71, .ref 72, .int 0, .int (-1), .int (-1), .ref 73, .ref 74])), (68, .inl (0, 1260, .inl (upd (fun _ => 0) 0 0))), (67, .inl (0, 1260, .inl (upd (fun _ => 0) 0 1))), (66, .inl (0, 1260, .inl (upd (upd (fun _ => 0) 0 (-1)) 0 0))), (57, .inr (9, [.ref 1, .ref 51, .ref 58, .ref 61, .ref 62, .ref 135, .ref 64, .int 0, .int 0, .int 0])), (135, .inl (0, 22, .inl (fun _ => 0))), (59, .inl (0, 8, .inl (upd (upd (fun _ => 0) 6 0) 7 0)))]) (ks := [62, 65, 68, 67, 66, 57, 62, 135, 59]) [true, true, true, true, true, true, false, true, true] rfl (by decide +kernel) rfl ?_
  exact J_iret dX11_way_41 rfl rfl (Nat.le_of_ble_eq_true rfl) (Nat.le_of_ble_eq_true rfl) ⟨rfl, rfl⟩
set_option maxHeartbeats 4000000 in
set_option maxRecDepth 100000 in
theorem c_X12_way_3 {l : Launch} {G : jG} {nh : Nat} {fh : Nat → Option va_E} (a3 : Int32) (b_a3 : (-2147483648) ≤ a3.toInt ∧ a3.toInt ≤ (-1)) (hk98 : fh 98 = some (.inr (12, [.int 0, .int 0, .ref 99, .ref 100, .ref 101, .ref 102, .ref 103, .ref 104, .ref 105, .int 0, .int (-1), .ref 106, .ref 107, .ref 108, .int 0, .int 0, .int 0, .int 0, .int 0, .int 0, .int 0, .ref 109, .int 0, .int 0, .ref 110, .ref 111, .ref 112, .ref 113, .ref 114, .ref 115, .ref 116, .ref 117, .int 0, .int 0, .int (-1), .int (-1), .ref 118, .ref 119, .ref 120, .ref 121, .ref 122, .ref 123, .ref 124, .ref 125, .ref 126, .ref 127, .ref 128, .ref 129, .int 0, .ref 130, .ref 131, .ref 132, .ref 133, .ref 134, .int 0, .int 0]))) (hk100 : fh 100 = some (.inl (0, 4870, .inl (upd (fun _ => 0) 63 (-1))))) (hk111 : fh 111 = some (.inl (0, 1260, .inl (fun _ => 0)))) : JM l G yX12_way MX12_way { frames := 3, cells := 0, slots := 0, locals := 69 } [.ref 98, .int 0, .int 0, .int a3] (nh, fh) (fun r h9 => r = some (.int (-1)) ∧ h9 = (nh, hc fh [(98, .inr (12, [.int 0, .int 0, .ref 99, .ref 100, .ref 101, .ref 102, .ref 103, .ref 104, .ref 105, .int 0, .int (-1), .ref 106, .ref 107, .ref 108, .int 0, .int 0, .int 0, .int 0, .int 0, .int 0, .int 0, .ref 109, .int 0, .int 0, .ref 110, .ref 111, .ref 112, .ref 113, .ref 114, .ref 115, .ref 116, .ref 117, .int 1, .int 0, .int 0, .int (-1), .ref 118, .ref 119, .ref 120, .ref 121, .ref 122, .ref 123, .ref 124, .ref 125, .ref 126, .ref 127, .ref 128, .ref 129, .int 0, .ref 130, .ref 131, .ref 132, .ref 133, .ref 134, .int 0, .int 0])), (111, .inl (0, 1260, .inl (upd (fun _ => 0) 0 0)))])) := by
  refine JM.of (by decide) rfl (fun h => by cases h) (Nat.le_of_ble_eq_true rfl) ⟨5, rfl⟩ ?_
  refine J_hc0 (J_ls (ls2 := [some (.ref 98), some (.int 0), some (.int 0), some (.int a3), none, none, none, none, none]) rfl ?_)
  refine J_aload_n dX12_way_0 rfl rfl ?_
  refine J_iload_n dX12_way_1 rfl rfl ?_
  refine J_callV (st := []) dX12_way_2 cv_X12_325 (c_X12_isHouse_2 hk98 hk100 hk111) hk98 rfl rfl (Nat.le_of_ble_eq_true rfl) ⟨(Nat.le_of_ble_eq_true rfl), (Nat.le_of_ble_eq_true rfl)⟩ ⟨(Nat.le_of_ble_eq_true rfl), (Nat.le_of_ble_eq_true rfl)⟩ (fun r h9 hp => ?_)
  obtain ⟨rfl, rfl⟩ := hp
  refine J_nf (nh2 := nh) (ck2 := 0) (sk2 := 0) (st2 := [.int 1]) rfl rfl rfl rfl ?_
  refine J_app (L3 := [(98, .inr (12, [.int 0, .int 0, .ref 99, .ref 100, .ref 101, .ref 102, .ref 103, .ref 104, .ref 105, .int 0, .int (-1), .ref 106, .ref 107, .ref 108, .int 0, .int 0, .int 0, .int 0, .int 0, .int 0, .int 0, .ref 109, .int 0, .int 0, .ref 110, .ref 111, .ref 112, .ref 113, .ref 114, .ref 115, .ref 116, .ref 117, .int 1, .int 0, .int 0, .int (-1), .ref 118, .ref 119, .ref 120, .ref 121, .ref 122, .ref 123, .ref 124, .ref 125, .ref 126, .ref 127, .ref 128, .ref 129, .int 0, .ref 130, .ref 131, .ref 132, .ref 133, .ref 134, .int 0, .int 0])), (111, .inl (0, 1260, .inl (upd (fun _ => 0) 0 0)))]) rfl ?_
  refine J_if_eq (tgt := 20) dX12_way_5 (by decide) (fun q => absurd q (by decide +kernel)) (fun _ => ?_)
  refine J_aload_n dX12_way_8 rfl rfl ?_
  refine J_iload_n dX12_way_9 rfl rfl ?_
  refine J_callV (st := []) dX12_way_10 cv_X12_325 (c_X12_isHouse_5 rfl) rfl rfl rfl (Nat.le_of_ble_eq_true rfl) ⟨(Nat.le_of_ble_eq_true rfl), (Nat.le_of_ble_eq_true rfl)⟩ ⟨(Nat.le_of_ble_eq_true rfl), (Nat.le_of_ble_eq_true rfl)⟩ (fun r h9 hp => ?_)
  obtain ⟨rfl, rfl⟩ := hp
  refine J_nf (nh2 := nh) (ck2 := 0) (sk2 := 0) (st2 := [.int 1]) rfl rfl rfl rfl ?_
  refine J_if_eq (tgt := 20) dX12_way_13 (by decide) (fun q => absurd q (by decide +kernel)) (fun _ => ?_)
  refine J_iload_n dX12_way_16 rfl rfl ?_
  refine J_if_ge (tgt := 22) dX12_way_17 (by decide) (fun q => absurd q (by have hb0 := b_a3; simp only [fa_lt, fa_le, fa_eq, kc_0]; omega)) (fun _ => ?_)
  refine J_iconst (v := (-1)) dX12_way_20 (by decide) ?_
  exact J_iret dX12_way_21 rfl rfl (Nat.le_of_ble_eq_true rfl) (Nat.le_of_ble_eq_true rfl) ⟨rfl, rfl⟩
set_option maxHeartbeats 4000000 in
set_option maxRecDepth 100000 in
theorem c_J7_fill_fda19_4 {l : Launch} {G : jG} {nh : Nat} {fh : Nat → Option va_E} (hk71 : fh 71 = some (.inl (0, 1260, .inl (fun _ => 0)))) : JM l G yJ7_fill_fda19 MJ7_fill_fda19 { frames := 1, cells := 0, slots := 0, locals := 22 } [.ref 71, .int 0, .int 1, .int (-1)] (nh, fh) (fun r h9 => r = none ∧ h9 = (nh, hc fh [(71, .inl (0, 1260, .inl (upd (fun _ => 0) 0 (-1))))])) := by
  refine JM.of (by decide) rfl (fun h => by cases h) (Nat.le_of_ble_eq_true rfl) ⟨1, rfl⟩ ?_
  refine J_hc0 (J_ls (ls2 := [some (.ref 71), some (.int 0), some (.int 1), some (.int (-1)), none]) rfl ?_)
  refine J_aload_n dJ7_fill_fda19_0 rfl rfl ?_
  refine J_alen (v := 1260) dJ7_fill_fda19_1 hk71 rfl (by decide +kernel) ?_
  refine J_iload_n dJ7_fill_fda19_2 rfl rfl ?_
  refine J_iload_n dJ7_fill_fda19_3 rfl rfl ?_
  refine J_callS (st := []) dJ7_fill_fda19_4 cs_J7_13 (c_J7_rangeCheck_23922_1 ) rfl rfl (Nat.le_of_ble_eq_true rfl) ⟨(Nat.le_of_ble_eq_true rfl), (Nat.le_of_ble_eq_true rfl)⟩ ⟨(Nat.le_of_ble_eq_true rfl), (Nat.le_of_ble_eq_true rfl)⟩ (fun r h9 hp => ?_)
  obtain ⟨rfl, rfl⟩ := hp
  refine J_nf (nh2 := nh) (ck2 := 0) (sk2 := 0) (st2 := []) rfl rfl rfl rfl ?_
  refine J_iload_n dJ7_fill_fda19_7 rfl rfl ?_
  refine J_istore dJ7_fill_fda19_8 (Nat.le_of_ble_eq_true rfl) rfl ?_
  refine J_iload dJ7_fill_fda19_10 rfl ?_
  refine J_iload_n dJ7_fill_fda19_12 rfl rfl ?_
  refine J_icmp_ge (tgt := 27) dJ7_fill_fda19_13 (by decide) (fun q => absurd q (by decide +kernel)) (fun _ => ?_)
  refine J_aload_n dJ7_fill_fda19_16 rfl rfl ?_
  refine J_iload dJ7_fill_fda19_17 rfl ?_
  refine J_iload_n dJ7_fill_fda19_19 rfl rfl ?_
  refine K_iast (i2 := 0) dJ7_fill_fda19_20 hk71 rfl (jin (by decide +kernel)) (by decide +kernel) ?_
  refine J_iinc (v := 1) dJ7_fill_fda19_21 rfl (by decide +kernel) (Nat.le_of_ble_eq_true rfl) rfl ?_
  refine J_ls (ls2 := [some (.ref 71), some (.int 0), some (.int 1), some (.int (-1)), some (.int 1)]) rfl ?_
  refine J_goto (tgt := 10) dJ7_fill_fda19_24 (by decide) ?_
  refine J_iload dJ7_fill_fda19_10 rfl ?_
  refine J_iload_n dJ7_fill_fda19_12 rfl rfl ?_
  refine J_icmp_ge (tgt := 27) dJ7_fill_fda19_13 (by decide) (fun _ => ?_) (fun q => absurd (by decide +kernel) q)
  exact J_vret dJ7_fill_fda19_27 rfl (Nat.le_of_ble_eq_true rfl) (Nat.le_of_ble_eq_true rfl) ⟨rfl, rfl⟩
set_option maxHeartbeats 4000000 in
set_option maxRecDepth 100000 in
theorem c_X9_degree_2 {l : Launch} {G : jG} {nh : Nat} {fh : Nat → Option va_E} (hk57 : fh 57 = some (.inr (9, [.ref 1, .ref 51, .ref 58, .ref 61, .ref 62, .ref 135, .ref 64, .int 0, .int 0, .int 0]))) (hk62 : fh 62 = some (.inl (0, 1260, .inl (upd (upd (fun _ => 0) 0 (-1)) 0 0)))) : JM l G yX9_degree MX9_degree { frames := 0, cells := 0, slots := 0, locals := 0 } [.ref 57, .int 0] (nh, fh) (fun r h9 => r = some (.int 0) ∧ h9 = (nh, fh)) := by
  refine JM.of (by decide) rfl (fun h => by cases h) (Nat.le_of_ble_eq_true rfl) ⟨0, rfl⟩ ?_
  refine J_hc0 (J_ls (ls2 := [some (.ref 57), some (.int 0)]) rfl ?_)
  refine J_aload_n dX9_degree_0 rfl rfl ?_
  refine J_get (v := .ref 62) dX9_degree_1 fl_X9_22 hk57 rfl ?_
  refine J_iload_n dX9_degree_4 rfl rfl ?_
  refine J_iald (i2 := 0) (v := 0) dX9_degree_5 hk62 rfl (jin (by decide +kernel)) (by decide +kernel) rfl ?_
  refine J_iconst (v := (-1)) dX9_degree_6 (by decide) ?_
  refine J_icmp_ne (tgt := 15) dX9_degree_7 (by decide) (fun _ => ?_) (fun q => absurd q (by decide +kernel))
  refine J_aload_n dX9_degree_15 rfl rfl ?_
  refine J_get (v := .ref 62) dX9_degree_16 fl_X9_22 hk57 rfl ?_
  refine J_iload_n dX9_degree_19 rfl rfl ?_
  refine J_iald (i2 := 0) (v := 0) dX9_degree_20 hk62 rfl (jin (by decide +kernel)) (by decide +kernel) rfl ?_
  exact J_iret dX9_degree_21 rfl rfl (Nat.le_of_ble_eq_true rfl) (Nat.le_of_ble_eq_true rfl) ⟨rfl, rfl⟩
set_option maxHeartbeats 4000000 in
set_option maxRecDepth 100000 in
theorem c_X10_pointTo_1 {l : Launch} {G : jG} {nh : Nat} {fh : Nat → Option va_E} (hk51 : fh 51 = some (.inr (0, [.ref 52, .ref 53, .int 1, .int 0]))) (hk57 : fh 57 = some (.inr (9, [.ref 1, .ref 51, .ref 58, .ref 61, .ref 62, .ref 135, .ref 64, .int 0, .int 0, .int 0]))) (hk62 : fh 62 = some (.inl (0, 1260, .inl (upd (upd (fun _ => 0) 0 (-1)) 0 0)))) (hk65 : fh 65 = some (.inr (10, [.ref 51, .ref 57, .ref 66, .ref 67, .ref 68, .int 1, .int 0, .int 0, .ref 69, .ref 70, .ref 71, .ref 72, .int 0, .int (-1), .int (-1), .ref 73, .ref 74]))) (hk68 : fh 68 = some (.inl (0, 1260, .inl (upd (fun _ => 0) 0 0)))) (hk71 : fh 71 = some (.inl (0, 1260, .inl (fun _ => 0)))) : JM l G yX10_pointTo MX10_pointTo { frames := 2, cells := 0, slots := 0, locals := 46 } [.ref 65, .int 0] (nh, fh) (fun r h9 => r = none ∧ h9 = (nh, hc fh [(71, .inl (0, 1260, .inl (upd (fun _ => 0) 0 (-1))))])) := by
  refine JM.of (by decide) rfl (fun h => by cases h) (Nat.le_of_ble_eq_true rfl) ⟨6, rfl⟩ ?_
  refine J_hc0 (J_ls (ls2 := [some (.ref 65), some (.int 0), none, none, none, none, none, none]) rfl ?_)
  refine J_aload_n dX10_pointTo_0 rfl rfl ?_
  refine J_get (v := .ref 71) dX10_pointTo_1 fl_X10_37 hk65 rfl ?_
  refine J_iconst (v := 0) dX10_pointTo_4 (by decide) ?_
  refine J_aload_n dX10_pointTo_5 rfl rfl ?_
  refine J_get (v := .ref 51) dX10_pointTo_6 fl_X10_59 hk65 rfl ?_
  refine J_callV (st := [.int 0, .ref 71]) dX10_pointTo_9 cv_X10_83 (c_X0_many_1 hk51) hk51 rfl rfl (Nat.le_of_ble_eq_true rfl) ⟨(Nat.le_of_ble_eq_true rfl), (Nat.le_of_ble_eq_true rfl)⟩ ⟨(Nat.le_of_ble_eq_true rfl), (Nat.le_of_ble_eq_true rfl)⟩ (fun r h9 hp => ?_)
  obtain ⟨rfl, rfl⟩ := hp
  refine J_nf (nh2 := nh) (ck2 := 0) (sk2 := 0) (st2 := [.int 1, .int 0, .ref 71]) rfl rfl rfl rfl ?_
  refine J_iconst (v := (-1)) dX10_pointTo_12 (by decide) ?_
  refine J_callS (st := []) dX10_pointTo_13 cs_X10_89 (c_J7_fill_fda19_4 hk71) rfl rfl (Nat.le_of_ble_eq_true rfl) ⟨(Nat.le_of_ble_eq_true rfl), (Nat.le_of_ble_eq_true rfl)⟩ ⟨(Nat.le_of_ble_eq_true rfl), (Nat.le_of_ble_eq_true rfl)⟩ (fun r h9 hp => ?_)
  obtain ⟨rfl, rfl⟩ := hp
  refine J_nf (nh2 := nh) (ck2 := 0) (sk2 := 0) (st2 := []) rfl rfl rfl rfl ?_
  refine J_app (L3 := [(71, .inl (0, 1260, .inl (upd (fun _ => 0) 0 (-1))))]) rfl ?_
  refine J_aload_n dX10_pointTo_16 rfl rfl ?_
  refine J_get (v := .int 1) dX10_pointTo_17 fl_X10_21 hk65 rfl ?_
  refine J_iconst (v := 1) dX10_pointTo_20 (by decide) ?_
  refine J_isub (z := 0) dX10_pointTo_21 (by decide +kernel) ?_
  refine J_istore_n dX10_pointTo_22 rfl (Nat.le_of_ble_eq_true rfl) rfl ?_
  refine J_iload_n dX10_pointTo_23 rfl rfl ?_
  refine J_if_lt (tgt := 169) dX10_pointTo_24 (by decide) (fun q => absurd q (by decide +kernel)) (fun _ => ?_)
  refine J_aload_n dX10_pointTo_27 rfl rfl ?_
  refine J_get (v := .ref 68) dX10_pointTo_28 fl_X10_18 hk65 rfl ?_
  refine J_iload_n dX10_pointTo_31 rfl rfl ?_
  refine J_iald (i2 := 0) (v := 0) dX10_pointTo_32 hk68 rfl (jin (by decide +kernel)) (by decide +kernel) rfl ?_
  refine J_istore_n dX10_pointTo_33 rfl (Nat.le_of_ble_eq_true rfl) rfl ?_
  refine J_aload_n dX10_pointTo_34 rfl rfl ?_
  refine J_get (v := .ref 57) dX10_pointTo_35 fl_X10_63 hk65 rfl ?_
  refine J_iload_n dX10_pointTo_38 rfl rfl ?_
  refine J_callV (st := []) dX10_pointTo_39 cv_X10_95 (c_X9_degree_2 hk57 hk62) hk57 rfl rfl (Nat.le_of_ble_eq_true rfl) ⟨(Nat.le_of_ble_eq_true rfl), (Nat.le_of_ble_eq_true rfl)⟩ ⟨(Nat.le_of_ble_eq_true rfl), (Nat.le_of_ble_eq_true rfl)⟩ (fun r h9 hp => ?_)
  obtain ⟨rfl, rfl⟩ := hp
  refine J_nf (nh2 := nh) (ck2 := 0) (sk2 := 0) (st2 := [.int 0]) rfl rfl rfl rfl ?_
  refine J_istore dX10_pointTo_42 (Nat.le_of_ble_eq_true rfl) rfl ?_
  refine J_iconst (v := 0) dX10_pointTo_44 (by decide) ?_
  refine J_istore dX10_pointTo_45 (Nat.le_of_ble_eq_true rfl) rfl ?_
  refine J_iload dX10_pointTo_47 rfl ?_
  refine J_iload dX10_pointTo_49 rfl ?_
  refine J_icmp_ge (tgt := 163) dX10_pointTo_51 (by decide) (fun _ => ?_) (fun q => absurd (by decide +kernel) q)
  refine J_iinc (v := (-1)) dX10_pointTo_163 rfl (by decide +kernel) (Nat.le_of_ble_eq_true rfl) rfl ?_
  refine J_ls (ls2 := [some (.ref 65), some (.int 0), some (.int (-1)), some (.int 0), some (.int 0), some (.int 0), none, none]) rfl ?_
  refine J_goto (tgt := 23) dX10_pointTo_166 (by decide) ?_
  refine J_iload_n dX10_pointTo_23 rfl rfl ?_
  refine J_if_lt (tgt := 169) dX10_pointTo_24 (by decide) (fun _ => ?_) (fun q => absurd (by decide +kernel) q)
  exact J_vret dX10_pointTo_169 rfl (Nat.le_of_ble_eq_true rfl) (Nat.le_of_ble_eq_true rfl) ⟨rfl, rfl⟩
set_option maxHeartbeats 4000000 in
set_option maxRecDepth 100000 in
theorem c_X10_onWay_2 {l : Launch} {G : jG} {nh : Nat} {fh : Nat → Option va_E} (hk1 : fh 1 = some (.inr (8, [.ref 2, .ref 3, .ref 4, .int 0, .int (-1), .ref 11, .ref 12, .int 0, .ref 13, .ref 14, .int 0, .ref 15, .ref 16, .int 0]))) (hk3 : fh 3 = some (.inl (0, 2, .inl (fun _ => 0)))) (hk51 : fh 51 = some (.inr (0, [.ref 52, .ref 53, .int 1, .int 0]))) (hk52 : fh 52 = some (.inl (0, 1260, .inl (upd (fun _ => 0) 0 0)))) (hk57 : fh 57 = some (.inr (9, [.ref 1, .ref 51, .ref 58, .ref 61, .ref 62, .ref 135, .ref 64, .int 0, .int 0, .int 0]))) (hk62 : fh 62 = some (.inl (0, 1260, .inl (upd (fun _ => 0) 0 (-1))))) (hk65 : fh 65 = some (.inr (10, [.ref 51, .ref 57, .ref 66, .ref 67, .ref 68, .int 0, .int (-1), .int (-1), .ref 69, .ref 70, .ref 71, .ref 72, .int 0, .int (-1), .int (-1), .ref 73, .ref 74]))) (hk66 : fh 66 = some (.inl (0, 1260, .inl (fun _ => 0)))) (hk67 : fh 67 = some (.inl (0, 1260, .inl (fun _ => 0)))) (hk68 : fh 68 = some (.inl (0, 1260, .inl (fun _ => 0)))) (hk71 : fh 71 = some (.inl (0, 1260, .inl (fun _ => 0)))) : JM l G yX10_onWay MX10_onWay { frames := 6, cells := 0, slots := 0, locals := 142 } [.ref 65, .int 0, .int 0, .int 0] (nh, fh) (fun r h9 => r = some (.int 0) ∧ h9 = (nh, hc fh [(71, .inl (0, 1260, .inl (upd (fun _ => 0) 0 (-1)))), (62, .inl (0, 1260, .inl (upd (upd (fun _ => 0) 0 (-1)) 0 0))), (65, .inr (10, [.ref 51, .ref 57, .ref 66, .ref 67, .ref 68, .int 1, .int 0, .int 0, .ref 69, .ref 70, .ref 71, .ref 72, .int 0, .int (-1), .int (-1), .ref 73, .ref 74])), (68, .inl (0, 1260, .inl (upd (fun _ => 0) 0 0))), (67, .inl (0, 1260, .inl (upd (fun _ => 0) 0 1))), (66, .inl (0, 1260, .inl (upd (upd (fun _ => 0) 0 (-1)) 0 0)))])) := by
  refine JM.of (by decide) rfl (fun h => by cases h) (Nat.le_of_ble_eq_true rfl) ⟨2, rfl⟩ ?_
  refine J_hc0 (J_ls (ls2 := [some (.ref 65), some (.int 0), some (.int 0), some (.int 0), none, none]) rfl ?_)
  refine J_aload_n dX10_onWay_0 rfl rfl ?_
  refine J_iload_n dX10_onWay_1 rfl rfl ?_
  refine J_callV (st := []) dX10_onWay_2 cv_X10_67 (c_X10_walkFrom_1 hk1 hk3 hk51 hk52 hk57 hk62 hk65 hk66 hk67 hk68) hk65 rfl rfl (Nat.le_of_ble_eq_true rfl) ⟨(Nat.le_of_ble_eq_true rfl), (Nat.le_of_ble_eq_true rfl)⟩ ⟨(Nat.le_of_ble_eq_true rfl), (Nat.le_of_ble_eq_true rfl)⟩ (fun r h9 hp => ?_)
  obtain ⟨rfl, rfl⟩ := hp
  refine J_nf (nh2 := nh) (ck2 := 0) (sk2 := 0) (st2 := []) rfl rfl rfl rfl ?_
  refine J_app (L3 := [(62, .inl (0, 1260, .inl (upd (upd (fun _ => 0) 0 (-1)) 0 0))), (65, .inr (10, [.ref 51, .ref 57, .ref 66, .ref 67, .ref 68, .int 1, .int 0, .int 0, .ref 69, .ref 70, .ref 71, .ref 72, .int 0, .int (-1), .int (-1), .ref 73, .ref 74])), (68, .inl (0, 1260, .inl (upd (fun _ => 0) 0 0))), (67, .inl (0, 1260, .inl (upd (fun _ => 0) 0 1))), (66, .inl (0, 1260, .inl (upd (upd (fun _ => 0) 0 (-1)) 0 0)))]) rfl ?_
  refine J_iload_n dX10_onWay_5 rfl rfl ?_
  refine J_if_lt (tgt := 19) dX10_onWay_6 (by decide) (fun q => absurd q (by decide +kernel)) (fun _ => ?_)
  refine J_iload_n dX10_onWay_9 rfl rfl ?_
  refine J_aload_n dX10_onWay_10 rfl rfl ?_
  refine J_get (v := .ref 66) dX10_onWay_11 fl_X10_9 rfl rfl ?_
  refine J_iload_n dX10_onWay_14 rfl rfl ?_
  refine J_iald (i2 := 0) (v := 0) dX10_onWay_15 rfl rfl (jin (by decide +kernel)) (by decide +kernel) rfl ?_
  refine J_icmp_le (tgt := 21) dX10_onWay_16 (by decide) (fun _ => ?_) (fun q => absurd (by decide +kernel) q)
  refine J_aload_n dX10_onWay_21 rfl rfl ?_
  refine J_iload_n dX10_onWay_22 rfl rfl ?_
  refine J_callV (st := []) dX10_onWay_23 cv_X10_80 (c_X10_pointTo_1 hk51 hk57 rfl rfl rfl hk71) rfl rfl rfl (Nat.le_of_ble_eq_true rfl) ⟨(Nat.le_of_ble_eq_true rfl), (Nat.le_of_ble_eq_true rfl)⟩ ⟨(Nat.le_of_ble_eq_true rfl), (Nat.le_of_ble_eq_true rfl)⟩ (fun r h9 hp => ?_)
  obtain ⟨rfl, rfl⟩ := hp
  refine J_nf (nh2 := nh) (ck2 := 0) (sk2 := 0) (st2 := []) rfl rfl rfl rfl ?_
  refine J_app (L3 := [(71, .inl (0, 1260, .inl (upd (fun _ => 0) 0 (-1)))), (62, .inl (0, 1260, .inl (upd (upd (fun _ => 0) 0 (-1)) 0 0))), (65, .inr (10, [.ref 51, .ref 57, .ref 66, .ref 67, .ref 68, .int 1, .int 0, .int 0, .ref 69, .ref 70, .ref 71, .ref 72, .int 0, .int (-1), .int (-1), .ref 73, .ref 74])), (68, .inl (0, 1260, .inl (upd (fun _ => 0) 0 0))), (67, .inl (0, 1260, .inl (upd (fun _ => 0) 0 1))), (66, .inl (0, 1260, .inl (upd (upd (fun _ => 0) 0 (-1)) 0 0)))]) rfl ?_
  refine J_iload_n dX10_onWay_26 rfl rfl ?_
  refine J_istore dX10_onWay_27 (Nat.le_of_ble_eq_true rfl) rfl ?_
  refine J_iconst (v := 0) dX10_onWay_29 (by decide) ?_
  refine J_istore dX10_onWay_30 (Nat.le_of_ble_eq_true rfl) rfl ?_
  refine J_iload dX10_onWay_32 rfl ?_
  refine J_iload_n dX10_onWay_34 rfl rfl ?_
  refine J_icmp_ge (tgt := 59) dX10_onWay_35 (by decide) (fun _ => ?_) (fun q => absurd (by decide +kernel) q)
  refine J_iload dX10_onWay_59 rfl ?_
  exact J_iret dX10_onWay_61 rfl rfl (Nat.le_of_ble_eq_true rfl) (Nat.le_of_ble_eq_true rfl) ⟨rfl, rfl⟩
set_option maxHeartbeats 4000000 in
set_option maxRecDepth 100000 in
theorem c_X11_way_4 {l : Launch} {G : jG} {fh : Nat → Option va_E} (hk0 : fh 0 = some (.inr (11, [.ref 1, .ref 17, .ref 50, .ref 51, .ref 54, .ref 57, .ref 65, .ref 75, .ref 81, .ref 85, .ref 88, .ref 93, .ref 96, .int 0, .int (-1), .ref 97, .int 0]))) (hk1 : fh 1 = some (.inr (8, [.ref 2, .ref 3, .ref 4, .int 0, .int (-1), .ref 11, .ref 12, .int 0, .ref 13, .ref 14, .int 0, .ref 15, .ref 16, .int 0]))) (hk3 : fh 3 = some (.inl (0, 2, .inl (fun _ => 0)))) (hk51 : fh 51 = some (.inr (0, [.ref 52, .ref 53, .int 1, .int 0]))) (hk52 : fh 52 = some (.inl (0, 1260, .inl (upd (fun _ => 0) 0 0)))) (hk57 : fh 57 = some (.inr (9, [.ref 1, .ref 51, .ref 58, .ref 61, .ref 62, .ref 63, .ref 64, .int 0, .int 1, .int 1]))) (hk58 : fh 58 = some (.inr (1, [.ref 59, .ref 60, .int 0, .int 0, .int 0, .int 0, .int 0, .int 1]))) (hk59 : fh 59 = some (.inl (0, 8, .inl (fun _ => 0)))) (hk62 : fh 62 = some (.inl (0, 1260, .inl (fun _ => 0)))) (hk63 : fh 63 = some (.inl (0, 0, .inl (fun _ => 0)))) (hk65 : fh 65 = some (.inr (10, [.ref 51, .ref 57, .ref 66, .ref 67, .ref 68, .int 0, .int (-1), .int (-1), .ref 69, .ref 70, .ref 71, .ref 72, .int 0, .int (-1), .int (-1), .ref 73, .ref 74]))) (hk66 : fh 66 = some (.inl (0, 1260, .inl (fun _ => 0)))) (hk67 : fh 67 = some (.inl (0, 1260, .inl (fun _ => 0)))) (hk68 : fh 68 = some (.inl (0, 1260, .inl (fun _ => 0)))) (hk71 : fh 71 = some (.inl (0, 1260, .inl (fun _ => 0)))) : JM l G yX11_way MX11_way { frames := 7, cells := 1, slots := 22, locals := 167 } [.ref 0, .int 0, .int 0, .int 0] (135, fh) (fun r h9 => r = some (.int 0) ∧ h9 = (136, hc fh [(71, .inl (0, 1260, .inl (upd (fun _ => 0) 0 (-1)))), (62, .inl (0, 1260, .inl (upd (upd (fun _ => 0) 0 (-1)) 0 0))), (65, .inr (10, [.ref 51, .ref 57, .ref 66, .ref 67, .ref 68, .int 1, .int 0, .int 0, .ref 69, .ref 70, .ref 71, .ref 72, .int 0, .int (-1), .int (-1), .ref 73, .ref 74])), (68, .inl (0, 1260, .inl (upd (fun _ => 0) 0 0))), (67, .inl (0, 1260, .inl (upd (fun _ => 0) 0 1))), (66, .inl (0, 1260, .inl (upd (upd (fun _ => 0) 0 (-1)) 0 0))), (57, .inr (9, [.ref 1, .ref 51, .ref 58, .ref 61, .ref 62, .ref 135, .ref 64, .int 0, .int 0, .int 0])), (135, .inl (0, 22, .inl (fun _ => 0))), (59, .inl (0, 8, .inl (upd (upd (fun _ => 0) 6 0) 7 0)))])) := by
  refine JM.of (by decide) rfl (fun h => by cases h) (Nat.le_of_ble_eq_true rfl) ⟨0, rfl⟩ ?_
  refine J_hc0 (J_ls (ls2 := [some (.ref 0), some (.int 0), some (.int 0), some (.int 0)]) rfl ?_)
  refine J_aload_n dX11_way_0 rfl rfl ?_
  refine J_get (v := .ref 51) dX11_way_1 fl_X11_27 hk0 rfl ?_
  refine J_iload_n dX11_way_4 rfl rfl ?_
  refine J_callV (st := []) dX11_way_5 cv_X11_135 (c_X0_has_2 hk51) hk51 rfl rfl (Nat.le_of_ble_eq_true rfl) ⟨(Nat.le_of_ble_eq_true rfl), (Nat.le_of_ble_eq_true rfl)⟩ ⟨(Nat.le_of_ble_eq_true rfl), (Nat.le_of_ble_eq_true rfl)⟩ (fun r h9 hp => ?_)
  obtain ⟨rfl, rfl⟩ := hp
  refine J_nf (nh2 := 135) (ck2 := 0) (sk2 := 0) (st2 := [.int 1]) rfl rfl rfl rfl ?_
  refine J_if_eq (tgt := 22) dX11_way_8 (by decide) (fun q => absurd q (by decide +kernel)) (fun _ => ?_)
  refine J_aload_n dX11_way_11 rfl rfl ?_
  refine J_get (v := .ref 51) dX11_way_12 fl_X11_27 hk0 rfl ?_
  refine J_iload_n dX11_way_15 rfl rfl ?_
  refine J_callV (st := []) dX11_way_16 cv_X11_135 (c_X0_has_2 hk51) hk51 rfl rfl (Nat.le_of_ble_eq_true rfl) ⟨(Nat.le_of_ble_eq_true rfl), (Nat.le_of_ble_eq_true rfl)⟩ ⟨(Nat.le_of_ble_eq_true rfl), (Nat.le_of_ble_eq_true rfl)⟩ (fun r h9 hp => ?_)
  obtain ⟨rfl, rfl⟩ := hp
  refine J_nf (nh2 := 135) (ck2 := 0) (sk2 := 0) (st2 := [.int 1]) rfl rfl rfl rfl ?_
  refine J_if_ne (tgt := 24) dX11_way_19 (by decide) (fun _ => ?_) (fun q => absurd q (by decide +kernel))
  refine J_aload_n dX11_way_24 rfl rfl ?_
  refine J_get (v := .ref 57) dX11_way_25 fl_X11_43 hk0 rfl ?_
  refine J_callV (st := []) dX11_way_28 cv_X11_217 (c_X9_prepare_1 hk1 hk3 hk51 hk57 hk58 hk59 hk62 hk63) hk57 rfl rfl (Nat.le_of_ble_eq_true rfl) ⟨(Nat.le_of_ble_eq_true rfl), (Nat.le_of_ble_eq_true rfl)⟩ ⟨(Nat.le_of_ble_eq_true rfl), (Nat.le_of_ble_eq_true rfl)⟩ (fun r h9 hp => ?_)
  obtain ⟨rfl, rfl⟩ := hp
  refine J_nf (nh2 := 136) (ck2 := 1) (sk2 := 22) (st2 := []) rfl rfl rfl rfl ?_
  refine J_app (L3 := [(57, .inr (9, [.ref 1, .ref 51, .ref 58, .ref 61, .ref 62, .ref 135, .ref 64, .int 0, .int 0, .int 0])), (62, .inl (0, 1260, .inl (upd (fun _ => 0) 0 (-1)))), (135, .inl (0, 22, .inl (fun _ => 0))), (59, .inl (0, 8, .inl (upd (upd (fun _ => 0) 6 0) 7 0)))]) rfl ?_
  refine J_aload_n dX11_way_31 rfl rfl ?_
  refine J_get (v := .ref 65) dX11_way_32 fl_X11_52 hk0 rfl ?_
  refine J_iload_n dX11_way_35 rfl rfl ?_
  refine J_iload_n dX11_way_36 rfl rfl ?_
  refine J_iload_n dX11_way_37 rfl rfl ?_
  refine J_callV (st := []) dX11_way_38 cv_X11_238 (c_X10_onWay_2 hk1 hk3 hk51 hk52 rfl rfl hk65 hk66 hk67 hk68 hk71) hk65 rfl rfl (Nat.le_of_ble_eq_true rfl) ⟨(Nat.le_of_ble_eq_true rfl), (Nat.le_of_ble_eq_true rfl)⟩ ⟨(Nat.le_of_ble_eq_true rfl), (Nat.le_of_ble_eq_true rfl)⟩ (fun r h9 hp => ?_)
  obtain ⟨rfl, rfl⟩ := hp
  refine J_nf (nh2 := 136) (ck2 := 1) (sk2 := 22) (st2 := [.int 0]) rfl rfl rfl rfl ?_
  refine J_app (L3 := [(71, .inl (0, 1260, .inl (upd (fun _ => 0) 0 (-1)))), (62, .inl (0, 1260, .inl (upd (upd (fun _ => 0) 0 (-1)) 0 0))), (65, .inr (10, [.ref 51, .ref 57, .ref 66, .ref 67, .ref 68, .int 1, .int 0, .int 0, .ref 69, .ref 70, .ref 71, .ref 72, .int 0, .int (-1), .int (-1), .ref 73, .ref 74])), (68, .inl (0, 1260, .inl (upd (fun _ => 0) 0 0))), (67, .inl (0, 1260, .inl (upd (fun _ => 0) 0 1))), (66, .inl (0, 1260, .inl (upd (upd (fun _ => 0) 0 (-1)) 0 0))), (57, .inr (9, [.ref 1, .ref 51, .ref 58, .ref 61, .ref 62, .ref 135, .ref 64, .int 0, .int 0, .int 0])), (62, .inl (0, 1260, .inl (upd (fun _ => 0) 0 (-1)))), (135, .inl (0, 22, .inl (fun _ => 0))), (59, .inl (0, 8, .inl (upd (upd (fun _ => 0) 6 0) 7 0)))]) rfl ?_
  refine J_mask (L2 := [(71, .inl (0, 1260, .inl (upd (fun _ => 0) 0 (-1)))), (62, .inl (0, 1260, .inl (upd (upd (fun _ => 0) 0 (-1)) 0 0))), (65, .inr (10, [.ref 51, .ref 57, .ref 66, .ref 67, .ref 68, .int 1, .int 0, .int 0, .ref 69, .ref 70, .ref 71, .ref 72, .int 0, .int (-1), .int (-1), .ref 73, .ref 74])), (68, .inl (0, 1260, .inl (upd (fun _ => 0) 0 0))), (67, .inl (0, 1260, .inl (upd (fun _ => 0) 0 1))), (66, .inl (0, 1260, .inl (upd (upd (fun _ => 0) 0 (-1)) 0 0))), (57, .inr (9, [.ref 1, .ref 51, .ref 58, .ref 61, .ref 62, .ref 135, .ref 64, .int 0, .int 0, .int 0])), (135, .inl (0, 22, .inl (fun _ => 0))), (59, .inl (0, 8, .inl (upd (upd (fun _ => 0) 6 0) 7 0)))]) (ks := [71, 62, 65, 68, 67, 66, 57, 62, 135, 59]) [true, true, true, true, true, true, true, false, true, true] rfl (by decide +kernel) rfl ?_
  exact J_iret dX11_way_41 rfl rfl (Nat.le_of_ble_eq_true rfl) (Nat.le_of_ble_eq_true rfl) ⟨rfl, rfl⟩
set_option maxHeartbeats 4000000 in
set_option maxRecDepth 100000 in
theorem c_X12_measuresTo_1 {l : Launch} {G : jG} {nh : Nat} {fh : Nat → Option va_E} (hk98 : fh 98 = some (.inr (12, [.int 0, .int 0, .ref 99, .ref 100, .ref 101, .ref 102, .ref 103, .ref 104, .ref 105, .int 0, .int (-1), .ref 106, .ref 107, .ref 108, .int 0, .int 0, .int 0, .int 0, .int 0, .int 0, .int 0, .ref 109, .int 0, .int 0, .ref 110, .ref 111, .ref 112, .ref 113, .ref 114, .ref 115, .ref 116, .ref 117, .int 1, .int 0, .int 0, .int 0, .ref 118, .ref 119, .ref 120, .ref 121, .ref 122, .ref 123, .ref 124, .ref 125, .ref 126, .ref 127, .ref 128, .ref 129, .int 0, .ref 130, .ref 131, .ref 132, .ref 133, .ref 134, .int 0, .int 0]))) (hk114 : fh 114 = some (.inl (0, 1260, .inl (upd (fun _ => 0) 0 0)))) (hk123 : fh 123 = some (.inl (0, 1260, .inl (fun _ => 0)))) : JM l G yX12_measuresTo MX12_measuresTo { frames := 0, cells := 0, slots := 0, locals := 0 } [.ref 98, .int 0] (nh, fh) (fun r h9 => r = none ∧ h9 = (nh, hc fh [(123, .inl (0, 1260, .inl (upd (fun _ => 0) 0 0)))])) := by
  refine JM.of (by decide) rfl (fun h => by cases h) (Nat.le_of_ble_eq_true rfl) ⟨4, rfl⟩ ?_
  refine J_hc0 (J_ls (ls2 := [some (.ref 98), some (.int 0), none, none, none, none]) rfl ?_)
  refine J_iconst (v := 0) dX12_measuresTo_0 (by decide) ?_
  refine J_istore_n dX12_measuresTo_1 rfl (Nat.le_of_ble_eq_true rfl) rfl ?_
  refine J_iload_n dX12_measuresTo_2 rfl rfl ?_
  refine J_aload_n dX12_measuresTo_3 rfl rfl ?_
  refine J_get (v := .int 1) dX12_measuresTo_4 fl_X12_298 hk98 rfl ?_
  refine J_icmp_ge (tgt := 33) dX12_measuresTo_7 (by decide) (fun q => absurd q (by decide +kernel)) (fun _ => ?_)
  refine J_aload_n dX12_measuresTo_10 rfl rfl ?_
  refine J_get (v := .ref 123) dX12_measuresTo_11 fl_X12_101 hk98 rfl ?_
  refine J_iload_n dX12_measuresTo_14 rfl rfl ?_
  refine J_iload_n dX12_measuresTo_15 rfl rfl ?_
  refine J_iload_n dX12_measuresTo_16 rfl rfl ?_
  refine J_icmp_ne (tgt := 24) dX12_measuresTo_17 (by decide) (fun q => absurd (by decide +kernel) q) (fun _ => ?_)
  refine J_iconst (v := 0) dX12_measuresTo_20 (by decide) ?_
  refine J_goto (tgt := 26) dX12_measuresTo_21 (by decide) ?_
  refine K_iast (i2 := 0) dX12_measuresTo_26 hk123 rfl (jin (by decide +kernel)) (by decide +kernel) ?_
  refine J_iinc (v := 1) dX12_measuresTo_27 rfl (by decide +kernel) (Nat.le_of_ble_eq_true rfl) rfl ?_
  refine J_ls (ls2 := [some (.ref 98), some (.int 0), some (.int 1), none, none, none]) rfl ?_
  refine J_goto (tgt := 2) dX12_measuresTo_30 (by decide) ?_
  refine J_iload_n dX12_measuresTo_2 rfl rfl ?_
  refine J_aload_n dX12_measuresTo_3 rfl rfl ?_
  refine J_get (v := .int 1) dX12_measuresTo_4 fl_X12_298 hk98 rfl ?_
  refine J_icmp_ge (tgt := 33) dX12_measuresTo_7 (by decide) (fun _ => ?_) (fun q => absurd (by decide +kernel) q)
  refine J_iconst (v := 1) dX12_measuresTo_33 (by decide) ?_
  refine J_istore_n dX12_measuresTo_34 rfl (Nat.le_of_ble_eq_true rfl) rfl ?_
  refine J_iconst (v := 0) dX12_measuresTo_35 (by decide) ?_
  refine J_istore_n dX12_measuresTo_36 rfl (Nat.le_of_ble_eq_true rfl) rfl ?_
  refine J_iload_n dX12_measuresTo_37 rfl rfl ?_
  refine J_if_eq (tgt := 137) dX12_measuresTo_38 (by decide) (fun q => absurd q (by decide +kernel)) (fun _ => ?_)
  refine J_iconst (v := 0) dX12_measuresTo_41 (by decide) ?_
  refine J_istore_n dX12_measuresTo_42 rfl (Nat.le_of_ble_eq_true rfl) rfl ?_
  refine J_iconst (v := 0) dX12_measuresTo_43 (by decide) ?_
  refine J_istore dX12_measuresTo_44 (Nat.le_of_ble_eq_true rfl) rfl ?_
  refine J_iload dX12_measuresTo_46 rfl ?_
  refine J_aload_n dX12_measuresTo_48 rfl rfl ?_
  refine J_get (v := .int 1) dX12_measuresTo_49 fl_X12_298 hk98 rfl ?_
  refine J_icmp_ge (tgt := 131) dX12_measuresTo_52 (by decide) (fun q => absurd q (by decide +kernel)) (fun _ => ?_)
  refine J_iconst (v := 0) dX12_measuresTo_55 (by decide) ?_
  refine J_istore dX12_measuresTo_56 (Nat.le_of_ble_eq_true rfl) rfl ?_
  refine J_iload dX12_measuresTo_58 rfl ?_
  refine J_aload_n dX12_measuresTo_60 rfl rfl ?_
  refine J_get (v := .ref 114) dX12_measuresTo_61 fl_X12_67 hk98 rfl ?_
  refine J_iload dX12_measuresTo_64 rfl ?_
  refine J_iald (i2 := 0) (v := 0) dX12_measuresTo_66 hk114 rfl (jin (by decide +kernel)) (by decide +kernel) rfl ?_
  refine J_icmp_ge (tgt := 125) dX12_measuresTo_67 (by decide) (fun _ => ?_) (fun q => absurd (by decide +kernel) q)
  refine J_iinc (v := 1) dX12_measuresTo_125 rfl (by decide +kernel) (Nat.le_of_ble_eq_true rfl) rfl ?_
  refine J_ls (ls2 := [some (.ref 98), some (.int 0), some (.int 0), some (.int 0), some (.int 1), some (.int 0)]) rfl ?_
  refine J_goto (tgt := 46) dX12_measuresTo_128 (by decide) ?_
  refine J_iload dX12_measuresTo_46 rfl ?_
  refine J_aload_n dX12_measuresTo_48 rfl rfl ?_
  refine J_get (v := .int 1) dX12_measuresTo_49 fl_X12_298 hk98 rfl ?_
  refine J_icmp_ge (tgt := 131) dX12_measuresTo_52 (by decide) (fun _ => ?_) (fun q => absurd (by decide +kernel) q)
  refine J_iinc (v := 1) dX12_measuresTo_131 rfl (by decide +kernel) (Nat.le_of_ble_eq_true rfl) rfl ?_
  refine J_ls (ls2 := [some (.ref 98), some (.int 0), some (.int 0), some (.int 1), some (.int 1), some (.int 0)]) rfl ?_
  refine J_goto (tgt := 37) dX12_measuresTo_134 (by decide) ?_
  refine J_iload_n dX12_measuresTo_37 rfl rfl ?_
  refine J_if_eq (tgt := 137) dX12_measuresTo_38 (by decide) (fun _ => ?_) (fun q => absurd (by decide +kernel) q)
  exact J_vret dX12_measuresTo_137 rfl (Nat.le_of_ble_eq_true rfl) (Nat.le_of_ble_eq_true rfl) ⟨rfl, rfl⟩
set_option maxHeartbeats 4000000 in
set_option maxRecDepth 100000 in
theorem c_X12_way_4 {l : Launch} {G : jG} {nh : Nat} {fh : Nat → Option va_E} (hk98 : fh 98 = some (.inr (12, [.int 0, .int 0, .ref 99, .ref 100, .ref 101, .ref 102, .ref 103, .ref 104, .ref 105, .int 0, .int (-1), .ref 106, .ref 107, .ref 108, .int 0, .int 0, .int 0, .int 0, .int 0, .int 0, .int 0, .ref 109, .int 0, .int 0, .ref 110, .ref 111, .ref 112, .ref 113, .ref 114, .ref 115, .ref 116, .ref 117, .int 0, .int 0, .int (-1), .int (-1), .ref 118, .ref 119, .ref 120, .ref 121, .ref 122, .ref 123, .ref 124, .ref 125, .ref 126, .ref 127, .ref 128, .ref 129, .int 0, .ref 130, .ref 131, .ref 132, .ref 133, .ref 134, .int 0, .int 0]))) (hk100 : fh 100 = some (.inl (0, 4870, .inl (upd (fun _ => 0) 63 (-1))))) (hk111 : fh 111 = some (.inl (0, 1260, .inl (fun _ => 0)))) (hk114 : fh 114 = some (.inl (0, 1260, .inl (fun _ => 0)))) (hk116 : fh 116 = some (.inl (0, 1260, .inl (fun _ => 0)))) (hk123 : fh 123 = some (.inl (0, 1260, .inl (fun _ => 0)))) : JM l G yX12_way MX12_way { frames := 3, cells := 0, slots := 0, locals := 69 } [.ref 98, .int 0, .int 0, .int 0] (nh, fh) (fun r h9 => r = some (.int 0) ∧ h9 = (nh, hc fh [(123, .inl (0, 1260, .inl (upd (fun _ => 0) 0 0))), (114, .inl (0, 1260, .inl (upd (fun _ => 0) 0 0))), (116, .inl (0, 1260, .inl (upd (fun _ => 0) 0 0))), (98, .inr (12, [.int 0, .int 0, .ref 99, .ref 100, .ref 101, .ref 102, .ref 103, .ref 104, .ref 105, .int 0, .int (-1), .ref 106, .ref 107, .ref 108, .int 0, .int 0, .int 0, .int 0, .int 0, .int 0, .int 0, .ref 109, .int 0, .int 0, .ref 110, .ref 111, .ref 112, .ref 113, .ref 114, .ref 115, .ref 116, .ref 117, .int 1, .int 0, .int 0, .int 0, .ref 118, .ref 119, .ref 120, .ref 121, .ref 122, .ref 123, .ref 124, .ref 125, .ref 126, .ref 127, .ref 128, .ref 129, .int 0, .ref 130, .ref 131, .ref 132, .ref 133, .ref 134, .int 0, .int 0])), (111, .inl (0, 1260, .inl (upd (fun _ => 0) 0 0)))])) := by
  refine JM.of (by decide) rfl (fun h => by cases h) (Nat.le_of_ble_eq_true rfl) ⟨5, rfl⟩ ?_
  refine J_hc0 (J_ls (ls2 := [some (.ref 98), some (.int 0), some (.int 0), some (.int 0), none, none, none, none, none]) rfl ?_)
  refine J_aload_n dX12_way_0 rfl rfl ?_
  refine J_iload_n dX12_way_1 rfl rfl ?_
  refine J_callV (st := []) dX12_way_2 cv_X12_325 (c_X12_isHouse_2 hk98 hk100 hk111) hk98 rfl rfl (Nat.le_of_ble_eq_true rfl) ⟨(Nat.le_of_ble_eq_true rfl), (Nat.le_of_ble_eq_true rfl)⟩ ⟨(Nat.le_of_ble_eq_true rfl), (Nat.le_of_ble_eq_true rfl)⟩ (fun r h9 hp => ?_)
  obtain ⟨rfl, rfl⟩ := hp
  refine J_nf (nh2 := nh) (ck2 := 0) (sk2 := 0) (st2 := [.int 1]) rfl rfl rfl rfl ?_
  refine J_app (L3 := [(98, .inr (12, [.int 0, .int 0, .ref 99, .ref 100, .ref 101, .ref 102, .ref 103, .ref 104, .ref 105, .int 0, .int (-1), .ref 106, .ref 107, .ref 108, .int 0, .int 0, .int 0, .int 0, .int 0, .int 0, .int 0, .ref 109, .int 0, .int 0, .ref 110, .ref 111, .ref 112, .ref 113, .ref 114, .ref 115, .ref 116, .ref 117, .int 1, .int 0, .int 0, .int (-1), .ref 118, .ref 119, .ref 120, .ref 121, .ref 122, .ref 123, .ref 124, .ref 125, .ref 126, .ref 127, .ref 128, .ref 129, .int 0, .ref 130, .ref 131, .ref 132, .ref 133, .ref 134, .int 0, .int 0])), (111, .inl (0, 1260, .inl (upd (fun _ => 0) 0 0)))]) rfl ?_
  refine J_if_eq (tgt := 20) dX12_way_5 (by decide) (fun q => absurd q (by decide +kernel)) (fun _ => ?_)
  refine J_aload_n dX12_way_8 rfl rfl ?_
  refine J_iload_n dX12_way_9 rfl rfl ?_
  refine J_callV (st := []) dX12_way_10 cv_X12_325 (c_X12_isHouse_5 rfl) rfl rfl rfl (Nat.le_of_ble_eq_true rfl) ⟨(Nat.le_of_ble_eq_true rfl), (Nat.le_of_ble_eq_true rfl)⟩ ⟨(Nat.le_of_ble_eq_true rfl), (Nat.le_of_ble_eq_true rfl)⟩ (fun r h9 hp => ?_)
  obtain ⟨rfl, rfl⟩ := hp
  refine J_nf (nh2 := nh) (ck2 := 0) (sk2 := 0) (st2 := [.int 1]) rfl rfl rfl rfl ?_
  refine J_if_eq (tgt := 20) dX12_way_13 (by decide) (fun q => absurd q (by decide +kernel)) (fun _ => ?_)
  refine J_iload_n dX12_way_16 rfl rfl ?_
  refine J_if_ge (tgt := 22) dX12_way_17 (by decide) (fun _ => ?_) (fun q => absurd (by decide +kernel) q)
  refine J_aload_n dX12_way_22 rfl rfl ?_
  refine J_callV (st := []) dX12_way_23 cv_X12_328 (c_X12_looks_1 rfl hk100 hk114 hk116) rfl rfl rfl (Nat.le_of_ble_eq_true rfl) ⟨(Nat.le_of_ble_eq_true rfl), (Nat.le_of_ble_eq_true rfl)⟩ ⟨(Nat.le_of_ble_eq_true rfl), (Nat.le_of_ble_eq_true rfl)⟩ (fun r h9 hp => ?_)
  obtain ⟨rfl, rfl⟩ := hp
  refine J_nf (nh2 := nh) (ck2 := 0) (sk2 := 0) (st2 := []) rfl rfl rfl rfl ?_
  refine J_app (L3 := [(114, .inl (0, 1260, .inl (upd (fun _ => 0) 0 0))), (116, .inl (0, 1260, .inl (upd (fun _ => 0) 0 0))), (98, .inr (12, [.int 0, .int 0, .ref 99, .ref 100, .ref 101, .ref 102, .ref 103, .ref 104, .ref 105, .int 0, .int (-1), .ref 106, .ref 107, .ref 108, .int 0, .int 0, .int 0, .int 0, .int 0, .int 0, .int 0, .ref 109, .int 0, .int 0, .ref 110, .ref 111, .ref 112, .ref 113, .ref 114, .ref 115, .ref 116, .ref 117, .int 1, .int 0, .int 0, .int 0, .ref 118, .ref 119, .ref 120, .ref 121, .ref 122, .ref 123, .ref 124, .ref 125, .ref 126, .ref 127, .ref 128, .ref 129, .int 0, .ref 130, .ref 131, .ref 132, .ref 133, .ref 134, .int 0, .int 0])), (98, .inr (12, [.int 0, .int 0, .ref 99, .ref 100, .ref 101, .ref 102, .ref 103, .ref 104, .ref 105, .int 0, .int (-1), .ref 106, .ref 107, .ref 108, .int 0, .int 0, .int 0, .int 0, .int 0, .int 0, .int 0, .ref 109, .int 0, .int 0, .ref 110, .ref 111, .ref 112, .ref 113, .ref 114, .ref 115, .ref 116, .ref 117, .int 1, .int 0, .int 0, .int (-1), .ref 118, .ref 119, .ref 120, .ref 121, .ref 122, .ref 123, .ref 124, .ref 125, .ref 126, .ref 127, .ref 128, .ref 129, .int 0, .ref 130, .ref 131, .ref 132, .ref 133, .ref 134, .int 0, .int 0])), (111, .inl (0, 1260, .inl (upd (fun _ => 0) 0 0)))]) rfl ?_
  refine J_aload_n dX12_way_26 rfl rfl ?_
  refine J_iload_n dX12_way_27 rfl rfl ?_
  refine J_callV (st := []) dX12_way_28 cv_X12_337 (c_X12_measuresTo_1 rfl rfl hk123) rfl rfl rfl (Nat.le_of_ble_eq_true rfl) ⟨(Nat.le_of_ble_eq_true rfl), (Nat.le_of_ble_eq_true rfl)⟩ ⟨(Nat.le_of_ble_eq_true rfl), (Nat.le_of_ble_eq_true rfl)⟩ (fun r h9 hp => ?_)
  obtain ⟨rfl, rfl⟩ := hp
  refine J_nf (nh2 := nh) (ck2 := 0) (sk2 := 0) (st2 := []) rfl rfl rfl rfl ?_
  refine J_app (L3 := [(123, .inl (0, 1260, .inl (upd (fun _ => 0) 0 0))), (114, .inl (0, 1260, .inl (upd (fun _ => 0) 0 0))), (116, .inl (0, 1260, .inl (upd (fun _ => 0) 0 0))), (98, .inr (12, [.int 0, .int 0, .ref 99, .ref 100, .ref 101, .ref 102, .ref 103, .ref 104, .ref 105, .int 0, .int (-1), .ref 106, .ref 107, .ref 108, .int 0, .int 0, .int 0, .int 0, .int 0, .int 0, .int 0, .ref 109, .int 0, .int 0, .ref 110, .ref 111, .ref 112, .ref 113, .ref 114, .ref 115, .ref 116, .ref 117, .int 1, .int 0, .int 0, .int 0, .ref 118, .ref 119, .ref 120, .ref 121, .ref 122, .ref 123, .ref 124, .ref 125, .ref 126, .ref 127, .ref 128, .ref 129, .int 0, .ref 130, .ref 131, .ref 132, .ref 133, .ref 134, .int 0, .int 0])), (98, .inr (12, [.int 0, .int 0, .ref 99, .ref 100, .ref 101, .ref 102, .ref 103, .ref 104, .ref 105, .int 0, .int (-1), .ref 106, .ref 107, .ref 108, .int 0, .int 0, .int 0, .int 0, .int 0, .int 0, .int 0, .ref 109, .int 0, .int 0, .ref 110, .ref 111, .ref 112, .ref 113, .ref 114, .ref 115, .ref 116, .ref 117, .int 1, .int 0, .int 0, .int (-1), .ref 118, .ref 119, .ref 120, .ref 121, .ref 122, .ref 123, .ref 124, .ref 125, .ref 126, .ref 127, .ref 128, .ref 129, .int 0, .ref 130, .ref 131, .ref 132, .ref 133, .ref 134, .int 0, .int 0])), (111, .inl (0, 1260, .inl (upd (fun _ => 0) 0 0)))]) rfl ?_
  refine J_iload_n dX12_way_31 rfl rfl ?_
  refine J_aload_n dX12_way_32 rfl rfl ?_
  refine J_get (v := .ref 123) dX12_way_33 fl_X12_101 rfl rfl ?_
  refine J_iload_n dX12_way_36 rfl rfl ?_
  refine J_iald (i2 := 0) (v := 0) dX12_way_37 rfl rfl (jin (by decide +kernel)) (by decide +kernel) rfl ?_
  refine J_icmp_gt (tgt := 52) dX12_way_38 (by decide) (fun q => absurd q (by decide +kernel)) (fun _ => ?_)
  refine J_aload_n dX12_way_41 rfl rfl ?_
  refine J_get (v := .ref 123) dX12_way_42 fl_X12_101 rfl rfl ?_
  refine J_iload_n dX12_way_45 rfl rfl ?_
  refine J_iald (i2 := 0) (v := 0) dX12_way_46 rfl rfl (jin (by decide +kernel)) (by decide +kernel) rfl ?_
  refine J_ldc (v := 1000000) dX12_way_47 (jt7 88 rfl rfl) ?_
  refine J_icmp_ne (tgt := 54) dX12_way_49 (by decide) (fun _ => ?_) (fun q => absurd q (by decide +kernel))
  refine J_iload_n dX12_way_54 rfl rfl ?_
  refine J_istore dX12_way_55 (Nat.le_of_ble_eq_true rfl) rfl ?_
  refine J_iconst (v := 0) dX12_way_57 (by decide) ?_
  refine J_istore dX12_way_58 (Nat.le_of_ble_eq_true rfl) rfl ?_
  refine J_iload dX12_way_60 rfl ?_
  refine J_iload_n dX12_way_62 rfl rfl ?_
  refine J_icmp_ge (tgt := 151) dX12_way_63 (by decide) (fun _ => ?_) (fun q => absurd (by decide +kernel) q)
  refine J_iload dX12_way_151 rfl ?_
  refine J_mask (L2 := [(123, .inl (0, 1260, .inl (upd (fun _ => 0) 0 0))), (114, .inl (0, 1260, .inl (upd (fun _ => 0) 0 0))), (116, .inl (0, 1260, .inl (upd (fun _ => 0) 0 0))), (98, .inr (12, [.int 0, .int 0, .ref 99, .ref 100, .ref 101, .ref 102, .ref 103, .ref 104, .ref 105, .int 0, .int (-1), .ref 106, .ref 107, .ref 108, .int 0, .int 0, .int 0, .int 0, .int 0, .int 0, .int 0, .ref 109, .int 0, .int 0, .ref 110, .ref 111, .ref 112, .ref 113, .ref 114, .ref 115, .ref 116, .ref 117, .int 1, .int 0, .int 0, .int 0, .ref 118, .ref 119, .ref 120, .ref 121, .ref 122, .ref 123, .ref 124, .ref 125, .ref 126, .ref 127, .ref 128, .ref 129, .int 0, .ref 130, .ref 131, .ref 132, .ref 133, .ref 134, .int 0, .int 0])), (111, .inl (0, 1260, .inl (upd (fun _ => 0) 0 0)))]) (ks := [123, 114, 116, 98, 98, 111]) [true, true, true, true, false, true] rfl (by decide +kernel) rfl ?_
  exact J_iret dX12_way_153 rfl rfl (Nat.le_of_ble_eq_true rfl) (Nat.le_of_ble_eq_true rfl) ⟨rfl, rfl⟩
set_option maxHeartbeats 4000000 in
set_option maxRecDepth 100000 in
theorem c_X10_onWay_3 {l : Launch} {G : jG} {nh : Nat} {fh : Nat → Option va_E} (a3 : Int32) (b_a3 : 1 ≤ a3.toInt ∧ a3.toInt ≤ 2147483647) (hk1 : fh 1 = some (.inr (8, [.ref 2, .ref 3, .ref 4, .int 0, .int (-1), .ref 11, .ref 12, .int 0, .ref 13, .ref 14, .int 0, .ref 15, .ref 16, .int 0]))) (hk3 : fh 3 = some (.inl (0, 2, .inl (fun _ => 0)))) (hk51 : fh 51 = some (.inr (0, [.ref 52, .ref 53, .int 1, .int 0]))) (hk52 : fh 52 = some (.inl (0, 1260, .inl (upd (fun _ => 0) 0 0)))) (hk57 : fh 57 = some (.inr (9, [.ref 1, .ref 51, .ref 58, .ref 61, .ref 62, .ref 135, .ref 64, .int 0, .int 0, .int 0]))) (hk62 : fh 62 = some (.inl (0, 1260, .inl (upd (fun _ => 0) 0 (-1))))) (hk65 : fh 65 = some (.inr (10, [.ref 51, .ref 57, .ref 66, .ref 67, .ref 68, .int 0, .int (-1), .int (-1), .ref 69, .ref 70, .ref 71, .ref 72, .int 0, .int (-1), .int (-1), .ref 73, .ref 74]))) (hk66 : fh 66 = some (.inl (0, 1260, .inl (fun _ => 0)))) (hk67 : fh 67 = some (.inl (0, 1260, .inl (fun _ => 0)))) (hk68 : fh 68 = some (.inl (0, 1260, .inl (fun _ => 0)))) : JM l G yX10_onWay MX10_onWay { frames := 6, cells := 0, slots := 0, locals := 142 } [.ref 65, .int 0, .int 0, .int a3] (nh, fh) (fun r h9 => r = some (.int (-1)) ∧ h9 = (nh, hc fh [(62, .inl (0, 1260, .inl (upd (upd (fun _ => 0) 0 (-1)) 0 0))), (65, .inr (10, [.ref 51, .ref 57, .ref 66, .ref 67, .ref 68, .int 1, .int 0, .int 0, .ref 69, .ref 70, .ref 71, .ref 72, .int 0, .int (-1), .int (-1), .ref 73, .ref 74])), (68, .inl (0, 1260, .inl (upd (fun _ => 0) 0 0))), (67, .inl (0, 1260, .inl (upd (fun _ => 0) 0 1))), (66, .inl (0, 1260, .inl (upd (upd (fun _ => 0) 0 (-1)) 0 0)))])) := by
  refine JM.of (by decide) rfl (fun h => by cases h) (Nat.le_of_ble_eq_true rfl) ⟨2, rfl⟩ ?_
  refine J_hc0 (J_ls (ls2 := [some (.ref 65), some (.int 0), some (.int 0), some (.int a3), none, none]) rfl ?_)
  refine J_aload_n dX10_onWay_0 rfl rfl ?_
  refine J_iload_n dX10_onWay_1 rfl rfl ?_
  refine J_callV (st := []) dX10_onWay_2 cv_X10_67 (c_X10_walkFrom_1 hk1 hk3 hk51 hk52 hk57 hk62 hk65 hk66 hk67 hk68) hk65 rfl rfl (Nat.le_of_ble_eq_true rfl) ⟨(Nat.le_of_ble_eq_true rfl), (Nat.le_of_ble_eq_true rfl)⟩ ⟨(Nat.le_of_ble_eq_true rfl), (Nat.le_of_ble_eq_true rfl)⟩ (fun r h9 hp => ?_)
  obtain ⟨rfl, rfl⟩ := hp
  refine J_nf (nh2 := nh) (ck2 := 0) (sk2 := 0) (st2 := []) rfl rfl rfl rfl ?_
  refine J_app (L3 := [(62, .inl (0, 1260, .inl (upd (upd (fun _ => 0) 0 (-1)) 0 0))), (65, .inr (10, [.ref 51, .ref 57, .ref 66, .ref 67, .ref 68, .int 1, .int 0, .int 0, .ref 69, .ref 70, .ref 71, .ref 72, .int 0, .int (-1), .int (-1), .ref 73, .ref 74])), (68, .inl (0, 1260, .inl (upd (fun _ => 0) 0 0))), (67, .inl (0, 1260, .inl (upd (fun _ => 0) 0 1))), (66, .inl (0, 1260, .inl (upd (upd (fun _ => 0) 0 (-1)) 0 0)))]) rfl ?_
  refine J_iload_n dX10_onWay_5 rfl rfl ?_
  refine J_if_lt (tgt := 19) dX10_onWay_6 (by decide) (fun q => absurd q (by have hb0 := b_a3; simp only [fa_lt, fa_le, fa_eq, kc_0]; omega)) (fun _ => ?_)
  refine J_iload_n dX10_onWay_9 rfl rfl ?_
  refine J_aload_n dX10_onWay_10 rfl rfl ?_
  refine J_get (v := .ref 66) dX10_onWay_11 fl_X10_9 rfl rfl ?_
  refine J_iload_n dX10_onWay_14 rfl rfl ?_
  refine J_iald (i2 := 0) (v := 0) dX10_onWay_15 rfl rfl (jin (by decide +kernel)) (by decide +kernel) rfl ?_
  refine J_icmp_le (tgt := 21) dX10_onWay_16 (by decide) (fun q => absurd q (by have hb0 := b_a3; simp only [fa_lt, fa_le, fa_eq, kc_0]; omega)) (fun _ => ?_)
  refine J_iconst (v := (-1)) dX10_onWay_19 (by decide) ?_
  exact J_iret dX10_onWay_20 rfl rfl (Nat.le_of_ble_eq_true rfl) (Nat.le_of_ble_eq_true rfl) ⟨rfl, rfl⟩
set_option maxHeartbeats 4000000 in
set_option maxRecDepth 100000 in
theorem c_X11_way_5 {l : Launch} {G : jG} {fh : Nat → Option va_E} (a3 : Int32) (b_a3 : 1 ≤ a3.toInt ∧ a3.toInt ≤ 2147483647) (hk0 : fh 0 = some (.inr (11, [.ref 1, .ref 17, .ref 50, .ref 51, .ref 54, .ref 57, .ref 65, .ref 75, .ref 81, .ref 85, .ref 88, .ref 93, .ref 96, .int 0, .int (-1), .ref 97, .int 0]))) (hk1 : fh 1 = some (.inr (8, [.ref 2, .ref 3, .ref 4, .int 0, .int (-1), .ref 11, .ref 12, .int 0, .ref 13, .ref 14, .int 0, .ref 15, .ref 16, .int 0]))) (hk3 : fh 3 = some (.inl (0, 2, .inl (fun _ => 0)))) (hk51 : fh 51 = some (.inr (0, [.ref 52, .ref 53, .int 1, .int 0]))) (hk52 : fh 52 = some (.inl (0, 1260, .inl (upd (fun _ => 0) 0 0)))) (hk57 : fh 57 = some (.inr (9, [.ref 1, .ref 51, .ref 58, .ref 61, .ref 62, .ref 63, .ref 64, .int 0, .int 1, .int 1]))) (hk58 : fh 58 = some (.inr (1, [.ref 59, .ref 60, .int 0, .int 0, .int 0, .int 0, .int 0, .int 1]))) (hk59 : fh 59 = some (.inl (0, 8, .inl (fun _ => 0)))) (hk62 : fh 62 = some (.inl (0, 1260, .inl (fun _ => 0)))) (hk63 : fh 63 = some (.inl (0, 0, .inl (fun _ => 0)))) (hk65 : fh 65 = some (.inr (10, [.ref 51, .ref 57, .ref 66, .ref 67, .ref 68, .int 0, .int (-1), .int (-1), .ref 69, .ref 70, .ref 71, .ref 72, .int 0, .int (-1), .int (-1), .ref 73, .ref 74]))) (hk66 : fh 66 = some (.inl (0, 1260, .inl (fun _ => 0)))) (hk67 : fh 67 = some (.inl (0, 1260, .inl (fun _ => 0)))) (hk68 : fh 68 = some (.inl (0, 1260, .inl (fun _ => 0)))) : JM l G yX11_way MX11_way { frames := 7, cells := 1, slots := 22, locals := 167 } [.ref 0, .int 0, .int 0, .int a3] (135, fh) (fun r h9 => r = some (.int (-1)) ∧ h9 = (136, hc fh [(62, .inl (0, 1260, .inl (upd (upd (fun _ => 0) 0 (-1)) 0 0))), (65, .inr (10, [.ref 51, .ref 57, .ref 66, .ref 67, .ref 68, .int 1, .int 0, .int 0, .ref 69, .ref 70, .ref 71, .ref 72, .int 0, .int (-1), .int (-1), .ref 73, .ref 74])), (68, .inl (0, 1260, .inl (upd (fun _ => 0) 0 0))), (67, .inl (0, 1260, .inl (upd (fun _ => 0) 0 1))), (66, .inl (0, 1260, .inl (upd (upd (fun _ => 0) 0 (-1)) 0 0))), (57, .inr (9, [.ref 1, .ref 51, .ref 58, .ref 61, .ref 62, .ref 135, .ref 64, .int 0, .int 0, .int 0])), (135, .inl (0, 22, .inl (fun _ => 0))), (59, .inl (0, 8, .inl (upd (upd (fun _ => 0) 6 0) 7 0)))])) := by
  refine JM.of (by decide) rfl (fun h => by cases h) (Nat.le_of_ble_eq_true rfl) ⟨0, rfl⟩ ?_
  refine J_hc0 (J_ls (ls2 := [some (.ref 0), some (.int 0), some (.int 0), some (.int a3)]) rfl ?_)
  refine J_aload_n dX11_way_0 rfl rfl ?_
  refine J_get (v := .ref 51) dX11_way_1 fl_X11_27 hk0 rfl ?_
  refine J_iload_n dX11_way_4 rfl rfl ?_
  refine J_callV (st := []) dX11_way_5 cv_X11_135 (c_X0_has_2 hk51) hk51 rfl rfl (Nat.le_of_ble_eq_true rfl) ⟨(Nat.le_of_ble_eq_true rfl), (Nat.le_of_ble_eq_true rfl)⟩ ⟨(Nat.le_of_ble_eq_true rfl), (Nat.le_of_ble_eq_true rfl)⟩ (fun r h9 hp => ?_)
  obtain ⟨rfl, rfl⟩ := hp
  refine J_nf (nh2 := 135) (ck2 := 0) (sk2 := 0) (st2 := [.int 1]) rfl rfl rfl rfl ?_
  refine J_if_eq (tgt := 22) dX11_way_8 (by decide) (fun q => absurd q (by decide +kernel)) (fun _ => ?_)
  refine J_aload_n dX11_way_11 rfl rfl ?_
  refine J_get (v := .ref 51) dX11_way_12 fl_X11_27 hk0 rfl ?_
  refine J_iload_n dX11_way_15 rfl rfl ?_
  refine J_callV (st := []) dX11_way_16 cv_X11_135 (c_X0_has_2 hk51) hk51 rfl rfl (Nat.le_of_ble_eq_true rfl) ⟨(Nat.le_of_ble_eq_true rfl), (Nat.le_of_ble_eq_true rfl)⟩ ⟨(Nat.le_of_ble_eq_true rfl), (Nat.le_of_ble_eq_true rfl)⟩ (fun r h9 hp => ?_)
  obtain ⟨rfl, rfl⟩ := hp
  refine J_nf (nh2 := 135) (ck2 := 0) (sk2 := 0) (st2 := [.int 1]) rfl rfl rfl rfl ?_
  refine J_if_ne (tgt := 24) dX11_way_19 (by decide) (fun _ => ?_) (fun q => absurd q (by decide +kernel))
  refine J_aload_n dX11_way_24 rfl rfl ?_
  refine J_get (v := .ref 57) dX11_way_25 fl_X11_43 hk0 rfl ?_
  refine J_callV (st := []) dX11_way_28 cv_X11_217 (c_X9_prepare_1 hk1 hk3 hk51 hk57 hk58 hk59 hk62 hk63) hk57 rfl rfl (Nat.le_of_ble_eq_true rfl) ⟨(Nat.le_of_ble_eq_true rfl), (Nat.le_of_ble_eq_true rfl)⟩ ⟨(Nat.le_of_ble_eq_true rfl), (Nat.le_of_ble_eq_true rfl)⟩ (fun r h9 hp => ?_)
  obtain ⟨rfl, rfl⟩ := hp
  refine J_nf (nh2 := 136) (ck2 := 1) (sk2 := 22) (st2 := []) rfl rfl rfl rfl ?_
  refine J_app (L3 := [(57, .inr (9, [.ref 1, .ref 51, .ref 58, .ref 61, .ref 62, .ref 135, .ref 64, .int 0, .int 0, .int 0])), (62, .inl (0, 1260, .inl (upd (fun _ => 0) 0 (-1)))), (135, .inl (0, 22, .inl (fun _ => 0))), (59, .inl (0, 8, .inl (upd (upd (fun _ => 0) 6 0) 7 0)))]) rfl ?_
  refine J_aload_n dX11_way_31 rfl rfl ?_
  refine J_get (v := .ref 65) dX11_way_32 fl_X11_52 hk0 rfl ?_
  refine J_iload_n dX11_way_35 rfl rfl ?_
  refine J_iload_n dX11_way_36 rfl rfl ?_
  refine J_iload_n dX11_way_37 rfl rfl ?_
  refine J_callV (st := []) dX11_way_38 cv_X11_238 (c_X10_onWay_3 (a3) b_a3 hk1 hk3 hk51 hk52 rfl rfl hk65 hk66 hk67 hk68) hk65 rfl rfl (Nat.le_of_ble_eq_true rfl) ⟨(Nat.le_of_ble_eq_true rfl), (Nat.le_of_ble_eq_true rfl)⟩ ⟨(Nat.le_of_ble_eq_true rfl), (Nat.le_of_ble_eq_true rfl)⟩ (fun r h9 hp => ?_)
  obtain ⟨rfl, rfl⟩ := hp
  refine J_nf (nh2 := 136) (ck2 := 1) (sk2 := 22) (st2 := [.int (-1)]) rfl rfl rfl rfl ?_
  refine J_app (L3 := [(62, .inl (0, 1260, .inl (upd (upd (fun _ => 0) 0 (-1)) 0 0))), (65, .inr (10, [.ref 51, .ref 57, .ref 66, .ref 67, .ref 68, .int 1, .int 0, .int 0, .ref 69, .ref 70, .ref 71, .ref 72, .int 0, .int (-1), .int (-1), .ref 73, .ref 74])), (68, .inl (0, 1260, .inl (upd (fun _ => 0) 0 0))), (67, .inl (0, 1260, .inl (upd (fun _ => 0) 0 1))), (66, .inl (0, 1260, .inl (upd (upd (fun _ => 0) 0 (-1)) 0 0))), (57, .inr (9, [.ref 1, .ref 51, .ref 58, .ref 61, .ref 62, .ref 135, .ref 64, .int 0, .int 0, .int 0])), (62, .inl (0, 1260, .inl (upd (fun _ => 0) 0 (-1)))), (135, .inl (0, 22, .inl (fun _ => 0))), (59, .inl (0, 8, .inl (upd (upd (fun _ => 0) 6 0) 7 0)))]) rfl ?_
  refine J_mask (L2 := [(62, .inl (0, 1260, .inl (upd (upd (fun _ => 0) 0 (-1)) 0 0))), (65, .inr (10, [.ref 51, .ref 57, .ref 66, .ref 67, .ref 68, .int 1, .int 0, .int 0, .ref 69, .ref 70, .ref 71, .ref 72, .int 0, .int (-1), .int (-1), .ref 73, .ref 74])), (68, .inl (0, 1260, .inl (upd (fun _ => 0) 0 0))), (67, .inl (0, 1260, .inl (upd (fun _ => 0) 0 1))), (66, .inl (0, 1260, .inl (upd (upd (fun _ => 0) 0 (-1)) 0 0))), (57, .inr (9, [.ref 1, .ref 51, .ref 58, .ref 61, .ref 62, .ref 135, .ref 64, .int 0, .int 0, .int 0])), (135, .inl (0, 22, .inl (fun _ => 0))), (59, .inl (0, 8, .inl (upd (upd (fun _ => 0) 6 0) 7 0)))]) (ks := [62, 65, 68, 67, 66, 57, 62, 135, 59]) [true, true, true, true, true, true, false, true, true] rfl (by decide +kernel) rfl ?_
  exact J_iret dX11_way_41 rfl rfl (Nat.le_of_ble_eq_true rfl) (Nat.le_of_ble_eq_true rfl) ⟨rfl, rfl⟩
set_option maxHeartbeats 4000000 in
set_option maxRecDepth 100000 in
theorem c_X12_way_5 {l : Launch} {G : jG} {nh : Nat} {fh : Nat → Option va_E} (a3 : Int32) (b_a3 : 1 ≤ a3.toInt ∧ a3.toInt ≤ 2147483647) (hk98 : fh 98 = some (.inr (12, [.int 0, .int 0, .ref 99, .ref 100, .ref 101, .ref 102, .ref 103, .ref 104, .ref 105, .int 0, .int (-1), .ref 106, .ref 107, .ref 108, .int 0, .int 0, .int 0, .int 0, .int 0, .int 0, .int 0, .ref 109, .int 0, .int 0, .ref 110, .ref 111, .ref 112, .ref 113, .ref 114, .ref 115, .ref 116, .ref 117, .int 0, .int 0, .int (-1), .int (-1), .ref 118, .ref 119, .ref 120, .ref 121, .ref 122, .ref 123, .ref 124, .ref 125, .ref 126, .ref 127, .ref 128, .ref 129, .int 0, .ref 130, .ref 131, .ref 132, .ref 133, .ref 134, .int 0, .int 0]))) (hk100 : fh 100 = some (.inl (0, 4870, .inl (upd (fun _ => 0) 63 (-1))))) (hk111 : fh 111 = some (.inl (0, 1260, .inl (fun _ => 0)))) (hk114 : fh 114 = some (.inl (0, 1260, .inl (fun _ => 0)))) (hk116 : fh 116 = some (.inl (0, 1260, .inl (fun _ => 0)))) (hk123 : fh 123 = some (.inl (0, 1260, .inl (fun _ => 0)))) : JM l G yX12_way MX12_way { frames := 3, cells := 0, slots := 0, locals := 69 } [.ref 98, .int 0, .int 0, .int a3] (nh, fh) (fun r h9 => r = some (.int (-1)) ∧ h9 = (nh, hc fh [(123, .inl (0, 1260, .inl (upd (fun _ => 0) 0 0))), (114, .inl (0, 1260, .inl (upd (fun _ => 0) 0 0))), (116, .inl (0, 1260, .inl (upd (fun _ => 0) 0 0))), (98, .inr (12, [.int 0, .int 0, .ref 99, .ref 100, .ref 101, .ref 102, .ref 103, .ref 104, .ref 105, .int 0, .int (-1), .ref 106, .ref 107, .ref 108, .int 0, .int 0, .int 0, .int 0, .int 0, .int 0, .int 0, .ref 109, .int 0, .int 0, .ref 110, .ref 111, .ref 112, .ref 113, .ref 114, .ref 115, .ref 116, .ref 117, .int 1, .int 0, .int 0, .int 0, .ref 118, .ref 119, .ref 120, .ref 121, .ref 122, .ref 123, .ref 124, .ref 125, .ref 126, .ref 127, .ref 128, .ref 129, .int 0, .ref 130, .ref 131, .ref 132, .ref 133, .ref 134, .int 0, .int 0])), (111, .inl (0, 1260, .inl (upd (fun _ => 0) 0 0)))])) := by
  refine JM.of (by decide) rfl (fun h => by cases h) (Nat.le_of_ble_eq_true rfl) ⟨5, rfl⟩ ?_
  refine J_hc0 (J_ls (ls2 := [some (.ref 98), some (.int 0), some (.int 0), some (.int a3), none, none, none, none, none]) rfl ?_)
  refine J_aload_n dX12_way_0 rfl rfl ?_
  refine J_iload_n dX12_way_1 rfl rfl ?_
  refine J_callV (st := []) dX12_way_2 cv_X12_325 (c_X12_isHouse_2 hk98 hk100 hk111) hk98 rfl rfl (Nat.le_of_ble_eq_true rfl) ⟨(Nat.le_of_ble_eq_true rfl), (Nat.le_of_ble_eq_true rfl)⟩ ⟨(Nat.le_of_ble_eq_true rfl), (Nat.le_of_ble_eq_true rfl)⟩ (fun r h9 hp => ?_)
  obtain ⟨rfl, rfl⟩ := hp
  refine J_nf (nh2 := nh) (ck2 := 0) (sk2 := 0) (st2 := [.int 1]) rfl rfl rfl rfl ?_
  refine J_app (L3 := [(98, .inr (12, [.int 0, .int 0, .ref 99, .ref 100, .ref 101, .ref 102, .ref 103, .ref 104, .ref 105, .int 0, .int (-1), .ref 106, .ref 107, .ref 108, .int 0, .int 0, .int 0, .int 0, .int 0, .int 0, .int 0, .ref 109, .int 0, .int 0, .ref 110, .ref 111, .ref 112, .ref 113, .ref 114, .ref 115, .ref 116, .ref 117, .int 1, .int 0, .int 0, .int (-1), .ref 118, .ref 119, .ref 120, .ref 121, .ref 122, .ref 123, .ref 124, .ref 125, .ref 126, .ref 127, .ref 128, .ref 129, .int 0, .ref 130, .ref 131, .ref 132, .ref 133, .ref 134, .int 0, .int 0])), (111, .inl (0, 1260, .inl (upd (fun _ => 0) 0 0)))]) rfl ?_
  refine J_if_eq (tgt := 20) dX12_way_5 (by decide) (fun q => absurd q (by decide +kernel)) (fun _ => ?_)
  refine J_aload_n dX12_way_8 rfl rfl ?_
  refine J_iload_n dX12_way_9 rfl rfl ?_
  refine J_callV (st := []) dX12_way_10 cv_X12_325 (c_X12_isHouse_5 rfl) rfl rfl rfl (Nat.le_of_ble_eq_true rfl) ⟨(Nat.le_of_ble_eq_true rfl), (Nat.le_of_ble_eq_true rfl)⟩ ⟨(Nat.le_of_ble_eq_true rfl), (Nat.le_of_ble_eq_true rfl)⟩ (fun r h9 hp => ?_)
  obtain ⟨rfl, rfl⟩ := hp
  refine J_nf (nh2 := nh) (ck2 := 0) (sk2 := 0) (st2 := [.int 1]) rfl rfl rfl rfl ?_
  refine J_if_eq (tgt := 20) dX12_way_13 (by decide) (fun q => absurd q (by decide +kernel)) (fun _ => ?_)
  refine J_iload_n dX12_way_16 rfl rfl ?_
  refine J_if_ge (tgt := 22) dX12_way_17 (by decide) (fun _ => ?_) (fun q => absurd (by have hb0 := b_a3; simp only [fa_lt, fa_le, fa_eq, kc_0]; omega) q)
  refine J_aload_n dX12_way_22 rfl rfl ?_
  refine J_callV (st := []) dX12_way_23 cv_X12_328 (c_X12_looks_1 rfl hk100 hk114 hk116) rfl rfl rfl (Nat.le_of_ble_eq_true rfl) ⟨(Nat.le_of_ble_eq_true rfl), (Nat.le_of_ble_eq_true rfl)⟩ ⟨(Nat.le_of_ble_eq_true rfl), (Nat.le_of_ble_eq_true rfl)⟩ (fun r h9 hp => ?_)
  obtain ⟨rfl, rfl⟩ := hp
  refine J_nf (nh2 := nh) (ck2 := 0) (sk2 := 0) (st2 := []) rfl rfl rfl rfl ?_
  refine J_app (L3 := [(114, .inl (0, 1260, .inl (upd (fun _ => 0) 0 0))), (116, .inl (0, 1260, .inl (upd (fun _ => 0) 0 0))), (98, .inr (12, [.int 0, .int 0, .ref 99, .ref 100, .ref 101, .ref 102, .ref 103, .ref 104, .ref 105, .int 0, .int (-1), .ref 106, .ref 107, .ref 108, .int 0, .int 0, .int 0, .int 0, .int 0, .int 0, .int 0, .ref 109, .int 0, .int 0, .ref 110, .ref 111, .ref 112, .ref 113, .ref 114, .ref 115, .ref 116, .ref 117, .int 1, .int 0, .int 0, .int 0, .ref 118, .ref 119, .ref 120, .ref 121, .ref 122, .ref 123, .ref 124, .ref 125, .ref 126, .ref 127, .ref 128, .ref 129, .int 0, .ref 130, .ref 131, .ref 132, .ref 133, .ref 134, .int 0, .int 0])), (98, .inr (12, [.int 0, .int 0, .ref 99, .ref 100, .ref 101, .ref 102, .ref 103, .ref 104, .ref 105, .int 0, .int (-1), .ref 106, .ref 107, .ref 108, .int 0, .int 0, .int 0, .int 0, .int 0, .int 0, .int 0, .ref 109, .int 0, .int 0, .ref 110, .ref 111, .ref 112, .ref 113, .ref 114, .ref 115, .ref 116, .ref 117, .int 1, .int 0, .int 0, .int (-1), .ref 118, .ref 119, .ref 120, .ref 121, .ref 122, .ref 123, .ref 124, .ref 125, .ref 126, .ref 127, .ref 128, .ref 129, .int 0, .ref 130, .ref 131, .ref 132, .ref 133, .ref 134, .int 0, .int 0])), (111, .inl (0, 1260, .inl (upd (fun _ => 0) 0 0)))]) rfl ?_
  refine J_aload_n dX12_way_26 rfl rfl ?_
  refine J_iload_n dX12_way_27 rfl rfl ?_
  refine J_callV (st := []) dX12_way_28 cv_X12_337 (c_X12_measuresTo_1 rfl rfl hk123) rfl rfl rfl (Nat.le_of_ble_eq_true rfl) ⟨(Nat.le_of_ble_eq_true rfl), (Nat.le_of_ble_eq_true rfl)⟩ ⟨(Nat.le_of_ble_eq_true rfl), (Nat.le_of_ble_eq_true rfl)⟩ (fun r h9 hp => ?_)
  obtain ⟨rfl, rfl⟩ := hp
  refine J_nf (nh2 := nh) (ck2 := 0) (sk2 := 0) (st2 := []) rfl rfl rfl rfl ?_
  refine J_app (L3 := [(123, .inl (0, 1260, .inl (upd (fun _ => 0) 0 0))), (114, .inl (0, 1260, .inl (upd (fun _ => 0) 0 0))), (116, .inl (0, 1260, .inl (upd (fun _ => 0) 0 0))), (98, .inr (12, [.int 0, .int 0, .ref 99, .ref 100, .ref 101, .ref 102, .ref 103, .ref 104, .ref 105, .int 0, .int (-1), .ref 106, .ref 107, .ref 108, .int 0, .int 0, .int 0, .int 0, .int 0, .int 0, .int 0, .ref 109, .int 0, .int 0, .ref 110, .ref 111, .ref 112, .ref 113, .ref 114, .ref 115, .ref 116, .ref 117, .int 1, .int 0, .int 0, .int 0, .ref 118, .ref 119, .ref 120, .ref 121, .ref 122, .ref 123, .ref 124, .ref 125, .ref 126, .ref 127, .ref 128, .ref 129, .int 0, .ref 130, .ref 131, .ref 132, .ref 133, .ref 134, .int 0, .int 0])), (98, .inr (12, [.int 0, .int 0, .ref 99, .ref 100, .ref 101, .ref 102, .ref 103, .ref 104, .ref 105, .int 0, .int (-1), .ref 106, .ref 107, .ref 108, .int 0, .int 0, .int 0, .int 0, .int 0, .int 0, .int 0, .ref 109, .int 0, .int 0, .ref 110, .ref 111, .ref 112, .ref 113, .ref 114, .ref 115, .ref 116, .ref 117, .int 1, .int 0, .int 0, .int (-1), .ref 118, .ref 119, .ref 120, .ref 121, .ref 122, .ref 123, .ref 124, .ref 125, .ref 126, .ref 127, .ref 128, .ref 129, .int 0, .ref 130, .ref 131, .ref 132, .ref 133, .ref 134, .int 0, .int 0])), (111, .inl (0, 1260, .inl (upd (fun _ => 0) 0 0)))]) rfl ?_
  refine J_iload_n dX12_way_31 rfl rfl ?_
  refine J_aload_n dX12_way_32 rfl rfl ?_
  refine J_get (v := .ref 123) dX12_way_33 fl_X12_101 rfl rfl ?_
  refine J_iload_n dX12_way_36 rfl rfl ?_
  refine J_iald (i2 := 0) (v := 0) dX12_way_37 rfl rfl (jin (by decide +kernel)) (by decide +kernel) rfl ?_
  refine J_icmp_gt (tgt := 52) dX12_way_38 (by decide) (fun _ => ?_) (fun q => absurd (by have hb0 := b_a3; simp only [fa_lt, fa_le, fa_eq, kc_0]; omega) q)
  refine J_iconst (v := (-1)) dX12_way_52 (by decide) ?_
  refine J_mask (L2 := [(123, .inl (0, 1260, .inl (upd (fun _ => 0) 0 0))), (114, .inl (0, 1260, .inl (upd (fun _ => 0) 0 0))), (116, .inl (0, 1260, .inl (upd (fun _ => 0) 0 0))), (98, .inr (12, [.int 0, .int 0, .ref 99, .ref 100, .ref 101, .ref 102, .ref 103, .ref 104, .ref 105, .int 0, .int (-1), .ref 106, .ref 107, .ref 108, .int 0, .int 0, .int 0, .int 0, .int 0, .int 0, .int 0, .ref 109, .int 0, .int 0, .ref 110, .ref 111, .ref 112, .ref 113, .ref 114, .ref 115, .ref 116, .ref 117, .int 1, .int 0, .int 0, .int 0, .ref 118, .ref 119, .ref 120, .ref 121, .ref 122, .ref 123, .ref 124, .ref 125, .ref 126, .ref 127, .ref 128, .ref 129, .int 0, .ref 130, .ref 131, .ref 132, .ref 133, .ref 134, .int 0, .int 0])), (111, .inl (0, 1260, .inl (upd (fun _ => 0) 0 0)))]) (ks := [123, 114, 116, 98, 98, 111]) [true, true, true, true, false, true] rfl (by decide +kernel) rfl ?_
  exact J_iret dX12_way_53 rfl rfl (Nat.le_of_ble_eq_true rfl) (Nat.le_of_ble_eq_true rfl) ⟨rfl, rfl⟩
set_option maxHeartbeats 4000000 in
set_option maxRecDepth 100000 in
theorem c_X11_way_6 {l : Launch} {G : jG} {nh : Nat} {fh : Nat → Option va_E} (a2 : Int32) (b_a2 : 1 ≤ a2.toInt ∧ a2.toInt ≤ 2147483647) (a3 : Int32) (b_a3 : (-2147483648) ≤ a3.toInt ∧ a3.toInt ≤ 2147483647) (hk0 : fh 0 = some (.inr (11, [.ref 1, .ref 17, .ref 50, .ref 51, .ref 54, .ref 57, .ref 65, .ref 75, .ref 81, .ref 85, .ref 88, .ref 93, .ref 96, .int 0, .int (-1), .ref 97, .int 0]))) (hk51 : fh 51 = some (.inr (0, [.ref 52, .ref 53, .int 1, .int 0]))) : JM l G yX11_way MX11_way { frames := 1, cells := 0, slots := 0, locals := 21 } [.ref 0, .int 0, .int a2, .int a3] (nh, fh) (fun r h9 => r = some (.int (-1)) ∧ h9 = (nh, fh)) := by
  refine JM.of (by decide) rfl (fun h => by cases h) (Nat.le_of_ble_eq_true rfl) ⟨0, rfl⟩ ?_
  refine J_hc0 (J_ls (ls2 := [some (.ref 0), some (.int 0), some (.int a2), some (.int a3)]) rfl ?_)
  refine J_aload_n dX11_way_0 rfl rfl ?_
  refine J_get (v := .ref 51) dX11_way_1 fl_X11_27 hk0 rfl ?_
  refine J_iload_n dX11_way_4 rfl rfl ?_
  refine J_callV (st := []) dX11_way_5 cv_X11_135 (c_X0_has_2 hk51) hk51 rfl rfl (Nat.le_of_ble_eq_true rfl) ⟨(Nat.le_of_ble_eq_true rfl), (Nat.le_of_ble_eq_true rfl)⟩ ⟨(Nat.le_of_ble_eq_true rfl), (Nat.le_of_ble_eq_true rfl)⟩ (fun r h9 hp => ?_)
  obtain ⟨rfl, rfl⟩ := hp
  refine J_nf (nh2 := nh) (ck2 := 0) (sk2 := 0) (st2 := [.int 1]) rfl rfl rfl rfl ?_
  refine J_if_eq (tgt := 22) dX11_way_8 (by decide) (fun q => absurd q (by decide +kernel)) (fun _ => ?_)
  refine J_aload_n dX11_way_11 rfl rfl ?_
  refine J_get (v := .ref 51) dX11_way_12 fl_X11_27 hk0 rfl ?_
  refine J_iload_n dX11_way_15 rfl rfl ?_
  refine J_callV (st := []) dX11_way_16 cv_X11_135 (c_X0_has_3 (a2) b_a2 hk51) hk51 rfl rfl (Nat.le_of_ble_eq_true rfl) ⟨(Nat.le_of_ble_eq_true rfl), (Nat.le_of_ble_eq_true rfl)⟩ ⟨(Nat.le_of_ble_eq_true rfl), (Nat.le_of_ble_eq_true rfl)⟩ (fun r h9 hp => ?_)
  obtain ⟨rfl, rfl⟩ := hp
  refine J_nf (nh2 := nh) (ck2 := 0) (sk2 := 0) (st2 := [.int 0]) rfl rfl rfl rfl ?_
  refine J_if_ne (tgt := 24) dX11_way_19 (by decide) (fun q => absurd (by decide +kernel) q) (fun _ => ?_)
  refine J_iconst (v := (-1)) dX11_way_22 (by decide) ?_
  exact J_iret dX11_way_23 rfl rfl (Nat.le_of_ble_eq_true rfl) (Nat.le_of_ble_eq_true rfl) ⟨rfl, rfl⟩
set_option maxHeartbeats 4000000 in
set_option maxRecDepth 100000 in
theorem c_X12_way_6 {l : Launch} {G : jG} {nh : Nat} {fh : Nat → Option va_E} (a2 : Int32) (b_a2 : 1 ≤ a2.toInt ∧ a2.toInt ≤ 2147483647) (a3 : Int32) (b_a3 : (-2147483648) ≤ a3.toInt ∧ a3.toInt ≤ 2147483647) (hk98 : fh 98 = some (.inr (12, [.int 0, .int 0, .ref 99, .ref 100, .ref 101, .ref 102, .ref 103, .ref 104, .ref 105, .int 0, .int (-1), .ref 106, .ref 107, .ref 108, .int 0, .int 0, .int 0, .int 0, .int 0, .int 0, .int 0, .ref 109, .int 0, .int 0, .ref 110, .ref 111, .ref 112, .ref 113, .ref 114, .ref 115, .ref 116, .ref 117, .int 0, .int 0, .int (-1), .int (-1), .ref 118, .ref 119, .ref 120, .ref 121, .ref 122, .ref 123, .ref 124, .ref 125, .ref 126, .ref 127, .ref 128, .ref 129, .int 0, .ref 130, .ref 131, .ref 132, .ref 133, .ref 134, .int 0, .int 0]))) (hk100 : fh 100 = some (.inl (0, 4870, .inl (upd (fun _ => 0) 63 (-1))))) (hk111 : fh 111 = some (.inl (0, 1260, .inl (fun _ => 0)))) : JM l G yX12_way MX12_way { frames := 3, cells := 0, slots := 0, locals := 69 } [.ref 98, .int 0, .int a2, .int a3] (nh, fh) (fun r h9 => r = some (.int (-1)) ∧ h9 = (nh, hc fh [(98, .inr (12, [.int 0, .int 0, .ref 99, .ref 100, .ref 101, .ref 102, .ref 103, .ref 104, .ref 105, .int 0, .int (-1), .ref 106, .ref 107, .ref 108, .int 0, .int 0, .int 0, .int 0, .int 0, .int 0, .int 0, .ref 109, .int 0, .int 0, .ref 110, .ref 111, .ref 112, .ref 113, .ref 114, .ref 115, .ref 116, .ref 117, .int 1, .int 0, .int 0, .int (-1), .ref 118, .ref 119, .ref 120, .ref 121, .ref 122, .ref 123, .ref 124, .ref 125, .ref 126, .ref 127, .ref 128, .ref 129, .int 0, .ref 130, .ref 131, .ref 132, .ref 133, .ref 134, .int 0, .int 0])), (111, .inl (0, 1260, .inl (upd (fun _ => 0) 0 0)))])) := by
  refine JM.of (by decide) rfl (fun h => by cases h) (Nat.le_of_ble_eq_true rfl) ⟨5, rfl⟩ ?_
  refine J_hc0 (J_ls (ls2 := [some (.ref 98), some (.int 0), some (.int a2), some (.int a3), none, none, none, none, none]) rfl ?_)
  refine J_aload_n dX12_way_0 rfl rfl ?_
  refine J_iload_n dX12_way_1 rfl rfl ?_
  refine J_callV (st := []) dX12_way_2 cv_X12_325 (c_X12_isHouse_2 hk98 hk100 hk111) hk98 rfl rfl (Nat.le_of_ble_eq_true rfl) ⟨(Nat.le_of_ble_eq_true rfl), (Nat.le_of_ble_eq_true rfl)⟩ ⟨(Nat.le_of_ble_eq_true rfl), (Nat.le_of_ble_eq_true rfl)⟩ (fun r h9 hp => ?_)
  obtain ⟨rfl, rfl⟩ := hp
  refine J_nf (nh2 := nh) (ck2 := 0) (sk2 := 0) (st2 := [.int 1]) rfl rfl rfl rfl ?_
  refine J_app (L3 := [(98, .inr (12, [.int 0, .int 0, .ref 99, .ref 100, .ref 101, .ref 102, .ref 103, .ref 104, .ref 105, .int 0, .int (-1), .ref 106, .ref 107, .ref 108, .int 0, .int 0, .int 0, .int 0, .int 0, .int 0, .int 0, .ref 109, .int 0, .int 0, .ref 110, .ref 111, .ref 112, .ref 113, .ref 114, .ref 115, .ref 116, .ref 117, .int 1, .int 0, .int 0, .int (-1), .ref 118, .ref 119, .ref 120, .ref 121, .ref 122, .ref 123, .ref 124, .ref 125, .ref 126, .ref 127, .ref 128, .ref 129, .int 0, .ref 130, .ref 131, .ref 132, .ref 133, .ref 134, .int 0, .int 0])), (111, .inl (0, 1260, .inl (upd (fun _ => 0) 0 0)))]) rfl ?_
  refine J_if_eq (tgt := 20) dX12_way_5 (by decide) (fun q => absurd q (by decide +kernel)) (fun _ => ?_)
  refine J_aload_n dX12_way_8 rfl rfl ?_
  refine J_iload_n dX12_way_9 rfl rfl ?_
  refine J_callV (st := []) dX12_way_10 cv_X12_325 (c_X12_isHouse_6 (a2) b_a2 rfl) rfl rfl rfl (Nat.le_of_ble_eq_true rfl) ⟨(Nat.le_of_ble_eq_true rfl), (Nat.le_of_ble_eq_true rfl)⟩ ⟨(Nat.le_of_ble_eq_true rfl), (Nat.le_of_ble_eq_true rfl)⟩ (fun r h9 hp => ?_)
  obtain ⟨rfl, rfl⟩ := hp
  refine J_nf (nh2 := nh) (ck2 := 0) (sk2 := 0) (st2 := [.int 0]) rfl rfl rfl rfl ?_
  refine J_if_eq (tgt := 20) dX12_way_13 (by decide) (fun _ => ?_) (fun q => absurd (by decide +kernel) q)
  refine J_iconst (v := (-1)) dX12_way_20 (by decide) ?_
  exact J_iret dX12_way_21 rfl rfl (Nat.le_of_ble_eq_true rfl) (Nat.le_of_ble_eq_true rfl) ⟨rfl, rfl⟩
set_option maxHeartbeats 4000000 in
set_option maxRecDepth 100000 in
theorem c_X11_way_7 {l : Launch} {G : jG} {nh : Nat} {fh : Nat → Option va_E} (a1 : Int32) (b_a1 : 1 ≤ a1.toInt ∧ a1.toInt ≤ 2147483647) (a2 : Int32) (b_a2 : (-2147483648) ≤ a2.toInt ∧ a2.toInt ≤ 2147483647) (a3 : Int32) (b_a3 : (-2147483648) ≤ a3.toInt ∧ a3.toInt ≤ 2147483647) (hk0 : fh 0 = some (.inr (11, [.ref 1, .ref 17, .ref 50, .ref 51, .ref 54, .ref 57, .ref 65, .ref 75, .ref 81, .ref 85, .ref 88, .ref 93, .ref 96, .int 0, .int (-1), .ref 97, .int 0]))) (hk51 : fh 51 = some (.inr (0, [.ref 52, .ref 53, .int 1, .int 0]))) : JM l G yX11_way MX11_way { frames := 1, cells := 0, slots := 0, locals := 21 } [.ref 0, .int a1, .int a2, .int a3] (nh, fh) (fun r h9 => r = some (.int (-1)) ∧ h9 = (nh, fh)) := by
  refine JM.of (by decide) rfl (fun h => by cases h) (Nat.le_of_ble_eq_true rfl) ⟨0, rfl⟩ ?_
  refine J_hc0 (J_ls (ls2 := [some (.ref 0), some (.int a1), some (.int a2), some (.int a3)]) rfl ?_)
  refine J_aload_n dX11_way_0 rfl rfl ?_
  refine J_get (v := .ref 51) dX11_way_1 fl_X11_27 hk0 rfl ?_
  refine J_iload_n dX11_way_4 rfl rfl ?_
  refine J_callV (st := []) dX11_way_5 cv_X11_135 (c_X0_has_3 (a1) b_a1 hk51) hk51 rfl rfl (Nat.le_of_ble_eq_true rfl) ⟨(Nat.le_of_ble_eq_true rfl), (Nat.le_of_ble_eq_true rfl)⟩ ⟨(Nat.le_of_ble_eq_true rfl), (Nat.le_of_ble_eq_true rfl)⟩ (fun r h9 hp => ?_)
  obtain ⟨rfl, rfl⟩ := hp
  refine J_nf (nh2 := nh) (ck2 := 0) (sk2 := 0) (st2 := [.int 0]) rfl rfl rfl rfl ?_
  refine J_if_eq (tgt := 22) dX11_way_8 (by decide) (fun _ => ?_) (fun q => absurd (by decide +kernel) q)
  refine J_iconst (v := (-1)) dX11_way_22 (by decide) ?_
  exact J_iret dX11_way_23 rfl rfl (Nat.le_of_ble_eq_true rfl) (Nat.le_of_ble_eq_true rfl) ⟨rfl, rfl⟩
set_option maxHeartbeats 4000000 in
set_option maxRecDepth 100000 in
theorem c_X12_way_7 {l : Launch} {G : jG} {nh : Nat} {fh : Nat → Option va_E} (a1 : Int32) (b_a1 : 1 ≤ a1.toInt ∧ a1.toInt ≤ 2147483647) (a2 : Int32) (b_a2 : (-2147483648) ≤ a2.toInt ∧ a2.toInt ≤ 2147483647) (a3 : Int32) (b_a3 : (-2147483648) ≤ a3.toInt ∧ a3.toInt ≤ 2147483647) (hk98 : fh 98 = some (.inr (12, [.int 0, .int 0, .ref 99, .ref 100, .ref 101, .ref 102, .ref 103, .ref 104, .ref 105, .int 0, .int (-1), .ref 106, .ref 107, .ref 108, .int 0, .int 0, .int 0, .int 0, .int 0, .int 0, .int 0, .ref 109, .int 0, .int 0, .ref 110, .ref 111, .ref 112, .ref 113, .ref 114, .ref 115, .ref 116, .ref 117, .int 0, .int 0, .int (-1), .int (-1), .ref 118, .ref 119, .ref 120, .ref 121, .ref 122, .ref 123, .ref 124, .ref 125, .ref 126, .ref 127, .ref 128, .ref 129, .int 0, .ref 130, .ref 131, .ref 132, .ref 133, .ref 134, .int 0, .int 0]))) (hk100 : fh 100 = some (.inl (0, 4870, .inl (upd (fun _ => 0) 63 (-1))))) (hk111 : fh 111 = some (.inl (0, 1260, .inl (fun _ => 0)))) : JM l G yX12_way MX12_way { frames := 3, cells := 0, slots := 0, locals := 69 } [.ref 98, .int a1, .int a2, .int a3] (nh, fh) (fun r h9 => r = some (.int (-1)) ∧ h9 = (nh, hc fh [(98, .inr (12, [.int 0, .int 0, .ref 99, .ref 100, .ref 101, .ref 102, .ref 103, .ref 104, .ref 105, .int 0, .int (-1), .ref 106, .ref 107, .ref 108, .int 0, .int 0, .int 0, .int 0, .int 0, .int 0, .int 0, .ref 109, .int 0, .int 0, .ref 110, .ref 111, .ref 112, .ref 113, .ref 114, .ref 115, .ref 116, .ref 117, .int 1, .int 0, .int 0, .int (-1), .ref 118, .ref 119, .ref 120, .ref 121, .ref 122, .ref 123, .ref 124, .ref 125, .ref 126, .ref 127, .ref 128, .ref 129, .int 0, .ref 130, .ref 131, .ref 132, .ref 133, .ref 134, .int 0, .int 0])), (111, .inl (0, 1260, .inl (upd (fun _ => 0) 0 0)))])) := by
  refine JM.of (by decide) rfl (fun h => by cases h) (Nat.le_of_ble_eq_true rfl) ⟨5, rfl⟩ ?_
  refine J_hc0 (J_ls (ls2 := [some (.ref 98), some (.int a1), some (.int a2), some (.int a3), none, none, none, none, none]) rfl ?_)
  refine J_aload_n dX12_way_0 rfl rfl ?_
  refine J_iload_n dX12_way_1 rfl rfl ?_
  refine J_callV (st := []) dX12_way_2 cv_X12_325 (c_X12_isHouse_3 (a1) b_a1 hk98 hk100 hk111) hk98 rfl rfl (Nat.le_of_ble_eq_true rfl) ⟨(Nat.le_of_ble_eq_true rfl), (Nat.le_of_ble_eq_true rfl)⟩ ⟨(Nat.le_of_ble_eq_true rfl), (Nat.le_of_ble_eq_true rfl)⟩ (fun r h9 hp => ?_)
  obtain ⟨rfl, rfl⟩ := hp
  refine J_nf (nh2 := nh) (ck2 := 0) (sk2 := 0) (st2 := [.int 0]) rfl rfl rfl rfl ?_
  refine J_app (L3 := [(98, .inr (12, [.int 0, .int 0, .ref 99, .ref 100, .ref 101, .ref 102, .ref 103, .ref 104, .ref 105, .int 0, .int (-1), .ref 106, .ref 107, .ref 108, .int 0, .int 0, .int 0, .int 0, .int 0, .int 0, .int 0, .ref 109, .int 0, .int 0, .ref 110, .ref 111, .ref 112, .ref 113, .ref 114, .ref 115, .ref 116, .ref 117, .int 1, .int 0, .int 0, .int (-1), .ref 118, .ref 119, .ref 120, .ref 121, .ref 122, .ref 123, .ref 124, .ref 125, .ref 126, .ref 127, .ref 128, .ref 129, .int 0, .ref 130, .ref 131, .ref 132, .ref 133, .ref 134, .int 0, .int 0])), (111, .inl (0, 1260, .inl (upd (fun _ => 0) 0 0)))]) rfl ?_
  refine J_if_eq (tgt := 20) dX12_way_5 (by decide) (fun _ => ?_) (fun q => absurd (by decide +kernel) q)
  refine J_iconst (v := (-1)) dX12_way_20 (by decide) ?_
  exact J_iret dX12_way_21 rfl rfl (Nat.le_of_ble_eq_true rfl) (Nat.le_of_ble_eq_true rfl) ⟨rfl, rfl⟩
set_option maxHeartbeats 4000000 in
set_option maxRecDepth 100000 in
theorem c_X11_reach_1 {l : Launch} {G : jG} {nh : Nat} {fh : Nat → Option va_E} (a1 : Int32) (b_a1 : (-2147483648) ≤ a1.toInt ∧ a1.toInt ≤ (-1)) (a2 : Int32) (b_a2 : (-2147483648) ≤ a2.toInt ∧ a2.toInt ≤ 2147483647) (hk0 : fh 0 = some (.inr (11, [.ref 1, .ref 17, .ref 50, .ref 51, .ref 54, .ref 57, .ref 65, .ref 75, .ref 81, .ref 85, .ref 88, .ref 93, .ref 96, .int 0, .int (-1), .ref 97, .int 0]))) (hk51 : fh 51 = some (.inr (0, [.ref 52, .ref 53, .int 1, .int 0]))) : JM l G yX11_reach MX11_reach { frames := 1, cells := 0, slots := 0, locals := 21 } [.ref 0, .int a1, .int a2] (nh, fh) (fun r h9 => r = some (.int (-1)) ∧ h9 = (nh, fh)) := by
  refine JM.of (by decide) rfl (fun h => by cases h) (Nat.le_of_ble_eq_true rfl) ⟨0, rfl⟩ ?_
  refine J_hc0 (J_ls (ls2 := [some (.ref 0), some (.int a1), some (.int a2)]) rfl ?_)
  refine J_aload_n dX11_reach_0 rfl rfl ?_
  refine J_get (v := .ref 51) dX11_reach_1 fl_X11_27 hk0 rfl ?_
  refine J_iload_n dX11_reach_4 rfl rfl ?_
  refine J_callV (st := []) dX11_reach_5 cv_X11_135 (c_X0_has_1 (a1) b_a1) hk51 rfl rfl (Nat.le_of_ble_eq_true rfl) ⟨(Nat.le_of_ble_eq_true rfl), (Nat.le_of_ble_eq_true rfl)⟩ ⟨(Nat.le_of_ble_eq_true rfl), (Nat.le_of_ble_eq_true rfl)⟩ (fun r h9 hp => ?_)
  obtain ⟨rfl, rfl⟩ := hp
  refine J_nf (nh2 := nh) (ck2 := 0) (sk2 := 0) (st2 := [.int 0]) rfl rfl rfl rfl ?_
  refine J_if_ne (tgt := 13) dX11_reach_8 (by decide) (fun q => absurd (by decide +kernel) q) (fun _ => ?_)
  refine J_iconst (v := (-1)) dX11_reach_11 (by decide) ?_
  exact J_iret dX11_reach_12 rfl rfl (Nat.le_of_ble_eq_true rfl) (Nat.le_of_ble_eq_true rfl) ⟨rfl, rfl⟩
set_option maxHeartbeats 4000000 in
set_option maxRecDepth 100000 in
theorem c_X12_reach_1 {l : Launch} {G : jG} {nh : Nat} {fh : Nat → Option va_E} (a1 : Int32) (b_a1 : (-2147483648) ≤ a1.toInt ∧ a1.toInt ≤ (-1)) (a2 : Int32) (b_a2 : (-2147483648) ≤ a2.toInt ∧ a2.toInt ≤ 2147483647) (hk98 : fh 98 = some (.inr (12, [.int 0, .int 0, .ref 99, .ref 100, .ref 101, .ref 102, .ref 103, .ref 104, .ref 105, .int 0, .int (-1), .ref 106, .ref 107, .ref 108, .int 0, .int 0, .int 0, .int 0, .int 0, .int 0, .int 0, .ref 109, .int 0, .int 0, .ref 110, .ref 111, .ref 112, .ref 113, .ref 114, .ref 115, .ref 116, .ref 117, .int 0, .int 0, .int (-1), .int (-1), .ref 118, .ref 119, .ref 120, .ref 121, .ref 122, .ref 123, .ref 124, .ref 125, .ref 126, .ref 127, .ref 128, .ref 129, .int 0, .ref 130, .ref 131, .ref 132, .ref 133, .ref 134, .int 0, .int 0]))) (hk100 : fh 100 = some (.inl (0, 4870, .inl (upd (fun _ => 0) 63 (-1))))) (hk111 : fh 111 = some (.inl (0, 1260, .inl (fun _ => 0)))) : JM l G yX12_reach MX12_reach { frames := 3, cells := 0, slots := 0, locals := 69 } [.ref 98, .int a1, .int a2] (nh, fh) (fun r h9 => r = some (.int (-1)) ∧ h9 = (nh, hc fh [(98, .inr (12, [.int 0, .int 0, .ref 99, .ref 100, .ref 101, .ref 102, .ref 103, .ref 104, .ref 105, .int 0, .int (-1), .ref 106, .ref 107, .ref 108, .int 0, .int 0, .int 0, .int 0, .int 0, .int 0, .int 0, .ref 109, .int 0, .int 0, .ref 110, .ref 111, .ref 112, .ref 113, .ref 114, .ref 115, .ref 116, .ref 117, .int 1, .int 0, .int 0, .int (-1), .ref 118, .ref 119, .ref 120, .ref 121, .ref 122, .ref 123, .ref 124, .ref 125, .ref 126, .ref 127, .ref 128, .ref 129, .int 0, .ref 130, .ref 131, .ref 132, .ref 133, .ref 134, .int 0, .int 0])), (111, .inl (0, 1260, .inl (upd (fun _ => 0) 0 0)))])) := by
  refine JM.of (by decide) rfl (fun h => by cases h) (Nat.le_of_ble_eq_true rfl) ⟨5, rfl⟩ ?_
  refine J_hc0 (J_ls (ls2 := [some (.ref 98), some (.int a1), some (.int a2), none, none, none, none, none]) rfl ?_)
  refine J_aload_n dX12_reach_0 rfl rfl ?_
  refine J_iload_n dX12_reach_1 rfl rfl ?_
  refine J_callV (st := []) dX12_reach_2 cv_X12_325 (c_X12_isHouse_1 (a1) b_a1 hk98 hk100 hk111) hk98 rfl rfl (Nat.le_of_ble_eq_true rfl) ⟨(Nat.le_of_ble_eq_true rfl), (Nat.le_of_ble_eq_true rfl)⟩ ⟨(Nat.le_of_ble_eq_true rfl), (Nat.le_of_ble_eq_true rfl)⟩ (fun r h9 hp => ?_)
  obtain ⟨rfl, rfl⟩ := hp
  refine J_nf (nh2 := nh) (ck2 := 0) (sk2 := 0) (st2 := [.int 0]) rfl rfl rfl rfl ?_
  refine J_app (L3 := [(98, .inr (12, [.int 0, .int 0, .ref 99, .ref 100, .ref 101, .ref 102, .ref 103, .ref 104, .ref 105, .int 0, .int (-1), .ref 106, .ref 107, .ref 108, .int 0, .int 0, .int 0, .int 0, .int 0, .int 0, .int 0, .ref 109, .int 0, .int 0, .ref 110, .ref 111, .ref 112, .ref 113, .ref 114, .ref 115, .ref 116, .ref 117, .int 1, .int 0, .int 0, .int (-1), .ref 118, .ref 119, .ref 120, .ref 121, .ref 122, .ref 123, .ref 124, .ref 125, .ref 126, .ref 127, .ref 128, .ref 129, .int 0, .ref 130, .ref 131, .ref 132, .ref 133, .ref 134, .int 0, .int 0])), (111, .inl (0, 1260, .inl (upd (fun _ => 0) 0 0)))]) rfl ?_
  refine J_if_eq (tgt := 17) dX12_reach_5 (by decide) (fun _ => ?_) (fun q => absurd (by decide +kernel) q)
  refine J_iconst (v := (-1)) dX12_reach_17 (by decide) ?_
  exact J_iret dX12_reach_18 rfl rfl (Nat.le_of_ble_eq_true rfl) (Nat.le_of_ble_eq_true rfl) ⟨rfl, rfl⟩
set_option maxHeartbeats 4000000 in
set_option maxRecDepth 100000 in
theorem c_X10_reachOf_1 {l : Launch} {G : jG} {nh : Nat} {fh : Nat → Option va_E} (a2 : Int32) (b_a2 : (-2147483648) ≤ a2.toInt ∧ a2.toInt ≤ (-1)) (hk1 : fh 1 = some (.inr (8, [.ref 2, .ref 3, .ref 4, .int 0, .int (-1), .ref 11, .ref 12, .int 0, .ref 13, .ref 14, .int 0, .ref 15, .ref 16, .int 0]))) (hk3 : fh 3 = some (.inl (0, 2, .inl (fun _ => 0)))) (hk51 : fh 51 = some (.inr (0, [.ref 52, .ref 53, .int 1, .int 0]))) (hk52 : fh 52 = some (.inl (0, 1260, .inl (upd (fun _ => 0) 0 0)))) (hk57 : fh 57 = some (.inr (9, [.ref 1, .ref 51, .ref 58, .ref 61, .ref 62, .ref 135, .ref 64, .int 0, .int 0, .int 0]))) (hk62 : fh 62 = some (.inl (0, 1260, .inl (upd (fun _ => 0) 0 (-1))))) (hk65 : fh 65 = some (.inr (10, [.ref 51, .ref 57, .ref 66, .ref 67, .ref 68, .int 0, .int (-1), .int (-1), .ref 69, .ref 70, .ref 71, .ref 72, .int 0, .int (-1), .int (-1), .ref 73, .ref 74]))) (hk66 : fh 66 = some (.inl (0, 1260, .inl (fun _ => 0)))) (hk67 : fh 67 = some (.inl (0, 1260, .inl (fun _ => 0)))) (hk68 : fh 68 = some (.inl (0, 1260, .inl (fun _ => 0)))) : JM l G yX10_reachOf MX10_reachOf { frames := 6, cells := 0, slots := 0, locals := 142 } [.ref 65, .int 0, .int a2] (nh, fh) (fun r h9 => r = some (.int (-1)) ∧ h9 = (nh, hc fh [(62, .inl (0, 1260, .inl (upd (upd (fun _ => 0) 0 (-1)) 0 0))), (65, .inr (10, [.ref 51, .ref 57, .ref 66, .ref 67, .ref 68, .int 1, .int 0, .int 0, .ref 69, .ref 70, .ref 71, .ref 72, .int 0, .int (-1), .int (-1), .ref 73, .ref 74])), (68, .inl (0, 1260, .inl (upd (fun _ => 0) 0 0))), (67, .inl (0, 1260, .inl (upd (fun _ => 0) 0 1))), (66, .inl (0, 1260, .inl (upd (upd (fun _ => 0) 0 (-1)) 0 0)))])) := by
  refine JM.of (by decide) rfl (fun h => by cases h) (Nat.le_of_ble_eq_true rfl) ⟨4, rfl⟩ ?_
  refine J_hc0 (J_ls (ls2 := [some (.ref 65), some (.int 0), some (.int a2), none, none, none, none]) rfl ?_)
  refine J_aload_n dX10_reachOf_0 rfl rfl ?_
  refine J_iload_n dX10_reachOf_1 rfl rfl ?_
  refine J_callV (st := []) dX10_reachOf_2 cv_X10_67 (c_X10_walkFrom_1 hk1 hk3 hk51 hk52 hk57 hk62 hk65 hk66 hk67 hk68) hk65 rfl rfl (Nat.le_of_ble_eq_true rfl) ⟨(Nat.le_of_ble_eq_true rfl), (Nat.le_of_ble_eq_true rfl)⟩ ⟨(Nat.le_of_ble_eq_true rfl), (Nat.le_of_ble_eq_true rfl)⟩ (fun r h9 hp => ?_)
  obtain ⟨rfl, rfl⟩ := hp
  refine J_nf (nh2 := nh) (ck2 := 0) (sk2 := 0) (st2 := []) rfl rfl rfl rfl ?_
  refine J_app (L3 := [(62, .inl (0, 1260, .inl (upd (upd (fun _ => 0) 0 (-1)) 0 0))), (65, .inr (10, [.ref 51, .ref 57, .ref 66, .ref 67, .ref 68, .int 1, .int 0, .int 0, .ref 69, .ref 70, .ref 71, .ref 72, .int 0, .int (-1), .int (-1), .ref 73, .ref 74])), (68, .inl (0, 1260, .inl (upd (fun _ => 0) 0 0))), (67, .inl (0, 1260, .inl (upd (fun _ => 0) 0 1))), (66, .inl (0, 1260, .inl (upd (upd (fun _ => 0) 0 (-1)) 0 0)))]) rfl ?_
  refine J_aload_n dX10_reachOf_5 rfl rfl ?_
  refine J_get (v := .ref 66) dX10_reachOf_6 fl_X10_9 rfl rfl ?_
  refine J_aload_n dX10_reachOf_9 rfl rfl ?_
  refine J_get (v := .ref 68) dX10_reachOf_10 fl_X10_18 rfl rfl ?_
  refine J_aload_n dX10_reachOf_13 rfl rfl ?_
  refine J_get (v := .int 1) dX10_reachOf_14 fl_X10_21 rfl rfl ?_
  refine J_iconst (v := 1) dX10_reachOf_17 (by decide) ?_
  refine J_isub (z := 0) dX10_reachOf_18 (by decide +kernel) ?_
  refine J_iald (i2 := 0) (v := 0) dX10_reachOf_19 rfl rfl (jin (by decide +kernel)) (by decide +kernel) rfl ?_
  refine J_iald (i2 := 0) (v := 0) dX10_reachOf_20 rfl rfl (jin (by decide +kernel)) (by decide +kernel) rfl ?_
  refine J_istore_n dX10_reachOf_21 rfl (Nat.le_of_ble_eq_true rfl) rfl ?_
  refine J_iconst (v := 0) dX10_reachOf_22 (by decide) ?_
  refine J_istore dX10_reachOf_23 (Nat.le_of_ble_eq_true rfl) rfl ?_
  refine J_sipush (v := 1260) dX10_reachOf_25 (by decide +kernel) ?_
  refine J_istore dX10_reachOf_28 (Nat.le_of_ble_eq_true rfl) rfl ?_
  refine J_aload_n dX10_reachOf_30 rfl rfl ?_
  refine J_get (v := .int 1) dX10_reachOf_31 fl_X10_21 rfl rfl ?_
  refine J_iconst (v := 1) dX10_reachOf_34 (by decide) ?_
  refine J_isub (z := 0) dX10_reachOf_35 (by decide +kernel) ?_
  refine J_istore dX10_reachOf_36 (Nat.le_of_ble_eq_true rfl) rfl ?_
  refine J_iload dX10_reachOf_38 rfl ?_
  refine J_if_lt (tgt := 82) dX10_reachOf_40 (by decide) (fun q => absurd q (by decide +kernel)) (fun _ => ?_)
  refine J_aload_n dX10_reachOf_43 rfl rfl ?_
  refine J_get (v := .ref 66) dX10_reachOf_44 fl_X10_9 rfl rfl ?_
  refine J_aload_n dX10_reachOf_47 rfl rfl ?_
  refine J_get (v := .ref 68) dX10_reachOf_48 fl_X10_18 rfl rfl ?_
  refine J_iload dX10_reachOf_51 rfl ?_
  refine J_iald (i2 := 0) (v := 0) dX10_reachOf_53 rfl rfl (jin (by decide +kernel)) (by decide +kernel) rfl ?_
  refine J_iald (i2 := 0) (v := 0) dX10_reachOf_54 rfl rfl (jin (by decide +kernel)) (by decide +kernel) rfl ?_
  refine J_iload_n dX10_reachOf_55 rfl rfl ?_
  refine J_icmp_ne (tgt := 82) dX10_reachOf_56 (by decide) (fun q => absurd (by decide +kernel) q) (fun _ => ?_)
  refine J_iinc (v := 1) dX10_reachOf_59 rfl (by decide +kernel) (Nat.le_of_ble_eq_true rfl) rfl ?_
  refine J_ls (ls2 := [some (.ref 65), some (.int 0), some (.int a2), some (.int 0), some (.int 1), some (.int 1260), some (.int 0)]) rfl ?_
  refine J_iload dX10_reachOf_62 rfl ?_
  refine J_aload_n dX10_reachOf_64 rfl rfl ?_
  refine J_get (v := .ref 68) dX10_reachOf_65 fl_X10_18 rfl rfl ?_
  refine J_iload dX10_reachOf_68 rfl ?_
  refine J_iald (i2 := 0) (v := 0) dX10_reachOf_70 rfl rfl (jin (by decide +kernel)) (by decide +kernel) rfl ?_
  refine J_mmin (z := 0) dX10_reachOf_71 (jt4 236 rfl rfl) (jt3 222 rfl rfl) (jt1 19 rfl rfl) (jt3 223 rfl rfl) (Nat.le_of_ble_eq_true rfl) (Nat.le_of_ble_eq_true rfl) (Nat.le_of_ble_eq_true rfl) (Nat.le_of_ble_eq_true rfl) (by decide +kernel) ?_
  refine J_istore dX10_reachOf_74 (Nat.le_of_ble_eq_true rfl) rfl ?_
  refine J_iinc (v := (-1)) dX10_reachOf_76 rfl (by decide +kernel) (Nat.le_of_ble_eq_true rfl) rfl ?_
  refine J_ls (ls2 := [some (.ref 65), some (.int 0), some (.int a2), some (.int 0), some (.int 1), some (.int 0), some (.int (-1))]) rfl ?_
  refine J_goto (tgt := 38) dX10_reachOf_79 (by decide) ?_
  refine J_iload dX10_reachOf_38 rfl ?_
  refine J_if_lt (tgt := 82) dX10_reachOf_40 (by decide) (fun _ => ?_) (fun q => absurd (by decide +kernel) q)
  refine J_iload_n dX10_reachOf_82 rfl rfl ?_
  refine J_tableOut (tgt := 125) dX10_reachOf_83 (by have hb := b_a2; omega) (by decide) ?_
  refine J_iconst (v := (-1)) dX10_reachOf_125 (by decide) ?_
  exact J_iret dX10_reachOf_126 rfl rfl (Nat.le_of_ble_eq_true rfl) (Nat.le_of_ble_eq_true rfl) ⟨rfl, rfl⟩
set_option maxHeartbeats 4000000 in
set_option maxRecDepth 100000 in
theorem c_X11_reach_2 {l : Launch} {G : jG} {fh : Nat → Option va_E} (a2 : Int32) (b_a2 : (-2147483648) ≤ a2.toInt ∧ a2.toInt ≤ (-1)) (hk0 : fh 0 = some (.inr (11, [.ref 1, .ref 17, .ref 50, .ref 51, .ref 54, .ref 57, .ref 65, .ref 75, .ref 81, .ref 85, .ref 88, .ref 93, .ref 96, .int 0, .int (-1), .ref 97, .int 0]))) (hk1 : fh 1 = some (.inr (8, [.ref 2, .ref 3, .ref 4, .int 0, .int (-1), .ref 11, .ref 12, .int 0, .ref 13, .ref 14, .int 0, .ref 15, .ref 16, .int 0]))) (hk3 : fh 3 = some (.inl (0, 2, .inl (fun _ => 0)))) (hk51 : fh 51 = some (.inr (0, [.ref 52, .ref 53, .int 1, .int 0]))) (hk52 : fh 52 = some (.inl (0, 1260, .inl (upd (fun _ => 0) 0 0)))) (hk57 : fh 57 = some (.inr (9, [.ref 1, .ref 51, .ref 58, .ref 61, .ref 62, .ref 63, .ref 64, .int 0, .int 1, .int 1]))) (hk58 : fh 58 = some (.inr (1, [.ref 59, .ref 60, .int 0, .int 0, .int 0, .int 0, .int 0, .int 1]))) (hk59 : fh 59 = some (.inl (0, 8, .inl (fun _ => 0)))) (hk62 : fh 62 = some (.inl (0, 1260, .inl (fun _ => 0)))) (hk63 : fh 63 = some (.inl (0, 0, .inl (fun _ => 0)))) (hk65 : fh 65 = some (.inr (10, [.ref 51, .ref 57, .ref 66, .ref 67, .ref 68, .int 0, .int (-1), .int (-1), .ref 69, .ref 70, .ref 71, .ref 72, .int 0, .int (-1), .int (-1), .ref 73, .ref 74]))) (hk66 : fh 66 = some (.inl (0, 1260, .inl (fun _ => 0)))) (hk67 : fh 67 = some (.inl (0, 1260, .inl (fun _ => 0)))) (hk68 : fh 68 = some (.inl (0, 1260, .inl (fun _ => 0)))) : JM l G yX11_reach MX11_reach { frames := 7, cells := 1, slots := 22, locals := 168 } [.ref 0, .int 0, .int a2] (135, fh) (fun r h9 => r = some (.int (-1)) ∧ h9 = (136, hc fh [(62, .inl (0, 1260, .inl (upd (upd (fun _ => 0) 0 (-1)) 0 0))), (65, .inr (10, [.ref 51, .ref 57, .ref 66, .ref 67, .ref 68, .int 1, .int 0, .int 0, .ref 69, .ref 70, .ref 71, .ref 72, .int 0, .int (-1), .int (-1), .ref 73, .ref 74])), (68, .inl (0, 1260, .inl (upd (fun _ => 0) 0 0))), (67, .inl (0, 1260, .inl (upd (fun _ => 0) 0 1))), (66, .inl (0, 1260, .inl (upd (upd (fun _ => 0) 0 (-1)) 0 0))), (57, .inr (9, [.ref 1, .ref 51, .ref 58, .ref 61, .ref 62, .ref 135, .ref 64, .int 0, .int 0, .int 0])), (135, .inl (0, 22, .inl (fun _ => 0))), (59, .inl (0, 8, .inl (upd (upd (fun _ => 0) 6 0) 7 0)))])) := by
  refine JM.of (by decide) rfl (fun h => by cases h) (Nat.le_of_ble_eq_true rfl) ⟨0, rfl⟩ ?_
  refine J_hc0 (J_ls (ls2 := [some (.ref 0), some (.int 0), some (.int a2)]) rfl ?_)
  refine J_aload_n dX11_reach_0 rfl rfl ?_
  refine J_get (v := .ref 51) dX11_reach_1 fl_X11_27 hk0 rfl ?_
  refine J_iload_n dX11_reach_4 rfl rfl ?_
  refine J_callV (st := []) dX11_reach_5 cv_X11_135 (c_X0_has_2 hk51) hk51 rfl rfl (Nat.le_of_ble_eq_true rfl) ⟨(Nat.le_of_ble_eq_true rfl), (Nat.le_of_ble_eq_true rfl)⟩ ⟨(Nat.le_of_ble_eq_true rfl), (Nat.le_of_ble_eq_true rfl)⟩ (fun r h9 hp => ?_)
  obtain ⟨rfl, rfl⟩ := hp
  refine J_nf (nh2 := 135) (ck2 := 0) (sk2 := 0) (st2 := [.int 1]) rfl rfl rfl rfl ?_
  refine J_if_ne (tgt := 13) dX11_reach_8 (by decide) (fun _ => ?_) (fun q => absurd q (by decide +kernel))
  refine J_aload_n dX11_reach_13 rfl rfl ?_
  refine J_get (v := .ref 57) dX11_reach_14 fl_X11_43 hk0 rfl ?_
  refine J_callV (st := []) dX11_reach_17 cv_X11_217 (c_X9_prepare_1 hk1 hk3 hk51 hk57 hk58 hk59 hk62 hk63) hk57 rfl rfl (Nat.le_of_ble_eq_true rfl) ⟨(Nat.le_of_ble_eq_true rfl), (Nat.le_of_ble_eq_true rfl)⟩ ⟨(Nat.le_of_ble_eq_true rfl), (Nat.le_of_ble_eq_true rfl)⟩ (fun r h9 hp => ?_)
  obtain ⟨rfl, rfl⟩ := hp
  refine J_nf (nh2 := 136) (ck2 := 1) (sk2 := 22) (st2 := []) rfl rfl rfl rfl ?_
  refine J_app (L3 := [(57, .inr (9, [.ref 1, .ref 51, .ref 58, .ref 61, .ref 62, .ref 135, .ref 64, .int 0, .int 0, .int 0])), (62, .inl (0, 1260, .inl (upd (fun _ => 0) 0 (-1)))), (135, .inl (0, 22, .inl (fun _ => 0))), (59, .inl (0, 8, .inl (upd (upd (fun _ => 0) 6 0) 7 0)))]) rfl ?_
  refine J_aload_n dX11_reach_20 rfl rfl ?_
  refine J_get (v := .ref 65) dX11_reach_21 fl_X11_52 hk0 rfl ?_
  refine J_iload_n dX11_reach_24 rfl rfl ?_
  refine J_iload_n dX11_reach_25 rfl rfl ?_
  refine J_callV (st := []) dX11_reach_26 cv_X11_242 (c_X10_reachOf_1 (a2) b_a2 hk1 hk3 hk51 hk52 rfl rfl hk65 hk66 hk67 hk68) hk65 rfl rfl (Nat.le_of_ble_eq_true rfl) ⟨(Nat.le_of_ble_eq_true rfl), (Nat.le_of_ble_eq_true rfl)⟩ ⟨(Nat.le_of_ble_eq_true rfl), (Nat.le_of_ble_eq_true rfl)⟩ (fun r h9 hp => ?_)
  obtain ⟨rfl, rfl⟩ := hp
  refine J_nf (nh2 := 136) (ck2 := 1) (sk2 := 22) (st2 := [.int (-1)]) rfl rfl rfl rfl ?_
  refine J_app (L3 := [(62, .inl (0, 1260, .inl (upd (upd (fun _ => 0) 0 (-1)) 0 0))), (65, .inr (10, [.ref 51, .ref 57, .ref 66, .ref 67, .ref 68, .int 1, .int 0, .int 0, .ref 69, .ref 70, .ref 71, .ref 72, .int 0, .int (-1), .int (-1), .ref 73, .ref 74])), (68, .inl (0, 1260, .inl (upd (fun _ => 0) 0 0))), (67, .inl (0, 1260, .inl (upd (fun _ => 0) 0 1))), (66, .inl (0, 1260, .inl (upd (upd (fun _ => 0) 0 (-1)) 0 0))), (57, .inr (9, [.ref 1, .ref 51, .ref 58, .ref 61, .ref 62, .ref 135, .ref 64, .int 0, .int 0, .int 0])), (62, .inl (0, 1260, .inl (upd (fun _ => 0) 0 (-1)))), (135, .inl (0, 22, .inl (fun _ => 0))), (59, .inl (0, 8, .inl (upd (upd (fun _ => 0) 6 0) 7 0)))]) rfl ?_
  refine J_mask (L2 := [(62, .inl (0, 1260, .inl (upd (upd (fun _ => 0) 0 (-1)) 0 0))), (65, .inr (10, [.ref 51, .ref 57, .ref 66, .ref 67, .ref 68, .int 1, .int 0, .int 0, .ref 69, .ref 70, .ref 71, .ref 72, .int 0, .int (-1), .int (-1), .ref 73, .ref 74])), (68, .inl (0, 1260, .inl (upd (fun _ => 0) 0 0))), (67, .inl (0, 1260, .inl (upd (fun _ => 0) 0 1))), (66, .inl (0, 1260, .inl (upd (upd (fun _ => 0) 0 (-1)) 0 0))), (57, .inr (9, [.ref 1, .ref 51, .ref 58, .ref 61, .ref 62, .ref 135, .ref 64, .int 0, .int 0, .int 0])), (135, .inl (0, 22, .inl (fun _ => 0))), (59, .inl (0, 8, .inl (upd (upd (fun _ => 0) 6 0) 7 0)))]) (ks := [62, 65, 68, 67, 66, 57, 62, 135, 59]) [true, true, true, true, true, true, false, true, true] rfl (by decide +kernel) rfl ?_
  exact J_iret dX11_reach_29 rfl rfl (Nat.le_of_ble_eq_true rfl) (Nat.le_of_ble_eq_true rfl) ⟨rfl, rfl⟩
set_option maxHeartbeats 4000000 in
set_option maxRecDepth 100000 in
theorem c_X12_lies_41 {l : Launch} {G : jG} {nh : Nat} {fh : Nat → Option va_E} (a0 : Int32) (b_a0 : (-2147483648) ≤ a0.toInt ∧ a0.toInt ≤ (-1)) : JM l G yX12_lies MX12_lies { frames := 0, cells := 0, slots := 0, locals := 0 } [.int a0, .int 0, .int 3] (nh, fh) (fun r h9 => r = some (.int 0) ∧ h9 = (nh, fh)) := by
  refine JM.of (by decide) rfl (fun h => by cases h) (Nat.le_of_ble_eq_true rfl) ⟨0, rfl⟩ ?_
  refine J_hc0 (J_ls (ls2 := [some (.int a0), some (.int 0), some (.int 3)]) rfl ?_)
  refine J_iload_n dX12_lies_0 rfl rfl ?_
  refine J_iload_n dX12_lies_1 rfl rfl ?_
  refine J_icmp_lt (tgt := 14) dX12_lies_2 (by decide) (fun _ => ?_) (fun q => absurd (by have hb0 := b_a0; simp only [fa_lt, fa_le, fa_eq, kc_0]; omega) q)
  refine J_iconst (v := 0) dX12_lies_14 (by decide) ?_
  exact J_iret dX12_lies_15 rfl (by decide +kernel) (Nat.le_of_ble_eq_true rfl) (Nat.le_of_ble_eq_true rfl) ⟨rfl, rfl⟩
set_option maxHeartbeats 4000000 in
set_option maxRecDepth 100000 in
theorem c_X12_reach_2 {l : Launch} {G : jG} {nh : Nat} {fh : Nat → Option va_E} (a2 : Int32) (b_a2 : (-2147483648) ≤ a2.toInt ∧ a2.toInt ≤ (-1)) (hk98 : fh 98 = some (.inr (12, [.int 0, .int 0, .ref 99, .ref 100, .ref 101, .ref 102, .ref 103, .ref 104, .ref 105, .int 0, .int (-1), .ref 106, .ref 107, .ref 108, .int 0, .int 0, .int 0, .int 0, .int 0, .int 0, .int 0, .ref 109, .int 0, .int 0, .ref 110, .ref 111, .ref 112, .ref 113, .ref 114, .ref 115, .ref 116, .ref 117, .int 0, .int 0, .int (-1), .int (-1), .ref 118, .ref 119, .ref 120, .ref 121, .ref 122, .ref 123, .ref 124, .ref 125, .ref 126, .ref 127, .ref 128, .ref 129, .int 0, .ref 130, .ref 131, .ref 132, .ref 133, .ref 134, .int 0, .int 0]))) (hk100 : fh 100 = some (.inl (0, 4870, .inl (upd (fun _ => 0) 63 (-1))))) (hk111 : fh 111 = some (.inl (0, 1260, .inl (fun _ => 0)))) : JM l G yX12_reach MX12_reach { frames := 3, cells := 0, slots := 0, locals := 69 } [.ref 98, .int 0, .int a2] (nh, fh) (fun r h9 => r = some (.int (-1)) ∧ h9 = (nh, hc fh [(98, .inr (12, [.int 0, .int 0, .ref 99, .ref 100, .ref 101, .ref 102, .ref 103, .ref 104, .ref 105, .int 0, .int (-1), .ref 106, .ref 107, .ref 108, .int 0, .int 0, .int 0, .int 0, .int 0, .int 0, .int 0, .ref 109, .int 0, .int 0, .ref 110, .ref 111, .ref 112, .ref 113, .ref 114, .ref 115, .ref 116, .ref 117, .int 1, .int 0, .int 0, .int (-1), .ref 118, .ref 119, .ref 120, .ref 121, .ref 122, .ref 123, .ref 124, .ref 125, .ref 126, .ref 127, .ref 128, .ref 129, .int 0, .ref 130, .ref 131, .ref 132, .ref 133, .ref 134, .int 0, .int 0])), (111, .inl (0, 1260, .inl (upd (fun _ => 0) 0 0)))])) := by
  refine JM.of (by decide) rfl (fun h => by cases h) (Nat.le_of_ble_eq_true rfl) ⟨5, rfl⟩ ?_
  refine J_hc0 (J_ls (ls2 := [some (.ref 98), some (.int 0), some (.int a2), none, none, none, none, none]) rfl ?_)
  refine J_aload_n dX12_reach_0 rfl rfl ?_
  refine J_iload_n dX12_reach_1 rfl rfl ?_
  refine J_callV (st := []) dX12_reach_2 cv_X12_325 (c_X12_isHouse_2 hk98 hk100 hk111) hk98 rfl rfl (Nat.le_of_ble_eq_true rfl) ⟨(Nat.le_of_ble_eq_true rfl), (Nat.le_of_ble_eq_true rfl)⟩ ⟨(Nat.le_of_ble_eq_true rfl), (Nat.le_of_ble_eq_true rfl)⟩ (fun r h9 hp => ?_)
  obtain ⟨rfl, rfl⟩ := hp
  refine J_nf (nh2 := nh) (ck2 := 0) (sk2 := 0) (st2 := [.int 1]) rfl rfl rfl rfl ?_
  refine J_app (L3 := [(98, .inr (12, [.int 0, .int 0, .ref 99, .ref 100, .ref 101, .ref 102, .ref 103, .ref 104, .ref 105, .int 0, .int (-1), .ref 106, .ref 107, .ref 108, .int 0, .int 0, .int 0, .int 0, .int 0, .int 0, .int 0, .ref 109, .int 0, .int 0, .ref 110, .ref 111, .ref 112, .ref 113, .ref 114, .ref 115, .ref 116, .ref 117, .int 1, .int 0, .int 0, .int (-1), .ref 118, .ref 119, .ref 120, .ref 121, .ref 122, .ref 123, .ref 124, .ref 125, .ref 126, .ref 127, .ref 128, .ref 129, .int 0, .ref 130, .ref 131, .ref 132, .ref 133, .ref 134, .int 0, .int 0])), (111, .inl (0, 1260, .inl (upd (fun _ => 0) 0 0)))]) rfl ?_
  refine J_if_eq (tgt := 17) dX12_reach_5 (by decide) (fun q => absurd q (by decide +kernel)) (fun _ => ?_)
  refine J_iload_n dX12_reach_8 rfl rfl ?_
  refine J_iconst (v := 0) dX12_reach_9 (by decide) ?_
  refine J_iconst (v := 3) dX12_reach_10 (by decide) ?_
  refine J_callS (st := []) dX12_reach_11 cs_X12_138 (c_X12_lies_41 (a2) b_a2) rfl rfl (Nat.le_of_ble_eq_true rfl) ⟨(Nat.le_of_ble_eq_true rfl), (Nat.le_of_ble_eq_true rfl)⟩ ⟨(Nat.le_of_ble_eq_true rfl), (Nat.le_of_ble_eq_true rfl)⟩ (fun r h9 hp => ?_)
  obtain ⟨rfl, rfl⟩ := hp
  refine J_nf (nh2 := nh) (ck2 := 0) (sk2 := 0) (st2 := [.int 0]) rfl rfl rfl rfl ?_
  refine J_if_ne (tgt := 19) dX12_reach_14 (by decide) (fun q => absurd (by decide +kernel) q) (fun _ => ?_)
  refine J_iconst (v := (-1)) dX12_reach_17 (by decide) ?_
  exact J_iret dX12_reach_18 rfl rfl (Nat.le_of_ble_eq_true rfl) (Nat.le_of_ble_eq_true rfl) ⟨rfl, rfl⟩
set_option maxHeartbeats 4000000 in
set_option maxRecDepth 100000 in
theorem c_X10_reachOf_2 {l : Launch} {G : jG} {nh : Nat} {fh : Nat → Option va_E} (hk1 : fh 1 = some (.inr (8, [.ref 2, .ref 3, .ref 4, .int 0, .int (-1), .ref 11, .ref 12, .int 0, .ref 13, .ref 14, .int 0, .ref 15, .ref 16, .int 0]))) (hk3 : fh 3 = some (.inl (0, 2, .inl (fun _ => 0)))) (hk51 : fh 51 = some (.inr (0, [.ref 52, .ref 53, .int 1, .int 0]))) (hk52 : fh 52 = some (.inl (0, 1260, .inl (upd (fun _ => 0) 0 0)))) (hk57 : fh 57 = some (.inr (9, [.ref 1, .ref 51, .ref 58, .ref 61, .ref 62, .ref 135, .ref 64, .int 0, .int 0, .int 0]))) (hk62 : fh 62 = some (.inl (0, 1260, .inl (upd (fun _ => 0) 0 (-1))))) (hk65 : fh 65 = some (.inr (10, [.ref 51, .ref 57, .ref 66, .ref 67, .ref 68, .int 0, .int (-1), .int (-1), .ref 69, .ref 70, .ref 71, .ref 72, .int 0, .int (-1), .int (-1), .ref 73, .ref 74]))) (hk66 : fh 66 = some (.inl (0, 1260, .inl (fun _ => 0)))) (hk67 : fh 67 = some (.inl (0, 1260, .inl (fun _ => 0)))) (hk68 : fh 68 = some (.inl (0, 1260, .inl (fun _ => 0)))) : JM l G yX10_reachOf MX10_reachOf { frames := 6, cells := 0, slots := 0, locals := 142 } [.ref 65, .int 0, .int 0] (nh, fh) (fun r h9 => r = some (.int 1) ∧ h9 = (nh, hc fh [(62, .inl (0, 1260, .inl (upd (upd (fun _ => 0) 0 (-1)) 0 0))), (65, .inr (10, [.ref 51, .ref 57, .ref 66, .ref 67, .ref 68, .int 1, .int 0, .int 0, .ref 69, .ref 70, .ref 71, .ref 72, .int 0, .int (-1), .int (-1), .ref 73, .ref 74])), (68, .inl (0, 1260, .inl (upd (fun _ => 0) 0 0))), (67, .inl (0, 1260, .inl (upd (fun _ => 0) 0 1))), (66, .inl (0, 1260, .inl (upd (upd (fun _ => 0) 0 (-1)) 0 0)))])) := by
  refine JM.of (by decide) rfl (fun h => by cases h) (Nat.le_of_ble_eq_true rfl) ⟨4, rfl⟩ ?_
  refine J_hc0 (J_ls (ls2 := [some (.ref 65), some (.int 0), some (.int 0), none, none, none, none]) rfl ?_)
  refine J_aload_n dX10_reachOf_0 rfl rfl ?_
  refine J_iload_n dX10_reachOf_1 rfl rfl ?_
  refine J_callV (st := []) dX10_reachOf_2 cv_X10_67 (c_X10_walkFrom_1 hk1 hk3 hk51 hk52 hk57 hk62 hk65 hk66 hk67 hk68) hk65 rfl rfl (Nat.le_of_ble_eq_true rfl) ⟨(Nat.le_of_ble_eq_true rfl), (Nat.le_of_ble_eq_true rfl)⟩ ⟨(Nat.le_of_ble_eq_true rfl), (Nat.le_of_ble_eq_true rfl)⟩ (fun r h9 hp => ?_)
  obtain ⟨rfl, rfl⟩ := hp
  refine J_nf (nh2 := nh) (ck2 := 0) (sk2 := 0) (st2 := []) rfl rfl rfl rfl ?_
  refine J_app (L3 := [(62, .inl (0, 1260, .inl (upd (upd (fun _ => 0) 0 (-1)) 0 0))), (65, .inr (10, [.ref 51, .ref 57, .ref 66, .ref 67, .ref 68, .int 1, .int 0, .int 0, .ref 69, .ref 70, .ref 71, .ref 72, .int 0, .int (-1), .int (-1), .ref 73, .ref 74])), (68, .inl (0, 1260, .inl (upd (fun _ => 0) 0 0))), (67, .inl (0, 1260, .inl (upd (fun _ => 0) 0 1))), (66, .inl (0, 1260, .inl (upd (upd (fun _ => 0) 0 (-1)) 0 0)))]) rfl ?_
  refine J_aload_n dX10_reachOf_5 rfl rfl ?_
  refine J_get (v := .ref 66) dX10_reachOf_6 fl_X10_9 rfl rfl ?_
  refine J_aload_n dX10_reachOf_9 rfl rfl ?_
  refine J_get (v := .ref 68) dX10_reachOf_10 fl_X10_18 rfl rfl ?_
  refine J_aload_n dX10_reachOf_13 rfl rfl ?_
  refine J_get (v := .int 1) dX10_reachOf_14 fl_X10_21 rfl rfl ?_
  refine J_iconst (v := 1) dX10_reachOf_17 (by decide) ?_
  refine J_isub (z := 0) dX10_reachOf_18 (by decide +kernel) ?_
  refine J_iald (i2 := 0) (v := 0) dX10_reachOf_19 rfl rfl (jin (by decide +kernel)) (by decide +kernel) rfl ?_
  refine J_iald (i2 := 0) (v := 0) dX10_reachOf_20 rfl rfl (jin (by decide +kernel)) (by decide +kernel) rfl ?_
  refine J_istore_n dX10_reachOf_21 rfl (Nat.le_of_ble_eq_true rfl) rfl ?_
  refine J_iconst (v := 0) dX10_reachOf_22 (by decide) ?_
  refine J_istore dX10_reachOf_23 (Nat.le_of_ble_eq_true rfl) rfl ?_
  refine J_sipush (v := 1260) dX10_reachOf_25 (by decide +kernel) ?_
  refine J_istore dX10_reachOf_28 (Nat.le_of_ble_eq_true rfl) rfl ?_
  refine J_aload_n dX10_reachOf_30 rfl rfl ?_
  refine J_get (v := .int 1) dX10_reachOf_31 fl_X10_21 rfl rfl ?_
  refine J_iconst (v := 1) dX10_reachOf_34 (by decide) ?_
  refine J_isub (z := 0) dX10_reachOf_35 (by decide +kernel) ?_
  refine J_istore dX10_reachOf_36 (Nat.le_of_ble_eq_true rfl) rfl ?_
  refine J_iload dX10_reachOf_38 rfl ?_
  refine J_if_lt (tgt := 82) dX10_reachOf_40 (by decide) (fun q => absurd q (by decide +kernel)) (fun _ => ?_)
  refine J_aload_n dX10_reachOf_43 rfl rfl ?_
  refine J_get (v := .ref 66) dX10_reachOf_44 fl_X10_9 rfl rfl ?_
  refine J_aload_n dX10_reachOf_47 rfl rfl ?_
  refine J_get (v := .ref 68) dX10_reachOf_48 fl_X10_18 rfl rfl ?_
  refine J_iload dX10_reachOf_51 rfl ?_
  refine J_iald (i2 := 0) (v := 0) dX10_reachOf_53 rfl rfl (jin (by decide +kernel)) (by decide +kernel) rfl ?_
  refine J_iald (i2 := 0) (v := 0) dX10_reachOf_54 rfl rfl (jin (by decide +kernel)) (by decide +kernel) rfl ?_
  refine J_iload_n dX10_reachOf_55 rfl rfl ?_
  refine J_icmp_ne (tgt := 82) dX10_reachOf_56 (by decide) (fun q => absurd (by decide +kernel) q) (fun _ => ?_)
  refine J_iinc (v := 1) dX10_reachOf_59 rfl (by decide +kernel) (Nat.le_of_ble_eq_true rfl) rfl ?_
  refine J_ls (ls2 := [some (.ref 65), some (.int 0), some (.int 0), some (.int 0), some (.int 1), some (.int 1260), some (.int 0)]) rfl ?_
  refine J_iload dX10_reachOf_62 rfl ?_
  refine J_aload_n dX10_reachOf_64 rfl rfl ?_
  refine J_get (v := .ref 68) dX10_reachOf_65 fl_X10_18 rfl rfl ?_
  refine J_iload dX10_reachOf_68 rfl ?_
  refine J_iald (i2 := 0) (v := 0) dX10_reachOf_70 rfl rfl (jin (by decide +kernel)) (by decide +kernel) rfl ?_
  refine J_mmin (z := 0) dX10_reachOf_71 (jt4 236 rfl rfl) (jt3 222 rfl rfl) (jt1 19 rfl rfl) (jt3 223 rfl rfl) (Nat.le_of_ble_eq_true rfl) (Nat.le_of_ble_eq_true rfl) (Nat.le_of_ble_eq_true rfl) (Nat.le_of_ble_eq_true rfl) (by decide +kernel) ?_
  refine J_istore dX10_reachOf_74 (Nat.le_of_ble_eq_true rfl) rfl ?_
  refine J_iinc (v := (-1)) dX10_reachOf_76 rfl (by decide +kernel) (Nat.le_of_ble_eq_true rfl) rfl ?_
  refine J_ls (ls2 := [some (.ref 65), some (.int 0), some (.int 0), some (.int 0), some (.int 1), some (.int 0), some (.int (-1))]) rfl ?_
  refine J_goto (tgt := 38) dX10_reachOf_79 (by decide) ?_
  refine J_iload dX10_reachOf_38 rfl ?_
  refine J_if_lt (tgt := 82) dX10_reachOf_40 (by decide) (fun _ => ?_) (fun q => absurd (by decide +kernel) q)
  refine J_iload_n dX10_reachOf_82 rfl rfl ?_
  refine J_tableIn (tgt := 112) dX10_reachOf_83 (by decide +kernel) (by decide +kernel) (off := 29) (by decide +kernel) (by decide) ?_
  refine J_aload_n dX10_reachOf_112 rfl rfl ?_
  refine J_get (v := .int 1) dX10_reachOf_113 fl_X10_21 rfl rfl ?_
  exact J_iret dX10_reachOf_116 rfl rfl (Nat.le_of_ble_eq_true rfl) (Nat.le_of_ble_eq_true rfl) ⟨rfl, rfl⟩
set_option maxHeartbeats 4000000 in
set_option maxRecDepth 100000 in
theorem c_X11_reach_3 {l : Launch} {G : jG} {fh : Nat → Option va_E} (hk0 : fh 0 = some (.inr (11, [.ref 1, .ref 17, .ref 50, .ref 51, .ref 54, .ref 57, .ref 65, .ref 75, .ref 81, .ref 85, .ref 88, .ref 93, .ref 96, .int 0, .int (-1), .ref 97, .int 0]))) (hk1 : fh 1 = some (.inr (8, [.ref 2, .ref 3, .ref 4, .int 0, .int (-1), .ref 11, .ref 12, .int 0, .ref 13, .ref 14, .int 0, .ref 15, .ref 16, .int 0]))) (hk3 : fh 3 = some (.inl (0, 2, .inl (fun _ => 0)))) (hk51 : fh 51 = some (.inr (0, [.ref 52, .ref 53, .int 1, .int 0]))) (hk52 : fh 52 = some (.inl (0, 1260, .inl (upd (fun _ => 0) 0 0)))) (hk57 : fh 57 = some (.inr (9, [.ref 1, .ref 51, .ref 58, .ref 61, .ref 62, .ref 63, .ref 64, .int 0, .int 1, .int 1]))) (hk58 : fh 58 = some (.inr (1, [.ref 59, .ref 60, .int 0, .int 0, .int 0, .int 0, .int 0, .int 1]))) (hk59 : fh 59 = some (.inl (0, 8, .inl (fun _ => 0)))) (hk62 : fh 62 = some (.inl (0, 1260, .inl (fun _ => 0)))) (hk63 : fh 63 = some (.inl (0, 0, .inl (fun _ => 0)))) (hk65 : fh 65 = some (.inr (10, [.ref 51, .ref 57, .ref 66, .ref 67, .ref 68, .int 0, .int (-1), .int (-1), .ref 69, .ref 70, .ref 71, .ref 72, .int 0, .int (-1), .int (-1), .ref 73, .ref 74]))) (hk66 : fh 66 = some (.inl (0, 1260, .inl (fun _ => 0)))) (hk67 : fh 67 = some (.inl (0, 1260, .inl (fun _ => 0)))) (hk68 : fh 68 = some (.inl (0, 1260, .inl (fun _ => 0)))) : JM l G yX11_reach MX11_reach { frames := 7, cells := 1, slots := 22, locals := 168 } [.ref 0, .int 0, .int 0] (135, fh) (fun r h9 => r = some (.int 1) ∧ h9 = (136, hc fh [(62, .inl (0, 1260, .inl (upd (upd (fun _ => 0) 0 (-1)) 0 0))), (65, .inr (10, [.ref 51, .ref 57, .ref 66, .ref 67, .ref 68, .int 1, .int 0, .int 0, .ref 69, .ref 70, .ref 71, .ref 72, .int 0, .int (-1), .int (-1), .ref 73, .ref 74])), (68, .inl (0, 1260, .inl (upd (fun _ => 0) 0 0))), (67, .inl (0, 1260, .inl (upd (fun _ => 0) 0 1))), (66, .inl (0, 1260, .inl (upd (upd (fun _ => 0) 0 (-1)) 0 0))), (57, .inr (9, [.ref 1, .ref 51, .ref 58, .ref 61, .ref 62, .ref 135, .ref 64, .int 0, .int 0, .int 0])), (135, .inl (0, 22, .inl (fun _ => 0))), (59, .inl (0, 8, .inl (upd (upd (fun _ => 0) 6 0) 7 0)))])) := by
  refine JM.of (by decide) rfl (fun h => by cases h) (Nat.le_of_ble_eq_true rfl) ⟨0, rfl⟩ ?_
  refine J_hc0 (J_ls (ls2 := [some (.ref 0), some (.int 0), some (.int 0)]) rfl ?_)
  refine J_aload_n dX11_reach_0 rfl rfl ?_
  refine J_get (v := .ref 51) dX11_reach_1 fl_X11_27 hk0 rfl ?_
  refine J_iload_n dX11_reach_4 rfl rfl ?_
  refine J_callV (st := []) dX11_reach_5 cv_X11_135 (c_X0_has_2 hk51) hk51 rfl rfl (Nat.le_of_ble_eq_true rfl) ⟨(Nat.le_of_ble_eq_true rfl), (Nat.le_of_ble_eq_true rfl)⟩ ⟨(Nat.le_of_ble_eq_true rfl), (Nat.le_of_ble_eq_true rfl)⟩ (fun r h9 hp => ?_)
  obtain ⟨rfl, rfl⟩ := hp
  refine J_nf (nh2 := 135) (ck2 := 0) (sk2 := 0) (st2 := [.int 1]) rfl rfl rfl rfl ?_
  refine J_if_ne (tgt := 13) dX11_reach_8 (by decide) (fun _ => ?_) (fun q => absurd q (by decide +kernel))
  refine J_aload_n dX11_reach_13 rfl rfl ?_
  refine J_get (v := .ref 57) dX11_reach_14 fl_X11_43 hk0 rfl ?_
  refine J_callV (st := []) dX11_reach_17 cv_X11_217 (c_X9_prepare_1 hk1 hk3 hk51 hk57 hk58 hk59 hk62 hk63) hk57 rfl rfl (Nat.le_of_ble_eq_true rfl) ⟨(Nat.le_of_ble_eq_true rfl), (Nat.le_of_ble_eq_true rfl)⟩ ⟨(Nat.le_of_ble_eq_true rfl), (Nat.le_of_ble_eq_true rfl)⟩ (fun r h9 hp => ?_)
  obtain ⟨rfl, rfl⟩ := hp
  refine J_nf (nh2 := 136) (ck2 := 1) (sk2 := 22) (st2 := []) rfl rfl rfl rfl ?_
  refine J_app (L3 := [(57, .inr (9, [.ref 1, .ref 51, .ref 58, .ref 61, .ref 62, .ref 135, .ref 64, .int 0, .int 0, .int 0])), (62, .inl (0, 1260, .inl (upd (fun _ => 0) 0 (-1)))), (135, .inl (0, 22, .inl (fun _ => 0))), (59, .inl (0, 8, .inl (upd (upd (fun _ => 0) 6 0) 7 0)))]) rfl ?_
  refine J_aload_n dX11_reach_20 rfl rfl ?_
  refine J_get (v := .ref 65) dX11_reach_21 fl_X11_52 hk0 rfl ?_
  refine J_iload_n dX11_reach_24 rfl rfl ?_
  refine J_iload_n dX11_reach_25 rfl rfl ?_
  refine J_callV (st := []) dX11_reach_26 cv_X11_242 (c_X10_reachOf_2 hk1 hk3 hk51 hk52 rfl rfl hk65 hk66 hk67 hk68) hk65 rfl rfl (Nat.le_of_ble_eq_true rfl) ⟨(Nat.le_of_ble_eq_true rfl), (Nat.le_of_ble_eq_true rfl)⟩ ⟨(Nat.le_of_ble_eq_true rfl), (Nat.le_of_ble_eq_true rfl)⟩ (fun r h9 hp => ?_)
  obtain ⟨rfl, rfl⟩ := hp
  refine J_nf (nh2 := 136) (ck2 := 1) (sk2 := 22) (st2 := [.int 1]) rfl rfl rfl rfl ?_
  refine J_app (L3 := [(62, .inl (0, 1260, .inl (upd (upd (fun _ => 0) 0 (-1)) 0 0))), (65, .inr (10, [.ref 51, .ref 57, .ref 66, .ref 67, .ref 68, .int 1, .int 0, .int 0, .ref 69, .ref 70, .ref 71, .ref 72, .int 0, .int (-1), .int (-1), .ref 73, .ref 74])), (68, .inl (0, 1260, .inl (upd (fun _ => 0) 0 0))), (67, .inl (0, 1260, .inl (upd (fun _ => 0) 0 1))), (66, .inl (0, 1260, .inl (upd (upd (fun _ => 0) 0 (-1)) 0 0))), (57, .inr (9, [.ref 1, .ref 51, .ref 58, .ref 61, .ref 62, .ref 135, .ref 64, .int 0, .int 0, .int 0])), (62, .inl (0, 1260, .inl (upd (fun _ => 0) 0 (-1)))), (135, .inl (0, 22, .inl (fun _ => 0))), (59, .inl (0, 8, .inl (upd (upd (fun _ => 0) 6 0) 7 0)))]) rfl ?_
  refine J_mask (L2 := [(62, .inl (0, 1260, .inl (upd (upd (fun _ => 0) 0 (-1)) 0 0))), (65, .inr (10, [.ref 51, .ref 57, .ref 66, .ref 67, .ref 68, .int 1, .int 0, .int 0, .ref 69, .ref 70, .ref 71, .ref 72, .int 0, .int (-1), .int (-1), .ref 73, .ref 74])), (68, .inl (0, 1260, .inl (upd (fun _ => 0) 0 0))), (67, .inl (0, 1260, .inl (upd (fun _ => 0) 0 1))), (66, .inl (0, 1260, .inl (upd (upd (fun _ => 0) 0 (-1)) 0 0))), (57, .inr (9, [.ref 1, .ref 51, .ref 58, .ref 61, .ref 62, .ref 135, .ref 64, .int 0, .int 0, .int 0])), (135, .inl (0, 22, .inl (fun _ => 0))), (59, .inl (0, 8, .inl (upd (upd (fun _ => 0) 6 0) 7 0)))]) (ks := [62, 65, 68, 67, 66, 57, 62, 135, 59]) [true, true, true, true, true, true, false, true, true] rfl (by decide +kernel) rfl ?_
  exact J_iret dX11_reach_29 rfl rfl (Nat.le_of_ble_eq_true rfl) (Nat.le_of_ble_eq_true rfl) ⟨rfl, rfl⟩
set_option maxHeartbeats 4000000 in
set_option maxRecDepth 100000 in
theorem c_X12_lies_42 {l : Launch} {G : jG} {nh : Nat} {fh : Nat → Option va_E}  : JM l G yX12_lies MX12_lies { frames := 0, cells := 0, slots := 0, locals := 0 } [.int 0, .int 0, .int 3] (nh, fh) (fun r h9 => r = some (.int 1) ∧ h9 = (nh, fh)) := by
  refine JM.of (by decide) rfl (fun h => by cases h) (Nat.le_of_ble_eq_true rfl) ⟨0, rfl⟩ ?_
  refine J_hc0 (J_ls (ls2 := [some (.int 0), some (.int 0), some (.int 3)]) rfl ?_)
  refine J_iload_n dX12_lies_0 rfl rfl ?_
  refine J_iload_n dX12_lies_1 rfl rfl ?_
  refine J_icmp_lt (tgt := 14) dX12_lies_2 (by decide) (fun q => absurd q (by decide +kernel)) (fun _ => ?_)
  refine J_iload_n dX12_lies_5 rfl rfl ?_
  refine J_iload_n dX12_lies_6 rfl rfl ?_
  refine J_icmp_gt (tgt := 14) dX12_lies_7 (by decide) (fun q => absurd q (by decide +kernel)) (fun _ => ?_)
  refine J_iconst (v := 1) dX12_lies_10 (by decide) ?_
  refine J_goto (tgt := 15) dX12_lies_11 (by decide) ?_
  exact J_iret dX12_lies_15 rfl (by decide +kernel) (Nat.le_of_ble_eq_true rfl) (Nat.le_of_ble_eq_true rfl) ⟨rfl, rfl⟩
set_option maxHeartbeats 4000000 in
set_option maxRecDepth 100000 in
theorem c_X12_reach_3 {l : Launch} {G : jG} {nh : Nat} {fh : Nat → Option va_E} (hk98 : fh 98 = some (.inr (12, [.int 0, .int 0, .ref 99, .ref 100, .ref 101, .ref 102, .ref 103, .ref 104, .ref 105, .int 0, .int (-1), .ref 106, .ref 107, .ref 108, .int 0, .int 0, .int 0, .int 0, .int 0, .int 0, .int 0, .ref 109, .int 0, .int 0, .ref 110, .ref 111, .ref 112, .ref 113, .ref 114, .ref 115, .ref 116, .ref 117, .int 0, .int 0, .int (-1), .int (-1), .ref 118, .ref 119, .ref 120, .ref 121, .ref 122, .ref 123, .ref 124, .ref 125, .ref 126, .ref 127, .ref 128, .ref 129, .int 0, .ref 130, .ref 131, .ref 132, .ref 133, .ref 134, .int 0, .int 0]))) (hk100 : fh 100 = some (.inl (0, 4870, .inl (upd (fun _ => 0) 63 (-1))))) (hk111 : fh 111 = some (.inl (0, 1260, .inl (fun _ => 0)))) (hk114 : fh 114 = some (.inl (0, 1260, .inl (fun _ => 0)))) (hk116 : fh 116 = some (.inl (0, 1260, .inl (fun _ => 0)))) (hk118 : fh 118 = some (.inl (0, 1260, .inl (fun _ => 0)))) (hk119 : fh 119 = some (.inl (1, 1260, .inr (.inl (fun _ => 0))))) (hk120 : fh 120 = some (.inl (0, 1260, .inl (fun _ => 0)))) : JM l G yX12_reach MX12_reach { frames := 3, cells := 0, slots := 0, locals := 69 } [.ref 98, .int 0, .int 0] (nh, fh) (fun r h9 => r = some (.int 1) ∧ h9 = (nh, hc fh [(120, .inl (0, 1260, .inl (upd (fun _ => 0) 0 0))), (119, .inl (1, 1260, .inr (.inl (vp_updL (vp_updL (fun _ => 0) 0 0) 0 1)))), (118, .inl (0, 1260, .inl (upd (upd (fun _ => 0) 0 (-1)) 0 0))), (114, .inl (0, 1260, .inl (upd (fun _ => 0) 0 0))), (116, .inl (0, 1260, .inl (upd (fun _ => 0) 0 0))), (98, .inr (12, [.int 0, .int 0, .ref 99, .ref 100, .ref 101, .ref 102, .ref 103, .ref 104, .ref 105, .int 0, .int (-1), .ref 106, .ref 107, .ref 108, .int 0, .int 0, .int 0, .int 0, .int 0, .int 0, .int 0, .ref 109, .int 0, .int 0, .ref 110, .ref 111, .ref 112, .ref 113, .ref 114, .ref 115, .ref 116, .ref 117, .int 1, .int 0, .int 0, .int 0, .ref 118, .ref 119, .ref 120, .ref 121, .ref 122, .ref 123, .ref 124, .ref 125, .ref 126, .ref 127, .ref 128, .ref 129, .int 0, .ref 130, .ref 131, .ref 132, .ref 133, .ref 134, .int 0, .int 0])), (111, .inl (0, 1260, .inl (upd (fun _ => 0) 0 0)))])) := by
  refine JM.of (by decide) rfl (fun h => by cases h) (Nat.le_of_ble_eq_true rfl) ⟨5, rfl⟩ ?_
  refine J_hc0 (J_ls (ls2 := [some (.ref 98), some (.int 0), some (.int 0), none, none, none, none, none]) rfl ?_)
  refine J_aload_n dX12_reach_0 rfl rfl ?_
  refine J_iload_n dX12_reach_1 rfl rfl ?_
  refine J_callV (st := []) dX12_reach_2 cv_X12_325 (c_X12_isHouse_2 hk98 hk100 hk111) hk98 rfl rfl (Nat.le_of_ble_eq_true rfl) ⟨(Nat.le_of_ble_eq_true rfl), (Nat.le_of_ble_eq_true rfl)⟩ ⟨(Nat.le_of_ble_eq_true rfl), (Nat.le_of_ble_eq_true rfl)⟩ (fun r h9 hp => ?_)
  obtain ⟨rfl, rfl⟩ := hp
  refine J_nf (nh2 := nh) (ck2 := 0) (sk2 := 0) (st2 := [.int 1]) rfl rfl rfl rfl ?_
  refine J_app (L3 := [(98, .inr (12, [.int 0, .int 0, .ref 99, .ref 100, .ref 101, .ref 102, .ref 103, .ref 104, .ref 105, .int 0, .int (-1), .ref 106, .ref 107, .ref 108, .int 0, .int 0, .int 0, .int 0, .int 0, .int 0, .int 0, .ref 109, .int 0, .int 0, .ref 110, .ref 111, .ref 112, .ref 113, .ref 114, .ref 115, .ref 116, .ref 117, .int 1, .int 0, .int 0, .int (-1), .ref 118, .ref 119, .ref 120, .ref 121, .ref 122, .ref 123, .ref 124, .ref 125, .ref 126, .ref 127, .ref 128, .ref 129, .int 0, .ref 130, .ref 131, .ref 132, .ref 133, .ref 134, .int 0, .int 0])), (111, .inl (0, 1260, .inl (upd (fun _ => 0) 0 0)))]) rfl ?_
  refine J_if_eq (tgt := 17) dX12_reach_5 (by decide) (fun q => absurd q (by decide +kernel)) (fun _ => ?_)
  refine J_iload_n dX12_reach_8 rfl rfl ?_
  refine J_iconst (v := 0) dX12_reach_9 (by decide) ?_
  refine J_iconst (v := 3) dX12_reach_10 (by decide) ?_
  refine J_callS (st := []) dX12_reach_11 cs_X12_138 (c_X12_lies_42 ) rfl rfl (Nat.le_of_ble_eq_true rfl) ⟨(Nat.le_of_ble_eq_true rfl), (Nat.le_of_ble_eq_true rfl)⟩ ⟨(Nat.le_of_ble_eq_true rfl), (Nat.le_of_ble_eq_true rfl)⟩ (fun r h9 hp => ?_)
  obtain ⟨rfl, rfl⟩ := hp
  refine J_nf (nh2 := nh) (ck2 := 0) (sk2 := 0) (st2 := [.int 1]) rfl rfl rfl rfl ?_
  refine J_if_ne (tgt := 19) dX12_reach_14 (by decide) (fun _ => ?_) (fun q => absurd q (by decide +kernel))
  refine J_aload_n dX12_reach_19 rfl rfl ?_
  refine J_callV (st := []) dX12_reach_20 cv_X12_328 (c_X12_looks_1 rfl hk100 hk114 hk116) rfl rfl rfl (Nat.le_of_ble_eq_true rfl) ⟨(Nat.le_of_ble_eq_true rfl), (Nat.le_of_ble_eq_true rfl)⟩ ⟨(Nat.le_of_ble_eq_true rfl), (Nat.le_of_ble_eq_true rfl)⟩ (fun r h9 hp => ?_)
  obtain ⟨rfl, rfl⟩ := hp
  refine J_nf (nh2 := nh) (ck2 := 0) (sk2 := 0) (st2 := []) rfl rfl rfl rfl ?_
  refine J_app (L3 := [(114, .inl (0, 1260, .inl (upd (fun _ => 0) 0 0))), (116, .inl (0, 1260, .inl (upd (fun _ => 0) 0 0))), (98, .inr (12, [.int 0, .int 0, .ref 99, .ref 100, .ref 101, .ref 102, .ref 103, .ref 104, .ref 105, .int 0, .int (-1), .ref 106, .ref 107, .ref 108, .int 0, .int 0, .int 0, .int 0, .int 0, .int 0, .int 0, .ref 109, .int 0, .int 0, .ref 110, .ref 111, .ref 112, .ref 113, .ref 114, .ref 115, .ref 116, .ref 117, .int 1, .int 0, .int 0, .int 0, .ref 118, .ref 119, .ref 120, .ref 121, .ref 122, .ref 123, .ref 124, .ref 125, .ref 126, .ref 127, .ref 128, .ref 129, .int 0, .ref 130, .ref 131, .ref 132, .ref 133, .ref 134, .int 0, .int 0])), (98, .inr (12, [.int 0, .int 0, .ref 99, .ref 100, .ref 101, .ref 102, .ref 103, .ref 104, .ref 105, .int 0, .int (-1), .ref 106, .ref 107, .ref 108, .int 0, .int 0, .int 0, .int 0, .int 0, .int 0, .int 0, .ref 109, .int 0, .int 0, .ref 110, .ref 111, .ref 112, .ref 113, .ref 114, .ref 115, .ref 116, .ref 117, .int 1, .int 0, .int 0, .int (-1), .ref 118, .ref 119, .ref 120, .ref 121, .ref 122, .ref 123, .ref 124, .ref 125, .ref 126, .ref 127, .ref 128, .ref 129, .int 0, .ref 130, .ref 131, .ref 132, .ref 133, .ref 134, .int 0, .int 0])), (111, .inl (0, 1260, .inl (upd (fun _ => 0) 0 0)))]) rfl ?_
  refine J_aload_n dX12_reach_23 rfl rfl ?_
  refine J_iload_n dX12_reach_24 rfl rfl ?_
  refine J_callV (st := []) dX12_reach_25 cv_X12_334 (c_X12_measures_1 rfl rfl hk118 hk119 hk120) rfl rfl rfl (Nat.le_of_ble_eq_true rfl) ⟨(Nat.le_of_ble_eq_true rfl), (Nat.le_of_ble_eq_true rfl)⟩ ⟨(Nat.le_of_ble_eq_true rfl), (Nat.le_of_ble_eq_true rfl)⟩ (fun r h9 hp => ?_)
  obtain ⟨rfl, rfl⟩ := hp
  refine J_nf (nh2 := nh) (ck2 := 0) (sk2 := 0) (st2 := [.int 1]) rfl rfl rfl rfl ?_
  refine J_app (L3 := [(120, .inl (0, 1260, .inl (upd (fun _ => 0) 0 0))), (119, .inl (1, 1260, .inr (.inl (vp_updL (vp_updL (fun _ => 0) 0 0) 0 1)))), (118, .inl (0, 1260, .inl (upd (upd (fun _ => 0) 0 (-1)) 0 0))), (114, .inl (0, 1260, .inl (upd (fun _ => 0) 0 0))), (116, .inl (0, 1260, .inl (upd (fun _ => 0) 0 0))), (98, .inr (12, [.int 0, .int 0, .ref 99, .ref 100, .ref 101, .ref 102, .ref 103, .ref 104, .ref 105, .int 0, .int (-1), .ref 106, .ref 107, .ref 108, .int 0, .int 0, .int 0, .int 0, .int 0, .int 0, .int 0, .ref 109, .int 0, .int 0, .ref 110, .ref 111, .ref 112, .ref 113, .ref 114, .ref 115, .ref 116, .ref 117, .int 1, .int 0, .int 0, .int 0, .ref 118, .ref 119, .ref 120, .ref 121, .ref 122, .ref 123, .ref 124, .ref 125, .ref 126, .ref 127, .ref 128, .ref 129, .int 0, .ref 130, .ref 131, .ref 132, .ref 133, .ref 134, .int 0, .int 0])), (98, .inr (12, [.int 0, .int 0, .ref 99, .ref 100, .ref 101, .ref 102, .ref 103, .ref 104, .ref 105, .int 0, .int (-1), .ref 106, .ref 107, .ref 108, .int 0, .int 0, .int 0, .int 0, .int 0, .int 0, .int 0, .ref 109, .int 0, .int 0, .ref 110, .ref 111, .ref 112, .ref 113, .ref 114, .ref 115, .ref 116, .ref 117, .int 1, .int 0, .int 0, .int (-1), .ref 118, .ref 119, .ref 120, .ref 121, .ref 122, .ref 123, .ref 124, .ref 125, .ref 126, .ref 127, .ref 128, .ref 129, .int 0, .ref 130, .ref 131, .ref 132, .ref 133, .ref 134, .int 0, .int 0])), (111, .inl (0, 1260, .inl (upd (fun _ => 0) 0 0)))]) rfl ?_
  refine J_istore_n dX12_reach_28 rfl (Nat.le_of_ble_eq_true rfl) rfl ?_
  refine J_aload_n dX12_reach_29 rfl rfl ?_
  refine J_get (v := .ref 118) dX12_reach_30 fl_X12_85 rfl rfl ?_
  refine J_aload_n dX12_reach_33 rfl rfl ?_
  refine J_get (v := .ref 120) dX12_reach_34 fl_X12_92 rfl rfl ?_
  refine J_iload_n dX12_reach_37 rfl rfl ?_
  refine J_iconst (v := 1) dX12_reach_38 (by decide) ?_
  refine J_isub (z := 0) dX12_reach_39 (by decide +kernel) ?_
  refine J_iald (i2 := 0) (v := 0) dX12_reach_40 rfl rfl (jin (by decide +kernel)) (by decide +kernel) rfl ?_
  refine J_iald (i2 := 0) (v := 0) dX12_reach_41 rfl rfl (jin (by decide +kernel)) (by decide +kernel) rfl ?_
  refine J_istore dX12_reach_42 (Nat.le_of_ble_eq_true rfl) rfl ?_
  refine J_iconst (v := 0) dX12_reach_44 (by decide) ?_
  refine J_istore dX12_reach_45 (Nat.le_of_ble_eq_true rfl) rfl ?_
  refine J_iconst (v := (-1)) dX12_reach_47 (by decide) ?_
  refine J_istore dX12_reach_48 (Nat.le_of_ble_eq_true rfl) rfl ?_
  refine J_aload_n dX12_reach_50 rfl rfl ?_
  refine J_get (v := .int 1) dX12_reach_51 fl_X12_298 rfl rfl ?_
  refine J_iconst (v := 1) dX12_reach_54 (by decide) ?_
  refine J_isub (z := 0) dX12_reach_55 (by decide +kernel) ?_
  refine J_istore dX12_reach_56 (Nat.le_of_ble_eq_true rfl) rfl ?_
  refine J_iload dX12_reach_58 rfl ?_
  refine J_if_lt (tgt := 91) dX12_reach_60 (by decide) (fun q => absurd q (by decide +kernel)) (fun _ => ?_)
  refine J_aload_n dX12_reach_63 rfl rfl ?_
  refine J_get (v := .ref 118) dX12_reach_64 fl_X12_85 rfl rfl ?_
  refine J_iload dX12_reach_67 rfl ?_
  refine J_iald (i2 := 0) (v := 0) dX12_reach_69 rfl rfl (jin (by decide +kernel)) (by decide +kernel) rfl ?_
  refine J_iload dX12_reach_70 rfl ?_
  refine J_icmp_eq (tgt := 78) dX12_reach_72 (by decide) (fun _ => ?_) (fun q => absurd (by decide +kernel) q)
  refine J_iinc (v := 1) dX12_reach_78 rfl (by decide +kernel) (Nat.le_of_ble_eq_true rfl) rfl ?_
  refine J_ls (ls2 := [some (.ref 98), some (.int 0), some (.int 0), some (.int 1), some (.int 0), some (.int 1), some (.int (-1)), some (.int 0)]) rfl ?_
  refine J_iload dX12_reach_81 rfl ?_
  refine J_istore dX12_reach_83 (Nat.le_of_ble_eq_true rfl) rfl ?_
  refine J_iinc (v := (-1)) dX12_reach_85 rfl (by decide +kernel) (Nat.le_of_ble_eq_true rfl) rfl ?_
  refine J_ls (ls2 := [some (.ref 98), some (.int 0), some (.int 0), some (.int 1), some (.int 0), some (.int 1), some (.int 0), some (.int (-1))]) rfl ?_
  refine J_goto (tgt := 58) dX12_reach_88 (by decide) ?_
  refine J_iload dX12_reach_58 rfl ?_
  refine J_if_lt (tgt := 91) dX12_reach_60 (by decide) (fun _ => ?_) (fun q => absurd (by decide +kernel) q)
  refine J_iload_n dX12_reach_91 rfl rfl ?_
  refine J_if_ne (tgt := 99) dX12_reach_92 (by decide) (fun q => absurd (by decide +kernel) q) (fun _ => ?_)
  refine J_iload_n dX12_reach_95 rfl rfl ?_
  refine J_goto (tgt := 121) dX12_reach_96 (by decide) ?_
  refine J_mask (L2 := [(120, .inl (0, 1260, .inl (upd (fun _ => 0) 0 0))), (119, .inl (1, 1260, .inr (.inl (vp_updL (vp_updL (fun _ => 0) 0 0) 0 1)))), (118, .inl (0, 1260, .inl (upd (upd (fun _ => 0) 0 (-1)) 0 0))), (114, .inl (0, 1260, .inl (upd (fun _ => 0) 0 0))), (116, .inl (0, 1260, .inl (upd (fun _ => 0) 0 0))), (98, .inr (12, [.int 0, .int 0, .ref 99, .ref 100, .ref 101, .ref 102, .ref 103, .ref 104, .ref 105, .int 0, .int (-1), .ref 106, .ref 107, .ref 108, .int 0, .int 0, .int 0, .int 0, .int 0, .int 0, .int 0, .ref 109, .int 0, .int 0, .ref 110, .ref 111, .ref 112, .ref 113, .ref 114, .ref 115, .ref 116, .ref 117, .int 1, .int 0, .int 0, .int 0, .ref 118, .ref 119, .ref 120, .ref 121, .ref 122, .ref 123, .ref 124, .ref 125, .ref 126, .ref 127, .ref 128, .ref 129, .int 0, .ref 130, .ref 131, .ref 132, .ref 133, .ref 134, .int 0, .int 0])), (111, .inl (0, 1260, .inl (upd (fun _ => 0) 0 0)))]) (ks := [120, 119, 118, 114, 116, 98, 98, 111]) [true, true, true, true, true, true, false, true] rfl (by decide +kernel) rfl ?_
  exact J_iret dX12_reach_121 rfl rfl (Nat.le_of_ble_eq_true rfl) (Nat.le_of_ble_eq_true rfl) ⟨rfl, rfl⟩
set_option maxHeartbeats 4000000 in
set_option maxRecDepth 100000 in
theorem c_X10_reachOf_3 {l : Launch} {G : jG} {nh : Nat} {fh : Nat → Option va_E} (hk1 : fh 1 = some (.inr (8, [.ref 2, .ref 3, .ref 4, .int 0, .int (-1), .ref 11, .ref 12, .int 0, .ref 13, .ref 14, .int 0, .ref 15, .ref 16, .int 0]))) (hk3 : fh 3 = some (.inl (0, 2, .inl (fun _ => 0)))) (hk51 : fh 51 = some (.inr (0, [.ref 52, .ref 53, .int 1, .int 0]))) (hk52 : fh 52 = some (.inl (0, 1260, .inl (upd (fun _ => 0) 0 0)))) (hk57 : fh 57 = some (.inr (9, [.ref 1, .ref 51, .ref 58, .ref 61, .ref 62, .ref 135, .ref 64, .int 0, .int 0, .int 0]))) (hk62 : fh 62 = some (.inl (0, 1260, .inl (upd (fun _ => 0) 0 (-1))))) (hk65 : fh 65 = some (.inr (10, [.ref 51, .ref 57, .ref 66, .ref 67, .ref 68, .int 0, .int (-1), .int (-1), .ref 69, .ref 70, .ref 71, .ref 72, .int 0, .int (-1), .int (-1), .ref 73, .ref 74]))) (hk66 : fh 66 = some (.inl (0, 1260, .inl (fun _ => 0)))) (hk67 : fh 67 = some (.inl (0, 1260, .inl (fun _ => 0)))) (hk68 : fh 68 = some (.inl (0, 1260, .inl (fun _ => 0)))) : JM l G yX10_reachOf MX10_reachOf { frames := 6, cells := 0, slots := 0, locals := 142 } [.ref 65, .int 0, .int 1] (nh, fh) (fun r h9 => r = some (.int 0) ∧ h9 = (nh, hc fh [(62, .inl (0, 1260, .inl (upd (upd (fun _ => 0) 0 (-1)) 0 0))), (65, .inr (10, [.ref 51, .ref 57, .ref 66, .ref 67, .ref 68, .int 1, .int 0, .int 0, .ref 69, .ref 70, .ref 71, .ref 72, .int 0, .int (-1), .int (-1), .ref 73, .ref 74])), (68, .inl (0, 1260, .inl (upd (fun _ => 0) 0 0))), (67, .inl (0, 1260, .inl (upd (fun _ => 0) 0 1))), (66, .inl (0, 1260, .inl (upd (upd (fun _ => 0) 0 (-1)) 0 0)))])) := by
  refine JM.of (by decide) rfl (fun h => by cases h) (Nat.le_of_ble_eq_true rfl) ⟨4, rfl⟩ ?_
  refine J_hc0 (J_ls (ls2 := [some (.ref 65), some (.int 0), some (.int 1), none, none, none, none]) rfl ?_)
  refine J_aload_n dX10_reachOf_0 rfl rfl ?_
  refine J_iload_n dX10_reachOf_1 rfl rfl ?_
  refine J_callV (st := []) dX10_reachOf_2 cv_X10_67 (c_X10_walkFrom_1 hk1 hk3 hk51 hk52 hk57 hk62 hk65 hk66 hk67 hk68) hk65 rfl rfl (Nat.le_of_ble_eq_true rfl) ⟨(Nat.le_of_ble_eq_true rfl), (Nat.le_of_ble_eq_true rfl)⟩ ⟨(Nat.le_of_ble_eq_true rfl), (Nat.le_of_ble_eq_true rfl)⟩ (fun r h9 hp => ?_)
  obtain ⟨rfl, rfl⟩ := hp
  refine J_nf (nh2 := nh) (ck2 := 0) (sk2 := 0) (st2 := []) rfl rfl rfl rfl ?_
  refine J_app (L3 := [(62, .inl (0, 1260, .inl (upd (upd (fun _ => 0) 0 (-1)) 0 0))), (65, .inr (10, [.ref 51, .ref 57, .ref 66, .ref 67, .ref 68, .int 1, .int 0, .int 0, .ref 69, .ref 70, .ref 71, .ref 72, .int 0, .int (-1), .int (-1), .ref 73, .ref 74])), (68, .inl (0, 1260, .inl (upd (fun _ => 0) 0 0))), (67, .inl (0, 1260, .inl (upd (fun _ => 0) 0 1))), (66, .inl (0, 1260, .inl (upd (upd (fun _ => 0) 0 (-1)) 0 0)))]) rfl ?_
  refine J_aload_n dX10_reachOf_5 rfl rfl ?_
  refine J_get (v := .ref 66) dX10_reachOf_6 fl_X10_9 rfl rfl ?_
  refine J_aload_n dX10_reachOf_9 rfl rfl ?_
  refine J_get (v := .ref 68) dX10_reachOf_10 fl_X10_18 rfl rfl ?_
  refine J_aload_n dX10_reachOf_13 rfl rfl ?_
  refine J_get (v := .int 1) dX10_reachOf_14 fl_X10_21 rfl rfl ?_
  refine J_iconst (v := 1) dX10_reachOf_17 (by decide) ?_
  refine J_isub (z := 0) dX10_reachOf_18 (by decide +kernel) ?_
  refine J_iald (i2 := 0) (v := 0) dX10_reachOf_19 rfl rfl (jin (by decide +kernel)) (by decide +kernel) rfl ?_
  refine J_iald (i2 := 0) (v := 0) dX10_reachOf_20 rfl rfl (jin (by decide +kernel)) (by decide +kernel) rfl ?_
  refine J_istore_n dX10_reachOf_21 rfl (Nat.le_of_ble_eq_true rfl) rfl ?_
  refine J_iconst (v := 0) dX10_reachOf_22 (by decide) ?_
  refine J_istore dX10_reachOf_23 (Nat.le_of_ble_eq_true rfl) rfl ?_
  refine J_sipush (v := 1260) dX10_reachOf_25 (by decide +kernel) ?_
  refine J_istore dX10_reachOf_28 (Nat.le_of_ble_eq_true rfl) rfl ?_
  refine J_aload_n dX10_reachOf_30 rfl rfl ?_
  refine J_get (v := .int 1) dX10_reachOf_31 fl_X10_21 rfl rfl ?_
  refine J_iconst (v := 1) dX10_reachOf_34 (by decide) ?_
  refine J_isub (z := 0) dX10_reachOf_35 (by decide +kernel) ?_
  refine J_istore dX10_reachOf_36 (Nat.le_of_ble_eq_true rfl) rfl ?_
  refine J_iload dX10_reachOf_38 rfl ?_
  refine J_if_lt (tgt := 82) dX10_reachOf_40 (by decide) (fun q => absurd q (by decide +kernel)) (fun _ => ?_)
  refine J_aload_n dX10_reachOf_43 rfl rfl ?_
  refine J_get (v := .ref 66) dX10_reachOf_44 fl_X10_9 rfl rfl ?_
  refine J_aload_n dX10_reachOf_47 rfl rfl ?_
  refine J_get (v := .ref 68) dX10_reachOf_48 fl_X10_18 rfl rfl ?_
  refine J_iload dX10_reachOf_51 rfl ?_
  refine J_iald (i2 := 0) (v := 0) dX10_reachOf_53 rfl rfl (jin (by decide +kernel)) (by decide +kernel) rfl ?_
  refine J_iald (i2 := 0) (v := 0) dX10_reachOf_54 rfl rfl (jin (by decide +kernel)) (by decide +kernel) rfl ?_
  refine J_iload_n dX10_reachOf_55 rfl rfl ?_
  refine J_icmp_ne (tgt := 82) dX10_reachOf_56 (by decide) (fun q => absurd (by decide +kernel) q) (fun _ => ?_)
  refine J_iinc (v := 1) dX10_reachOf_59 rfl (by decide +kernel) (Nat.le_of_ble_eq_true rfl) rfl ?_
  refine J_ls (ls2 := [some (.ref 65), some (.int 0), some (.int 1), some (.int 0), some (.int 1), some (.int 1260), some (.int 0)]) rfl ?_
  refine J_iload dX10_reachOf_62 rfl ?_
  refine J_aload_n dX10_reachOf_64 rfl rfl ?_
  refine J_get (v := .ref 68) dX10_reachOf_65 fl_X10_18 rfl rfl ?_
  refine J_iload dX10_reachOf_68 rfl ?_
  refine J_iald (i2 := 0) (v := 0) dX10_reachOf_70 rfl rfl (jin (by decide +kernel)) (by decide +kernel) rfl ?_
  refine J_mmin (z := 0) dX10_reachOf_71 (jt4 236 rfl rfl) (jt3 222 rfl rfl) (jt1 19 rfl rfl) (jt3 223 rfl rfl) (Nat.le_of_ble_eq_true rfl) (Nat.le_of_ble_eq_true rfl) (Nat.le_of_ble_eq_true rfl) (Nat.le_of_ble_eq_true rfl) (by decide +kernel) ?_
  refine J_istore dX10_reachOf_74 (Nat.le_of_ble_eq_true rfl) rfl ?_
  refine J_iinc (v := (-1)) dX10_reachOf_76 rfl (by decide +kernel) (Nat.le_of_ble_eq_true rfl) rfl ?_
  refine J_ls (ls2 := [some (.ref 65), some (.int 0), some (.int 1), some (.int 0), some (.int 1), some (.int 0), some (.int (-1))]) rfl ?_
  refine J_goto (tgt := 38) dX10_reachOf_79 (by decide) ?_
  refine J_iload dX10_reachOf_38 rfl ?_
  refine J_if_lt (tgt := 82) dX10_reachOf_40 (by decide) (fun _ => ?_) (fun q => absurd (by decide +kernel) q)
  refine J_iload_n dX10_reachOf_82 rfl rfl ?_
  refine J_tableIn (tgt := 117) dX10_reachOf_83 (by decide +kernel) (by decide +kernel) (off := 34) (by decide +kernel) (by decide) ?_
  refine J_iload_n dX10_reachOf_117 rfl rfl ?_
  exact J_iret dX10_reachOf_118 rfl rfl (Nat.le_of_ble_eq_true rfl) (Nat.le_of_ble_eq_true rfl) ⟨rfl, rfl⟩
set_option maxHeartbeats 4000000 in
set_option maxRecDepth 100000 in
theorem c_X11_reach_4 {l : Launch} {G : jG} {fh : Nat → Option va_E} (hk0 : fh 0 = some (.inr (11, [.ref 1, .ref 17, .ref 50, .ref 51, .ref 54, .ref 57, .ref 65, .ref 75, .ref 81, .ref 85, .ref 88, .ref 93, .ref 96, .int 0, .int (-1), .ref 97, .int 0]))) (hk1 : fh 1 = some (.inr (8, [.ref 2, .ref 3, .ref 4, .int 0, .int (-1), .ref 11, .ref 12, .int 0, .ref 13, .ref 14, .int 0, .ref 15, .ref 16, .int 0]))) (hk3 : fh 3 = some (.inl (0, 2, .inl (fun _ => 0)))) (hk51 : fh 51 = some (.inr (0, [.ref 52, .ref 53, .int 1, .int 0]))) (hk52 : fh 52 = some (.inl (0, 1260, .inl (upd (fun _ => 0) 0 0)))) (hk57 : fh 57 = some (.inr (9, [.ref 1, .ref 51, .ref 58, .ref 61, .ref 62, .ref 63, .ref 64, .int 0, .int 1, .int 1]))) (hk58 : fh 58 = some (.inr (1, [.ref 59, .ref 60, .int 0, .int 0, .int 0, .int 0, .int 0, .int 1]))) (hk59 : fh 59 = some (.inl (0, 8, .inl (fun _ => 0)))) (hk62 : fh 62 = some (.inl (0, 1260, .inl (fun _ => 0)))) (hk63 : fh 63 = some (.inl (0, 0, .inl (fun _ => 0)))) (hk65 : fh 65 = some (.inr (10, [.ref 51, .ref 57, .ref 66, .ref 67, .ref 68, .int 0, .int (-1), .int (-1), .ref 69, .ref 70, .ref 71, .ref 72, .int 0, .int (-1), .int (-1), .ref 73, .ref 74]))) (hk66 : fh 66 = some (.inl (0, 1260, .inl (fun _ => 0)))) (hk67 : fh 67 = some (.inl (0, 1260, .inl (fun _ => 0)))) (hk68 : fh 68 = some (.inl (0, 1260, .inl (fun _ => 0)))) : JM l G yX11_reach MX11_reach { frames := 7, cells := 1, slots := 22, locals := 168 } [.ref 0, .int 0, .int 1] (135, fh) (fun r h9 => r = some (.int 0) ∧ h9 = (136, hc fh [(62, .inl (0, 1260, .inl (upd (upd (fun _ => 0) 0 (-1)) 0 0))), (65, .inr (10, [.ref 51, .ref 57, .ref 66, .ref 67, .ref 68, .int 1, .int 0, .int 0, .ref 69, .ref 70, .ref 71, .ref 72, .int 0, .int (-1), .int (-1), .ref 73, .ref 74])), (68, .inl (0, 1260, .inl (upd (fun _ => 0) 0 0))), (67, .inl (0, 1260, .inl (upd (fun _ => 0) 0 1))), (66, .inl (0, 1260, .inl (upd (upd (fun _ => 0) 0 (-1)) 0 0))), (57, .inr (9, [.ref 1, .ref 51, .ref 58, .ref 61, .ref 62, .ref 135, .ref 64, .int 0, .int 0, .int 0])), (135, .inl (0, 22, .inl (fun _ => 0))), (59, .inl (0, 8, .inl (upd (upd (fun _ => 0) 6 0) 7 0)))])) := by
  refine JM.of (by decide) rfl (fun h => by cases h) (Nat.le_of_ble_eq_true rfl) ⟨0, rfl⟩ ?_
  refine J_hc0 (J_ls (ls2 := [some (.ref 0), some (.int 0), some (.int 1)]) rfl ?_)
  refine J_aload_n dX11_reach_0 rfl rfl ?_
  refine J_get (v := .ref 51) dX11_reach_1 fl_X11_27 hk0 rfl ?_
  refine J_iload_n dX11_reach_4 rfl rfl ?_
  refine J_callV (st := []) dX11_reach_5 cv_X11_135 (c_X0_has_2 hk51) hk51 rfl rfl (Nat.le_of_ble_eq_true rfl) ⟨(Nat.le_of_ble_eq_true rfl), (Nat.le_of_ble_eq_true rfl)⟩ ⟨(Nat.le_of_ble_eq_true rfl), (Nat.le_of_ble_eq_true rfl)⟩ (fun r h9 hp => ?_)
  obtain ⟨rfl, rfl⟩ := hp
  refine J_nf (nh2 := 135) (ck2 := 0) (sk2 := 0) (st2 := [.int 1]) rfl rfl rfl rfl ?_
  refine J_if_ne (tgt := 13) dX11_reach_8 (by decide) (fun _ => ?_) (fun q => absurd q (by decide +kernel))
  refine J_aload_n dX11_reach_13 rfl rfl ?_
  refine J_get (v := .ref 57) dX11_reach_14 fl_X11_43 hk0 rfl ?_
  refine J_callV (st := []) dX11_reach_17 cv_X11_217 (c_X9_prepare_1 hk1 hk3 hk51 hk57 hk58 hk59 hk62 hk63) hk57 rfl rfl (Nat.le_of_ble_eq_true rfl) ⟨(Nat.le_of_ble_eq_true rfl), (Nat.le_of_ble_eq_true rfl)⟩ ⟨(Nat.le_of_ble_eq_true rfl), (Nat.le_of_ble_eq_true rfl)⟩ (fun r h9 hp => ?_)
  obtain ⟨rfl, rfl⟩ := hp
  refine J_nf (nh2 := 136) (ck2 := 1) (sk2 := 22) (st2 := []) rfl rfl rfl rfl ?_
  refine J_app (L3 := [(57, .inr (9, [.ref 1, .ref 51, .ref 58, .ref 61, .ref 62, .ref 135, .ref 64, .int 0, .int 0, .int 0])), (62, .inl (0, 1260, .inl (upd (fun _ => 0) 0 (-1)))), (135, .inl (0, 22, .inl (fun _ => 0))), (59, .inl (0, 8, .inl (upd (upd (fun _ => 0) 6 0) 7 0)))]) rfl ?_
  refine J_aload_n dX11_reach_20 rfl rfl ?_
  refine J_get (v := .ref 65) dX11_reach_21 fl_X11_52 hk0 rfl ?_
  refine J_iload_n dX11_reach_24 rfl rfl ?_
  refine J_iload_n dX11_reach_25 rfl rfl ?_
  refine J_callV (st := []) dX11_reach_26 cv_X11_242 (c_X10_reachOf_3 hk1 hk3 hk51 hk52 rfl rfl hk65 hk66 hk67 hk68) hk65 rfl rfl (Nat.le_of_ble_eq_true rfl) ⟨(Nat.le_of_ble_eq_true rfl), (Nat.le_of_ble_eq_true rfl)⟩ ⟨(Nat.le_of_ble_eq_true rfl), (Nat.le_of_ble_eq_true rfl)⟩ (fun r h9 hp => ?_)
  obtain ⟨rfl, rfl⟩ := hp
  refine J_nf (nh2 := 136) (ck2 := 1) (sk2 := 22) (st2 := [.int 0]) rfl rfl rfl rfl ?_
  refine J_app (L3 := [(62, .inl (0, 1260, .inl (upd (upd (fun _ => 0) 0 (-1)) 0 0))), (65, .inr (10, [.ref 51, .ref 57, .ref 66, .ref 67, .ref 68, .int 1, .int 0, .int 0, .ref 69, .ref 70, .ref 71, .ref 72, .int 0, .int (-1), .int (-1), .ref 73, .ref 74])), (68, .inl (0, 1260, .inl (upd (fun _ => 0) 0 0))), (67, .inl (0, 1260, .inl (upd (fun _ => 0) 0 1))), (66, .inl (0, 1260, .inl (upd (upd (fun _ => 0) 0 (-1)) 0 0))), (57, .inr (9, [.ref 1, .ref 51, .ref 58, .ref 61, .ref 62, .ref 135, .ref 64, .int 0, .int 0, .int 0])), (62, .inl (0, 1260, .inl (upd (fun _ => 0) 0 (-1)))), (135, .inl (0, 22, .inl (fun _ => 0))), (59, .inl (0, 8, .inl (upd (upd (fun _ => 0) 6 0) 7 0)))]) rfl ?_
  refine J_mask (L2 := [(62, .inl (0, 1260, .inl (upd (upd (fun _ => 0) 0 (-1)) 0 0))), (65, .inr (10, [.ref 51, .ref 57, .ref 66, .ref 67, .ref 68, .int 1, .int 0, .int 0, .ref 69, .ref 70, .ref 71, .ref 72, .int 0, .int (-1), .int (-1), .ref 73, .ref 74])), (68, .inl (0, 1260, .inl (upd (fun _ => 0) 0 0))), (67, .inl (0, 1260, .inl (upd (fun _ => 0) 0 1))), (66, .inl (0, 1260, .inl (upd (upd (fun _ => 0) 0 (-1)) 0 0))), (57, .inr (9, [.ref 1, .ref 51, .ref 58, .ref 61, .ref 62, .ref 135, .ref 64, .int 0, .int 0, .int 0])), (135, .inl (0, 22, .inl (fun _ => 0))), (59, .inl (0, 8, .inl (upd (upd (fun _ => 0) 6 0) 7 0)))]) (ks := [62, 65, 68, 67, 66, 57, 62, 135, 59]) [true, true, true, true, true, true, false, true, true] rfl (by decide +kernel) rfl ?_
  exact J_iret dX11_reach_29 rfl rfl (Nat.le_of_ble_eq_true rfl) (Nat.le_of_ble_eq_true rfl) ⟨rfl, rfl⟩
set_option maxHeartbeats 4000000 in
set_option maxRecDepth 100000 in
theorem c_X12_lies_43 {l : Launch} {G : jG} {nh : Nat} {fh : Nat → Option va_E}  : JM l G yX12_lies MX12_lies { frames := 0, cells := 0, slots := 0, locals := 0 } [.int 1, .int 0, .int 3] (nh, fh) (fun r h9 => r = some (.int 1) ∧ h9 = (nh, fh)) := by
  refine JM.of (by decide) rfl (fun h => by cases h) (Nat.le_of_ble_eq_true rfl) ⟨0, rfl⟩ ?_
  refine J_hc0 (J_ls (ls2 := [some (.int 1), some (.int 0), some (.int 3)]) rfl ?_)
  refine J_iload_n dX12_lies_0 rfl rfl ?_
  refine J_iload_n dX12_lies_1 rfl rfl ?_
  refine J_icmp_lt (tgt := 14) dX12_lies_2 (by decide) (fun q => absurd q (by decide +kernel)) (fun _ => ?_)
  refine J_iload_n dX12_lies_5 rfl rfl ?_
  refine J_iload_n dX12_lies_6 rfl rfl ?_
  refine J_icmp_gt (tgt := 14) dX12_lies_7 (by decide) (fun q => absurd q (by decide +kernel)) (fun _ => ?_)
  refine J_iconst (v := 1) dX12_lies_10 (by decide) ?_
  refine J_goto (tgt := 15) dX12_lies_11 (by decide) ?_
  exact J_iret dX12_lies_15 rfl (by decide +kernel) (Nat.le_of_ble_eq_true rfl) (Nat.le_of_ble_eq_true rfl) ⟨rfl, rfl⟩
set_option maxHeartbeats 4000000 in
set_option maxRecDepth 100000 in
theorem c_X12_reach_4 {l : Launch} {G : jG} {nh : Nat} {fh : Nat → Option va_E} (hk98 : fh 98 = some (.inr (12, [.int 0, .int 0, .ref 99, .ref 100, .ref 101, .ref 102, .ref 103, .ref 104, .ref 105, .int 0, .int (-1), .ref 106, .ref 107, .ref 108, .int 0, .int 0, .int 0, .int 0, .int 0, .int 0, .int 0, .ref 109, .int 0, .int 0, .ref 110, .ref 111, .ref 112, .ref 113, .ref 114, .ref 115, .ref 116, .ref 117, .int 0, .int 0, .int (-1), .int (-1), .ref 118, .ref 119, .ref 120, .ref 121, .ref 122, .ref 123, .ref 124, .ref 125, .ref 126, .ref 127, .ref 128, .ref 129, .int 0, .ref 130, .ref 131, .ref 132, .ref 133, .ref 134, .int 0, .int 0]))) (hk100 : fh 100 = some (.inl (0, 4870, .inl (upd (fun _ => 0) 63 (-1))))) (hk111 : fh 111 = some (.inl (0, 1260, .inl (fun _ => 0)))) (hk114 : fh 114 = some (.inl (0, 1260, .inl (fun _ => 0)))) (hk116 : fh 116 = some (.inl (0, 1260, .inl (fun _ => 0)))) (hk118 : fh 118 = some (.inl (0, 1260, .inl (fun _ => 0)))) (hk119 : fh 119 = some (.inl (1, 1260, .inr (.inl (fun _ => 0))))) (hk120 : fh 120 = some (.inl (0, 1260, .inl (fun _ => 0)))) : JM l G yX12_reach MX12_reach { frames := 3, cells := 0, slots := 0, locals := 69 } [.ref 98, .int 0, .int 1] (nh, fh) (fun r h9 => r = some (.int 0) ∧ h9 = (nh, hc fh [(120, .inl (0, 1260, .inl (upd (fun _ => 0) 0 0))), (119, .inl (1, 1260, .inr (.inl (vp_updL (vp_updL (fun _ => 0) 0 0) 0 1)))), (118, .inl (0, 1260, .inl (upd (upd (fun _ => 0) 0 (-1)) 0 0))), (114, .inl (0, 1260, .inl (upd (fun _ => 0) 0 0))), (116, .inl (0, 1260, .inl (upd (fun _ => 0) 0 0))), (98, .inr (12, [.int 0, .int 0, .ref 99, .ref 100, .ref 101, .ref 102, .ref 103, .ref 104, .ref 105, .int 0, .int (-1), .ref 106, .ref 107, .ref 108, .int 0, .int 0, .int 0, .int 0, .int 0, .int 0, .int 0, .ref 109, .int 0, .int 0, .ref 110, .ref 111, .ref 112, .ref 113, .ref 114, .ref 115, .ref 116, .ref 117, .int 1, .int 0, .int 0, .int 0, .ref 118, .ref 119, .ref 120, .ref 121, .ref 122, .ref 123, .ref 124, .ref 125, .ref 126, .ref 127, .ref 128, .ref 129, .int 0, .ref 130, .ref 131, .ref 132, .ref 133, .ref 134, .int 0, .int 0])), (111, .inl (0, 1260, .inl (upd (fun _ => 0) 0 0)))])) := by
  refine JM.of (by decide) rfl (fun h => by cases h) (Nat.le_of_ble_eq_true rfl) ⟨5, rfl⟩ ?_
  refine J_hc0 (J_ls (ls2 := [some (.ref 98), some (.int 0), some (.int 1), none, none, none, none, none]) rfl ?_)
  refine J_aload_n dX12_reach_0 rfl rfl ?_
  refine J_iload_n dX12_reach_1 rfl rfl ?_
  refine J_callV (st := []) dX12_reach_2 cv_X12_325 (c_X12_isHouse_2 hk98 hk100 hk111) hk98 rfl rfl (Nat.le_of_ble_eq_true rfl) ⟨(Nat.le_of_ble_eq_true rfl), (Nat.le_of_ble_eq_true rfl)⟩ ⟨(Nat.le_of_ble_eq_true rfl), (Nat.le_of_ble_eq_true rfl)⟩ (fun r h9 hp => ?_)
  obtain ⟨rfl, rfl⟩ := hp
  refine J_nf (nh2 := nh) (ck2 := 0) (sk2 := 0) (st2 := [.int 1]) rfl rfl rfl rfl ?_
  refine J_app (L3 := [(98, .inr (12, [.int 0, .int 0, .ref 99, .ref 100, .ref 101, .ref 102, .ref 103, .ref 104, .ref 105, .int 0, .int (-1), .ref 106, .ref 107, .ref 108, .int 0, .int 0, .int 0, .int 0, .int 0, .int 0, .int 0, .ref 109, .int 0, .int 0, .ref 110, .ref 111, .ref 112, .ref 113, .ref 114, .ref 115, .ref 116, .ref 117, .int 1, .int 0, .int 0, .int (-1), .ref 118, .ref 119, .ref 120, .ref 121, .ref 122, .ref 123, .ref 124, .ref 125, .ref 126, .ref 127, .ref 128, .ref 129, .int 0, .ref 130, .ref 131, .ref 132, .ref 133, .ref 134, .int 0, .int 0])), (111, .inl (0, 1260, .inl (upd (fun _ => 0) 0 0)))]) rfl ?_
  refine J_if_eq (tgt := 17) dX12_reach_5 (by decide) (fun q => absurd q (by decide +kernel)) (fun _ => ?_)
  refine J_iload_n dX12_reach_8 rfl rfl ?_
  refine J_iconst (v := 0) dX12_reach_9 (by decide) ?_
  refine J_iconst (v := 3) dX12_reach_10 (by decide) ?_
  refine J_callS (st := []) dX12_reach_11 cs_X12_138 (c_X12_lies_43 ) rfl rfl (Nat.le_of_ble_eq_true rfl) ⟨(Nat.le_of_ble_eq_true rfl), (Nat.le_of_ble_eq_true rfl)⟩ ⟨(Nat.le_of_ble_eq_true rfl), (Nat.le_of_ble_eq_true rfl)⟩ (fun r h9 hp => ?_)
  obtain ⟨rfl, rfl⟩ := hp
  refine J_nf (nh2 := nh) (ck2 := 0) (sk2 := 0) (st2 := [.int 1]) rfl rfl rfl rfl ?_
  refine J_if_ne (tgt := 19) dX12_reach_14 (by decide) (fun _ => ?_) (fun q => absurd q (by decide +kernel))
  refine J_aload_n dX12_reach_19 rfl rfl ?_
  refine J_callV (st := []) dX12_reach_20 cv_X12_328 (c_X12_looks_1 rfl hk100 hk114 hk116) rfl rfl rfl (Nat.le_of_ble_eq_true rfl) ⟨(Nat.le_of_ble_eq_true rfl), (Nat.le_of_ble_eq_true rfl)⟩ ⟨(Nat.le_of_ble_eq_true rfl), (Nat.le_of_ble_eq_true rfl)⟩ (fun r h9 hp => ?_)
  obtain ⟨rfl, rfl⟩ := hp
  refine J_nf (nh2 := nh) (ck2 := 0) (sk2 := 0) (st2 := []) rfl rfl rfl rfl ?_
  refine J_app (L3 := [(114, .inl (0, 1260, .inl (upd (fun _ => 0) 0 0))), (116, .inl (0, 1260, .inl (upd (fun _ => 0) 0 0))), (98, .inr (12, [.int 0, .int 0, .ref 99, .ref 100, .ref 101, .ref 102, .ref 103, .ref 104, .ref 105, .int 0, .int (-1), .ref 106, .ref 107, .ref 108, .int 0, .int 0, .int 0, .int 0, .int 0, .int 0, .int 0, .ref 109, .int 0, .int 0, .ref 110, .ref 111, .ref 112, .ref 113, .ref 114, .ref 115, .ref 116, .ref 117, .int 1, .int 0, .int 0, .int 0, .ref 118, .ref 119, .ref 120, .ref 121, .ref 122, .ref 123, .ref 124, .ref 125, .ref 126, .ref 127, .ref 128, .ref 129, .int 0, .ref 130, .ref 131, .ref 132, .ref 133, .ref 134, .int 0, .int 0])), (98, .inr (12, [.int 0, .int 0, .ref 99, .ref 100, .ref 101, .ref 102, .ref 103, .ref 104, .ref 105, .int 0, .int (-1), .ref 106, .ref 107, .ref 108, .int 0, .int 0, .int 0, .int 0, .int 0, .int 0, .int 0, .ref 109, .int 0, .int 0, .ref 110, .ref 111, .ref 112, .ref 113, .ref 114, .ref 115, .ref 116, .ref 117, .int 1, .int 0, .int 0, .int (-1), .ref 118, .ref 119, .ref 120, .ref 121, .ref 122, .ref 123, .ref 124, .ref 125, .ref 126, .ref 127, .ref 128, .ref 129, .int 0, .ref 130, .ref 131, .ref 132, .ref 133, .ref 134, .int 0, .int 0])), (111, .inl (0, 1260, .inl (upd (fun _ => 0) 0 0)))]) rfl ?_
  refine J_aload_n dX12_reach_23 rfl rfl ?_
  refine J_iload_n dX12_reach_24 rfl rfl ?_
  refine J_callV (st := []) dX12_reach_25 cv_X12_334 (c_X12_measures_1 rfl rfl hk118 hk119 hk120) rfl rfl rfl (Nat.le_of_ble_eq_true rfl) ⟨(Nat.le_of_ble_eq_true rfl), (Nat.le_of_ble_eq_true rfl)⟩ ⟨(Nat.le_of_ble_eq_true rfl), (Nat.le_of_ble_eq_true rfl)⟩ (fun r h9 hp => ?_)
  obtain ⟨rfl, rfl⟩ := hp
  refine J_nf (nh2 := nh) (ck2 := 0) (sk2 := 0) (st2 := [.int 1]) rfl rfl rfl rfl ?_
  refine J_app (L3 := [(120, .inl (0, 1260, .inl (upd (fun _ => 0) 0 0))), (119, .inl (1, 1260, .inr (.inl (vp_updL (vp_updL (fun _ => 0) 0 0) 0 1)))), (118, .inl (0, 1260, .inl (upd (upd (fun _ => 0) 0 (-1)) 0 0))), (114, .inl (0, 1260, .inl (upd (fun _ => 0) 0 0))), (116, .inl (0, 1260, .inl (upd (fun _ => 0) 0 0))), (98, .inr (12, [.int 0, .int 0, .ref 99, .ref 100, .ref 101, .ref 102, .ref 103, .ref 104, .ref 105, .int 0, .int (-1), .ref 106, .ref 107, .ref 108, .int 0, .int 0, .int 0, .int 0, .int 0, .int 0, .int 0, .ref 109, .int 0, .int 0, .ref 110, .ref 111, .ref 112, .ref 113, .ref 114, .ref 115, .ref 116, .ref 117, .int 1, .int 0, .int 0, .int 0, .ref 118, .ref 119, .ref 120, .ref 121, .ref 122, .ref 123, .ref 124, .ref 125, .ref 126, .ref 127, .ref 128, .ref 129, .int 0, .ref 130, .ref 131, .ref 132, .ref 133, .ref 134, .int 0, .int 0])), (98, .inr (12, [.int 0, .int 0, .ref 99, .ref 100, .ref 101, .ref 102, .ref 103, .ref 104, .ref 105, .int 0, .int (-1), .ref 106, .ref 107, .ref 108, .int 0, .int 0, .int 0, .int 0, .int 0, .int 0, .int 0, .ref 109, .int 0, .int 0, .ref 110, .ref 111, .ref 112, .ref 113, .ref 114, .ref 115, .ref 116, .ref 117, .int 1, .int 0, .int 0, .int (-1), .ref 118, .ref 119, .ref 120, .ref 121, .ref 122, .ref 123, .ref 124, .ref 125, .ref 126, .ref 127, .ref 128, .ref 129, .int 0, .ref 130, .ref 131, .ref 132, .ref 133, .ref 134, .int 0, .int 0])), (111, .inl (0, 1260, .inl (upd (fun _ => 0) 0 0)))]) rfl ?_
  refine J_istore_n dX12_reach_28 rfl (Nat.le_of_ble_eq_true rfl) rfl ?_
  refine J_aload_n dX12_reach_29 rfl rfl ?_
  refine J_get (v := .ref 118) dX12_reach_30 fl_X12_85 rfl rfl ?_
  refine J_aload_n dX12_reach_33 rfl rfl ?_
  refine J_get (v := .ref 120) dX12_reach_34 fl_X12_92 rfl rfl ?_
  refine J_iload_n dX12_reach_37 rfl rfl ?_
  refine J_iconst (v := 1) dX12_reach_38 (by decide) ?_
  refine J_isub (z := 0) dX12_reach_39 (by decide +kernel) ?_
  refine J_iald (i2 := 0) (v := 0) dX12_reach_40 rfl rfl (jin (by decide +kernel)) (by decide +kernel) rfl ?_
  refine J_iald (i2 := 0) (v := 0) dX12_reach_41 rfl rfl (jin (by decide +kernel)) (by decide +kernel) rfl ?_
  refine J_istore dX12_reach_42 (Nat.le_of_ble_eq_true rfl) rfl ?_
  refine J_iconst (v := 0) dX12_reach_44 (by decide) ?_
  refine J_istore dX12_reach_45 (Nat.le_of_ble_eq_true rfl) rfl ?_
  refine J_iconst (v := (-1)) dX12_reach_47 (by decide) ?_
  refine J_istore dX12_reach_48 (Nat.le_of_ble_eq_true rfl) rfl ?_
  refine J_aload_n dX12_reach_50 rfl rfl ?_
  refine J_get (v := .int 1) dX12_reach_51 fl_X12_298 rfl rfl ?_
  refine J_iconst (v := 1) dX12_reach_54 (by decide) ?_
  refine J_isub (z := 0) dX12_reach_55 (by decide +kernel) ?_
  refine J_istore dX12_reach_56 (Nat.le_of_ble_eq_true rfl) rfl ?_
  refine J_iload dX12_reach_58 rfl ?_
  refine J_if_lt (tgt := 91) dX12_reach_60 (by decide) (fun q => absurd q (by decide +kernel)) (fun _ => ?_)
  refine J_aload_n dX12_reach_63 rfl rfl ?_
  refine J_get (v := .ref 118) dX12_reach_64 fl_X12_85 rfl rfl ?_
  refine J_iload dX12_reach_67 rfl ?_
  refine J_iald (i2 := 0) (v := 0) dX12_reach_69 rfl rfl (jin (by decide +kernel)) (by decide +kernel) rfl ?_
  refine J_iload dX12_reach_70 rfl ?_
  refine J_icmp_eq (tgt := 78) dX12_reach_72 (by decide) (fun _ => ?_) (fun q => absurd (by decide +kernel) q)
  refine J_iinc (v := 1) dX12_reach_78 rfl (by decide +kernel) (Nat.le_of_ble_eq_true rfl) rfl ?_
  refine J_ls (ls2 := [some (.ref 98), some (.int 0), some (.int 1), some (.int 1), some (.int 0), some (.int 1), some (.int (-1)), some (.int 0)]) rfl ?_
  refine J_iload dX12_reach_81 rfl ?_
  refine J_istore dX12_reach_83 (Nat.le_of_ble_eq_true rfl) rfl ?_
  refine J_iinc (v := (-1)) dX12_reach_85 rfl (by decide +kernel) (Nat.le_of_ble_eq_true rfl) rfl ?_
  refine J_ls (ls2 := [some (.ref 98), some (.int 0), some (.int 1), some (.int 1), some (.int 0), some (.int 1), some (.int 0), some (.int (-1))]) rfl ?_
  refine J_goto (tgt := 58) dX12_reach_88 (by decide) ?_
  refine J_iload dX12_reach_58 rfl ?_
  refine J_if_lt (tgt := 91) dX12_reach_60 (by decide) (fun _ => ?_) (fun q => absurd (by decide +kernel) q)
  refine J_iload_n dX12_reach_91 rfl rfl ?_
  refine J_if_ne (tgt := 99) dX12_reach_92 (by decide) (fun _ => ?_) (fun q => absurd q (by decide +kernel))
  refine J_iload_n dX12_reach_99 rfl rfl ?_
  refine J_iconst (v := 1) dX12_reach_100 (by decide) ?_
  refine J_icmp_ne (tgt := 109) dX12_reach_101 (by decide) (fun q => absurd (by decide +kernel) q) (fun _ => ?_)
  refine J_iload dX12_reach_104 rfl ?_
  refine J_goto (tgt := 121) dX12_reach_106 (by decide) ?_
  refine J_mask (L2 := [(120, .inl (0, 1260, .inl (upd (fun _ => 0) 0 0))), (119, .inl (1, 1260, .inr (.inl (vp_updL (vp_updL (fun _ => 0) 0 0) 0 1)))), (118, .inl (0, 1260, .inl (upd (upd (fun _ => 0) 0 (-1)) 0 0))), (114, .inl (0, 1260, .inl (upd (fun _ => 0) 0 0))), (116, .inl (0, 1260, .inl (upd (fun _ => 0) 0 0))), (98, .inr (12, [.int 0, .int 0, .ref 99, .ref 100, .ref 101, .ref 102, .ref 103, .ref 104, .ref 105, .int 0, .int (-1), .ref 106, .ref 107, .ref 108, .int 0, .int 0, .int 0, .int 0, .int 0, .int 0, .int 0, .ref 109, .int 0, .int 0, .ref 110, .ref 111, .ref 112, .ref 113, .ref 114, .ref 115, .ref 116, .ref 117, .int 1, .int 0, .int 0, .int 0, .ref 118, .ref 119, .ref 120, .ref 121, .ref 122, .ref 123, .ref 124, .ref 125, .ref 126, .ref 127, .ref 128, .ref 129, .int 0, .ref 130, .ref 131, .ref 132, .ref 133, .ref 134, .int 0, .int 0])), (111, .inl (0, 1260, .inl (upd (fun _ => 0) 0 0)))]) (ks := [120, 119, 118, 114, 116, 98, 98, 111]) [true, true, true, true, true, true, false, true] rfl (by decide +kernel) rfl ?_
  exact J_iret dX12_reach_121 rfl rfl (Nat.le_of_ble_eq_true rfl) (Nat.le_of_ble_eq_true rfl) ⟨rfl, rfl⟩
set_option maxHeartbeats 4000000 in
set_option maxRecDepth 100000 in
theorem c_X10_reachOf_4 {l : Launch} {G : jG} {nh : Nat} {fh : Nat → Option va_E} (hk1 : fh 1 = some (.inr (8, [.ref 2, .ref 3, .ref 4, .int 0, .int (-1), .ref 11, .ref 12, .int 0, .ref 13, .ref 14, .int 0, .ref 15, .ref 16, .int 0]))) (hk3 : fh 3 = some (.inl (0, 2, .inl (fun _ => 0)))) (hk51 : fh 51 = some (.inr (0, [.ref 52, .ref 53, .int 1, .int 0]))) (hk52 : fh 52 = some (.inl (0, 1260, .inl (upd (fun _ => 0) 0 0)))) (hk57 : fh 57 = some (.inr (9, [.ref 1, .ref 51, .ref 58, .ref 61, .ref 62, .ref 135, .ref 64, .int 0, .int 0, .int 0]))) (hk62 : fh 62 = some (.inl (0, 1260, .inl (upd (fun _ => 0) 0 (-1))))) (hk65 : fh 65 = some (.inr (10, [.ref 51, .ref 57, .ref 66, .ref 67, .ref 68, .int 0, .int (-1), .int (-1), .ref 69, .ref 70, .ref 71, .ref 72, .int 0, .int (-1), .int (-1), .ref 73, .ref 74]))) (hk66 : fh 66 = some (.inl (0, 1260, .inl (fun _ => 0)))) (hk67 : fh 67 = some (.inl (0, 1260, .inl (fun _ => 0)))) (hk68 : fh 68 = some (.inl (0, 1260, .inl (fun _ => 0)))) : JM l G yX10_reachOf MX10_reachOf { frames := 6, cells := 0, slots := 0, locals := 142 } [.ref 65, .int 0, .int 2] (nh, fh) (fun r h9 => r = some (.int 1) ∧ h9 = (nh, hc fh [(62, .inl (0, 1260, .inl (upd (upd (fun _ => 0) 0 (-1)) 0 0))), (65, .inr (10, [.ref 51, .ref 57, .ref 66, .ref 67, .ref 68, .int 1, .int 0, .int 0, .ref 69, .ref 70, .ref 71, .ref 72, .int 0, .int (-1), .int (-1), .ref 73, .ref 74])), (68, .inl (0, 1260, .inl (upd (fun _ => 0) 0 0))), (67, .inl (0, 1260, .inl (upd (fun _ => 0) 0 1))), (66, .inl (0, 1260, .inl (upd (upd (fun _ => 0) 0 (-1)) 0 0)))])) := by
  refine JM.of (by decide) rfl (fun h => by cases h) (Nat.le_of_ble_eq_true rfl) ⟨4, rfl⟩ ?_
  refine J_hc0 (J_ls (ls2 := [some (.ref 65), some (.int 0), some (.int 2), none, none, none, none]) rfl ?_)
  refine J_aload_n dX10_reachOf_0 rfl rfl ?_
  refine J_iload_n dX10_reachOf_1 rfl rfl ?_
  refine J_callV (st := []) dX10_reachOf_2 cv_X10_67 (c_X10_walkFrom_1 hk1 hk3 hk51 hk52 hk57 hk62 hk65 hk66 hk67 hk68) hk65 rfl rfl (Nat.le_of_ble_eq_true rfl) ⟨(Nat.le_of_ble_eq_true rfl), (Nat.le_of_ble_eq_true rfl)⟩ ⟨(Nat.le_of_ble_eq_true rfl), (Nat.le_of_ble_eq_true rfl)⟩ (fun r h9 hp => ?_)
  obtain ⟨rfl, rfl⟩ := hp
  refine J_nf (nh2 := nh) (ck2 := 0) (sk2 := 0) (st2 := []) rfl rfl rfl rfl ?_
  refine J_app (L3 := [(62, .inl (0, 1260, .inl (upd (upd (fun _ => 0) 0 (-1)) 0 0))), (65, .inr (10, [.ref 51, .ref 57, .ref 66, .ref 67, .ref 68, .int 1, .int 0, .int 0, .ref 69, .ref 70, .ref 71, .ref 72, .int 0, .int (-1), .int (-1), .ref 73, .ref 74])), (68, .inl (0, 1260, .inl (upd (fun _ => 0) 0 0))), (67, .inl (0, 1260, .inl (upd (fun _ => 0) 0 1))), (66, .inl (0, 1260, .inl (upd (upd (fun _ => 0) 0 (-1)) 0 0)))]) rfl ?_
  refine J_aload_n dX10_reachOf_5 rfl rfl ?_
  refine J_get (v := .ref 66) dX10_reachOf_6 fl_X10_9 rfl rfl ?_
  refine J_aload_n dX10_reachOf_9 rfl rfl ?_
  refine J_get (v := .ref 68) dX10_reachOf_10 fl_X10_18 rfl rfl ?_
  refine J_aload_n dX10_reachOf_13 rfl rfl ?_
  refine J_get (v := .int 1) dX10_reachOf_14 fl_X10_21 rfl rfl ?_
  refine J_iconst (v := 1) dX10_reachOf_17 (by decide) ?_
  refine J_isub (z := 0) dX10_reachOf_18 (by decide +kernel) ?_
  refine J_iald (i2 := 0) (v := 0) dX10_reachOf_19 rfl rfl (jin (by decide +kernel)) (by decide +kernel) rfl ?_
  refine J_iald (i2 := 0) (v := 0) dX10_reachOf_20 rfl rfl (jin (by decide +kernel)) (by decide +kernel) rfl ?_
  refine J_istore_n dX10_reachOf_21 rfl (Nat.le_of_ble_eq_true rfl) rfl ?_
  refine J_iconst (v := 0) dX10_reachOf_22 (by decide) ?_
  refine J_istore dX10_reachOf_23 (Nat.le_of_ble_eq_true rfl) rfl ?_
  refine J_sipush (v := 1260) dX10_reachOf_25 (by decide +kernel) ?_
  refine J_istore dX10_reachOf_28 (Nat.le_of_ble_eq_true rfl) rfl ?_
  refine J_aload_n dX10_reachOf_30 rfl rfl ?_
  refine J_get (v := .int 1) dX10_reachOf_31 fl_X10_21 rfl rfl ?_
  refine J_iconst (v := 1) dX10_reachOf_34 (by decide) ?_
  refine J_isub (z := 0) dX10_reachOf_35 (by decide +kernel) ?_
  refine J_istore dX10_reachOf_36 (Nat.le_of_ble_eq_true rfl) rfl ?_
  refine J_iload dX10_reachOf_38 rfl ?_
  refine J_if_lt (tgt := 82) dX10_reachOf_40 (by decide) (fun q => absurd q (by decide +kernel)) (fun _ => ?_)
  refine J_aload_n dX10_reachOf_43 rfl rfl ?_
  refine J_get (v := .ref 66) dX10_reachOf_44 fl_X10_9 rfl rfl ?_
  refine J_aload_n dX10_reachOf_47 rfl rfl ?_
  refine J_get (v := .ref 68) dX10_reachOf_48 fl_X10_18 rfl rfl ?_
  refine J_iload dX10_reachOf_51 rfl ?_
  refine J_iald (i2 := 0) (v := 0) dX10_reachOf_53 rfl rfl (jin (by decide +kernel)) (by decide +kernel) rfl ?_
  refine J_iald (i2 := 0) (v := 0) dX10_reachOf_54 rfl rfl (jin (by decide +kernel)) (by decide +kernel) rfl ?_
  refine J_iload_n dX10_reachOf_55 rfl rfl ?_
  refine J_icmp_ne (tgt := 82) dX10_reachOf_56 (by decide) (fun q => absurd (by decide +kernel) q) (fun _ => ?_)
  refine J_iinc (v := 1) dX10_reachOf_59 rfl (by decide +kernel) (Nat.le_of_ble_eq_true rfl) rfl ?_
  refine J_ls (ls2 := [some (.ref 65), some (.int 0), some (.int 2), some (.int 0), some (.int 1), some (.int 1260), some (.int 0)]) rfl ?_
  refine J_iload dX10_reachOf_62 rfl ?_
  refine J_aload_n dX10_reachOf_64 rfl rfl ?_
  refine J_get (v := .ref 68) dX10_reachOf_65 fl_X10_18 rfl rfl ?_
  refine J_iload dX10_reachOf_68 rfl ?_
  refine J_iald (i2 := 0) (v := 0) dX10_reachOf_70 rfl rfl (jin (by decide +kernel)) (by decide +kernel) rfl ?_
  refine J_mmin (z := 0) dX10_reachOf_71 (jt4 236 rfl rfl) (jt3 222 rfl rfl) (jt1 19 rfl rfl) (jt3 223 rfl rfl) (Nat.le_of_ble_eq_true rfl) (Nat.le_of_ble_eq_true rfl) (Nat.le_of_ble_eq_true rfl) (Nat.le_of_ble_eq_true rfl) (by decide +kernel) ?_
  refine J_istore dX10_reachOf_74 (Nat.le_of_ble_eq_true rfl) rfl ?_
  refine J_iinc (v := (-1)) dX10_reachOf_76 rfl (by decide +kernel) (Nat.le_of_ble_eq_true rfl) rfl ?_
  refine J_ls (ls2 := [some (.ref 65), some (.int 0), some (.int 2), some (.int 0), some (.int 1), some (.int 0), some (.int (-1))]) rfl ?_
  refine J_goto (tgt := 38) dX10_reachOf_79 (by decide) ?_
  refine J_iload dX10_reachOf_38 rfl ?_
  refine J_if_lt (tgt := 82) dX10_reachOf_40 (by decide) (fun _ => ?_) (fun q => absurd (by decide +kernel) q)
  refine J_iload_n dX10_reachOf_82 rfl rfl ?_
  refine J_tableIn (tgt := 119) dX10_reachOf_83 (by decide +kernel) (by decide +kernel) (off := 36) (by decide +kernel) (by decide) ?_
  refine J_iload dX10_reachOf_119 rfl ?_
  exact J_iret dX10_reachOf_121 rfl rfl (Nat.le_of_ble_eq_true rfl) (Nat.le_of_ble_eq_true rfl) ⟨rfl, rfl⟩
set_option maxHeartbeats 4000000 in
set_option maxRecDepth 100000 in
theorem c_X11_reach_5 {l : Launch} {G : jG} {fh : Nat → Option va_E} (hk0 : fh 0 = some (.inr (11, [.ref 1, .ref 17, .ref 50, .ref 51, .ref 54, .ref 57, .ref 65, .ref 75, .ref 81, .ref 85, .ref 88, .ref 93, .ref 96, .int 0, .int (-1), .ref 97, .int 0]))) (hk1 : fh 1 = some (.inr (8, [.ref 2, .ref 3, .ref 4, .int 0, .int (-1), .ref 11, .ref 12, .int 0, .ref 13, .ref 14, .int 0, .ref 15, .ref 16, .int 0]))) (hk3 : fh 3 = some (.inl (0, 2, .inl (fun _ => 0)))) (hk51 : fh 51 = some (.inr (0, [.ref 52, .ref 53, .int 1, .int 0]))) (hk52 : fh 52 = some (.inl (0, 1260, .inl (upd (fun _ => 0) 0 0)))) (hk57 : fh 57 = some (.inr (9, [.ref 1, .ref 51, .ref 58, .ref 61, .ref 62, .ref 63, .ref 64, .int 0, .int 1, .int 1]))) (hk58 : fh 58 = some (.inr (1, [.ref 59, .ref 60, .int 0, .int 0, .int 0, .int 0, .int 0, .int 1]))) (hk59 : fh 59 = some (.inl (0, 8, .inl (fun _ => 0)))) (hk62 : fh 62 = some (.inl (0, 1260, .inl (fun _ => 0)))) (hk63 : fh 63 = some (.inl (0, 0, .inl (fun _ => 0)))) (hk65 : fh 65 = some (.inr (10, [.ref 51, .ref 57, .ref 66, .ref 67, .ref 68, .int 0, .int (-1), .int (-1), .ref 69, .ref 70, .ref 71, .ref 72, .int 0, .int (-1), .int (-1), .ref 73, .ref 74]))) (hk66 : fh 66 = some (.inl (0, 1260, .inl (fun _ => 0)))) (hk67 : fh 67 = some (.inl (0, 1260, .inl (fun _ => 0)))) (hk68 : fh 68 = some (.inl (0, 1260, .inl (fun _ => 0)))) : JM l G yX11_reach MX11_reach { frames := 7, cells := 1, slots := 22, locals := 168 } [.ref 0, .int 0, .int 2] (135, fh) (fun r h9 => r = some (.int 1) ∧ h9 = (136, hc fh [(62, .inl (0, 1260, .inl (upd (upd (fun _ => 0) 0 (-1)) 0 0))), (65, .inr (10, [.ref 51, .ref 57, .ref 66, .ref 67, .ref 68, .int 1, .int 0, .int 0, .ref 69, .ref 70, .ref 71, .ref 72, .int 0, .int (-1), .int (-1), .ref 73, .ref 74])), (68, .inl (0, 1260, .inl (upd (fun _ => 0) 0 0))), (67, .inl (0, 1260, .inl (upd (fun _ => 0) 0 1))), (66, .inl (0, 1260, .inl (upd (upd (fun _ => 0) 0 (-1)) 0 0))), (57, .inr (9, [.ref 1, .ref 51, .ref 58, .ref 61, .ref 62, .ref 135, .ref 64, .int 0, .int 0, .int 0])), (135, .inl (0, 22, .inl (fun _ => 0))), (59, .inl (0, 8, .inl (upd (upd (fun _ => 0) 6 0) 7 0)))])) := by
  refine JM.of (by decide) rfl (fun h => by cases h) (Nat.le_of_ble_eq_true rfl) ⟨0, rfl⟩ ?_
  refine J_hc0 (J_ls (ls2 := [some (.ref 0), some (.int 0), some (.int 2)]) rfl ?_)
  refine J_aload_n dX11_reach_0 rfl rfl ?_
  refine J_get (v := .ref 51) dX11_reach_1 fl_X11_27 hk0 rfl ?_
  refine J_iload_n dX11_reach_4 rfl rfl ?_
  refine J_callV (st := []) dX11_reach_5 cv_X11_135 (c_X0_has_2 hk51) hk51 rfl rfl (Nat.le_of_ble_eq_true rfl) ⟨(Nat.le_of_ble_eq_true rfl), (Nat.le_of_ble_eq_true rfl)⟩ ⟨(Nat.le_of_ble_eq_true rfl), (Nat.le_of_ble_eq_true rfl)⟩ (fun r h9 hp => ?_)
  obtain ⟨rfl, rfl⟩ := hp
  refine J_nf (nh2 := 135) (ck2 := 0) (sk2 := 0) (st2 := [.int 1]) rfl rfl rfl rfl ?_
  refine J_if_ne (tgt := 13) dX11_reach_8 (by decide) (fun _ => ?_) (fun q => absurd q (by decide +kernel))
  refine J_aload_n dX11_reach_13 rfl rfl ?_
  refine J_get (v := .ref 57) dX11_reach_14 fl_X11_43 hk0 rfl ?_
  refine J_callV (st := []) dX11_reach_17 cv_X11_217 (c_X9_prepare_1 hk1 hk3 hk51 hk57 hk58 hk59 hk62 hk63) hk57 rfl rfl (Nat.le_of_ble_eq_true rfl) ⟨(Nat.le_of_ble_eq_true rfl), (Nat.le_of_ble_eq_true rfl)⟩ ⟨(Nat.le_of_ble_eq_true rfl), (Nat.le_of_ble_eq_true rfl)⟩ (fun r h9 hp => ?_)
  obtain ⟨rfl, rfl⟩ := hp
  refine J_nf (nh2 := 136) (ck2 := 1) (sk2 := 22) (st2 := []) rfl rfl rfl rfl ?_
  refine J_app (L3 := [(57, .inr (9, [.ref 1, .ref 51, .ref 58, .ref 61, .ref 62, .ref 135, .ref 64, .int 0, .int 0, .int 0])), (62, .inl (0, 1260, .inl (upd (fun _ => 0) 0 (-1)))), (135, .inl (0, 22, .inl (fun _ => 0))), (59, .inl (0, 8, .inl (upd (upd (fun _ => 0) 6 0) 7 0)))]) rfl ?_
  refine J_aload_n dX11_reach_20 rfl rfl ?_
  refine J_get (v := .ref 65) dX11_reach_21 fl_X11_52 hk0 rfl ?_
  refine J_iload_n dX11_reach_24 rfl rfl ?_
  refine J_iload_n dX11_reach_25 rfl rfl ?_
  refine J_callV (st := []) dX11_reach_26 cv_X11_242 (c_X10_reachOf_4 hk1 hk3 hk51 hk52 rfl rfl hk65 hk66 hk67 hk68) hk65 rfl rfl (Nat.le_of_ble_eq_true rfl) ⟨(Nat.le_of_ble_eq_true rfl), (Nat.le_of_ble_eq_true rfl)⟩ ⟨(Nat.le_of_ble_eq_true rfl), (Nat.le_of_ble_eq_true rfl)⟩ (fun r h9 hp => ?_)
  obtain ⟨rfl, rfl⟩ := hp
  refine J_nf (nh2 := 136) (ck2 := 1) (sk2 := 22) (st2 := [.int 1]) rfl rfl rfl rfl ?_
  refine J_app (L3 := [(62, .inl (0, 1260, .inl (upd (upd (fun _ => 0) 0 (-1)) 0 0))), (65, .inr (10, [.ref 51, .ref 57, .ref 66, .ref 67, .ref 68, .int 1, .int 0, .int 0, .ref 69, .ref 70, .ref 71, .ref 72, .int 0, .int (-1), .int (-1), .ref 73, .ref 74])), (68, .inl (0, 1260, .inl (upd (fun _ => 0) 0 0))), (67, .inl (0, 1260, .inl (upd (fun _ => 0) 0 1))), (66, .inl (0, 1260, .inl (upd (upd (fun _ => 0) 0 (-1)) 0 0))), (57, .inr (9, [.ref 1, .ref 51, .ref 58, .ref 61, .ref 62, .ref 135, .ref 64, .int 0, .int 0, .int 0])), (62, .inl (0, 1260, .inl (upd (fun _ => 0) 0 (-1)))), (135, .inl (0, 22, .inl (fun _ => 0))), (59, .inl (0, 8, .inl (upd (upd (fun _ => 0) 6 0) 7 0)))]) rfl ?_
  refine J_mask (L2 := [(62, .inl (0, 1260, .inl (upd (upd (fun _ => 0) 0 (-1)) 0 0))), (65, .inr (10, [.ref 51, .ref 57, .ref 66, .ref 67, .ref 68, .int 1, .int 0, .int 0, .ref 69, .ref 70, .ref 71, .ref 72, .int 0, .int (-1), .int (-1), .ref 73, .ref 74])), (68, .inl (0, 1260, .inl (upd (fun _ => 0) 0 0))), (67, .inl (0, 1260, .inl (upd (fun _ => 0) 0 1))), (66, .inl (0, 1260, .inl (upd (upd (fun _ => 0) 0 (-1)) 0 0))), (57, .inr (9, [.ref 1, .ref 51, .ref 58, .ref 61, .ref 62, .ref 135, .ref 64, .int 0, .int 0, .int 0])), (135, .inl (0, 22, .inl (fun _ => 0))), (59, .inl (0, 8, .inl (upd (upd (fun _ => 0) 6 0) 7 0)))]) (ks := [62, 65, 68, 67, 66, 57, 62, 135, 59]) [true, true, true, true, true, true, false, true, true] rfl (by decide +kernel) rfl ?_
  exact J_iret dX11_reach_29 rfl rfl (Nat.le_of_ble_eq_true rfl) (Nat.le_of_ble_eq_true rfl) ⟨rfl, rfl⟩
set_option maxHeartbeats 4000000 in
set_option maxRecDepth 100000 in
theorem c_X12_lies_44 {l : Launch} {G : jG} {nh : Nat} {fh : Nat → Option va_E}  : JM l G yX12_lies MX12_lies { frames := 0, cells := 0, slots := 0, locals := 0 } [.int 2, .int 0, .int 3] (nh, fh) (fun r h9 => r = some (.int 1) ∧ h9 = (nh, fh)) := by
  refine JM.of (by decide) rfl (fun h => by cases h) (Nat.le_of_ble_eq_true rfl) ⟨0, rfl⟩ ?_
  refine J_hc0 (J_ls (ls2 := [some (.int 2), some (.int 0), some (.int 3)]) rfl ?_)
  refine J_iload_n dX12_lies_0 rfl rfl ?_
  refine J_iload_n dX12_lies_1 rfl rfl ?_
  refine J_icmp_lt (tgt := 14) dX12_lies_2 (by decide) (fun q => absurd q (by decide +kernel)) (fun _ => ?_)
  refine J_iload_n dX12_lies_5 rfl rfl ?_
  refine J_iload_n dX12_lies_6 rfl rfl ?_
  refine J_icmp_gt (tgt := 14) dX12_lies_7 (by decide) (fun q => absurd q (by decide +kernel)) (fun _ => ?_)
  refine J_iconst (v := 1) dX12_lies_10 (by decide) ?_
  refine J_goto (tgt := 15) dX12_lies_11 (by decide) ?_
  exact J_iret dX12_lies_15 rfl (by decide +kernel) (Nat.le_of_ble_eq_true rfl) (Nat.le_of_ble_eq_true rfl) ⟨rfl, rfl⟩
set_option maxHeartbeats 4000000 in
set_option maxRecDepth 100000 in
theorem c_X12_reach_5 {l : Launch} {G : jG} {nh : Nat} {fh : Nat → Option va_E} (hk98 : fh 98 = some (.inr (12, [.int 0, .int 0, .ref 99, .ref 100, .ref 101, .ref 102, .ref 103, .ref 104, .ref 105, .int 0, .int (-1), .ref 106, .ref 107, .ref 108, .int 0, .int 0, .int 0, .int 0, .int 0, .int 0, .int 0, .ref 109, .int 0, .int 0, .ref 110, .ref 111, .ref 112, .ref 113, .ref 114, .ref 115, .ref 116, .ref 117, .int 0, .int 0, .int (-1), .int (-1), .ref 118, .ref 119, .ref 120, .ref 121, .ref 122, .ref 123, .ref 124, .ref 125, .ref 126, .ref 127, .ref 128, .ref 129, .int 0, .ref 130, .ref 131, .ref 132, .ref 133, .ref 134, .int 0, .int 0]))) (hk100 : fh 100 = some (.inl (0, 4870, .inl (upd (fun _ => 0) 63 (-1))))) (hk111 : fh 111 = some (.inl (0, 1260, .inl (fun _ => 0)))) (hk114 : fh 114 = some (.inl (0, 1260, .inl (fun _ => 0)))) (hk116 : fh 116 = some (.inl (0, 1260, .inl (fun _ => 0)))) (hk118 : fh 118 = some (.inl (0, 1260, .inl (fun _ => 0)))) (hk119 : fh 119 = some (.inl (1, 1260, .inr (.inl (fun _ => 0))))) (hk120 : fh 120 = some (.inl (0, 1260, .inl (fun _ => 0)))) : JM l G yX12_reach MX12_reach { frames := 3, cells := 0, slots := 0, locals := 69 } [.ref 98, .int 0, .int 2] (nh, fh) (fun r h9 => r = some (.int 1) ∧ h9 = (nh, hc fh [(120, .inl (0, 1260, .inl (upd (fun _ => 0) 0 0))), (119, .inl (1, 1260, .inr (.inl (vp_updL (vp_updL (fun _ => 0) 0 0) 0 1)))), (118, .inl (0, 1260, .inl (upd (upd (fun _ => 0) 0 (-1)) 0 0))), (114, .inl (0, 1260, .inl (upd (fun _ => 0) 0 0))), (116, .inl (0, 1260, .inl (upd (fun _ => 0) 0 0))), (98, .inr (12, [.int 0, .int 0, .ref 99, .ref 100, .ref 101, .ref 102, .ref 103, .ref 104, .ref 105, .int 0, .int (-1), .ref 106, .ref 107, .ref 108, .int 0, .int 0, .int 0, .int 0, .int 0, .int 0, .int 0, .ref 109, .int 0, .int 0, .ref 110, .ref 111, .ref 112, .ref 113, .ref 114, .ref 115, .ref 116, .ref 117, .int 1, .int 0, .int 0, .int 0, .ref 118, .ref 119, .ref 120, .ref 121, .ref 122, .ref 123, .ref 124, .ref 125, .ref 126, .ref 127, .ref 128, .ref 129, .int 0, .ref 130, .ref 131, .ref 132, .ref 133, .ref 134, .int 0, .int 0])), (111, .inl (0, 1260, .inl (upd (fun _ => 0) 0 0)))])) := by
  refine JM.of (by decide) rfl (fun h => by cases h) (Nat.le_of_ble_eq_true rfl) ⟨5, rfl⟩ ?_
  refine J_hc0 (J_ls (ls2 := [some (.ref 98), some (.int 0), some (.int 2), none, none, none, none, none]) rfl ?_)
  refine J_aload_n dX12_reach_0 rfl rfl ?_
  refine J_iload_n dX12_reach_1 rfl rfl ?_
  refine J_callV (st := []) dX12_reach_2 cv_X12_325 (c_X12_isHouse_2 hk98 hk100 hk111) hk98 rfl rfl (Nat.le_of_ble_eq_true rfl) ⟨(Nat.le_of_ble_eq_true rfl), (Nat.le_of_ble_eq_true rfl)⟩ ⟨(Nat.le_of_ble_eq_true rfl), (Nat.le_of_ble_eq_true rfl)⟩ (fun r h9 hp => ?_)
  obtain ⟨rfl, rfl⟩ := hp
  refine J_nf (nh2 := nh) (ck2 := 0) (sk2 := 0) (st2 := [.int 1]) rfl rfl rfl rfl ?_
  refine J_app (L3 := [(98, .inr (12, [.int 0, .int 0, .ref 99, .ref 100, .ref 101, .ref 102, .ref 103, .ref 104, .ref 105, .int 0, .int (-1), .ref 106, .ref 107, .ref 108, .int 0, .int 0, .int 0, .int 0, .int 0, .int 0, .int 0, .ref 109, .int 0, .int 0, .ref 110, .ref 111, .ref 112, .ref 113, .ref 114, .ref 115, .ref 116, .ref 117, .int 1, .int 0, .int 0, .int (-1), .ref 118, .ref 119, .ref 120, .ref 121, .ref 122, .ref 123, .ref 124, .ref 125, .ref 126, .ref 127, .ref 128, .ref 129, .int 0, .ref 130, .ref 131, .ref 132, .ref 133, .ref 134, .int 0, .int 0])), (111, .inl (0, 1260, .inl (upd (fun _ => 0) 0 0)))]) rfl ?_
  refine J_if_eq (tgt := 17) dX12_reach_5 (by decide) (fun q => absurd q (by decide +kernel)) (fun _ => ?_)
  refine J_iload_n dX12_reach_8 rfl rfl ?_
  refine J_iconst (v := 0) dX12_reach_9 (by decide) ?_
  refine J_iconst (v := 3) dX12_reach_10 (by decide) ?_
  refine J_callS (st := []) dX12_reach_11 cs_X12_138 (c_X12_lies_44 ) rfl rfl (Nat.le_of_ble_eq_true rfl) ⟨(Nat.le_of_ble_eq_true rfl), (Nat.le_of_ble_eq_true rfl)⟩ ⟨(Nat.le_of_ble_eq_true rfl), (Nat.le_of_ble_eq_true rfl)⟩ (fun r h9 hp => ?_)
  obtain ⟨rfl, rfl⟩ := hp
  refine J_nf (nh2 := nh) (ck2 := 0) (sk2 := 0) (st2 := [.int 1]) rfl rfl rfl rfl ?_
  refine J_if_ne (tgt := 19) dX12_reach_14 (by decide) (fun _ => ?_) (fun q => absurd q (by decide +kernel))
  refine J_aload_n dX12_reach_19 rfl rfl ?_
  refine J_callV (st := []) dX12_reach_20 cv_X12_328 (c_X12_looks_1 rfl hk100 hk114 hk116) rfl rfl rfl (Nat.le_of_ble_eq_true rfl) ⟨(Nat.le_of_ble_eq_true rfl), (Nat.le_of_ble_eq_true rfl)⟩ ⟨(Nat.le_of_ble_eq_true rfl), (Nat.le_of_ble_eq_true rfl)⟩ (fun r h9 hp => ?_)
  obtain ⟨rfl, rfl⟩ := hp
  refine J_nf (nh2 := nh) (ck2 := 0) (sk2 := 0) (st2 := []) rfl rfl rfl rfl ?_
  refine J_app (L3 := [(114, .inl (0, 1260, .inl (upd (fun _ => 0) 0 0))), (116, .inl (0, 1260, .inl (upd (fun _ => 0) 0 0))), (98, .inr (12, [.int 0, .int 0, .ref 99, .ref 100, .ref 101, .ref 102, .ref 103, .ref 104, .ref 105, .int 0, .int (-1), .ref 106, .ref 107, .ref 108, .int 0, .int 0, .int 0, .int 0, .int 0, .int 0, .int 0, .ref 109, .int 0, .int 0, .ref 110, .ref 111, .ref 112, .ref 113, .ref 114, .ref 115, .ref 116, .ref 117, .int 1, .int 0, .int 0, .int 0, .ref 118, .ref 119, .ref 120, .ref 121, .ref 122, .ref 123, .ref 124, .ref 125, .ref 126, .ref 127, .ref 128, .ref 129, .int 0, .ref 130, .ref 131, .ref 132, .ref 133, .ref 134, .int 0, .int 0])), (98, .inr (12, [.int 0, .int 0, .ref 99, .ref 100, .ref 101, .ref 102, .ref 103, .ref 104, .ref 105, .int 0, .int (-1), .ref 106, .ref 107, .ref 108, .int 0, .int 0, .int 0, .int 0, .int 0, .int 0, .int 0, .ref 109, .int 0, .int 0, .ref 110, .ref 111, .ref 112, .ref 113, .ref 114, .ref 115, .ref 116, .ref 117, .int 1, .int 0, .int 0, .int (-1), .ref 118, .ref 119, .ref 120, .ref 121, .ref 122, .ref 123, .ref 124, .ref 125, .ref 126, .ref 127, .ref 128, .ref 129, .int 0, .ref 130, .ref 131, .ref 132, .ref 133, .ref 134, .int 0, .int 0])), (111, .inl (0, 1260, .inl (upd (fun _ => 0) 0 0)))]) rfl ?_
  refine J_aload_n dX12_reach_23 rfl rfl ?_
  refine J_iload_n dX12_reach_24 rfl rfl ?_
  refine J_callV (st := []) dX12_reach_25 cv_X12_334 (c_X12_measures_1 rfl rfl hk118 hk119 hk120) rfl rfl rfl (Nat.le_of_ble_eq_true rfl) ⟨(Nat.le_of_ble_eq_true rfl), (Nat.le_of_ble_eq_true rfl)⟩ ⟨(Nat.le_of_ble_eq_true rfl), (Nat.le_of_ble_eq_true rfl)⟩ (fun r h9 hp => ?_)
  obtain ⟨rfl, rfl⟩ := hp
  refine J_nf (nh2 := nh) (ck2 := 0) (sk2 := 0) (st2 := [.int 1]) rfl rfl rfl rfl ?_
  refine J_app (L3 := [(120, .inl (0, 1260, .inl (upd (fun _ => 0) 0 0))), (119, .inl (1, 1260, .inr (.inl (vp_updL (vp_updL (fun _ => 0) 0 0) 0 1)))), (118, .inl (0, 1260, .inl (upd (upd (fun _ => 0) 0 (-1)) 0 0))), (114, .inl (0, 1260, .inl (upd (fun _ => 0) 0 0))), (116, .inl (0, 1260, .inl (upd (fun _ => 0) 0 0))), (98, .inr (12, [.int 0, .int 0, .ref 99, .ref 100, .ref 101, .ref 102, .ref 103, .ref 104, .ref 105, .int 0, .int (-1), .ref 106, .ref 107, .ref 108, .int 0, .int 0, .int 0, .int 0, .int 0, .int 0, .int 0, .ref 109, .int 0, .int 0, .ref 110, .ref 111, .ref 112, .ref 113, .ref 114, .ref 115, .ref 116, .ref 117, .int 1, .int 0, .int 0, .int 0, .ref 118, .ref 119, .ref 120, .ref 121, .ref 122, .ref 123, .ref 124, .ref 125, .ref 126, .ref 127, .ref 128, .ref 129, .int 0, .ref 130, .ref 131, .ref 132, .ref 133, .ref 134, .int 0, .int 0])), (98, .inr (12, [.int 0, .int 0, .ref 99, .ref 100, .ref 101, .ref 102, .ref 103, .ref 104, .ref 105, .int 0, .int (-1), .ref 106, .ref 107, .ref 108, .int 0, .int 0, .int 0, .int 0, .int 0, .int 0, .int 0, .ref 109, .int 0, .int 0, .ref 110, .ref 111, .ref 112, .ref 113, .ref 114, .ref 115, .ref 116, .ref 117, .int 1, .int 0, .int 0, .int (-1), .ref 118, .ref 119, .ref 120, .ref 121, .ref 122, .ref 123, .ref 124, .ref 125, .ref 126, .ref 127, .ref 128, .ref 129, .int 0, .ref 130, .ref 131, .ref 132, .ref 133, .ref 134, .int 0, .int 0])), (111, .inl (0, 1260, .inl (upd (fun _ => 0) 0 0)))]) rfl ?_
  refine J_istore_n dX12_reach_28 rfl (Nat.le_of_ble_eq_true rfl) rfl ?_
  refine J_aload_n dX12_reach_29 rfl rfl ?_
  refine J_get (v := .ref 118) dX12_reach_30 fl_X12_85 rfl rfl ?_
  refine J_aload_n dX12_reach_33 rfl rfl ?_
  refine J_get (v := .ref 120) dX12_reach_34 fl_X12_92 rfl rfl ?_
  refine J_iload_n dX12_reach_37 rfl rfl ?_
  refine J_iconst (v := 1) dX12_reach_38 (by decide) ?_
  refine J_isub (z := 0) dX12_reach_39 (by decide +kernel) ?_
  refine J_iald (i2 := 0) (v := 0) dX12_reach_40 rfl rfl (jin (by decide +kernel)) (by decide +kernel) rfl ?_
  refine J_iald (i2 := 0) (v := 0) dX12_reach_41 rfl rfl (jin (by decide +kernel)) (by decide +kernel) rfl ?_
  refine J_istore dX12_reach_42 (Nat.le_of_ble_eq_true rfl) rfl ?_
  refine J_iconst (v := 0) dX12_reach_44 (by decide) ?_
  refine J_istore dX12_reach_45 (Nat.le_of_ble_eq_true rfl) rfl ?_
  refine J_iconst (v := (-1)) dX12_reach_47 (by decide) ?_
  refine J_istore dX12_reach_48 (Nat.le_of_ble_eq_true rfl) rfl ?_
  refine J_aload_n dX12_reach_50 rfl rfl ?_
  refine J_get (v := .int 1) dX12_reach_51 fl_X12_298 rfl rfl ?_
  refine J_iconst (v := 1) dX12_reach_54 (by decide) ?_
  refine J_isub (z := 0) dX12_reach_55 (by decide +kernel) ?_
  refine J_istore dX12_reach_56 (Nat.le_of_ble_eq_true rfl) rfl ?_
  refine J_iload dX12_reach_58 rfl ?_
  refine J_if_lt (tgt := 91) dX12_reach_60 (by decide) (fun q => absurd q (by decide +kernel)) (fun _ => ?_)
  refine J_aload_n dX12_reach_63 rfl rfl ?_
  refine J_get (v := .ref 118) dX12_reach_64 fl_X12_85 rfl rfl ?_
  refine J_iload dX12_reach_67 rfl ?_
  refine J_iald (i2 := 0) (v := 0) dX12_reach_69 rfl rfl (jin (by decide +kernel)) (by decide +kernel) rfl ?_
  refine J_iload dX12_reach_70 rfl ?_
  refine J_icmp_eq (tgt := 78) dX12_reach_72 (by decide) (fun _ => ?_) (fun q => absurd (by decide +kernel) q)
  refine J_iinc (v := 1) dX12_reach_78 rfl (by decide +kernel) (Nat.le_of_ble_eq_true rfl) rfl ?_
  refine J_ls (ls2 := [some (.ref 98), some (.int 0), some (.int 2), some (.int 1), some (.int 0), some (.int 1), some (.int (-1)), some (.int 0)]) rfl ?_
  refine J_iload dX12_reach_81 rfl ?_
  refine J_istore dX12_reach_83 (Nat.le_of_ble_eq_true rfl) rfl ?_
  refine J_iinc (v := (-1)) dX12_reach_85 rfl (by decide +kernel) (Nat.le_of_ble_eq_true rfl) rfl ?_
  refine J_ls (ls2 := [some (.ref 98), some (.int 0), some (.int 2), some (.int 1), some (.int 0), some (.int 1), some (.int 0), some (.int (-1))]) rfl ?_
  refine J_goto (tgt := 58) dX12_reach_88 (by decide) ?_
  refine J_iload dX12_reach_58 rfl ?_
  refine J_if_lt (tgt := 91) dX12_reach_60 (by decide) (fun _ => ?_) (fun q => absurd (by decide +kernel) q)
  refine J_iload_n dX12_reach_91 rfl rfl ?_
  refine J_if_ne (tgt := 99) dX12_reach_92 (by decide) (fun _ => ?_) (fun q => absurd q (by decide +kernel))
  refine J_iload_n dX12_reach_99 rfl rfl ?_
  refine J_iconst (v := 1) dX12_reach_100 (by decide) ?_
  refine J_icmp_ne (tgt := 109) dX12_reach_101 (by decide) (fun _ => ?_) (fun q => absurd q (by decide +kernel))
  refine J_iload_n dX12_reach_109 rfl rfl ?_
  refine J_iconst (v := 2) dX12_reach_110 (by decide) ?_
  refine J_icmp_ne (tgt := 119) dX12_reach_111 (by decide) (fun q => absurd (by decide +kernel) q) (fun _ => ?_)
  refine J_iload dX12_reach_114 rfl ?_
  refine J_goto (tgt := 121) dX12_reach_116 (by decide) ?_
  refine J_mask (L2 := [(120, .inl (0, 1260, .inl (upd (fun _ => 0) 0 0))), (119, .inl (1, 1260, .inr (.inl (vp_updL (vp_updL (fun _ => 0) 0 0) 0 1)))), (118, .inl (0, 1260, .inl (upd (upd (fun _ => 0) 0 (-1)) 0 0))), (114, .inl (0, 1260, .inl (upd (fun _ => 0) 0 0))), (116, .inl (0, 1260, .inl (upd (fun _ => 0) 0 0))), (98, .inr (12, [.int 0, .int 0, .ref 99, .ref 100, .ref 101, .ref 102, .ref 103, .ref 104, .ref 105, .int 0, .int (-1), .ref 106, .ref 107, .ref 108, .int 0, .int 0, .int 0, .int 0, .int 0, .int 0, .int 0, .ref 109, .int 0, .int 0, .ref 110, .ref 111, .ref 112, .ref 113, .ref 114, .ref 115, .ref 116, .ref 117, .int 1, .int 0, .int 0, .int 0, .ref 118, .ref 119, .ref 120, .ref 121, .ref 122, .ref 123, .ref 124, .ref 125, .ref 126, .ref 127, .ref 128, .ref 129, .int 0, .ref 130, .ref 131, .ref 132, .ref 133, .ref 134, .int 0, .int 0])), (111, .inl (0, 1260, .inl (upd (fun _ => 0) 0 0)))]) (ks := [120, 119, 118, 114, 116, 98, 98, 111]) [true, true, true, true, true, true, false, true] rfl (by decide +kernel) rfl ?_
  exact J_iret dX12_reach_121 rfl rfl (Nat.le_of_ble_eq_true rfl) (Nat.le_of_ble_eq_true rfl) ⟨rfl, rfl⟩
set_option maxHeartbeats 4000000 in
set_option maxRecDepth 100000 in
theorem c_X10_reachOf_5 {l : Launch} {G : jG} {nh : Nat} {fh : Nat → Option va_E} (hk1 : fh 1 = some (.inr (8, [.ref 2, .ref 3, .ref 4, .int 0, .int (-1), .ref 11, .ref 12, .int 0, .ref 13, .ref 14, .int 0, .ref 15, .ref 16, .int 0]))) (hk3 : fh 3 = some (.inl (0, 2, .inl (fun _ => 0)))) (hk51 : fh 51 = some (.inr (0, [.ref 52, .ref 53, .int 1, .int 0]))) (hk52 : fh 52 = some (.inl (0, 1260, .inl (upd (fun _ => 0) 0 0)))) (hk57 : fh 57 = some (.inr (9, [.ref 1, .ref 51, .ref 58, .ref 61, .ref 62, .ref 135, .ref 64, .int 0, .int 0, .int 0]))) (hk62 : fh 62 = some (.inl (0, 1260, .inl (upd (fun _ => 0) 0 (-1))))) (hk65 : fh 65 = some (.inr (10, [.ref 51, .ref 57, .ref 66, .ref 67, .ref 68, .int 0, .int (-1), .int (-1), .ref 69, .ref 70, .ref 71, .ref 72, .int 0, .int (-1), .int (-1), .ref 73, .ref 74]))) (hk66 : fh 66 = some (.inl (0, 1260, .inl (fun _ => 0)))) (hk67 : fh 67 = some (.inl (0, 1260, .inl (fun _ => 0)))) (hk68 : fh 68 = some (.inl (0, 1260, .inl (fun _ => 0)))) : JM l G yX10_reachOf MX10_reachOf { frames := 6, cells := 0, slots := 0, locals := 142 } [.ref 65, .int 0, .int 3] (nh, fh) (fun r h9 => r = some (.int 0) ∧ h9 = (nh, hc fh [(62, .inl (0, 1260, .inl (upd (upd (fun _ => 0) 0 (-1)) 0 0))), (65, .inr (10, [.ref 51, .ref 57, .ref 66, .ref 67, .ref 68, .int 1, .int 0, .int 0, .ref 69, .ref 70, .ref 71, .ref 72, .int 0, .int (-1), .int (-1), .ref 73, .ref 74])), (68, .inl (0, 1260, .inl (upd (fun _ => 0) 0 0))), (67, .inl (0, 1260, .inl (upd (fun _ => 0) 0 1))), (66, .inl (0, 1260, .inl (upd (upd (fun _ => 0) 0 (-1)) 0 0)))])) := by
  refine JM.of (by decide) rfl (fun h => by cases h) (Nat.le_of_ble_eq_true rfl) ⟨4, rfl⟩ ?_
  refine J_hc0 (J_ls (ls2 := [some (.ref 65), some (.int 0), some (.int 3), none, none, none, none]) rfl ?_)
  refine J_aload_n dX10_reachOf_0 rfl rfl ?_
  refine J_iload_n dX10_reachOf_1 rfl rfl ?_
  refine J_callV (st := []) dX10_reachOf_2 cv_X10_67 (c_X10_walkFrom_1 hk1 hk3 hk51 hk52 hk57 hk62 hk65 hk66 hk67 hk68) hk65 rfl rfl (Nat.le_of_ble_eq_true rfl) ⟨(Nat.le_of_ble_eq_true rfl), (Nat.le_of_ble_eq_true rfl)⟩ ⟨(Nat.le_of_ble_eq_true rfl), (Nat.le_of_ble_eq_true rfl)⟩ (fun r h9 hp => ?_)
  obtain ⟨rfl, rfl⟩ := hp
  refine J_nf (nh2 := nh) (ck2 := 0) (sk2 := 0) (st2 := []) rfl rfl rfl rfl ?_
  refine J_app (L3 := [(62, .inl (0, 1260, .inl (upd (upd (fun _ => 0) 0 (-1)) 0 0))), (65, .inr (10, [.ref 51, .ref 57, .ref 66, .ref 67, .ref 68, .int 1, .int 0, .int 0, .ref 69, .ref 70, .ref 71, .ref 72, .int 0, .int (-1), .int (-1), .ref 73, .ref 74])), (68, .inl (0, 1260, .inl (upd (fun _ => 0) 0 0))), (67, .inl (0, 1260, .inl (upd (fun _ => 0) 0 1))), (66, .inl (0, 1260, .inl (upd (upd (fun _ => 0) 0 (-1)) 0 0)))]) rfl ?_
  refine J_aload_n dX10_reachOf_5 rfl rfl ?_
  refine J_get (v := .ref 66) dX10_reachOf_6 fl_X10_9 rfl rfl ?_
  refine J_aload_n dX10_reachOf_9 rfl rfl ?_
  refine J_get (v := .ref 68) dX10_reachOf_10 fl_X10_18 rfl rfl ?_
  refine J_aload_n dX10_reachOf_13 rfl rfl ?_
  refine J_get (v := .int 1) dX10_reachOf_14 fl_X10_21 rfl rfl ?_
  refine J_iconst (v := 1) dX10_reachOf_17 (by decide) ?_
  refine J_isub (z := 0) dX10_reachOf_18 (by decide +kernel) ?_
  refine J_iald (i2 := 0) (v := 0) dX10_reachOf_19 rfl rfl (jin (by decide +kernel)) (by decide +kernel) rfl ?_
  refine J_iald (i2 := 0) (v := 0) dX10_reachOf_20 rfl rfl (jin (by decide +kernel)) (by decide +kernel) rfl ?_
  refine J_istore_n dX10_reachOf_21 rfl (Nat.le_of_ble_eq_true rfl) rfl ?_
  refine J_iconst (v := 0) dX10_reachOf_22 (by decide) ?_
  refine J_istore dX10_reachOf_23 (Nat.le_of_ble_eq_true rfl) rfl ?_
  refine J_sipush (v := 1260) dX10_reachOf_25 (by decide +kernel) ?_
  refine J_istore dX10_reachOf_28 (Nat.le_of_ble_eq_true rfl) rfl ?_
  refine J_aload_n dX10_reachOf_30 rfl rfl ?_
  refine J_get (v := .int 1) dX10_reachOf_31 fl_X10_21 rfl rfl ?_
  refine J_iconst (v := 1) dX10_reachOf_34 (by decide) ?_
  refine J_isub (z := 0) dX10_reachOf_35 (by decide +kernel) ?_
  refine J_istore dX10_reachOf_36 (Nat.le_of_ble_eq_true rfl) rfl ?_
  refine J_iload dX10_reachOf_38 rfl ?_
  refine J_if_lt (tgt := 82) dX10_reachOf_40 (by decide) (fun q => absurd q (by decide +kernel)) (fun _ => ?_)
  refine J_aload_n dX10_reachOf_43 rfl rfl ?_
  refine J_get (v := .ref 66) dX10_reachOf_44 fl_X10_9 rfl rfl ?_
  refine J_aload_n dX10_reachOf_47 rfl rfl ?_
  refine J_get (v := .ref 68) dX10_reachOf_48 fl_X10_18 rfl rfl ?_
  refine J_iload dX10_reachOf_51 rfl ?_
  refine J_iald (i2 := 0) (v := 0) dX10_reachOf_53 rfl rfl (jin (by decide +kernel)) (by decide +kernel) rfl ?_
  refine J_iald (i2 := 0) (v := 0) dX10_reachOf_54 rfl rfl (jin (by decide +kernel)) (by decide +kernel) rfl ?_
  refine J_iload_n dX10_reachOf_55 rfl rfl ?_
  refine J_icmp_ne (tgt := 82) dX10_reachOf_56 (by decide) (fun q => absurd (by decide +kernel) q) (fun _ => ?_)
  refine J_iinc (v := 1) dX10_reachOf_59 rfl (by decide +kernel) (Nat.le_of_ble_eq_true rfl) rfl ?_
  refine J_ls (ls2 := [some (.ref 65), some (.int 0), some (.int 3), some (.int 0), some (.int 1), some (.int 1260), some (.int 0)]) rfl ?_
  refine J_iload dX10_reachOf_62 rfl ?_
  refine J_aload_n dX10_reachOf_64 rfl rfl ?_
  refine J_get (v := .ref 68) dX10_reachOf_65 fl_X10_18 rfl rfl ?_
  refine J_iload dX10_reachOf_68 rfl ?_
  refine J_iald (i2 := 0) (v := 0) dX10_reachOf_70 rfl rfl (jin (by decide +kernel)) (by decide +kernel) rfl ?_
  refine J_mmin (z := 0) dX10_reachOf_71 (jt4 236 rfl rfl) (jt3 222 rfl rfl) (jt1 19 rfl rfl) (jt3 223 rfl rfl) (Nat.le_of_ble_eq_true rfl) (Nat.le_of_ble_eq_true rfl) (Nat.le_of_ble_eq_true rfl) (Nat.le_of_ble_eq_true rfl) (by decide +kernel) ?_
  refine J_istore dX10_reachOf_74 (Nat.le_of_ble_eq_true rfl) rfl ?_
  refine J_iinc (v := (-1)) dX10_reachOf_76 rfl (by decide +kernel) (Nat.le_of_ble_eq_true rfl) rfl ?_
  refine J_ls (ls2 := [some (.ref 65), some (.int 0), some (.int 3), some (.int 0), some (.int 1), some (.int 0), some (.int (-1))]) rfl ?_
  refine J_goto (tgt := 38) dX10_reachOf_79 (by decide) ?_
  refine J_iload dX10_reachOf_38 rfl ?_
  refine J_if_lt (tgt := 82) dX10_reachOf_40 (by decide) (fun _ => ?_) (fun q => absurd (by decide +kernel) q)
  refine J_iload_n dX10_reachOf_82 rfl rfl ?_
  refine J_tableIn (tgt := 122) dX10_reachOf_83 (by decide +kernel) (by decide +kernel) (off := 39) (by decide +kernel) (by decide) ?_
  refine J_iload dX10_reachOf_122 rfl ?_
  exact J_iret dX10_reachOf_124 rfl rfl (Nat.le_of_ble_eq_true rfl) (Nat.le_of_ble_eq_true rfl) ⟨rfl, rfl⟩
set_option maxHeartbeats 4000000 in
set_option maxRecDepth 100000 in
theorem c_X11_reach_6 {l : Launch} {G : jG} {fh : Nat → Option va_E} (hk0 : fh 0 = some (.inr (11, [.ref 1, .ref 17, .ref 50, .ref 51, .ref 54, .ref 57, .ref 65, .ref 75, .ref 81, .ref 85, .ref 88, .ref 93, .ref 96, .int 0, .int (-1), .ref 97, .int 0]))) (hk1 : fh 1 = some (.inr (8, [.ref 2, .ref 3, .ref 4, .int 0, .int (-1), .ref 11, .ref 12, .int 0, .ref 13, .ref 14, .int 0, .ref 15, .ref 16, .int 0]))) (hk3 : fh 3 = some (.inl (0, 2, .inl (fun _ => 0)))) (hk51 : fh 51 = some (.inr (0, [.ref 52, .ref 53, .int 1, .int 0]))) (hk52 : fh 52 = some (.inl (0, 1260, .inl (upd (fun _ => 0) 0 0)))) (hk57 : fh 57 = some (.inr (9, [.ref 1, .ref 51, .ref 58, .ref 61, .ref 62, .ref 63, .ref 64, .int 0, .int 1, .int 1]))) (hk58 : fh 58 = some (.inr (1, [.ref 59, .ref 60, .int 0, .int 0, .int 0, .int 0, .int 0, .int 1]))) (hk59 : fh 59 = some (.inl (0, 8, .inl (fun _ => 0)))) (hk62 : fh 62 = some (.inl (0, 1260, .inl (fun _ => 0)))) (hk63 : fh 63 = some (.inl (0, 0, .inl (fun _ => 0)))) (hk65 : fh 65 = some (.inr (10, [.ref 51, .ref 57, .ref 66, .ref 67, .ref 68, .int 0, .int (-1), .int (-1), .ref 69, .ref 70, .ref 71, .ref 72, .int 0, .int (-1), .int (-1), .ref 73, .ref 74]))) (hk66 : fh 66 = some (.inl (0, 1260, .inl (fun _ => 0)))) (hk67 : fh 67 = some (.inl (0, 1260, .inl (fun _ => 0)))) (hk68 : fh 68 = some (.inl (0, 1260, .inl (fun _ => 0)))) : JM l G yX11_reach MX11_reach { frames := 7, cells := 1, slots := 22, locals := 168 } [.ref 0, .int 0, .int 3] (135, fh) (fun r h9 => r = some (.int 0) ∧ h9 = (136, hc fh [(62, .inl (0, 1260, .inl (upd (upd (fun _ => 0) 0 (-1)) 0 0))), (65, .inr (10, [.ref 51, .ref 57, .ref 66, .ref 67, .ref 68, .int 1, .int 0, .int 0, .ref 69, .ref 70, .ref 71, .ref 72, .int 0, .int (-1), .int (-1), .ref 73, .ref 74])), (68, .inl (0, 1260, .inl (upd (fun _ => 0) 0 0))), (67, .inl (0, 1260, .inl (upd (fun _ => 0) 0 1))), (66, .inl (0, 1260, .inl (upd (upd (fun _ => 0) 0 (-1)) 0 0))), (57, .inr (9, [.ref 1, .ref 51, .ref 58, .ref 61, .ref 62, .ref 135, .ref 64, .int 0, .int 0, .int 0])), (135, .inl (0, 22, .inl (fun _ => 0))), (59, .inl (0, 8, .inl (upd (upd (fun _ => 0) 6 0) 7 0)))])) := by
  refine JM.of (by decide) rfl (fun h => by cases h) (Nat.le_of_ble_eq_true rfl) ⟨0, rfl⟩ ?_
  refine J_hc0 (J_ls (ls2 := [some (.ref 0), some (.int 0), some (.int 3)]) rfl ?_)
  refine J_aload_n dX11_reach_0 rfl rfl ?_
  refine J_get (v := .ref 51) dX11_reach_1 fl_X11_27 hk0 rfl ?_
  refine J_iload_n dX11_reach_4 rfl rfl ?_
  refine J_callV (st := []) dX11_reach_5 cv_X11_135 (c_X0_has_2 hk51) hk51 rfl rfl (Nat.le_of_ble_eq_true rfl) ⟨(Nat.le_of_ble_eq_true rfl), (Nat.le_of_ble_eq_true rfl)⟩ ⟨(Nat.le_of_ble_eq_true rfl), (Nat.le_of_ble_eq_true rfl)⟩ (fun r h9 hp => ?_)
  obtain ⟨rfl, rfl⟩ := hp
  refine J_nf (nh2 := 135) (ck2 := 0) (sk2 := 0) (st2 := [.int 1]) rfl rfl rfl rfl ?_
  refine J_if_ne (tgt := 13) dX11_reach_8 (by decide) (fun _ => ?_) (fun q => absurd q (by decide +kernel))
  refine J_aload_n dX11_reach_13 rfl rfl ?_
  refine J_get (v := .ref 57) dX11_reach_14 fl_X11_43 hk0 rfl ?_
  refine J_callV (st := []) dX11_reach_17 cv_X11_217 (c_X9_prepare_1 hk1 hk3 hk51 hk57 hk58 hk59 hk62 hk63) hk57 rfl rfl (Nat.le_of_ble_eq_true rfl) ⟨(Nat.le_of_ble_eq_true rfl), (Nat.le_of_ble_eq_true rfl)⟩ ⟨(Nat.le_of_ble_eq_true rfl), (Nat.le_of_ble_eq_true rfl)⟩ (fun r h9 hp => ?_)
  obtain ⟨rfl, rfl⟩ := hp
  refine J_nf (nh2 := 136) (ck2 := 1) (sk2 := 22) (st2 := []) rfl rfl rfl rfl ?_
  refine J_app (L3 := [(57, .inr (9, [.ref 1, .ref 51, .ref 58, .ref 61, .ref 62, .ref 135, .ref 64, .int 0, .int 0, .int 0])), (62, .inl (0, 1260, .inl (upd (fun _ => 0) 0 (-1)))), (135, .inl (0, 22, .inl (fun _ => 0))), (59, .inl (0, 8, .inl (upd (upd (fun _ => 0) 6 0) 7 0)))]) rfl ?_
  refine J_aload_n dX11_reach_20 rfl rfl ?_
  refine J_get (v := .ref 65) dX11_reach_21 fl_X11_52 hk0 rfl ?_
  refine J_iload_n dX11_reach_24 rfl rfl ?_
  refine J_iload_n dX11_reach_25 rfl rfl ?_
  refine J_callV (st := []) dX11_reach_26 cv_X11_242 (c_X10_reachOf_5 hk1 hk3 hk51 hk52 rfl rfl hk65 hk66 hk67 hk68) hk65 rfl rfl (Nat.le_of_ble_eq_true rfl) ⟨(Nat.le_of_ble_eq_true rfl), (Nat.le_of_ble_eq_true rfl)⟩ ⟨(Nat.le_of_ble_eq_true rfl), (Nat.le_of_ble_eq_true rfl)⟩ (fun r h9 hp => ?_)
  obtain ⟨rfl, rfl⟩ := hp
  refine J_nf (nh2 := 136) (ck2 := 1) (sk2 := 22) (st2 := [.int 0]) rfl rfl rfl rfl ?_
  refine J_app (L3 := [(62, .inl (0, 1260, .inl (upd (upd (fun _ => 0) 0 (-1)) 0 0))), (65, .inr (10, [.ref 51, .ref 57, .ref 66, .ref 67, .ref 68, .int 1, .int 0, .int 0, .ref 69, .ref 70, .ref 71, .ref 72, .int 0, .int (-1), .int (-1), .ref 73, .ref 74])), (68, .inl (0, 1260, .inl (upd (fun _ => 0) 0 0))), (67, .inl (0, 1260, .inl (upd (fun _ => 0) 0 1))), (66, .inl (0, 1260, .inl (upd (upd (fun _ => 0) 0 (-1)) 0 0))), (57, .inr (9, [.ref 1, .ref 51, .ref 58, .ref 61, .ref 62, .ref 135, .ref 64, .int 0, .int 0, .int 0])), (62, .inl (0, 1260, .inl (upd (fun _ => 0) 0 (-1)))), (135, .inl (0, 22, .inl (fun _ => 0))), (59, .inl (0, 8, .inl (upd (upd (fun _ => 0) 6 0) 7 0)))]) rfl ?_
  refine J_mask (L2 := [(62, .inl (0, 1260, .inl (upd (upd (fun _ => 0) 0 (-1)) 0 0))), (65, .inr (10, [.ref 51, .ref 57, .ref 66, .ref 67, .ref 68, .int 1, .int 0, .int 0, .ref 69, .ref 70, .ref 71, .ref 72, .int 0, .int (-1), .int (-1), .ref 73, .ref 74])), (68, .inl (0, 1260, .inl (upd (fun _ => 0) 0 0))), (67, .inl (0, 1260, .inl (upd (fun _ => 0) 0 1))), (66, .inl (0, 1260, .inl (upd (upd (fun _ => 0) 0 (-1)) 0 0))), (57, .inr (9, [.ref 1, .ref 51, .ref 58, .ref 61, .ref 62, .ref 135, .ref 64, .int 0, .int 0, .int 0])), (135, .inl (0, 22, .inl (fun _ => 0))), (59, .inl (0, 8, .inl (upd (upd (fun _ => 0) 6 0) 7 0)))]) (ks := [62, 65, 68, 67, 66, 57, 62, 135, 59]) [true, true, true, true, true, true, false, true, true] rfl (by decide +kernel) rfl ?_
  exact J_iret dX11_reach_29 rfl rfl (Nat.le_of_ble_eq_true rfl) (Nat.le_of_ble_eq_true rfl) ⟨rfl, rfl⟩
set_option maxHeartbeats 4000000 in
set_option maxRecDepth 100000 in
theorem c_X12_lies_45 {l : Launch} {G : jG} {nh : Nat} {fh : Nat → Option va_E}  : JM l G yX12_lies MX12_lies { frames := 0, cells := 0, slots := 0, locals := 0 } [.int 3, .int 0, .int 3] (nh, fh) (fun r h9 => r = some (.int 1) ∧ h9 = (nh, fh)) := by
  refine JM.of (by decide) rfl (fun h => by cases h) (Nat.le_of_ble_eq_true rfl) ⟨0, rfl⟩ ?_
  refine J_hc0 (J_ls (ls2 := [some (.int 3), some (.int 0), some (.int 3)]) rfl ?_)
  refine J_iload_n dX12_lies_0 rfl rfl ?_
  refine J_iload_n dX12_lies_1 rfl rfl ?_
  refine J_icmp_lt (tgt := 14) dX12_lies_2 (by decide) (fun q => absurd q (by decide +kernel)) (fun _ => ?_)
  refine J_iload_n dX12_lies_5 rfl rfl ?_
  refine J_iload_n dX12_lies_6 rfl rfl ?_
  refine J_icmp_gt (tgt := 14) dX12_lies_7 (by decide) (fun q => absurd q (by decide +kernel)) (fun _ => ?_)
  refine J_iconst (v := 1) dX12_lies_10 (by decide) ?_
  refine J_goto (tgt := 15) dX12_lies_11 (by decide) ?_
  exact J_iret dX12_lies_15 rfl (by decide +kernel) (Nat.le_of_ble_eq_true rfl) (Nat.le_of_ble_eq_true rfl) ⟨rfl, rfl⟩
set_option maxHeartbeats 4000000 in
set_option maxRecDepth 100000 in
theorem c_X12_reach_6 {l : Launch} {G : jG} {nh : Nat} {fh : Nat → Option va_E} (hk98 : fh 98 = some (.inr (12, [.int 0, .int 0, .ref 99, .ref 100, .ref 101, .ref 102, .ref 103, .ref 104, .ref 105, .int 0, .int (-1), .ref 106, .ref 107, .ref 108, .int 0, .int 0, .int 0, .int 0, .int 0, .int 0, .int 0, .ref 109, .int 0, .int 0, .ref 110, .ref 111, .ref 112, .ref 113, .ref 114, .ref 115, .ref 116, .ref 117, .int 0, .int 0, .int (-1), .int (-1), .ref 118, .ref 119, .ref 120, .ref 121, .ref 122, .ref 123, .ref 124, .ref 125, .ref 126, .ref 127, .ref 128, .ref 129, .int 0, .ref 130, .ref 131, .ref 132, .ref 133, .ref 134, .int 0, .int 0]))) (hk100 : fh 100 = some (.inl (0, 4870, .inl (upd (fun _ => 0) 63 (-1))))) (hk111 : fh 111 = some (.inl (0, 1260, .inl (fun _ => 0)))) (hk114 : fh 114 = some (.inl (0, 1260, .inl (fun _ => 0)))) (hk116 : fh 116 = some (.inl (0, 1260, .inl (fun _ => 0)))) (hk118 : fh 118 = some (.inl (0, 1260, .inl (fun _ => 0)))) (hk119 : fh 119 = some (.inl (1, 1260, .inr (.inl (fun _ => 0))))) (hk120 : fh 120 = some (.inl (0, 1260, .inl (fun _ => 0)))) : JM l G yX12_reach MX12_reach { frames := 3, cells := 0, slots := 0, locals := 69 } [.ref 98, .int 0, .int 3] (nh, fh) (fun r h9 => r = some (.int 0) ∧ h9 = (nh, hc fh [(120, .inl (0, 1260, .inl (upd (fun _ => 0) 0 0))), (119, .inl (1, 1260, .inr (.inl (vp_updL (vp_updL (fun _ => 0) 0 0) 0 1)))), (118, .inl (0, 1260, .inl (upd (upd (fun _ => 0) 0 (-1)) 0 0))), (114, .inl (0, 1260, .inl (upd (fun _ => 0) 0 0))), (116, .inl (0, 1260, .inl (upd (fun _ => 0) 0 0))), (98, .inr (12, [.int 0, .int 0, .ref 99, .ref 100, .ref 101, .ref 102, .ref 103, .ref 104, .ref 105, .int 0, .int (-1), .ref 106, .ref 107, .ref 108, .int 0, .int 0, .int 0, .int 0, .int 0, .int 0, .int 0, .ref 109, .int 0, .int 0, .ref 110, .ref 111, .ref 112, .ref 113, .ref 114, .ref 115, .ref 116, .ref 117, .int 1, .int 0, .int 0, .int 0, .ref 118, .ref 119, .ref 120, .ref 121, .ref 122, .ref 123, .ref 124, .ref 125, .ref 126, .ref 127, .ref 128, .ref 129, .int 0, .ref 130, .ref 131, .ref 132, .ref 133, .ref 134, .int 0, .int 0])), (111, .inl (0, 1260, .inl (upd (fun _ => 0) 0 0)))])) := by
  refine JM.of (by decide) rfl (fun h => by cases h) (Nat.le_of_ble_eq_true rfl) ⟨5, rfl⟩ ?_
  refine J_hc0 (J_ls (ls2 := [some (.ref 98), some (.int 0), some (.int 3), none, none, none, none, none]) rfl ?_)
  refine J_aload_n dX12_reach_0 rfl rfl ?_
  refine J_iload_n dX12_reach_1 rfl rfl ?_
  refine J_callV (st := []) dX12_reach_2 cv_X12_325 (c_X12_isHouse_2 hk98 hk100 hk111) hk98 rfl rfl (Nat.le_of_ble_eq_true rfl) ⟨(Nat.le_of_ble_eq_true rfl), (Nat.le_of_ble_eq_true rfl)⟩ ⟨(Nat.le_of_ble_eq_true rfl), (Nat.le_of_ble_eq_true rfl)⟩ (fun r h9 hp => ?_)
  obtain ⟨rfl, rfl⟩ := hp
  refine J_nf (nh2 := nh) (ck2 := 0) (sk2 := 0) (st2 := [.int 1]) rfl rfl rfl rfl ?_
  refine J_app (L3 := [(98, .inr (12, [.int 0, .int 0, .ref 99, .ref 100, .ref 101, .ref 102, .ref 103, .ref 104, .ref 105, .int 0, .int (-1), .ref 106, .ref 107, .ref 108, .int 0, .int 0, .int 0, .int 0, .int 0, .int 0, .int 0, .ref 109, .int 0, .int 0, .ref 110, .ref 111, .ref 112, .ref 113, .ref 114, .ref 115, .ref 116, .ref 117, .int 1, .int 0, .int 0, .int (-1), .ref 118, .ref 119, .ref 120, .ref 121, .ref 122, .ref 123, .ref 124, .ref 125, .ref 126, .ref 127, .ref 128, .ref 129, .int 0, .ref 130, .ref 131, .ref 132, .ref 133, .ref 134, .int 0, .int 0])), (111, .inl (0, 1260, .inl (upd (fun _ => 0) 0 0)))]) rfl ?_
  refine J_if_eq (tgt := 17) dX12_reach_5 (by decide) (fun q => absurd q (by decide +kernel)) (fun _ => ?_)
  refine J_iload_n dX12_reach_8 rfl rfl ?_
  refine J_iconst (v := 0) dX12_reach_9 (by decide) ?_
  refine J_iconst (v := 3) dX12_reach_10 (by decide) ?_
  refine J_callS (st := []) dX12_reach_11 cs_X12_138 (c_X12_lies_45 ) rfl rfl (Nat.le_of_ble_eq_true rfl) ⟨(Nat.le_of_ble_eq_true rfl), (Nat.le_of_ble_eq_true rfl)⟩ ⟨(Nat.le_of_ble_eq_true rfl), (Nat.le_of_ble_eq_true rfl)⟩ (fun r h9 hp => ?_)
  obtain ⟨rfl, rfl⟩ := hp
  refine J_nf (nh2 := nh) (ck2 := 0) (sk2 := 0) (st2 := [.int 1]) rfl rfl rfl rfl ?_
  refine J_if_ne (tgt := 19) dX12_reach_14 (by decide) (fun _ => ?_) (fun q => absurd q (by decide +kernel))
  refine J_aload_n dX12_reach_19 rfl rfl ?_
  refine J_callV (st := []) dX12_reach_20 cv_X12_328 (c_X12_looks_1 rfl hk100 hk114 hk116) rfl rfl rfl (Nat.le_of_ble_eq_true rfl) ⟨(Nat.le_of_ble_eq_true rfl), (Nat.le_of_ble_eq_true rfl)⟩ ⟨(Nat.le_of_ble_eq_true rfl), (Nat.le_of_ble_eq_true rfl)⟩ (fun r h9 hp => ?_)
  obtain ⟨rfl, rfl⟩ := hp
  refine J_nf (nh2 := nh) (ck2 := 0) (sk2 := 0) (st2 := []) rfl rfl rfl rfl ?_
  refine J_app (L3 := [(114, .inl (0, 1260, .inl (upd (fun _ => 0) 0 0))), (116, .inl (0, 1260, .inl (upd (fun _ => 0) 0 0))), (98, .inr (12, [.int 0, .int 0, .ref 99, .ref 100, .ref 101, .ref 102, .ref 103, .ref 104, .ref 105, .int 0, .int (-1), .ref 106, .ref 107, .ref 108, .int 0, .int 0, .int 0, .int 0, .int 0, .int 0, .int 0, .ref 109, .int 0, .int 0, .ref 110, .ref 111, .ref 112, .ref 113, .ref 114, .ref 115, .ref 116, .ref 117, .int 1, .int 0, .int 0, .int 0, .ref 118, .ref 119, .ref 120, .ref 121, .ref 122, .ref 123, .ref 124, .ref 125, .ref 126, .ref 127, .ref 128, .ref 129, .int 0, .ref 130, .ref 131, .ref 132, .ref 133, .ref 134, .int 0, .int 0])), (98, .inr (12, [.int 0, .int 0, .ref 99, .ref 100, .ref 101, .ref 102, .ref 103, .ref 104, .ref 105, .int 0, .int (-1), .ref 106, .ref 107, .ref 108, .int 0, .int 0, .int 0, .int 0, .int 0, .int 0, .int 0, .ref 109, .int 0, .int 0, .ref 110, .ref 111, .ref 112, .ref 113, .ref 114, .ref 115, .ref 116, .ref 117, .int 1, .int 0, .int 0, .int (-1), .ref 118, .ref 119, .ref 120, .ref 121, .ref 122, .ref 123, .ref 124, .ref 125, .ref 126, .ref 127, .ref 128, .ref 129, .int 0, .ref 130, .ref 131, .ref 132, .ref 133, .ref 134, .int 0, .int 0])), (111, .inl (0, 1260, .inl (upd (fun _ => 0) 0 0)))]) rfl ?_
  refine J_aload_n dX12_reach_23 rfl rfl ?_
  refine J_iload_n dX12_reach_24 rfl rfl ?_
  refine J_callV (st := []) dX12_reach_25 cv_X12_334 (c_X12_measures_1 rfl rfl hk118 hk119 hk120) rfl rfl rfl (Nat.le_of_ble_eq_true rfl) ⟨(Nat.le_of_ble_eq_true rfl), (Nat.le_of_ble_eq_true rfl)⟩ ⟨(Nat.le_of_ble_eq_true rfl), (Nat.le_of_ble_eq_true rfl)⟩ (fun r h9 hp => ?_)
  obtain ⟨rfl, rfl⟩ := hp
  refine J_nf (nh2 := nh) (ck2 := 0) (sk2 := 0) (st2 := [.int 1]) rfl rfl rfl rfl ?_
  refine J_app (L3 := [(120, .inl (0, 1260, .inl (upd (fun _ => 0) 0 0))), (119, .inl (1, 1260, .inr (.inl (vp_updL (vp_updL (fun _ => 0) 0 0) 0 1)))), (118, .inl (0, 1260, .inl (upd (upd (fun _ => 0) 0 (-1)) 0 0))), (114, .inl (0, 1260, .inl (upd (fun _ => 0) 0 0))), (116, .inl (0, 1260, .inl (upd (fun _ => 0) 0 0))), (98, .inr (12, [.int 0, .int 0, .ref 99, .ref 100, .ref 101, .ref 102, .ref 103, .ref 104, .ref 105, .int 0, .int (-1), .ref 106, .ref 107, .ref 108, .int 0, .int 0, .int 0, .int 0, .int 0, .int 0, .int 0, .ref 109, .int 0, .int 0, .ref 110, .ref 111, .ref 112, .ref 113, .ref 114, .ref 115, .ref 116, .ref 117, .int 1, .int 0, .int 0, .int 0, .ref 118, .ref 119, .ref 120, .ref 121, .ref 122, .ref 123, .ref 124, .ref 125, .ref 126, .ref 127, .ref 128, .ref 129, .int 0, .ref 130, .ref 131, .ref 132, .ref 133, .ref 134, .int 0, .int 0])), (98, .inr (12, [.int 0, .int 0, .ref 99, .ref 100, .ref 101, .ref 102, .ref 103, .ref 104, .ref 105, .int 0, .int (-1), .ref 106, .ref 107, .ref 108, .int 0, .int 0, .int 0, .int 0, .int 0, .int 0, .int 0, .ref 109, .int 0, .int 0, .ref 110, .ref 111, .ref 112, .ref 113, .ref 114, .ref 115, .ref 116, .ref 117, .int 1, .int 0, .int 0, .int (-1), .ref 118, .ref 119, .ref 120, .ref 121, .ref 122, .ref 123, .ref 124, .ref 125, .ref 126, .ref 127, .ref 128, .ref 129, .int 0, .ref 130, .ref 131, .ref 132, .ref 133, .ref 134, .int 0, .int 0])), (111, .inl (0, 1260, .inl (upd (fun _ => 0) 0 0)))]) rfl ?_
  refine J_istore_n dX12_reach_28 rfl (Nat.le_of_ble_eq_true rfl) rfl ?_
  refine J_aload_n dX12_reach_29 rfl rfl ?_
  refine J_get (v := .ref 118) dX12_reach_30 fl_X12_85 rfl rfl ?_
  refine J_aload_n dX12_reach_33 rfl rfl ?_
  refine J_get (v := .ref 120) dX12_reach_34 fl_X12_92 rfl rfl ?_
  refine J_iload_n dX12_reach_37 rfl rfl ?_
  refine J_iconst (v := 1) dX12_reach_38 (by decide) ?_
  refine J_isub (z := 0) dX12_reach_39 (by decide +kernel) ?_
  refine J_iald (i2 := 0) (v := 0) dX12_reach_40 rfl rfl (jin (by decide +kernel)) (by decide +kernel) rfl ?_
  refine J_iald (i2 := 0) (v := 0) dX12_reach_41 rfl rfl (jin (by decide +kernel)) (by decide +kernel) rfl ?_
  refine J_istore dX12_reach_42 (Nat.le_of_ble_eq_true rfl) rfl ?_
  refine J_iconst (v := 0) dX12_reach_44 (by decide) ?_
  refine J_istore dX12_reach_45 (Nat.le_of_ble_eq_true rfl) rfl ?_
  refine J_iconst (v := (-1)) dX12_reach_47 (by decide) ?_
  refine J_istore dX12_reach_48 (Nat.le_of_ble_eq_true rfl) rfl ?_
  refine J_aload_n dX12_reach_50 rfl rfl ?_
  refine J_get (v := .int 1) dX12_reach_51 fl_X12_298 rfl rfl ?_
  refine J_iconst (v := 1) dX12_reach_54 (by decide) ?_
  refine J_isub (z := 0) dX12_reach_55 (by decide +kernel) ?_
  refine J_istore dX12_reach_56 (Nat.le_of_ble_eq_true rfl) rfl ?_
  refine J_iload dX12_reach_58 rfl ?_
  refine J_if_lt (tgt := 91) dX12_reach_60 (by decide) (fun q => absurd q (by decide +kernel)) (fun _ => ?_)
  refine J_aload_n dX12_reach_63 rfl rfl ?_
  refine J_get (v := .ref 118) dX12_reach_64 fl_X12_85 rfl rfl ?_
  refine J_iload dX12_reach_67 rfl ?_
  refine J_iald (i2 := 0) (v := 0) dX12_reach_69 rfl rfl (jin (by decide +kernel)) (by decide +kernel) rfl ?_
  refine J_iload dX12_reach_70 rfl ?_
  refine J_icmp_eq (tgt := 78) dX12_reach_72 (by decide) (fun _ => ?_) (fun q => absurd (by decide +kernel) q)
  refine J_iinc (v := 1) dX12_reach_78 rfl (by decide +kernel) (Nat.le_of_ble_eq_true rfl) rfl ?_
  refine J_ls (ls2 := [some (.ref 98), some (.int 0), some (.int 3), some (.int 1), some (.int 0), some (.int 1), some (.int (-1)), some (.int 0)]) rfl ?_
  refine J_iload dX12_reach_81 rfl ?_
  refine J_istore dX12_reach_83 (Nat.le_of_ble_eq_true rfl) rfl ?_
  refine J_iinc (v := (-1)) dX12_reach_85 rfl (by decide +kernel) (Nat.le_of_ble_eq_true rfl) rfl ?_
  refine J_ls (ls2 := [some (.ref 98), some (.int 0), some (.int 3), some (.int 1), some (.int 0), some (.int 1), some (.int 0), some (.int (-1))]) rfl ?_
  refine J_goto (tgt := 58) dX12_reach_88 (by decide) ?_
  refine J_iload dX12_reach_58 rfl ?_
  refine J_if_lt (tgt := 91) dX12_reach_60 (by decide) (fun _ => ?_) (fun q => absurd (by decide +kernel) q)
  refine J_iload_n dX12_reach_91 rfl rfl ?_
  refine J_if_ne (tgt := 99) dX12_reach_92 (by decide) (fun _ => ?_) (fun q => absurd q (by decide +kernel))
  refine J_iload_n dX12_reach_99 rfl rfl ?_
  refine J_iconst (v := 1) dX12_reach_100 (by decide) ?_
  refine J_icmp_ne (tgt := 109) dX12_reach_101 (by decide) (fun _ => ?_) (fun q => absurd q (by decide +kernel))
  refine J_iload_n dX12_reach_109 rfl rfl ?_
  refine J_iconst (v := 2) dX12_reach_110 (by decide) ?_
  refine J_icmp_ne (tgt := 119) dX12_reach_111 (by decide) (fun _ => ?_) (fun q => absurd q (by decide +kernel))
  refine J_iload dX12_reach_119 rfl ?_
  refine J_mask (L2 := [(120, .inl (0, 1260, .inl (upd (fun _ => 0) 0 0))), (119, .inl (1, 1260, .inr (.inl (vp_updL (vp_updL (fun _ => 0) 0 0) 0 1)))), (118, .inl (0, 1260, .inl (upd (upd (fun _ => 0) 0 (-1)) 0 0))), (114, .inl (0, 1260, .inl (upd (fun _ => 0) 0 0))), (116, .inl (0, 1260, .inl (upd (fun _ => 0) 0 0))), (98, .inr (12, [.int 0, .int 0, .ref 99, .ref 100, .ref 101, .ref 102, .ref 103, .ref 104, .ref 105, .int 0, .int (-1), .ref 106, .ref 107, .ref 108, .int 0, .int 0, .int 0, .int 0, .int 0, .int 0, .int 0, .ref 109, .int 0, .int 0, .ref 110, .ref 111, .ref 112, .ref 113, .ref 114, .ref 115, .ref 116, .ref 117, .int 1, .int 0, .int 0, .int 0, .ref 118, .ref 119, .ref 120, .ref 121, .ref 122, .ref 123, .ref 124, .ref 125, .ref 126, .ref 127, .ref 128, .ref 129, .int 0, .ref 130, .ref 131, .ref 132, .ref 133, .ref 134, .int 0, .int 0])), (111, .inl (0, 1260, .inl (upd (fun _ => 0) 0 0)))]) (ks := [120, 119, 118, 114, 116, 98, 98, 111]) [true, true, true, true, true, true, false, true] rfl (by decide +kernel) rfl ?_
  exact J_iret dX12_reach_121 rfl rfl (Nat.le_of_ble_eq_true rfl) (Nat.le_of_ble_eq_true rfl) ⟨rfl, rfl⟩
set_option maxHeartbeats 4000000 in
set_option maxRecDepth 100000 in
theorem c_X10_reachOf_6 {l : Launch} {G : jG} {nh : Nat} {fh : Nat → Option va_E} (a2 : Int32) (b_a2 : 4 ≤ a2.toInt ∧ a2.toInt ≤ 2147483647) (hk1 : fh 1 = some (.inr (8, [.ref 2, .ref 3, .ref 4, .int 0, .int (-1), .ref 11, .ref 12, .int 0, .ref 13, .ref 14, .int 0, .ref 15, .ref 16, .int 0]))) (hk3 : fh 3 = some (.inl (0, 2, .inl (fun _ => 0)))) (hk51 : fh 51 = some (.inr (0, [.ref 52, .ref 53, .int 1, .int 0]))) (hk52 : fh 52 = some (.inl (0, 1260, .inl (upd (fun _ => 0) 0 0)))) (hk57 : fh 57 = some (.inr (9, [.ref 1, .ref 51, .ref 58, .ref 61, .ref 62, .ref 135, .ref 64, .int 0, .int 0, .int 0]))) (hk62 : fh 62 = some (.inl (0, 1260, .inl (upd (fun _ => 0) 0 (-1))))) (hk65 : fh 65 = some (.inr (10, [.ref 51, .ref 57, .ref 66, .ref 67, .ref 68, .int 0, .int (-1), .int (-1), .ref 69, .ref 70, .ref 71, .ref 72, .int 0, .int (-1), .int (-1), .ref 73, .ref 74]))) (hk66 : fh 66 = some (.inl (0, 1260, .inl (fun _ => 0)))) (hk67 : fh 67 = some (.inl (0, 1260, .inl (fun _ => 0)))) (hk68 : fh 68 = some (.inl (0, 1260, .inl (fun _ => 0)))) : JM l G yX10_reachOf MX10_reachOf { frames := 6, cells := 0, slots := 0, locals := 142 } [.ref 65, .int 0, .int a2] (nh, fh) (fun r h9 => r = some (.int (-1)) ∧ h9 = (nh, hc fh [(62, .inl (0, 1260, .inl (upd (upd (fun _ => 0) 0 (-1)) 0 0))), (65, .inr (10, [.ref 51, .ref 57, .ref 66, .ref 67, .ref 68, .int 1, .int 0, .int 0, .ref 69, .ref 70, .ref 71, .ref 72, .int 0, .int (-1), .int (-1), .ref 73, .ref 74])), (68, .inl (0, 1260, .inl (upd (fun _ => 0) 0 0))), (67, .inl (0, 1260, .inl (upd (fun _ => 0) 0 1))), (66, .inl (0, 1260, .inl (upd (upd (fun _ => 0) 0 (-1)) 0 0)))])) := by
  refine JM.of (by decide) rfl (fun h => by cases h) (Nat.le_of_ble_eq_true rfl) ⟨4, rfl⟩ ?_
  refine J_hc0 (J_ls (ls2 := [some (.ref 65), some (.int 0), some (.int a2), none, none, none, none]) rfl ?_)
  refine J_aload_n dX10_reachOf_0 rfl rfl ?_
  refine J_iload_n dX10_reachOf_1 rfl rfl ?_
  refine J_callV (st := []) dX10_reachOf_2 cv_X10_67 (c_X10_walkFrom_1 hk1 hk3 hk51 hk52 hk57 hk62 hk65 hk66 hk67 hk68) hk65 rfl rfl (Nat.le_of_ble_eq_true rfl) ⟨(Nat.le_of_ble_eq_true rfl), (Nat.le_of_ble_eq_true rfl)⟩ ⟨(Nat.le_of_ble_eq_true rfl), (Nat.le_of_ble_eq_true rfl)⟩ (fun r h9 hp => ?_)
  obtain ⟨rfl, rfl⟩ := hp
  refine J_nf (nh2 := nh) (ck2 := 0) (sk2 := 0) (st2 := []) rfl rfl rfl rfl ?_
  refine J_app (L3 := [(62, .inl (0, 1260, .inl (upd (upd (fun _ => 0) 0 (-1)) 0 0))), (65, .inr (10, [.ref 51, .ref 57, .ref 66, .ref 67, .ref 68, .int 1, .int 0, .int 0, .ref 69, .ref 70, .ref 71, .ref 72, .int 0, .int (-1), .int (-1), .ref 73, .ref 74])), (68, .inl (0, 1260, .inl (upd (fun _ => 0) 0 0))), (67, .inl (0, 1260, .inl (upd (fun _ => 0) 0 1))), (66, .inl (0, 1260, .inl (upd (upd (fun _ => 0) 0 (-1)) 0 0)))]) rfl ?_
  refine J_aload_n dX10_reachOf_5 rfl rfl ?_
  refine J_get (v := .ref 66) dX10_reachOf_6 fl_X10_9 rfl rfl ?_
  refine J_aload_n dX10_reachOf_9 rfl rfl ?_
  refine J_get (v := .ref 68) dX10_reachOf_10 fl_X10_18 rfl rfl ?_
  refine J_aload_n dX10_reachOf_13 rfl rfl ?_
  refine J_get (v := .int 1) dX10_reachOf_14 fl_X10_21 rfl rfl ?_
  refine J_iconst (v := 1) dX10_reachOf_17 (by decide) ?_
  refine J_isub (z := 0) dX10_reachOf_18 (by decide +kernel) ?_
  refine J_iald (i2 := 0) (v := 0) dX10_reachOf_19 rfl rfl (jin (by decide +kernel)) (by decide +kernel) rfl ?_
  refine J_iald (i2 := 0) (v := 0) dX10_reachOf_20 rfl rfl (jin (by decide +kernel)) (by decide +kernel) rfl ?_
  refine J_istore_n dX10_reachOf_21 rfl (Nat.le_of_ble_eq_true rfl) rfl ?_
  refine J_iconst (v := 0) dX10_reachOf_22 (by decide) ?_
  refine J_istore dX10_reachOf_23 (Nat.le_of_ble_eq_true rfl) rfl ?_
  refine J_sipush (v := 1260) dX10_reachOf_25 (by decide +kernel) ?_
  refine J_istore dX10_reachOf_28 (Nat.le_of_ble_eq_true rfl) rfl ?_
  refine J_aload_n dX10_reachOf_30 rfl rfl ?_
  refine J_get (v := .int 1) dX10_reachOf_31 fl_X10_21 rfl rfl ?_
  refine J_iconst (v := 1) dX10_reachOf_34 (by decide) ?_
  refine J_isub (z := 0) dX10_reachOf_35 (by decide +kernel) ?_
  refine J_istore dX10_reachOf_36 (Nat.le_of_ble_eq_true rfl) rfl ?_
  refine J_iload dX10_reachOf_38 rfl ?_
  refine J_if_lt (tgt := 82) dX10_reachOf_40 (by decide) (fun q => absurd q (by decide +kernel)) (fun _ => ?_)
  refine J_aload_n dX10_reachOf_43 rfl rfl ?_
  refine J_get (v := .ref 66) dX10_reachOf_44 fl_X10_9 rfl rfl ?_
  refine J_aload_n dX10_reachOf_47 rfl rfl ?_
  refine J_get (v := .ref 68) dX10_reachOf_48 fl_X10_18 rfl rfl ?_
  refine J_iload dX10_reachOf_51 rfl ?_
  refine J_iald (i2 := 0) (v := 0) dX10_reachOf_53 rfl rfl (jin (by decide +kernel)) (by decide +kernel) rfl ?_
  refine J_iald (i2 := 0) (v := 0) dX10_reachOf_54 rfl rfl (jin (by decide +kernel)) (by decide +kernel) rfl ?_
  refine J_iload_n dX10_reachOf_55 rfl rfl ?_
  refine J_icmp_ne (tgt := 82) dX10_reachOf_56 (by decide) (fun q => absurd (by decide +kernel) q) (fun _ => ?_)
  refine J_iinc (v := 1) dX10_reachOf_59 rfl (by decide +kernel) (Nat.le_of_ble_eq_true rfl) rfl ?_
  refine J_ls (ls2 := [some (.ref 65), some (.int 0), some (.int a2), some (.int 0), some (.int 1), some (.int 1260), some (.int 0)]) rfl ?_
  refine J_iload dX10_reachOf_62 rfl ?_
  refine J_aload_n dX10_reachOf_64 rfl rfl ?_
  refine J_get (v := .ref 68) dX10_reachOf_65 fl_X10_18 rfl rfl ?_
  refine J_iload dX10_reachOf_68 rfl ?_
  refine J_iald (i2 := 0) (v := 0) dX10_reachOf_70 rfl rfl (jin (by decide +kernel)) (by decide +kernel) rfl ?_
  refine J_mmin (z := 0) dX10_reachOf_71 (jt4 236 rfl rfl) (jt3 222 rfl rfl) (jt1 19 rfl rfl) (jt3 223 rfl rfl) (Nat.le_of_ble_eq_true rfl) (Nat.le_of_ble_eq_true rfl) (Nat.le_of_ble_eq_true rfl) (Nat.le_of_ble_eq_true rfl) (by decide +kernel) ?_
  refine J_istore dX10_reachOf_74 (Nat.le_of_ble_eq_true rfl) rfl ?_
  refine J_iinc (v := (-1)) dX10_reachOf_76 rfl (by decide +kernel) (Nat.le_of_ble_eq_true rfl) rfl ?_
  refine J_ls (ls2 := [some (.ref 65), some (.int 0), some (.int a2), some (.int 0), some (.int 1), some (.int 0), some (.int (-1))]) rfl ?_
  refine J_goto (tgt := 38) dX10_reachOf_79 (by decide) ?_
  refine J_iload dX10_reachOf_38 rfl ?_
  refine J_if_lt (tgt := 82) dX10_reachOf_40 (by decide) (fun _ => ?_) (fun q => absurd (by decide +kernel) q)
  refine J_iload_n dX10_reachOf_82 rfl rfl ?_
  refine J_tableOut (tgt := 125) dX10_reachOf_83 (by have hb := b_a2; omega) (by decide) ?_
  refine J_iconst (v := (-1)) dX10_reachOf_125 (by decide) ?_
  exact J_iret dX10_reachOf_126 rfl rfl (Nat.le_of_ble_eq_true rfl) (Nat.le_of_ble_eq_true rfl) ⟨rfl, rfl⟩
set_option maxHeartbeats 4000000 in
set_option maxRecDepth 100000 in
theorem c_X11_reach_7 {l : Launch} {G : jG} {fh : Nat → Option va_E} (a2 : Int32) (b_a2 : 4 ≤ a2.toInt ∧ a2.toInt ≤ 2147483647) (hk0 : fh 0 = some (.inr (11, [.ref 1, .ref 17, .ref 50, .ref 51, .ref 54, .ref 57, .ref 65, .ref 75, .ref 81, .ref 85, .ref 88, .ref 93, .ref 96, .int 0, .int (-1), .ref 97, .int 0]))) (hk1 : fh 1 = some (.inr (8, [.ref 2, .ref 3, .ref 4, .int 0, .int (-1), .ref 11, .ref 12, .int 0, .ref 13, .ref 14, .int 0, .ref 15, .ref 16, .int 0]))) (hk3 : fh 3 = some (.inl (0, 2, .inl (fun _ => 0)))) (hk51 : fh 51 = some (.inr (0, [.ref 52, .ref 53, .int 1, .int 0]))) (hk52 : fh 52 = some (.inl (0, 1260, .inl (upd (fun _ => 0) 0 0)))) (hk57 : fh 57 = some (.inr (9, [.ref 1, .ref 51, .ref 58, .ref 61, .ref 62, .ref 63, .ref 64, .int 0, .int 1, .int 1]))) (hk58 : fh 58 = some (.inr (1, [.ref 59, .ref 60, .int 0, .int 0, .int 0, .int 0, .int 0, .int 1]))) (hk59 : fh 59 = some (.inl (0, 8, .inl (fun _ => 0)))) (hk62 : fh 62 = some (.inl (0, 1260, .inl (fun _ => 0)))) (hk63 : fh 63 = some (.inl (0, 0, .inl (fun _ => 0)))) (hk65 : fh 65 = some (.inr (10, [.ref 51, .ref 57, .ref 66, .ref 67, .ref 68, .int 0, .int (-1), .int (-1), .ref 69, .ref 70, .ref 71, .ref 72, .int 0, .int (-1), .int (-1), .ref 73, .ref 74]))) (hk66 : fh 66 = some (.inl (0, 1260, .inl (fun _ => 0)))) (hk67 : fh 67 = some (.inl (0, 1260, .inl (fun _ => 0)))) (hk68 : fh 68 = some (.inl (0, 1260, .inl (fun _ => 0)))) : JM l G yX11_reach MX11_reach { frames := 7, cells := 1, slots := 22, locals := 168 } [.ref 0, .int 0, .int a2] (135, fh) (fun r h9 => r = some (.int (-1)) ∧ h9 = (136, hc fh [(62, .inl (0, 1260, .inl (upd (upd (fun _ => 0) 0 (-1)) 0 0))), (65, .inr (10, [.ref 51, .ref 57, .ref 66, .ref 67, .ref 68, .int 1, .int 0, .int 0, .ref 69, .ref 70, .ref 71, .ref 72, .int 0, .int (-1), .int (-1), .ref 73, .ref 74])), (68, .inl (0, 1260, .inl (upd (fun _ => 0) 0 0))), (67, .inl (0, 1260, .inl (upd (fun _ => 0) 0 1))), (66, .inl (0, 1260, .inl (upd (upd (fun _ => 0) 0 (-1)) 0 0))), (57, .inr (9, [.ref 1, .ref 51, .ref 58, .ref 61, .ref 62, .ref 135, .ref 64, .int 0, .int 0, .int 0])), (135, .inl (0, 22, .inl (fun _ => 0))), (59, .inl (0, 8, .inl (upd (upd (fun _ => 0) 6 0) 7 0)))])) := by
  refine JM.of (by decide) rfl (fun h => by cases h) (Nat.le_of_ble_eq_true rfl) ⟨0, rfl⟩ ?_
  refine J_hc0 (J_ls (ls2 := [some (.ref 0), some (.int 0), some (.int a2)]) rfl ?_)
  refine J_aload_n dX11_reach_0 rfl rfl ?_
  refine J_get (v := .ref 51) dX11_reach_1 fl_X11_27 hk0 rfl ?_
  refine J_iload_n dX11_reach_4 rfl rfl ?_
  refine J_callV (st := []) dX11_reach_5 cv_X11_135 (c_X0_has_2 hk51) hk51 rfl rfl (Nat.le_of_ble_eq_true rfl) ⟨(Nat.le_of_ble_eq_true rfl), (Nat.le_of_ble_eq_true rfl)⟩ ⟨(Nat.le_of_ble_eq_true rfl), (Nat.le_of_ble_eq_true rfl)⟩ (fun r h9 hp => ?_)
  obtain ⟨rfl, rfl⟩ := hp
  refine J_nf (nh2 := 135) (ck2 := 0) (sk2 := 0) (st2 := [.int 1]) rfl rfl rfl rfl ?_
  refine J_if_ne (tgt := 13) dX11_reach_8 (by decide) (fun _ => ?_) (fun q => absurd q (by decide +kernel))
  refine J_aload_n dX11_reach_13 rfl rfl ?_
  refine J_get (v := .ref 57) dX11_reach_14 fl_X11_43 hk0 rfl ?_
  refine J_callV (st := []) dX11_reach_17 cv_X11_217 (c_X9_prepare_1 hk1 hk3 hk51 hk57 hk58 hk59 hk62 hk63) hk57 rfl rfl (Nat.le_of_ble_eq_true rfl) ⟨(Nat.le_of_ble_eq_true rfl), (Nat.le_of_ble_eq_true rfl)⟩ ⟨(Nat.le_of_ble_eq_true rfl), (Nat.le_of_ble_eq_true rfl)⟩ (fun r h9 hp => ?_)
  obtain ⟨rfl, rfl⟩ := hp
  refine J_nf (nh2 := 136) (ck2 := 1) (sk2 := 22) (st2 := []) rfl rfl rfl rfl ?_
  refine J_app (L3 := [(57, .inr (9, [.ref 1, .ref 51, .ref 58, .ref 61, .ref 62, .ref 135, .ref 64, .int 0, .int 0, .int 0])), (62, .inl (0, 1260, .inl (upd (fun _ => 0) 0 (-1)))), (135, .inl (0, 22, .inl (fun _ => 0))), (59, .inl (0, 8, .inl (upd (upd (fun _ => 0) 6 0) 7 0)))]) rfl ?_
  refine J_aload_n dX11_reach_20 rfl rfl ?_
  refine J_get (v := .ref 65) dX11_reach_21 fl_X11_52 hk0 rfl ?_
  refine J_iload_n dX11_reach_24 rfl rfl ?_
  refine J_iload_n dX11_reach_25 rfl rfl ?_
  refine J_callV (st := []) dX11_reach_26 cv_X11_242 (c_X10_reachOf_6 (a2) b_a2 hk1 hk3 hk51 hk52 rfl rfl hk65 hk66 hk67 hk68) hk65 rfl rfl (Nat.le_of_ble_eq_true rfl) ⟨(Nat.le_of_ble_eq_true rfl), (Nat.le_of_ble_eq_true rfl)⟩ ⟨(Nat.le_of_ble_eq_true rfl), (Nat.le_of_ble_eq_true rfl)⟩ (fun r h9 hp => ?_)
  obtain ⟨rfl, rfl⟩ := hp
  refine J_nf (nh2 := 136) (ck2 := 1) (sk2 := 22) (st2 := [.int (-1)]) rfl rfl rfl rfl ?_
  refine J_app (L3 := [(62, .inl (0, 1260, .inl (upd (upd (fun _ => 0) 0 (-1)) 0 0))), (65, .inr (10, [.ref 51, .ref 57, .ref 66, .ref 67, .ref 68, .int 1, .int 0, .int 0, .ref 69, .ref 70, .ref 71, .ref 72, .int 0, .int (-1), .int (-1), .ref 73, .ref 74])), (68, .inl (0, 1260, .inl (upd (fun _ => 0) 0 0))), (67, .inl (0, 1260, .inl (upd (fun _ => 0) 0 1))), (66, .inl (0, 1260, .inl (upd (upd (fun _ => 0) 0 (-1)) 0 0))), (57, .inr (9, [.ref 1, .ref 51, .ref 58, .ref 61, .ref 62, .ref 135, .ref 64, .int 0, .int 0, .int 0])), (62, .inl (0, 1260, .inl (upd (fun _ => 0) 0 (-1)))), (135, .inl (0, 22, .inl (fun _ => 0))), (59, .inl (0, 8, .inl (upd (upd (fun _ => 0) 6 0) 7 0)))]) rfl ?_
  refine J_mask (L2 := [(62, .inl (0, 1260, .inl (upd (upd (fun _ => 0) 0 (-1)) 0 0))), (65, .inr (10, [.ref 51, .ref 57, .ref 66, .ref 67, .ref 68, .int 1, .int 0, .int 0, .ref 69, .ref 70, .ref 71, .ref 72, .int 0, .int (-1), .int (-1), .ref 73, .ref 74])), (68, .inl (0, 1260, .inl (upd (fun _ => 0) 0 0))), (67, .inl (0, 1260, .inl (upd (fun _ => 0) 0 1))), (66, .inl (0, 1260, .inl (upd (upd (fun _ => 0) 0 (-1)) 0 0))), (57, .inr (9, [.ref 1, .ref 51, .ref 58, .ref 61, .ref 62, .ref 135, .ref 64, .int 0, .int 0, .int 0])), (135, .inl (0, 22, .inl (fun _ => 0))), (59, .inl (0, 8, .inl (upd (upd (fun _ => 0) 6 0) 7 0)))]) (ks := [62, 65, 68, 67, 66, 57, 62, 135, 59]) [true, true, true, true, true, true, false, true, true] rfl (by decide +kernel) rfl ?_
  exact J_iret dX11_reach_29 rfl rfl (Nat.le_of_ble_eq_true rfl) (Nat.le_of_ble_eq_true rfl) ⟨rfl, rfl⟩
