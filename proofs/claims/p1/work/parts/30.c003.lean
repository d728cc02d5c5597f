/-! contracts at fresh objects: written by wip/tools/law.py -/
set_option maxHeartbeats 4000000 in
set_option maxRecDepth 100000 in
theorem c_X12_newBeans_12 {l : Launch} {G : jG} {nh : Nat} {fh : Nat → Option va_E} (hk98 : fh 98 = some (.inr (12, [.int 0, .int 0, .ref 99, .ref 100, .ref 101, .ref 102, .ref 103, .ref 104, .ref 105, .int 0, .int (-1), .ref 106, .ref 107, .ref 108, .int 0, .int 0, .int 0, .int 0, .int 0, .int 0, .int 0, .ref 109, .int 0, .int 0, .ref 110, .ref 111, .ref 112, .ref 113, .ref 114, .ref 115, .ref 116, .ref 117, .int 0, .int 0, .int (-1), .int (-1), .ref 118, .ref 119, .ref 120, .ref 121, .ref 122, .ref 123, .ref 124, .ref 125, .ref 126, .ref 127, .ref 128, .ref 129, .int 0, .ref 130, .ref 131, .ref 132, .ref 133, .ref 134, .int 0, .int 0]))) (hk100 : fh 100 = some (.inl (0, 4870, .inl (upd (upd (fun _ => 0) 63 (-1)) 1 3)))) : JM l G yX12_newBeans MX12_newBeans { frames := 0, cells := 0, slots := 0, locals := 0 } [.ref 98] (nh, fh) (fun r h9 => r = none ∧ h9 = (nh, hc fh [(100, .inl (0, 4870, .inl (upd (upd (upd (upd (upd (fun _ => 0) 63 (-1)) 1 3) 59 0) 61 0) 60 0)))])) := by
  refine JM.of (by decide) rfl (fun h => by cases h) (Nat.le_of_ble_eq_true rfl) ⟨2, rfl⟩ ?_
  refine J_hc0 (J_ls (ls2 := [some (.ref 98), none, none]) rfl ?_)
  refine J_aload_n dX12_newBeans_0 rfl rfl ?_
  refine J_get (v := .ref 100) dX12_newBeans_1 fl_X12_20 hk98 rfl ?_
  refine J_bipush (v := 59) dX12_newBeans_4 (by decide +kernel) ?_
  refine J_iconst (v := 0) dX12_newBeans_6 (by decide) ?_
  refine K_iast (i2 := 59) dX12_newBeans_7 hk100 rfl (jin (by decide +kernel)) (by decide +kernel) ?_
  refine J_aload_n dX12_newBeans_8 rfl rfl ?_
  refine J_get (v := .ref 100) dX12_newBeans_9 fl_X12_20 hk98 rfl ?_
  refine J_bipush (v := 61) dX12_newBeans_12 (by decide +kernel) ?_
  refine J_iconst (v := 0) dX12_newBeans_14 (by decide) ?_
  refine K_iast (i2 := 61) dX12_newBeans_15 rfl rfl (jin (by decide +kernel)) (by decide +kernel) ?_
  refine J_iconst (v := 0) dX12_newBeans_16 (by decide) ?_
  refine J_istore_n dX12_newBeans_17 rfl (Nat.le_of_ble_eq_true rfl) rfl ?_
  refine J_iconst (v := 0) dX12_newBeans_18 (by decide) ?_
  refine J_istore_n dX12_newBeans_19 rfl (Nat.le_of_ble_eq_true rfl) rfl ?_
  refine J_iload_n dX12_newBeans_20 rfl rfl ?_
  refine J_aload_n dX12_newBeans_21 rfl rfl ?_
  refine J_get (v := .ref 100) dX12_newBeans_22 fl_X12_20 hk98 rfl ?_
  refine J_bipush (v := 60) dX12_newBeans_25 (by decide +kernel) ?_
  refine J_iald (i2 := 60) (v := 0) dX12_newBeans_27 rfl rfl (jin (by decide +kernel)) (by decide +kernel) rfl ?_
  refine J_icmp_ge (tgt := 111) dX12_newBeans_28 (by decide) (fun _ => ?_) (fun q => absurd (by decide +kernel) q)
  refine J_aload_n dX12_newBeans_111 rfl rfl ?_
  refine J_get (v := .ref 100) dX12_newBeans_112 fl_X12_20 hk98 rfl ?_
  refine J_bipush (v := 60) dX12_newBeans_115 (by decide +kernel) ?_
  refine J_iload_n dX12_newBeans_117 rfl rfl ?_
  refine K_iast (i2 := 60) dX12_newBeans_118 rfl rfl (jin (by decide +kernel)) (by decide +kernel) ?_
  refine J_mask (L2 := [(100, .inl (0, 4870, .inl (upd (upd (upd (upd (upd (fun _ => 0) 63 (-1)) 1 3) 59 0) 61 0) 60 0)))]) (ks := [100, 100, 100]) [true, false, false] rfl (by decide +kernel) rfl ?_
  exact J_vret dX12_newBeans_119 rfl (Nat.le_of_ble_eq_true rfl) (Nat.le_of_ble_eq_true rfl) ⟨rfl, rfl⟩
set_option maxHeartbeats 4000000 in
set_option maxRecDepth 100000 in
theorem c_X12_beans_14 {l : Launch} {G : jG} {nh : Nat} {fh : Nat → Option va_E} (hk98 : fh 98 = some (.inr (12, [.int 0, .int 0, .ref 99, .ref 100, .ref 101, .ref 102, .ref 103, .ref 104, .ref 105, .int 0, .int (-1), .ref 106, .ref 107, .ref 108, .int 0, .int 0, .int 0, .int 0, .int 0, .int 0, .int 0, .ref 109, .int 0, .int 0, .ref 110, .ref 111, .ref 112, .ref 113, .ref 114, .ref 115, .ref 116, .ref 117, .int 0, .int 0, .int (-1), .int (-1), .ref 118, .ref 119, .ref 120, .ref 121, .ref 122, .ref 123, .ref 124, .ref 125, .ref 126, .ref 127, .ref 128, .ref 129, .int 0, .ref 130, .ref 131, .ref 132, .ref 133, .ref 134, .int 0, .int 0]))) (hk100 : fh 100 = some (.inl (0, 4870, .inl (upd (fun _ => 0) 63 (-1))))) : JM l G yX12_beans MX12_beans { frames := 1, cells := 0, slots := 0, locals := 22 } [.ref 98, .int 1, .int 3] (nh, fh) (fun r h9 => r = some (.int 0) ∧ h9 = (nh, hc fh [(98, .inr (12, [.int 0, .int 1, .ref 99, .ref 100, .ref 101, .ref 102, .ref 103, .ref 104, .ref 105, .int 0, .int (-1), .ref 106, .ref 107, .ref 108, .int 0, .int 0, .int 0, .int 0, .int 0, .int 0, .int 0, .ref 109, .int 0, .int 0, .ref 110, .ref 111, .ref 112, .ref 113, .ref 114, .ref 115, .ref 116, .ref 117, .int 0, .int 0, .int (-1), .int (-1), .ref 118, .ref 119, .ref 120, .ref 121, .ref 122, .ref 123, .ref 124, .ref 125, .ref 126, .ref 127, .ref 128, .ref 129, .int 0, .ref 130, .ref 131, .ref 132, .ref 133, .ref 134, .int 0, .int 0])), (100, .inl (0, 4870, .inl (upd (upd (upd (upd (upd (fun _ => 0) 63 (-1)) 1 3) 59 0) 61 0) 60 0)))])) := by
  refine JM.of (by decide) rfl (fun h => by cases h) (Nat.le_of_ble_eq_true rfl) ⟨1, rfl⟩ ?_
  refine J_hc0 (J_ls (ls2 := [some (.ref 98), some (.int 1), some (.int 3), none]) rfl ?_)
  refine J_iload_n dX12_beans_0 rfl rfl ?_
  refine J_iconst (v := 0) dX12_beans_1 (by decide) ?_
  refine J_iconst (v := 4) dX12_beans_2 (by decide) ?_
  refine J_callS (st := []) dX12_beans_3 cs_X12_138 (c_X12_lies_13 ) rfl rfl (Nat.le_of_ble_eq_true rfl) ⟨(Nat.le_of_ble_eq_true rfl), (Nat.le_of_ble_eq_true rfl)⟩ ⟨(Nat.le_of_ble_eq_true rfl), (Nat.le_of_ble_eq_true rfl)⟩ (fun r h9 hp => ?_)
  obtain ⟨rfl, rfl⟩ := hp
  refine J_nf (nh2 := nh) (ck2 := 0) (sk2 := 0) (st2 := [.int 1]) rfl rfl rfl rfl ?_
  refine J_if_eq (tgt := 39) dX12_beans_6 (by decide) (fun q => absurd q (by decide +kernel)) (fun _ => ?_)
  refine J_iload_n dX12_beans_9 rfl rfl ?_
  refine J_iconst (v := 0) dX12_beans_10 (by decide) ?_
  refine J_bipush (v := 7) dX12_beans_11 (by decide +kernel) ?_
  refine J_callS (st := []) dX12_beans_13 cs_X12_138 (c_X12_lies_8 ) rfl rfl (Nat.le_of_ble_eq_true rfl) ⟨(Nat.le_of_ble_eq_true rfl), (Nat.le_of_ble_eq_true rfl)⟩ ⟨(Nat.le_of_ble_eq_true rfl), (Nat.le_of_ble_eq_true rfl)⟩ (fun r h9 hp => ?_)
  obtain ⟨rfl, rfl⟩ := hp
  refine J_nf (nh2 := nh) (ck2 := 0) (sk2 := 0) (st2 := [.int 1]) rfl rfl rfl rfl ?_
  refine J_if_eq (tgt := 39) dX12_beans_16 (by decide) (fun q => absurd q (by decide +kernel)) (fun _ => ?_)
  refine J_aload_n dX12_beans_19 rfl rfl ?_
  refine J_callV (st := []) dX12_beans_20 cv_X12_149 (c_X12_places_1 hk98 hk100) hk98 rfl rfl (Nat.le_of_ble_eq_true rfl) ⟨(Nat.le_of_ble_eq_true rfl), (Nat.le_of_ble_eq_true rfl)⟩ ⟨(Nat.le_of_ble_eq_true rfl), (Nat.le_of_ble_eq_true rfl)⟩ (fun r h9 hp => ?_)
  obtain ⟨rfl, rfl⟩ := hp
  refine J_nf (nh2 := nh) (ck2 := 0) (sk2 := 0) (st2 := [.int 0]) rfl rfl rfl rfl ?_
  refine J_aload_n dX12_beans_23 rfl rfl ?_
  refine J_get (v := .ref 100) dX12_beans_24 fl_X12_20 hk98 rfl ?_
  refine J_iconst (v := 0) dX12_beans_27 (by decide) ?_
  refine J_iload_n dX12_beans_28 rfl rfl ?_
  refine J_iadd (z := 1) dX12_beans_29 (by decide +kernel) ?_
  refine J_iald (i2 := 1) (v := 0) dX12_beans_30 hk100 rfl (jin (by decide +kernel)) (by decide +kernel) rfl ?_
  refine J_isub (z := 0) dX12_beans_31 (by decide +kernel) ?_
  refine J_iload_n dX12_beans_32 rfl rfl ?_
  refine J_iadd (z := 3) dX12_beans_33 (by decide +kernel) ?_
  refine J_bipush (v := 7) dX12_beans_34 (by decide +kernel) ?_
  refine J_icmp_le (tgt := 45) dX12_beans_36 (by decide) (fun _ => ?_) (fun q => absurd (by decide +kernel) q)
  refine J_aload_n dX12_beans_45 rfl rfl ?_
  refine J_get (v := .ref 100) dX12_beans_46 fl_X12_20 hk98 rfl ?_
  refine J_iconst (v := 0) dX12_beans_49 (by decide) ?_
  refine J_iload_n dX12_beans_50 rfl rfl ?_
  refine J_iadd (z := 1) dX12_beans_51 (by decide +kernel) ?_
  refine J_iald (i2 := 1) (v := 0) dX12_beans_52 hk100 rfl (jin (by decide +kernel)) (by decide +kernel) rfl ?_
  refine J_istore_n dX12_beans_53 rfl (Nat.le_of_ble_eq_true rfl) rfl ?_
  refine J_aload_n dX12_beans_54 rfl rfl ?_
  refine J_get (v := .ref 100) dX12_beans_55 fl_X12_20 hk98 rfl ?_
  refine J_iconst (v := 0) dX12_beans_58 (by decide) ?_
  refine J_iload_n dX12_beans_59 rfl rfl ?_
  refine J_iadd (z := 1) dX12_beans_60 (by decide +kernel) ?_
  refine J_iload_n dX12_beans_61 rfl rfl ?_
  refine K_iast (i2 := 1) dX12_beans_62 hk100 rfl (jin (by decide +kernel)) (by decide +kernel) ?_
  refine J_aload_n dX12_beans_63 rfl rfl ?_
  refine J_callV (st := []) dX12_beans_64 cv_X12_153 (c_X12_newBeans_12 hk98 rfl) hk98 rfl rfl (Nat.le_of_ble_eq_true rfl) ⟨(Nat.le_of_ble_eq_true rfl), (Nat.le_of_ble_eq_true rfl)⟩ ⟨(Nat.le_of_ble_eq_true rfl), (Nat.le_of_ble_eq_true rfl)⟩ (fun r h9 hp => ?_)
  obtain ⟨rfl, rfl⟩ := hp
  refine J_nf (nh2 := nh) (ck2 := 0) (sk2 := 0) (st2 := []) rfl rfl rfl rfl ?_
  refine J_app (L3 := [(100, .inl (0, 4870, .inl (upd (upd (upd (upd (upd (fun _ => 0) 63 (-1)) 1 3) 59 0) 61 0) 60 0))), (100, .inl (0, 4870, .inl (upd (upd (fun _ => 0) 63 (-1)) 1 3)))]) rfl ?_
  refine J_aload_n dX12_beans_67 rfl rfl ?_
  refine J_iload_n dX12_beans_68 rfl rfl ?_
  refine J_callV (st := []) dX12_beans_69 cv_X12_146 (c_X12_good_1 hk98) hk98 rfl rfl (Nat.le_of_ble_eq_true rfl) ⟨(Nat.le_of_ble_eq_true rfl), (Nat.le_of_ble_eq_true rfl)⟩ ⟨(Nat.le_of_ble_eq_true rfl), (Nat.le_of_ble_eq_true rfl)⟩ (fun r h9 hp => ?_)
  obtain ⟨rfl, rfl⟩ := hp
  refine J_nf (nh2 := nh) (ck2 := 0) (sk2 := 0) (st2 := [.int 0]) rfl rfl rfl rfl ?_
  refine J_app (L3 := [(98, .inr (12, [.int 0, .int 1, .ref 99, .ref 100, .ref 101, .ref 102, .ref 103, .ref 104, .ref 105, .int 0, .int (-1), .ref 106, .ref 107, .ref 108, .int 0, .int 0, .int 0, .int 0, .int 0, .int 0, .int 0, .ref 109, .int 0, .int 0, .ref 110, .ref 111, .ref 112, .ref 113, .ref 114, .ref 115, .ref 116, .ref 117, .int 0, .int 0, .int (-1), .int (-1), .ref 118, .ref 119, .ref 120, .ref 121, .ref 122, .ref 123, .ref 124, .ref 125, .ref 126, .ref 127, .ref 128, .ref 129, .int 0, .ref 130, .ref 131, .ref 132, .ref 133, .ref 134, .int 0, .int 0])), (100, .inl (0, 4870, .inl (upd (upd (upd (upd (upd (fun _ => 0) 63 (-1)) 1 3) 59 0) 61 0) 60 0))), (100, .inl (0, 4870, .inl (upd (upd (fun _ => 0) 63 (-1)) 1 3)))]) rfl ?_
  refine J_mask (L2 := [(98, .inr (12, [.int 0, .int 1, .ref 99, .ref 100, .ref 101, .ref 102, .ref 103, .ref 104, .ref 105, .int 0, .int (-1), .ref 106, .ref 107, .ref 108, .int 0, .int 0, .int 0, .int 0, .int 0, .int 0, .int 0, .ref 109, .int 0, .int 0, .ref 110, .ref 111, .ref 112, .ref 113, .ref 114, .ref 115, .ref 116, .ref 117, .int 0, .int 0, .int (-1), .int (-1), .ref 118, .ref 119, .ref 120, .ref 121, .ref 122, .ref 123, .ref 124, .ref 125, .ref 126, .ref 127, .ref 128, .ref 129, .int 0, .ref 130, .ref 131, .ref 132, .ref 133, .ref 134, .int 0, .int 0])), (100, .inl (0, 4870, .inl (upd (upd (upd (upd (upd (fun _ => 0) 63 (-1)) 1 3) 59 0) 61 0) 60 0)))]) (ks := [98, 100, 100]) [true, true, false] rfl (by decide +kernel) rfl ?_
  exact J_iret dX12_beans_72 rfl rfl (Nat.le_of_ble_eq_true rfl) (Nat.le_of_ble_eq_true rfl) ⟨rfl, rfl⟩
set_option maxHeartbeats 4000000 in
set_option maxRecDepth 100000 in
theorem c_X0_behind_5 {l : Launch} {G : jG} {nh : Nat} {fh : Nat → Option va_E}  : JM l G yX0_behind MX0_behind { frames := 0, cells := 0, slots := 0, locals := 0 } [.int 73, .int 1] (nh, fh) (fun r h9 => r = some (.int 585) ∧ h9 = (nh, fh)) := by
  refine JM.of (by decide) rfl (fun h => by cases h) (Nat.le_of_ble_eq_true rfl) ⟨0, rfl⟩ ?_
  refine J_hc0 (J_ls (ls2 := [some (.int 73), some (.int 1)]) rfl ?_)
  refine J_iload_n dX0_behind_0 rfl rfl ?_
  refine J_iconst (v := 3) dX0_behind_1 (by decide) ?_
  refine J_ishl (z := 584) dX0_behind_2 (by decide +kernel) ?_
  refine J_iload_n dX0_behind_3 rfl rfl ?_
  refine J_ior (z := 585) dX0_behind_4 (by decide +kernel) ?_
  exact J_iret dX0_behind_5 rfl rfl (Nat.le_of_ble_eq_true rfl) (Nat.le_of_ble_eq_true rfl) ⟨rfl, rfl⟩
set_option maxHeartbeats 4000000 in
set_option maxRecDepth 100000 in
theorem c_X0_packed_12 {l : Launch} {G : jG} {nh : Nat} {fh : Nat → Option va_E} (hk51 : fh 51 = some (.inr (0, [.ref 52, .ref 53, .int 0, .int 4]))) (hk53 : fh 53 = some (.inl (0, 7, .inl (upd (upd (upd (upd (fun _ => 0) 0 1) 1 1) 2 1) 3 1)))) : JM l G yX0_packed MX0_packed { frames := 1, cells := 0, slots := 0, locals := 21 } [.ref 51] (nh, fh) (fun r h9 => r = some (.int 585) ∧ h9 = (nh, fh)) := by
  refine JM.of (by decide) rfl (fun h => by cases h) (Nat.le_of_ble_eq_true rfl) ⟨2, rfl⟩ ?_
  refine J_hc0 (J_ls (ls2 := [some (.ref 51), none, none]) rfl ?_)
  refine J_iconst (v := 0) dX0_packed_0 (by decide) ?_
  refine J_istore_n dX0_packed_1 rfl (Nat.le_of_ble_eq_true rfl) rfl ?_
  refine J_iconst (v := 0) dX0_packed_2 (by decide) ?_
  refine J_istore_n dX0_packed_3 rfl (Nat.le_of_ble_eq_true rfl) rfl ?_
  refine J_iload_n dX0_packed_4 rfl rfl ?_
  refine J_aload_n dX0_packed_5 rfl rfl ?_
  refine J_get (v := .int 4) dX0_packed_6 fl_X0_22 hk51 rfl ?_
  refine J_icmp_ge (tgt := 29) dX0_packed_9 (by decide) (fun q => absurd q (by decide +kernel)) (fun _ => ?_)
  refine J_iload_n dX0_packed_12 rfl rfl ?_
  refine J_aload_n dX0_packed_13 rfl rfl ?_
  refine J_get (v := .ref 53) dX0_packed_14 fl_X0_15 hk51 rfl ?_
  refine J_iload_n dX0_packed_17 rfl rfl ?_
  refine J_iald (i2 := 0) (v := 1) dX0_packed_18 hk53 rfl (jin (by decide +kernel)) (by decide +kernel) rfl ?_
  refine J_callS (st := []) dX0_packed_19 cs_X0_33 (c_X0_behind_2 ) rfl rfl (Nat.le_of_ble_eq_true rfl) ⟨(Nat.le_of_ble_eq_true rfl), (Nat.le_of_ble_eq_true rfl)⟩ ⟨(Nat.le_of_ble_eq_true rfl), (Nat.le_of_ble_eq_true rfl)⟩ (fun r h9 hp => ?_)
  obtain ⟨rfl, rfl⟩ := hp
  refine J_nf (nh2 := nh) (ck2 := 0) (sk2 := 0) (st2 := [.int 1]) rfl rfl rfl rfl ?_
  refine J_istore_n dX0_packed_22 rfl (Nat.le_of_ble_eq_true rfl) rfl ?_
  refine J_iinc (v := 1) dX0_packed_23 rfl (by decide +kernel) (Nat.le_of_ble_eq_true rfl) rfl ?_
  refine J_ls (ls2 := [some (.ref 51), some (.int 1), some (.int 1)]) rfl ?_
  refine J_goto (tgt := 4) dX0_packed_26 (by decide) ?_
  refine J_iload_n dX0_packed_4 rfl rfl ?_
  refine J_aload_n dX0_packed_5 rfl rfl ?_
  refine J_get (v := .int 4) dX0_packed_6 fl_X0_22 hk51 rfl ?_
  refine J_icmp_ge (tgt := 29) dX0_packed_9 (by decide) (fun q => absurd q (by decide +kernel)) (fun _ => ?_)
  refine J_iload_n dX0_packed_12 rfl rfl ?_
  refine J_aload_n dX0_packed_13 rfl rfl ?_
  refine J_get (v := .ref 53) dX0_packed_14 fl_X0_15 hk51 rfl ?_
  refine J_iload_n dX0_packed_17 rfl rfl ?_
  refine J_iald (i2 := 1) (v := 1) dX0_packed_18 hk53 rfl (jin (by decide +kernel)) (by decide +kernel) rfl ?_
  refine J_callS (st := []) dX0_packed_19 cs_X0_33 (c_X0_behind_3 ) rfl rfl (Nat.le_of_ble_eq_true rfl) ⟨(Nat.le_of_ble_eq_true rfl), (Nat.le_of_ble_eq_true rfl)⟩ ⟨(Nat.le_of_ble_eq_true rfl), (Nat.le_of_ble_eq_true rfl)⟩ (fun r h9 hp => ?_)
  obtain ⟨rfl, rfl⟩ := hp
  refine J_nf (nh2 := nh) (ck2 := 0) (sk2 := 0) (st2 := [.int 9]) rfl rfl rfl rfl ?_
  refine J_istore_n dX0_packed_22 rfl (Nat.le_of_ble_eq_true rfl) rfl ?_
  refine J_iinc (v := 2) dX0_packed_23 rfl (by decide +kernel) (Nat.le_of_ble_eq_true rfl) rfl ?_
  refine J_ls (ls2 := [some (.ref 51), some (.int 9), some (.int 2)]) rfl ?_
  refine J_goto (tgt := 4) dX0_packed_26 (by decide) ?_
  refine J_iload_n dX0_packed_4 rfl rfl ?_
  refine J_aload_n dX0_packed_5 rfl rfl ?_
  refine J_get (v := .int 4) dX0_packed_6 fl_X0_22 hk51 rfl ?_
  refine J_icmp_ge (tgt := 29) dX0_packed_9 (by decide) (fun q => absurd q (by decide +kernel)) (fun _ => ?_)
  refine J_iload_n dX0_packed_12 rfl rfl ?_
  refine J_aload_n dX0_packed_13 rfl rfl ?_
  refine J_get (v := .ref 53) dX0_packed_14 fl_X0_15 hk51 rfl ?_
  refine J_iload_n dX0_packed_17 rfl rfl ?_
  refine J_iald (i2 := 2) (v := 1) dX0_packed_18 hk53 rfl (jin (by decide +kernel)) (by decide +kernel) rfl ?_
  refine J_callS (st := []) dX0_packed_19 cs_X0_33 (c_X0_behind_4 ) rfl rfl (Nat.le_of_ble_eq_true rfl) ⟨(Nat.le_of_ble_eq_true rfl), (Nat.le_of_ble_eq_true rfl)⟩ ⟨(Nat.le_of_ble_eq_true rfl), (Nat.le_of_ble_eq_true rfl)⟩ (fun r h9 hp => ?_)
  obtain ⟨rfl, rfl⟩ := hp
  refine J_nf (nh2 := nh) (ck2 := 0) (sk2 := 0) (st2 := [.int 73]) rfl rfl rfl rfl ?_
  refine J_istore_n dX0_packed_22 rfl (Nat.le_of_ble_eq_true rfl) rfl ?_
  refine J_iinc (v := 3) dX0_packed_23 rfl (by decide +kernel) (Nat.le_of_ble_eq_true rfl) rfl ?_
  refine J_ls (ls2 := [some (.ref 51), some (.int 73), some (.int 3)]) rfl ?_
  refine J_goto (tgt := 4) dX0_packed_26 (by decide) ?_
  refine J_iload_n dX0_packed_4 rfl rfl ?_
  refine J_aload_n dX0_packed_5 rfl rfl ?_
  refine J_get (v := .int 4) dX0_packed_6 fl_X0_22 hk51 rfl ?_
  refine J_icmp_ge (tgt := 29) dX0_packed_9 (by decide) (fun q => absurd q (by decide +kernel)) (fun _ => ?_)
  refine J_iload_n dX0_packed_12 rfl rfl ?_
  refine J_aload_n dX0_packed_13 rfl rfl ?_
  refine J_get (v := .ref 53) dX0_packed_14 fl_X0_15 hk51 rfl ?_
  refine J_iload_n dX0_packed_17 rfl rfl ?_
  refine J_iald (i2 := 3) (v := 1) dX0_packed_18 hk53 rfl (jin (by decide +kernel)) (by decide +kernel) rfl ?_
  refine J_callS (st := []) dX0_packed_19 cs_X0_33 (c_X0_behind_5 ) rfl rfl (Nat.le_of_ble_eq_true rfl) ⟨(Nat.le_of_ble_eq_true rfl), (Nat.le_of_ble_eq_true rfl)⟩ ⟨(Nat.le_of_ble_eq_true rfl), (Nat.le_of_ble_eq_true rfl)⟩ (fun r h9 hp => ?_)
  obtain ⟨rfl, rfl⟩ := hp
  refine J_nf (nh2 := nh) (ck2 := 0) (sk2 := 0) (st2 := [.int 585]) rfl rfl rfl rfl ?_
  refine J_istore_n dX0_packed_22 rfl (Nat.le_of_ble_eq_true rfl) rfl ?_
  refine J_iinc (v := 4) dX0_packed_23 rfl (by decide +kernel) (Nat.le_of_ble_eq_true rfl) rfl ?_
  refine J_ls (ls2 := [some (.ref 51), some (.int 585), some (.int 4)]) rfl ?_
  refine J_goto (tgt := 4) dX0_packed_26 (by decide) ?_
  refine J_iload_n dX0_packed_4 rfl rfl ?_
  refine J_aload_n dX0_packed_5 rfl rfl ?_
  refine J_get (v := .int 4) dX0_packed_6 fl_X0_22 hk51 rfl ?_
  refine J_icmp_ge (tgt := 29) dX0_packed_9 (by decide) (fun _ => ?_) (fun q => absurd (by decide +kernel) q)
  refine J_iload_n dX0_packed_29 rfl rfl ?_
  exact J_iret dX0_packed_30 rfl rfl (Nat.le_of_ble_eq_true rfl) (Nat.le_of_ble_eq_true rfl) ⟨rfl, rfl⟩
set_option maxHeartbeats 4000000 in
set_option maxRecDepth 100000 in
theorem c_X0_nextOrder_11 {l : Launch} {G : jG} {nh : Nat} {fh : Nat → Option va_E} (hk51 : fh 51 = some (.inr (0, [.ref 52, .ref 53, .int 1, .int 4]))) (hk53 : fh 53 = some (.inl (0, 7, .inl (upd (upd (upd (upd (fun _ => 0) 0 1) 1 1) 2 1) 3 1)))) : JM l G yX0_nextOrder MX0_nextOrder { frames := 0, cells := 0, slots := 0, locals := 0 } [.ref 51] (nh, fh) (fun r h9 => r = some (.int 0) ∧ h9 = (nh, fh)) := by
  refine JM.of (by decide) rfl (fun h => by cases h) (Nat.le_of_ble_eq_true rfl) ⟨4, rfl⟩ ?_
  refine J_hc0 (J_ls (ls2 := [some (.ref 51), none, none, none, none]) rfl ?_)
  refine J_aload_n dX0_nextOrder_0 rfl rfl ?_
  refine J_get (v := .int 4) dX0_nextOrder_1 fl_X0_22 hk51 rfl ?_
  refine J_iconst (v := 2) dX0_nextOrder_4 (by decide) ?_
  refine J_isub (z := 2) dX0_nextOrder_5 (by decide +kernel) ?_
  refine J_istore_n dX0_nextOrder_6 rfl (Nat.le_of_ble_eq_true rfl) rfl ?_
  refine J_iload_n dX0_nextOrder_7 rfl rfl ?_
  refine J_if_lt (tgt := 34) dX0_nextOrder_8 (by decide) (fun q => absurd q (by decide +kernel)) (fun _ => ?_)
  refine J_aload_n dX0_nextOrder_11 rfl rfl ?_
  refine J_get (v := .ref 53) dX0_nextOrder_12 fl_X0_15 hk51 rfl ?_
  refine J_iload_n dX0_nextOrder_15 rfl rfl ?_
  refine J_iald (i2 := 2) (v := 1) dX0_nextOrder_16 hk53 rfl (jin (by decide +kernel)) (by decide +kernel) rfl ?_
  refine J_aload_n dX0_nextOrder_17 rfl rfl ?_
  refine J_get (v := .ref 53) dX0_nextOrder_18 fl_X0_15 hk51 rfl ?_
  refine J_iload_n dX0_nextOrder_21 rfl rfl ?_
  refine J_iconst (v := 1) dX0_nextOrder_22 (by decide) ?_
  refine J_iadd (z := 3) dX0_nextOrder_23 (by decide +kernel) ?_
  refine J_iald (i2 := 3) (v := 1) dX0_nextOrder_24 hk53 rfl (jin (by decide +kernel)) (by decide +kernel) rfl ?_
  refine J_icmp_lt (tgt := 34) dX0_nextOrder_25 (by decide) (fun q => absurd q (by decide +kernel)) (fun _ => ?_)
  refine J_iinc (v := 1) dX0_nextOrder_28 rfl (by decide +kernel) (Nat.le_of_ble_eq_true rfl) rfl ?_
  refine J_ls (ls2 := [some (.ref 51), some (.int 1), none, none, none]) rfl ?_
  refine J_goto (tgt := 7) dX0_nextOrder_31 (by decide) ?_
  refine J_iload_n dX0_nextOrder_7 rfl rfl ?_
  refine J_if_lt (tgt := 34) dX0_nextOrder_8 (by decide) (fun q => absurd q (by decide +kernel)) (fun _ => ?_)
  refine J_aload_n dX0_nextOrder_11 rfl rfl ?_
  refine J_get (v := .ref 53) dX0_nextOrder_12 fl_X0_15 hk51 rfl ?_
  refine J_iload_n dX0_nextOrder_15 rfl rfl ?_
  refine J_iald (i2 := 1) (v := 1) dX0_nextOrder_16 hk53 rfl (jin (by decide +kernel)) (by decide +kernel) rfl ?_
  refine J_aload_n dX0_nextOrder_17 rfl rfl ?_
  refine J_get (v := .ref 53) dX0_nextOrder_18 fl_X0_15 hk51 rfl ?_
  refine J_iload_n dX0_nextOrder_21 rfl rfl ?_
  refine J_iconst (v := 1) dX0_nextOrder_22 (by decide) ?_
  refine J_iadd (z := 2) dX0_nextOrder_23 (by decide +kernel) ?_
  refine J_iald (i2 := 2) (v := 1) dX0_nextOrder_24 hk53 rfl (jin (by decide +kernel)) (by decide +kernel) rfl ?_
  refine J_icmp_lt (tgt := 34) dX0_nextOrder_25 (by decide) (fun q => absurd q (by decide +kernel)) (fun _ => ?_)
  refine J_iinc (v := 0) dX0_nextOrder_28 rfl (by decide +kernel) (Nat.le_of_ble_eq_true rfl) rfl ?_
  refine J_ls (ls2 := [some (.ref 51), some (.int 0), none, none, none]) rfl ?_
  refine J_goto (tgt := 7) dX0_nextOrder_31 (by decide) ?_
  refine J_iload_n dX0_nextOrder_7 rfl rfl ?_
  refine J_if_lt (tgt := 34) dX0_nextOrder_8 (by decide) (fun q => absurd q (by decide +kernel)) (fun _ => ?_)
  refine J_aload_n dX0_nextOrder_11 rfl rfl ?_
  refine J_get (v := .ref 53) dX0_nextOrder_12 fl_X0_15 hk51 rfl ?_
  refine J_iload_n dX0_nextOrder_15 rfl rfl ?_
  refine J_iald (i2 := 0) (v := 1) dX0_nextOrder_16 hk53 rfl (jin (by decide +kernel)) (by decide +kernel) rfl ?_
  refine J_aload_n dX0_nextOrder_17 rfl rfl ?_
  refine J_get (v := .ref 53) dX0_nextOrder_18 fl_X0_15 hk51 rfl ?_
  refine J_iload_n dX0_nextOrder_21 rfl rfl ?_
  refine J_iconst (v := 1) dX0_nextOrder_22 (by decide) ?_
  refine J_iadd (z := 1) dX0_nextOrder_23 (by decide +kernel) ?_
  refine J_iald (i2 := 1) (v := 1) dX0_nextOrder_24 hk53 rfl (jin (by decide +kernel)) (by decide +kernel) rfl ?_
  refine J_icmp_lt (tgt := 34) dX0_nextOrder_25 (by decide) (fun q => absurd q (by decide +kernel)) (fun _ => ?_)
  refine J_iinc (v := (-1)) dX0_nextOrder_28 rfl (by decide +kernel) (Nat.le_of_ble_eq_true rfl) rfl ?_
  refine J_ls (ls2 := [some (.ref 51), some (.int (-1)), none, none, none]) rfl ?_
  refine J_goto (tgt := 7) dX0_nextOrder_31 (by decide) ?_
  refine J_iload_n dX0_nextOrder_7 rfl rfl ?_
  refine J_if_lt (tgt := 34) dX0_nextOrder_8 (by decide) (fun _ => ?_) (fun q => absurd (by decide +kernel) q)
  refine J_iload_n dX0_nextOrder_34 rfl rfl ?_
  refine J_if_ge (tgt := 40) dX0_nextOrder_35 (by decide) (fun q => absurd q (by decide +kernel)) (fun _ => ?_)
  refine J_iconst (v := 0) dX0_nextOrder_38 (by decide) ?_
  exact J_iret dX0_nextOrder_39 rfl (by decide +kernel) (Nat.le_of_ble_eq_true rfl) (Nat.le_of_ble_eq_true rfl) ⟨rfl, rfl⟩
set_option maxHeartbeats 4000000 in
set_option maxRecDepth 100000 in
theorem c_X0_settle_14 {l : Launch} {G : jG} {nh : Nat} {fh : Nat → Option va_E} (hk2 : fh 2 = some (.inl (0, 5, .inl (upd (fun _ => 0) 1 4)))) (hk51 : fh 51 = some (.inr (0, [.ref 52, .ref 53, .int 1, .int 0]))) (hk52 : fh 52 = some (.inl (0, 1260, .inl (upd (fun _ => 0) 0 0)))) (hk53 : fh 53 = some (.inl (0, 7, .inl (fun _ => 0)))) : JM l G yX0_settle MX0_settle { frames := 2, cells := 0, slots := 0, locals := 43 } [.ref 51, .ref 2] (nh, fh) (fun r h9 => r = none ∧ h9 = (nh, hc fh [(51, .inr (0, [.ref 52, .ref 53, .int 1, .int 4])), (52, .inl (0, 1260, .inl (upd (upd (fun _ => 0) 0 0) 0 585))), (53, .inl (0, 7, .inl (upd (upd (upd (upd (fun _ => 0) 0 1) 1 1) 2 1) 3 1)))])) := by
  refine JM.of (by decide) rfl (fun h => by cases h) (Nat.le_of_ble_eq_true rfl) ⟨2, rfl⟩ ?_
  refine J_hc0 (J_ls (ls2 := [some (.ref 51), some (.ref 2), none, none]) rfl ?_)
  refine J_aload_n dX0_settle_0 rfl rfl ?_
  refine J_iconst (v := 0) dX0_settle_1 (by decide) ?_
  refine K_put (fs2 := [.ref 52, .ref 53, .int 1, .int 0]) dX0_settle_2 fw_X0_22 hk51 (Nat.le_of_ble_eq_true rfl) (fun _ => ⟨rfl, rfl⟩) rfl ?_
  refine J_iconst (v := 0) dX0_settle_5 (by decide) ?_
  refine J_istore_n dX0_settle_6 rfl (Nat.le_of_ble_eq_true rfl) rfl ?_
  refine J_iload_n dX0_settle_7 rfl rfl ?_
  refine J_iconst (v := 5) dX0_settle_8 (by decide) ?_
  refine J_icmp_ge (tgt := 62) dX0_settle_9 (by decide) (fun q => absurd q (by decide +kernel)) (fun _ => ?_)
  refine J_iconst (v := 0) dX0_settle_12 (by decide) ?_
  refine J_istore_n dX0_settle_13 rfl (Nat.le_of_ble_eq_true rfl) rfl ?_
  refine J_iload_n dX0_settle_14 rfl rfl ?_
  refine J_aload_n dX0_settle_15 rfl rfl ?_
  refine J_iload_n dX0_settle_16 rfl rfl ?_
  refine J_iald (i2 := 0) (v := 0) dX0_settle_17 hk2 rfl (jin (by decide +kernel)) (by decide +kernel) rfl ?_
  refine J_icmp_ge (tgt := 56) dX0_settle_18 (by decide) (fun _ => ?_) (fun q => absurd (by decide +kernel) q)
  refine J_iinc (v := 1) dX0_settle_56 rfl (by decide +kernel) (Nat.le_of_ble_eq_true rfl) rfl ?_
  refine J_ls (ls2 := [some (.ref 51), some (.ref 2), some (.int 1), some (.int 0)]) rfl ?_
  refine J_goto (tgt := 7) dX0_settle_59 (by decide) ?_
  refine J_iload_n dX0_settle_7 rfl rfl ?_
  refine J_iconst (v := 5) dX0_settle_8 (by decide) ?_
  refine J_icmp_ge (tgt := 62) dX0_settle_9 (by decide) (fun q => absurd q (by decide +kernel)) (fun _ => ?_)
  refine J_iconst (v := 0) dX0_settle_12 (by decide) ?_
  refine J_istore_n dX0_settle_13 rfl (Nat.le_of_ble_eq_true rfl) rfl ?_
  refine J_iload_n dX0_settle_14 rfl rfl ?_
  refine J_aload_n dX0_settle_15 rfl rfl ?_
  refine J_iload_n dX0_settle_16 rfl rfl ?_
  refine J_iald (i2 := 1) (v := 4) dX0_settle_17 hk2 rfl (jin (by decide +kernel)) (by decide +kernel) rfl ?_
  refine J_icmp_ge (tgt := 56) dX0_settle_18 (by decide) (fun q => absurd q (by decide +kernel)) (fun _ => ?_)
  refine J_aload_n dX0_settle_21 rfl rfl ?_
  refine J_get (v := .int 0) dX0_settle_22 fl_X0_22 rfl rfl ?_
  refine J_bipush (v := 7) dX0_settle_25 (by decide +kernel) ?_
  refine J_icmp_ge (tgt := 56) dX0_settle_27 (by decide) (fun q => absurd q (by decide +kernel)) (fun _ => ?_)
  refine J_aload_n dX0_settle_30 rfl rfl ?_
  refine J_get (v := .ref 53) dX0_settle_31 fl_X0_15 rfl rfl ?_
  refine J_aload_n dX0_settle_34 rfl rfl ?_
  refine J_get (v := .int 0) dX0_settle_35 fl_X0_22 rfl rfl ?_
  refine J_iload_n dX0_settle_38 rfl rfl ?_
  refine K_iast (i2 := 0) dX0_settle_39 hk53 rfl (jin (by decide +kernel)) (by decide +kernel) ?_
  refine J_aload_n dX0_settle_40 rfl rfl ?_
  refine J_dup dX0_settle_41 rfl ?_
  refine J_get (v := .int 0) dX0_settle_42 fl_X0_22 rfl rfl ?_
  refine J_iconst (v := 1) dX0_settle_45 (by decide) ?_
  refine J_iadd (z := 1) dX0_settle_46 (by decide +kernel) ?_
  refine K_put (fs2 := [.ref 52, .ref 53, .int 1, .int 1]) dX0_settle_47 fw_X0_22 rfl (Nat.le_of_ble_eq_true rfl) (fun _ => ⟨rfl, rfl⟩) rfl ?_
  refine J_iinc (v := 1) dX0_settle_50 rfl (by decide +kernel) (Nat.le_of_ble_eq_true rfl) rfl ?_
  refine J_ls (ls2 := [some (.ref 51), some (.ref 2), some (.int 1), some (.int 1)]) rfl ?_
  refine J_goto (tgt := 14) dX0_settle_53 (by decide) ?_
  refine J_iload_n dX0_settle_14 rfl rfl ?_
  refine J_aload_n dX0_settle_15 rfl rfl ?_
  refine J_iload_n dX0_settle_16 rfl rfl ?_
  refine J_iald (i2 := 1) (v := 4) dX0_settle_17 hk2 rfl (jin (by decide +kernel)) (by decide +kernel) rfl ?_
  refine J_icmp_ge (tgt := 56) dX0_settle_18 (by decide) (fun q => absurd q (by decide +kernel)) (fun _ => ?_)
  refine J_aload_n dX0_settle_21 rfl rfl ?_
  refine J_get (v := .int 1) dX0_settle_22 fl_X0_22 rfl rfl ?_
  refine J_bipush (v := 7) dX0_settle_25 (by decide +kernel) ?_
  refine J_icmp_ge (tgt := 56) dX0_settle_27 (by decide) (fun q => absurd q (by decide +kernel)) (fun _ => ?_)
  refine J_aload_n dX0_settle_30 rfl rfl ?_
  refine J_get (v := .ref 53) dX0_settle_31 fl_X0_15 rfl rfl ?_
  refine J_aload_n dX0_settle_34 rfl rfl ?_
  refine J_get (v := .int 1) dX0_settle_35 fl_X0_22 rfl rfl ?_
  refine J_iload_n dX0_settle_38 rfl rfl ?_
  refine K_iast (i2 := 1) dX0_settle_39 rfl rfl (jin (by decide +kernel)) (by decide +kernel) ?_
  refine J_aload_n dX0_settle_40 rfl rfl ?_
  refine J_dup dX0_settle_41 rfl ?_
  refine J_get (v := .int 1) dX0_settle_42 fl_X0_22 rfl rfl ?_
  refine J_iconst (v := 1) dX0_settle_45 (by decide) ?_
  refine J_iadd (z := 2) dX0_settle_46 (by decide +kernel) ?_
  refine K_put (fs2 := [.ref 52, .ref 53, .int 1, .int 2]) dX0_settle_47 fw_X0_22 rfl (Nat.le_of_ble_eq_true rfl) (fun _ => ⟨rfl, rfl⟩) rfl ?_
  refine J_iinc (v := 2) dX0_settle_50 rfl (by decide +kernel) (Nat.le_of_ble_eq_true rfl) rfl ?_
  refine J_ls (ls2 := [some (.ref 51), some (.ref 2), some (.int 1), some (.int 2)]) rfl ?_
  refine J_goto (tgt := 14) dX0_settle_53 (by decide) ?_
  refine J_iload_n dX0_settle_14 rfl rfl ?_
  refine J_aload_n dX0_settle_15 rfl rfl ?_
  refine J_iload_n dX0_settle_16 rfl rfl ?_
  refine J_iald (i2 := 1) (v := 4) dX0_settle_17 hk2 rfl (jin (by decide +kernel)) (by decide +kernel) rfl ?_
  refine J_icmp_ge (tgt := 56) dX0_settle_18 (by decide) (fun q => absurd q (by decide +kernel)) (fun _ => ?_)
  refine J_aload_n dX0_settle_21 rfl rfl ?_
  refine J_get (v := .int 2) dX0_settle_22 fl_X0_22 rfl rfl ?_
  refine J_bipush (v := 7) dX0_settle_25 (by decide +kernel) ?_
  refine J_icmp_ge (tgt := 56) dX0_settle_27 (by decide) (fun q => absurd q (by decide +kernel)) (fun _ => ?_)
  refine J_aload_n dX0_settle_30 rfl rfl ?_
  refine J_get (v := .ref 53) dX0_settle_31 fl_X0_15 rfl rfl ?_
  refine J_aload_n dX0_settle_34 rfl rfl ?_
  refine J_get (v := .int 2) dX0_settle_35 fl_X0_22 rfl rfl ?_
  refine J_iload_n dX0_settle_38 rfl rfl ?_
  refine K_iast (i2 := 2) dX0_settle_39 rfl rfl (jin (by decide +kernel)) (by decide +kernel) ?_
  refine J_aload_n dX0_settle_40 rfl rfl ?_
  refine J_dup dX0_settle_41 rfl ?_
  refine J_get (v := .int 2) dX0_settle_42 fl_X0_22 rfl rfl ?_
  refine J_iconst (v := 1) dX0_settle_45 (by decide) ?_
  refine J_iadd (z := 3) dX0_settle_46 (by decide +kernel) ?_
  refine K_put (fs2 := [.ref 52, .ref 53, .int 1, .int 3]) dX0_settle_47 fw_X0_22 rfl (Nat.le_of_ble_eq_true rfl) (fun _ => ⟨rfl, rfl⟩) rfl ?_
  refine J_iinc (v := 3) dX0_settle_50 rfl (by decide +kernel) (Nat.le_of_ble_eq_true rfl) rfl ?_
  refine J_ls (ls2 := [some (.ref 51), some (.ref 2), some (.int 1), some (.int 3)]) rfl ?_
  refine J_goto (tgt := 14) dX0_settle_53 (by decide) ?_
  refine J_iload_n dX0_settle_14 rfl rfl ?_
  refine J_aload_n dX0_settle_15 rfl rfl ?_
  refine J_iload_n dX0_settle_16 rfl rfl ?_
  refine J_iald (i2 := 1) (v := 4) dX0_settle_17 hk2 rfl (jin (by decide +kernel)) (by decide +kernel) rfl ?_
  refine J_icmp_ge (tgt := 56) dX0_settle_18 (by decide) (fun q => absurd q (by decide +kernel)) (fun _ => ?_)
  refine J_aload_n dX0_settle_21 rfl rfl ?_
  refine J_get (v := .int 3) dX0_settle_22 fl_X0_22 rfl rfl ?_
  refine J_bipush (v := 7) dX0_settle_25 (by decide +kernel) ?_
  refine J_icmp_ge (tgt := 56) dX0_settle_27 (by decide) (fun q => absurd q (by decide +kernel)) (fun _ => ?_)
  refine J_aload_n dX0_settle_30 rfl rfl ?_
  refine J_get (v := .ref 53) dX0_settle_31 fl_X0_15 rfl rfl ?_
  refine J_aload_n dX0_settle_34 rfl rfl ?_
  refine J_get (v := .int 3) dX0_settle_35 fl_X0_22 rfl rfl ?_
  refine J_iload_n dX0_settle_38 rfl rfl ?_
  refine K_iast (i2 := 3) dX0_settle_39 rfl rfl (jin (by decide +kernel)) (by decide +kernel) ?_
  refine J_aload_n dX0_settle_40 rfl rfl ?_
  refine J_dup dX0_settle_41 rfl ?_
  refine J_get (v := .int 3) dX0_settle_42 fl_X0_22 rfl rfl ?_
  refine J_iconst (v := 1) dX0_settle_45 (by decide) ?_
  refine J_iadd (z := 4) dX0_settle_46 (by decide +kernel) ?_
  refine K_put (fs2 := [.ref 52, .ref 53, .int 1, .int 4]) dX0_settle_47 fw_X0_22 rfl (Nat.le_of_ble_eq_true rfl) (fun _ => ⟨rfl, rfl⟩) rfl ?_
  refine J_iinc (v := 4) dX0_settle_50 rfl (by decide +kernel) (Nat.le_of_ble_eq_true rfl) rfl ?_
  refine J_ls (ls2 := [some (.ref 51), some (.ref 2), some (.int 1), some (.int 4)]) rfl ?_
  refine J_goto (tgt := 14) dX0_settle_53 (by decide) ?_
  refine J_iload_n dX0_settle_14 rfl rfl ?_
  refine J_aload_n dX0_settle_15 rfl rfl ?_
  refine J_iload_n dX0_settle_16 rfl rfl ?_
  refine J_iald (i2 := 1) (v := 4) dX0_settle_17 hk2 rfl (jin (by decide +kernel)) (by decide +kernel) rfl ?_
  refine J_icmp_ge (tgt := 56) dX0_settle_18 (by decide) (fun _ => ?_) (fun q => absurd (by decide +kernel) q)
  refine J_iinc (v := 2) dX0_settle_56 rfl (by decide +kernel) (Nat.le_of_ble_eq_true rfl) rfl ?_
  refine J_ls (ls2 := [some (.ref 51), some (.ref 2), some (.int 2), some (.int 4)]) rfl ?_
  refine J_goto (tgt := 7) dX0_settle_59 (by decide) ?_
  refine J_iload_n dX0_settle_7 rfl rfl ?_
  refine J_iconst (v := 5) dX0_settle_8 (by decide) ?_
  refine J_icmp_ge (tgt := 62) dX0_settle_9 (by decide) (fun q => absurd q (by decide +kernel)) (fun _ => ?_)
  refine J_iconst (v := 0) dX0_settle_12 (by decide) ?_
  refine J_istore_n dX0_settle_13 rfl (Nat.le_of_ble_eq_true rfl) rfl ?_
  refine J_iload_n dX0_settle_14 rfl rfl ?_
  refine J_aload_n dX0_settle_15 rfl rfl ?_
  refine J_iload_n dX0_settle_16 rfl rfl ?_
  refine J_iald (i2 := 2) (v := 0) dX0_settle_17 hk2 rfl (jin (by decide +kernel)) (by decide +kernel) rfl ?_
  refine J_icmp_ge (tgt := 56) dX0_settle_18 (by decide) (fun _ => ?_) (fun q => absurd (by decide +kernel) q)
  refine J_iinc (v := 3) dX0_settle_56 rfl (by decide +kernel) (Nat.le_of_ble_eq_true rfl) rfl ?_
  refine J_ls (ls2 := [some (.ref 51), some (.ref 2), some (.int 3), some (.int 0)]) rfl ?_
  refine J_goto (tgt := 7) dX0_settle_59 (by decide) ?_
  refine J_iload_n dX0_settle_7 rfl rfl ?_
  refine J_iconst (v := 5) dX0_settle_8 (by decide) ?_
  refine J_icmp_ge (tgt := 62) dX0_settle_9 (by decide) (fun q => absurd q (by decide +kernel)) (fun _ => ?_)
  refine J_iconst (v := 0) dX0_settle_12 (by decide) ?_
  refine J_istore_n dX0_settle_13 rfl (Nat.le_of_ble_eq_true rfl) rfl ?_
  refine J_iload_n dX0_settle_14 rfl rfl ?_
  refine J_aload_n dX0_settle_15 rfl rfl ?_
  refine J_iload_n dX0_settle_16 rfl rfl ?_
  refine J_iald (i2 := 3) (v := 0) dX0_settle_17 hk2 rfl (jin (by decide +kernel)) (by decide +kernel) rfl ?_
  refine J_icmp_ge (tgt := 56) dX0_settle_18 (by decide) (fun _ => ?_) (fun q => absurd (by decide +kernel) q)
  refine J_iinc (v := 4) dX0_settle_56 rfl (by decide +kernel) (Nat.le_of_ble_eq_true rfl) rfl ?_
  refine J_ls (ls2 := [some (.ref 51), some (.ref 2), some (.int 4), some (.int 0)]) rfl ?_
  refine J_goto (tgt := 7) dX0_settle_59 (by decide) ?_
  refine J_iload_n dX0_settle_7 rfl rfl ?_
  refine J_iconst (v := 5) dX0_settle_8 (by decide) ?_
  refine J_icmp_ge (tgt := 62) dX0_settle_9 (by decide) (fun q => absurd q (by decide +kernel)) (fun _ => ?_)
  refine J_iconst (v := 0) dX0_settle_12 (by decide) ?_
  refine J_istore_n dX0_settle_13 rfl (Nat.le_of_ble_eq_true rfl) rfl ?_
  refine J_iload_n dX0_settle_14 rfl rfl ?_
  refine J_aload_n dX0_settle_15 rfl rfl ?_
  refine J_iload_n dX0_settle_16 rfl rfl ?_
  refine J_iald (i2 := 4) (v := 0) dX0_settle_17 hk2 rfl (jin (by decide +kernel)) (by decide +kernel) rfl ?_
  refine J_icmp_ge (tgt := 56) dX0_settle_18 (by decide) (fun _ => ?_) (fun q => absurd (by decide +kernel) q)
  refine J_iinc (v := 5) dX0_settle_56 rfl (by decide +kernel) (Nat.le_of_ble_eq_true rfl) rfl ?_
  refine J_ls (ls2 := [some (.ref 51), some (.ref 2), some (.int 5), some (.int 0)]) rfl ?_
  refine J_goto (tgt := 7) dX0_settle_59 (by decide) ?_
  refine J_iload_n dX0_settle_7 rfl rfl ?_
  refine J_iconst (v := 5) dX0_settle_8 (by decide) ?_
  refine J_icmp_ge (tgt := 62) dX0_settle_9 (by decide) (fun _ => ?_) (fun q => absurd (by decide +kernel) q)
  refine J_aload_n dX0_settle_62 rfl rfl ?_
  refine J_iconst (v := 0) dX0_settle_63 (by decide) ?_
  refine K_put (fs2 := [.ref 52, .ref 53, .int 0, .int 4]) dX0_settle_64 fw_X0_18 rfl (Nat.le_of_ble_eq_true rfl) (fun _ => ⟨rfl, rfl⟩) rfl ?_
  refine J_iconst (v := 1) dX0_settle_67 (by decide) ?_
  refine J_istore_n dX0_settle_68 rfl (Nat.le_of_ble_eq_true rfl) rfl ?_
  refine J_iconst (v := 0) dX0_settle_69 (by decide) ?_
  refine J_istore_n dX0_settle_70 rfl (Nat.le_of_ble_eq_true rfl) rfl ?_
  refine J_iload_n dX0_settle_71 rfl rfl ?_
  refine J_sipush (v := 1260) dX0_settle_72 (by decide +kernel) ?_
  refine J_icmp_ge (tgt := 116) dX0_settle_75 (by decide) (fun q => absurd q (by decide +kernel)) (fun _ => ?_)
  refine J_iload_n dX0_settle_78 rfl rfl ?_
  refine J_if_eq (tgt := 116) dX0_settle_79 (by decide) (fun q => absurd q (by decide +kernel)) (fun _ => ?_)
  refine J_aload_n dX0_settle_82 rfl rfl ?_
  refine J_get (v := .ref 52) dX0_settle_83 fl_X0_9 rfl rfl ?_
  refine J_aload_n dX0_settle_86 rfl rfl ?_
  refine J_get (v := .int 0) dX0_settle_87 fl_X0_18 rfl rfl ?_
  refine J_aload_n dX0_settle_90 rfl rfl ?_
  refine J_callV (st := [.int 0, .ref 52]) dX0_settle_91 cv_X0_25 (c_X0_packed_12 rfl rfl) rfl rfl rfl (Nat.le_of_ble_eq_true rfl) ⟨(Nat.le_of_ble_eq_true rfl), (Nat.le_of_ble_eq_true rfl)⟩ ⟨(Nat.le_of_ble_eq_true rfl), (Nat.le_of_ble_eq_true rfl)⟩ (fun r h9 hp => ?_)
  obtain ⟨rfl, rfl⟩ := hp
  refine J_nf (nh2 := nh) (ck2 := 0) (sk2 := 0) (st2 := [.int 585, .int 0, .ref 52]) rfl rfl rfl rfl ?_
  refine K_iast (i2 := 0) dX0_settle_94 hk52 rfl (jin (by decide +kernel)) (by decide +kernel) ?_
  refine J_aload_n dX0_settle_95 rfl rfl ?_
  refine J_dup dX0_settle_96 rfl ?_
  refine J_get (v := .int 0) dX0_settle_97 fl_X0_18 rfl rfl ?_
  refine J_iconst (v := 1) dX0_settle_100 (by decide) ?_
  refine J_iadd (z := 1) dX0_settle_101 (by decide +kernel) ?_
  refine K_put (fs2 := [.ref 52, .ref 53, .int 1, .int 4]) dX0_settle_102 fw_X0_18 rfl (Nat.le_of_ble_eq_true rfl) (fun _ => ⟨rfl, rfl⟩) rfl ?_
  refine J_aload_n dX0_settle_105 rfl rfl ?_
  refine J_callV (st := []) dX0_settle_106 cv_X0_29 (c_X0_nextOrder_11 rfl rfl) rfl rfl rfl (Nat.le_of_ble_eq_true rfl) ⟨(Nat.le_of_ble_eq_true rfl), (Nat.le_of_ble_eq_true rfl)⟩ ⟨(Nat.le_of_ble_eq_true rfl), (Nat.le_of_ble_eq_true rfl)⟩ (fun r h9 hp => ?_)
  obtain ⟨rfl, rfl⟩ := hp
  refine J_nf (nh2 := nh) (ck2 := 0) (sk2 := 0) (st2 := [.int 0]) rfl rfl rfl rfl ?_
  refine J_istore_n dX0_settle_109 rfl (Nat.le_of_ble_eq_true rfl) rfl ?_
  refine J_iinc (v := 1) dX0_settle_110 rfl (by decide +kernel) (Nat.le_of_ble_eq_true rfl) rfl ?_
  refine J_ls (ls2 := [some (.ref 51), some (.ref 2), some (.int 0), some (.int 1)]) rfl ?_
  refine J_goto (tgt := 71) dX0_settle_113 (by decide) ?_
  refine J_iload_n dX0_settle_71 rfl rfl ?_
  refine J_sipush (v := 1260) dX0_settle_72 (by decide +kernel) ?_
  refine J_icmp_ge (tgt := 116) dX0_settle_75 (by decide) (fun q => absurd q (by decide +kernel)) (fun _ => ?_)
  refine J_iload_n dX0_settle_78 rfl rfl ?_
  refine J_if_eq (tgt := 116) dX0_settle_79 (by decide) (fun _ => ?_) (fun q => absurd (by decide +kernel) q)
  refine J_mask (L2 := [(51, .inr (0, [.ref 52, .ref 53, .int 1, .int 4])), (52, .inl (0, 1260, .inl (upd (upd (fun _ => 0) 0 0) 0 585))), (53, .inl (0, 7, .inl (upd (upd (upd (upd (fun _ => 0) 0 1) 1 1) 2 1) 3 1)))]) (ks := [51, 52, 51, 51, 53, 51, 53, 51, 53, 51, 53, 51]) [true, true, false, false, true, false, false, false, false, false, false, false] rfl (by decide +kernel) rfl ?_
  exact J_vret dX0_settle_116 rfl (Nat.le_of_ble_eq_true rfl) (Nat.le_of_ble_eq_true rfl) ⟨rfl, rfl⟩
set_option maxHeartbeats 4000000 in
set_option maxRecDepth 100000 in
theorem c_X11_resettle_13 {l : Launch} {G : jG} {nh : Nat} {fh : Nat → Option va_E} (hk0 : fh 0 = some (.inr (11, [.ref 1, .ref 17, .ref 50, .ref 51, .ref 54, .ref 57, .ref 65, .ref 75, .ref 81, .ref 85, .ref 88, .ref 93, .ref 96, .int 0, .int (-1), .ref 97, .int 0]))) (hk1 : fh 1 = some (.inr (8, [.ref 2, .ref 3, .ref 4, .int 0, .int (-1), .ref 11, .ref 12, .int 0, .ref 13, .ref 14, .int 0, .ref 15, .ref 16, .int 0]))) (hk2 : fh 2 = some (.inl (0, 5, .inl (upd (fun _ => 0) 1 4)))) (hk51 : fh 51 = some (.inr (0, [.ref 52, .ref 53, .int 1, .int 0]))) (hk52 : fh 52 = some (.inl (0, 1260, .inl (upd (fun _ => 0) 0 0)))) (hk53 : fh 53 = some (.inl (0, 7, .inl (fun _ => 0)))) (hk57 : fh 57 = some (.inr (9, [.ref 1, .ref 51, .ref 58, .ref 61, .ref 62, .ref 63, .ref 64, .int 0, .int 1, .int 1]))) : JM l G yX11_resettle MX11_resettle { frames := 3, cells := 0, slots := 0, locals := 66 } [.ref 0] (nh, fh) (fun r h9 => r = none ∧ h9 = (nh, hc fh [(57, .inr (9, [.ref 1, .ref 51, .ref 58, .ref 61, .ref 62, .ref 63, .ref 64, .int 1, .int 1, .int 1])), (1, .inr (8, [.ref 2, .ref 3, .ref 4, .int 0, .int (-1), .ref 11, .ref 12, .int 0, .ref 13, .ref 14, .int 0, .ref 15, .ref 16, .int 0])), (51, .inr (0, [.ref 52, .ref 53, .int 1, .int 4])), (52, .inl (0, 1260, .inl (upd (upd (fun _ => 0) 0 0) 0 585))), (53, .inl (0, 7, .inl (upd (upd (upd (upd (fun _ => 0) 0 1) 1 1) 2 1) 3 1)))])) := by
  refine JM.of (by decide) rfl (fun h => by cases h) (Nat.le_of_ble_eq_true rfl) ⟨0, rfl⟩ ?_
  refine J_hc0 (J_ls (ls2 := [some (.ref 0)]) rfl ?_)
  refine J_aload_n dX11_resettle_0 rfl rfl ?_
  refine J_get (v := .ref 51) dX11_resettle_1 fl_X11_27 hk0 rfl ?_
  refine J_aload_n dX11_resettle_4 rfl rfl ?_
  refine J_get (v := .ref 1) dX11_resettle_5 fl_X11_10 hk0 rfl ?_
  refine J_get (v := .ref 2) dX11_resettle_8 fl_X11_111 hk1 rfl ?_
  refine J_callV (st := []) dX11_resettle_11 cv_X11_114 (c_X0_settle_14 hk2 hk51 hk52 hk53) hk51 rfl rfl (Nat.le_of_ble_eq_true rfl) ⟨(Nat.le_of_ble_eq_true rfl), (Nat.le_of_ble_eq_true rfl)⟩ ⟨(Nat.le_of_ble_eq_true rfl), (Nat.le_of_ble_eq_true rfl)⟩ (fun r h9 hp => ?_)
  obtain ⟨rfl, rfl⟩ := hp
  refine J_nf (nh2 := nh) (ck2 := 0) (sk2 := 0) (st2 := []) rfl rfl rfl rfl ?_
  refine J_app (L3 := [(51, .inr (0, [.ref 52, .ref 53, .int 1, .int 4])), (52, .inl (0, 1260, .inl (upd (upd (fun _ => 0) 0 0) 0 585))), (53, .inl (0, 7, .inl (upd (upd (upd (upd (fun _ => 0) 0 1) 1 1) 2 1) 3 1)))]) rfl ?_
  refine J_aload_n dX11_resettle_14 rfl rfl ?_
  refine J_get (v := .ref 1) dX11_resettle_15 fl_X11_10 hk0 rfl ?_
  refine J_iconst (v := 0) dX11_resettle_18 (by decide) ?_
  refine K_put (fs2 := [.ref 2, .ref 3, .ref 4, .int 0, .int (-1), .ref 11, .ref 12, .int 0, .ref 13, .ref 14, .int 0, .ref 15, .ref 16, .int 0]) dX11_resettle_19 fw_X11_204 hk1 (Nat.le_of_ble_eq_true rfl) (fun _ => ⟨rfl, rfl⟩) rfl ?_
  refine J_aload_n dX11_resettle_22 rfl rfl ?_
  refine J_get (v := .ref 1) dX11_resettle_23 fl_X11_10 hk0 rfl ?_
  refine J_iconst (v := 0) dX11_resettle_26 (by decide) ?_
  refine K_put (fs2 := [.ref 2, .ref 3, .ref 4, .int 0, .int (-1), .ref 11, .ref 12, .int 0, .ref 13, .ref 14, .int 0, .ref 15, .ref 16, .int 0]) dX11_resettle_27 fw_X11_286 rfl (Nat.le_of_ble_eq_true rfl) (fun _ => ⟨rfl, rfl⟩) rfl ?_
  refine J_aload_n dX11_resettle_30 rfl rfl ?_
  refine J_get (v := .ref 1) dX11_resettle_31 fl_X11_10 hk0 rfl ?_
  refine J_aload_n dX11_resettle_34 rfl rfl ?_
  refine J_get (v := .ref 51) dX11_resettle_35 fl_X11_27 hk0 rfl ?_
  refine J_callV (st := [.ref 1]) dX11_resettle_38 cv_X11_122 (c_X0_places_5 rfl) rfl rfl rfl (Nat.le_of_ble_eq_true rfl) ⟨(Nat.le_of_ble_eq_true rfl), (Nat.le_of_ble_eq_true rfl)⟩ ⟨(Nat.le_of_ble_eq_true rfl), (Nat.le_of_ble_eq_true rfl)⟩ (fun r h9 hp => ?_)
  obtain ⟨rfl, rfl⟩ := hp
  refine J_nf (nh2 := nh) (ck2 := 0) (sk2 := 0) (st2 := [.int 4, .ref 1]) rfl rfl rfl rfl ?_
  refine J_callV (st := []) dX11_resettle_41 cv_X11_321 (c_X8_dropSwapsBeyond_5 rfl) rfl rfl rfl (Nat.le_of_ble_eq_true rfl) ⟨(Nat.le_of_ble_eq_true rfl), (Nat.le_of_ble_eq_true rfl)⟩ ⟨(Nat.le_of_ble_eq_true rfl), (Nat.le_of_ble_eq_true rfl)⟩ (fun r h9 hp => ?_)
  obtain ⟨rfl, rfl⟩ := hp
  refine J_nf (nh2 := nh) (ck2 := 0) (sk2 := 0) (st2 := []) rfl rfl rfl rfl ?_
  refine J_app (L3 := [(1, .inr (8, [.ref 2, .ref 3, .ref 4, .int 0, .int (-1), .ref 11, .ref 12, .int 0, .ref 13, .ref 14, .int 0, .ref 15, .ref 16, .int 0])), (1, .inr (8, [.ref 2, .ref 3, .ref 4, .int 0, .int (-1), .ref 11, .ref 12, .int 0, .ref 13, .ref 14, .int 0, .ref 15, .ref 16, .int 0])), (1, .inr (8, [.ref 2, .ref 3, .ref 4, .int 0, .int (-1), .ref 11, .ref 12, .int 0, .ref 13, .ref 14, .int 0, .ref 15, .ref 16, .int 0])), (51, .inr (0, [.ref 52, .ref 53, .int 1, .int 4])), (52, .inl (0, 1260, .inl (upd (upd (fun _ => 0) 0 0) 0 585))), (53, .inl (0, 7, .inl (upd (upd (upd (upd (fun _ => 0) 0 1) 1 1) 2 1) 3 1)))]) rfl ?_
  refine J_aload_n dX11_resettle_44 rfl rfl ?_
  refine J_get (v := .ref 57) dX11_resettle_45 fl_X11_43 hk0 rfl ?_
  refine J_callV (st := []) dX11_resettle_48 cv_X11_148 (c_X9_changeAll_1 hk57) hk57 rfl rfl (Nat.le_of_ble_eq_true rfl) ⟨(Nat.le_of_ble_eq_true rfl), (Nat.le_of_ble_eq_true rfl)⟩ ⟨(Nat.le_of_ble_eq_true rfl), (Nat.le_of_ble_eq_true rfl)⟩ (fun r h9 hp => ?_)
  obtain ⟨rfl, rfl⟩ := hp
  refine J_nf (nh2 := nh) (ck2 := 0) (sk2 := 0) (st2 := []) rfl rfl rfl rfl ?_
  refine J_app (L3 := [(57, .inr (9, [.ref 1, .ref 51, .ref 58, .ref 61, .ref 62, .ref 63, .ref 64, .int 1, .int 1, .int 1])), (1, .inr (8, [.ref 2, .ref 3, .ref 4, .int 0, .int (-1), .ref 11, .ref 12, .int 0, .ref 13, .ref 14, .int 0, .ref 15, .ref 16, .int 0])), (1, .inr (8, [.ref 2, .ref 3, .ref 4, .int 0, .int (-1), .ref 11, .ref 12, .int 0, .ref 13, .ref 14, .int 0, .ref 15, .ref 16, .int 0])), (1, .inr (8, [.ref 2, .ref 3, .ref 4, .int 0, .int (-1), .ref 11, .ref 12, .int 0, .ref 13, .ref 14, .int 0, .ref 15, .ref 16, .int 0])), (51, .inr (0, [.ref 52, .ref 53, .int 1, .int 4])), (52, .inl (0, 1260, .inl (upd (upd (fun _ => 0) 0 0) 0 585))), (53, .inl (0, 7, .inl (upd (upd (upd (upd (fun _ => 0) 0 1) 1 1) 2 1) 3 1)))]) rfl ?_
  refine J_mask (L2 := [(57, .inr (9, [.ref 1, .ref 51, .ref 58, .ref 61, .ref 62, .ref 63, .ref 64, .int 1, .int 1, .int 1])), (1, .inr (8, [.ref 2, .ref 3, .ref 4, .int 0, .int (-1), .ref 11, .ref 12, .int 0, .ref 13, .ref 14, .int 0, .ref 15, .ref 16, .int 0])), (51, .inr (0, [.ref 52, .ref 53, .int 1, .int 4])), (52, .inl (0, 1260, .inl (upd (upd (fun _ => 0) 0 0) 0 585))), (53, .inl (0, 7, .inl (upd (upd (upd (upd (fun _ => 0) 0 1) 1 1) 2 1) 3 1)))]) (ks := [57, 1, 1, 1, 51, 52, 53]) [true, true, false, false, true, true, true] rfl (by decide +kernel) rfl ?_
  exact J_vret dX11_resettle_51 rfl (Nat.le_of_ble_eq_true rfl) (Nat.le_of_ble_eq_true rfl) ⟨rfl, rfl⟩
set_option maxHeartbeats 4000000 in
set_option maxRecDepth 100000 in
theorem c_X11_beans_15 {l : Launch} {G : jG} {nh : Nat} {fh : Nat → Option va_E} (hk0 : fh 0 = some (.inr (11, [.ref 1, .ref 17, .ref 50, .ref 51, .ref 54, .ref 57, .ref 65, .ref 75, .ref 81, .ref 85, .ref 88, .ref 93, .ref 96, .int 0, .int (-1), .ref 97, .int 0]))) (hk1 : fh 1 = some (.inr (8, [.ref 2, .ref 3, .ref 4, .int 0, .int (-1), .ref 11, .ref 12, .int 0, .ref 13, .ref 14, .int 0, .ref 15, .ref 16, .int 0]))) (hk2 : fh 2 = some (.inl (0, 5, .inl (fun _ => 0)))) (hk51 : fh 51 = some (.inr (0, [.ref 52, .ref 53, .int 1, .int 0]))) (hk52 : fh 52 = some (.inl (0, 1260, .inl (upd (fun _ => 0) 0 0)))) (hk53 : fh 53 = some (.inl (0, 7, .inl (fun _ => 0)))) (hk57 : fh 57 = some (.inr (9, [.ref 1, .ref 51, .ref 58, .ref 61, .ref 62, .ref 63, .ref 64, .int 0, .int 1, .int 1]))) : JM l G yX11_beans MX11_beans { frames := 4, cells := 0, slots := 0, locals := 86 } [.ref 0, .int 1, .int 4] (nh, fh) (fun r h9 => r = some (.int 0) ∧ h9 = (nh, hc fh [(0, .inr (11, [.ref 1, .ref 17, .ref 50, .ref 51, .ref 54, .ref 57, .ref 65, .ref 75, .ref 81, .ref 85, .ref 88, .ref 93, .ref 96, .int 0, .int (-1), .ref 97, .int 0])), (57, .inr (9, [.ref 1, .ref 51, .ref 58, .ref 61, .ref 62, .ref 63, .ref 64, .int 1, .int 1, .int 1])), (1, .inr (8, [.ref 2, .ref 3, .ref 4, .int 0, .int (-1), .ref 11, .ref 12, .int 0, .ref 13, .ref 14, .int 0, .ref 15, .ref 16, .int 0])), (51, .inr (0, [.ref 52, .ref 53, .int 1, .int 4])), (52, .inl (0, 1260, .inl (upd (upd (fun _ => 0) 0 0) 0 585))), (53, .inl (0, 7, .inl (upd (upd (upd (upd (fun _ => 0) 0 1) 1 1) 2 1) 3 1))), (2, .inl (0, 5, .inl (upd (fun _ => 0) 1 4)))])) := by
  refine JM.of (by decide) rfl (fun h => by cases h) (Nat.le_of_ble_eq_true rfl) ⟨1, rfl⟩ ?_
  refine J_hc0 (J_ls (ls2 := [some (.ref 0), some (.int 1), some (.int 4), none]) rfl ?_)
  refine J_iload_n dX11_beans_0 rfl rfl ?_
  refine J_if_lt (tgt := 19) dX11_beans_1 (by decide) (fun q => absurd q (by decide +kernel)) (fun _ => ?_)
  refine J_iload_n dX11_beans_4 rfl rfl ?_
  refine J_iconst (v := 5) dX11_beans_5 (by decide) ?_
  refine J_icmp_ge (tgt := 19) dX11_beans_6 (by decide) (fun q => absurd q (by decide +kernel)) (fun _ => ?_)
  refine J_iload_n dX11_beans_9 rfl rfl ?_
  refine J_if_lt (tgt := 19) dX11_beans_10 (by decide) (fun q => absurd q (by decide +kernel)) (fun _ => ?_)
  refine J_iload_n dX11_beans_13 rfl rfl ?_
  refine J_bipush (v := 7) dX11_beans_14 (by decide +kernel) ?_
  refine J_icmp_le (tgt := 25) dX11_beans_16 (by decide) (fun _ => ?_) (fun q => absurd (by decide +kernel) q)
  refine J_aload_n dX11_beans_25 rfl rfl ?_
  refine J_get (v := .ref 1) dX11_beans_26 fl_X11_10 hk0 rfl ?_
  refine J_get (v := .ref 2) dX11_beans_29 fl_X11_111 hk1 rfl ?_
  refine J_iload_n dX11_beans_32 rfl rfl ?_
  refine J_iald (i2 := 1) (v := 0) dX11_beans_33 hk2 rfl (jin (by decide +kernel)) (by decide +kernel) rfl ?_
  refine J_istore_n dX11_beans_34 rfl (Nat.le_of_ble_eq_true rfl) rfl ?_
  refine J_aload_n dX11_beans_35 rfl rfl ?_
  refine J_get (v := .ref 51) dX11_beans_36 fl_X11_27 hk0 rfl ?_
  refine J_callV (st := []) dX11_beans_39 cv_X11_122 (c_X0_places_1 hk51) hk51 rfl rfl (Nat.le_of_ble_eq_true rfl) ⟨(Nat.le_of_ble_eq_true rfl), (Nat.le_of_ble_eq_true rfl)⟩ ⟨(Nat.le_of_ble_eq_true rfl), (Nat.le_of_ble_eq_true rfl)⟩ (fun r h9 hp => ?_)
  obtain ⟨rfl, rfl⟩ := hp
  refine J_nf (nh2 := nh) (ck2 := 0) (sk2 := 0) (st2 := [.int 0]) rfl rfl rfl rfl ?_
  refine J_iload_n dX11_beans_42 rfl rfl ?_
  refine J_isub (z := 0) dX11_beans_43 (by decide +kernel) ?_
  refine J_iload_n dX11_beans_44 rfl rfl ?_
  refine J_iadd (z := 4) dX11_beans_45 (by decide +kernel) ?_
  refine J_bipush (v := 7) dX11_beans_46 (by decide +kernel) ?_
  refine J_icmp_le (tgt := 57) dX11_beans_48 (by decide) (fun _ => ?_) (fun q => absurd (by decide +kernel) q)
  refine J_aload_n dX11_beans_57 rfl rfl ?_
  refine J_get (v := .ref 1) dX11_beans_58 fl_X11_10 hk0 rfl ?_
  refine J_get (v := .ref 2) dX11_beans_61 fl_X11_111 hk1 rfl ?_
  refine J_iload_n dX11_beans_64 rfl rfl ?_
  refine J_iload_n dX11_beans_65 rfl rfl ?_
  refine K_iast (i2 := 1) dX11_beans_66 hk2 rfl (jin (by decide +kernel)) (by decide +kernel) ?_
  refine J_aload_n dX11_beans_67 rfl rfl ?_
  refine J_callV (st := []) dX11_beans_68 cv_X11_126 (c_X11_resettle_13 hk0 hk1 rfl hk51 hk52 hk53 hk57) hk0 rfl rfl (Nat.le_of_ble_eq_true rfl) ⟨(Nat.le_of_ble_eq_true rfl), (Nat.le_of_ble_eq_true rfl)⟩ ⟨(Nat.le_of_ble_eq_true rfl), (Nat.le_of_ble_eq_true rfl)⟩ (fun r h9 hp => ?_)
  obtain ⟨rfl, rfl⟩ := hp
  refine J_nf (nh2 := nh) (ck2 := 0) (sk2 := 0) (st2 := []) rfl rfl rfl rfl ?_
  refine J_app (L3 := [(57, .inr (9, [.ref 1, .ref 51, .ref 58, .ref 61, .ref 62, .ref 63, .ref 64, .int 1, .int 1, .int 1])), (1, .inr (8, [.ref 2, .ref 3, .ref 4, .int 0, .int (-1), .ref 11, .ref 12, .int 0, .ref 13, .ref 14, .int 0, .ref 15, .ref 16, .int 0])), (51, .inr (0, [.ref 52, .ref 53, .int 1, .int 4])), (52, .inl (0, 1260, .inl (upd (upd (fun _ => 0) 0 0) 0 585))), (53, .inl (0, 7, .inl (upd (upd (upd (upd (fun _ => 0) 0 1) 1 1) 2 1) 3 1))), (2, .inl (0, 5, .inl (upd (fun _ => 0) 1 4)))]) rfl ?_
  refine J_aload_n dX11_beans_71 rfl rfl ?_
  refine J_iload_n dX11_beans_72 rfl rfl ?_
  refine J_callV (st := []) dX11_beans_73 cv_X11_129 (c_X11_accept_1 hk0) hk0 rfl rfl (Nat.le_of_ble_eq_true rfl) ⟨(Nat.le_of_ble_eq_true rfl), (Nat.le_of_ble_eq_true rfl)⟩ ⟨(Nat.le_of_ble_eq_true rfl), (Nat.le_of_ble_eq_true rfl)⟩ (fun r h9 hp => ?_)
  obtain ⟨rfl, rfl⟩ := hp
  refine J_nf (nh2 := nh) (ck2 := 0) (sk2 := 0) (st2 := [.int 0]) rfl rfl rfl rfl ?_
  refine J_app (L3 := [(0, .inr (11, [.ref 1, .ref 17, .ref 50, .ref 51, .ref 54, .ref 57, .ref 65, .ref 75, .ref 81, .ref 85, .ref 88, .ref 93, .ref 96, .int 0, .int (-1), .ref 97, .int 0])), (57, .inr (9, [.ref 1, .ref 51, .ref 58, .ref 61, .ref 62, .ref 63, .ref 64, .int 1, .int 1, .int 1])), (1, .inr (8, [.ref 2, .ref 3, .ref 4, .int 0, .int (-1), .ref 11, .ref 12, .int 0, .ref 13, .ref 14, .int 0, .ref 15, .ref 16, .int 0])), (51, .inr (0, [.ref 52, .ref 53, .int 1, .int 4])), (52, .inl (0, 1260, .inl (upd (upd (fun _ => 0) 0 0) 0 585))), (53, .inl (0, 7, .inl (upd (upd (upd (upd (fun _ => 0) 0 1) 1 1) 2 1) 3 1))), (2, .inl (0, 5, .inl (upd (fun _ => 0) 1 4)))]) rfl ?_
  exact J_iret dX11_beans_76 rfl rfl (Nat.le_of_ble_eq_true rfl) (Nat.le_of_ble_eq_true rfl) ⟨rfl, rfl⟩
set_option maxHeartbeats 4000000 in
set_option maxRecDepth 100000 in
theorem c_X12_newBeans_13 {l : Launch} {G : jG} {nh : Nat} {fh : Nat → Option va_E} (hk98 : fh 98 = some (.inr (12, [.int 0, .int 0, .ref 99, .ref 100, .ref 101, .ref 102, .ref 103, .ref 104, .ref 105, .int 0, .int (-1), .ref 106, .ref 107, .ref 108, .int 0, .int 0, .int 0, .int 0, .int 0, .int 0, .int 0, .ref 109, .int 0, .int 0, .ref 110, .ref 111, .ref 112, .ref 113, .ref 114, .ref 115, .ref 116, .ref 117, .int 0, .int 0, .int (-1), .int (-1), .ref 118, .ref 119, .ref 120, .ref 121, .ref 122, .ref 123, .ref 124, .ref 125, .ref 126, .ref 127, .ref 128, .ref 129, .int 0, .ref 130, .ref 131, .ref 132, .ref 133, .ref 134, .int 0, .int 0]))) (hk100 : fh 100 = some (.inl (0, 4870, .inl (upd (upd (fun _ => 0) 63 (-1)) 1 4)))) : JM l G yX12_newBeans MX12_newBeans { frames := 0, cells := 0, slots := 0, locals := 0 } [.ref 98] (nh, fh) (fun r h9 => r = none ∧ h9 = (nh, hc fh [(100, .inl (0, 4870, .inl (upd (upd (upd (upd (upd (fun _ => 0) 63 (-1)) 1 4) 59 0) 61 0) 60 0)))])) := by
  refine JM.of (by decide) rfl (fun h => by cases h) (Nat.le_of_ble_eq_true rfl) ⟨2, rfl⟩ ?_
  refine J_hc0 (J_ls (ls2 := [some (.ref 98), none, none]) rfl ?_)
  refine J_aload_n dX12_newBeans_0 rfl rfl ?_
  refine J_get (v := .ref 100) dX12_newBeans_1 fl_X12_20 hk98 rfl ?_
  refine J_bipush (v := 59) dX12_newBeans_4 (by decide +kernel) ?_
  refine J_iconst (v := 0) dX12_newBeans_6 (by decide) ?_
  refine K_iast (i2 := 59) dX12_newBeans_7 hk100 rfl (jin (by decide +kernel)) (by decide +kernel) ?_
  refine J_aload_n dX12_newBeans_8 rfl rfl ?_
  refine J_get (v := .ref 100) dX12_newBeans_9 fl_X12_20 hk98 rfl ?_
  refine J_bipush (v := 61) dX12_newBeans_12 (by decide +kernel) ?_
  refine J_iconst (v := 0) dX12_newBeans_14 (by decide) ?_
  refine K_iast (i2 := 61) dX12_newBeans_15 rfl rfl (jin (by decide +kernel)) (by decide +kernel) ?_
  refine J_iconst (v := 0) dX12_newBeans_16 (by decide) ?_
  refine J_istore_n dX12_newBeans_17 rfl (Nat.le_of_ble_eq_true rfl) rfl ?_
  refine J_iconst (v := 0) dX12_newBeans_18 (by decide) ?_
  refine J_istore_n dX12_newBeans_19 rfl (Nat.le_of_ble_eq_true rfl) rfl ?_
  refine J_iload_n dX12_newBeans_20 rfl rfl ?_
  refine J_aload_n dX12_newBeans_21 rfl rfl ?_
  refine J_get (v := .ref 100) dX12_newBeans_22 fl_X12_20 hk98 rfl ?_
  refine J_bipush (v := 60) dX12_newBeans_25 (by decide +kernel) ?_
  refine J_iald (i2 := 60) (v := 0) dX12_newBeans_27 rfl rfl (jin (by decide +kernel)) (by decide +kernel) rfl ?_
  refine J_icmp_ge (tgt := 111) dX12_newBeans_28 (by decide) (fun _ => ?_) (fun q => absurd (by decide +kernel) q)
  refine J_aload_n dX12_newBeans_111 rfl rfl ?_
  refine J_get (v := .ref 100) dX12_newBeans_112 fl_X12_20 hk98 rfl ?_
  refine J_bipush (v := 60) dX12_newBeans_115 (by decide +kernel) ?_
  refine J_iload_n dX12_newBeans_117 rfl rfl ?_
  refine K_iast (i2 := 60) dX12_newBeans_118 rfl rfl (jin (by decide +kernel)) (by decide +kernel) ?_
  refine J_mask (L2 := [(100, .inl (0, 4870, .inl (upd (upd (upd (upd (upd (fun _ => 0) 63 (-1)) 1 4) 59 0) 61 0) 60 0)))]) (ks := [100, 100, 100]) [true, false, false] rfl (by decide +kernel) rfl ?_
  exact J_vret dX12_newBeans_119 rfl (Nat.le_of_ble_eq_true rfl) (Nat.le_of_ble_eq_true rfl) ⟨rfl, rfl⟩
set_option maxHeartbeats 4000000 in
set_option maxRecDepth 100000 in
theorem c_X12_beans_15 {l : Launch} {G : jG} {nh : Nat} {fh : Nat → Option va_E} (hk98 : fh 98 = some (.inr (12, [.int 0, .int 0, .ref 99, .ref 100, .ref 101, .ref 102, .ref 103, .ref 104, .ref 105, .int 0, .int (-1), .ref 106, .ref 107, .ref 108, .int 0, .int 0, .int 0, .int 0, .int 0, .int 0, .int 0, .ref 109, .int 0, .int 0, .ref 110, .ref 111, .ref 112, .ref 113, .ref 114, .ref 115, .ref 116, .ref 117, .int 0, .int 0, .int (-1), .int (-1), .ref 118, .ref 119, .ref 120, .ref 121, .ref 122, .ref 123, .ref 124, .ref 125, .ref 126, .ref 127, .ref 128, .ref 129, .int 0, .ref 130, .ref 131, .ref 132, .ref 133, .ref 134, .int 0, .int 0]))) (hk100 : fh 100 = some (.inl (0, 4870, .inl (upd (fun _ => 0) 63 (-1))))) : JM l G yX12_beans MX12_beans { frames := 1, cells := 0, slots := 0, locals := 22 } [.ref 98, .int 1, .int 4] (nh, fh) (fun r h9 => r = some (.int 0) ∧ h9 = (nh, hc fh [(98, .inr (12, [.int 0, .int 1, .ref 99, .ref 100, .ref 101, .ref 102, .ref 103, .ref 104, .ref 105, .int 0, .int (-1), .ref 106, .ref 107, .ref 108, .int 0, .int 0, .int 0, .int 0, .int 0, .int 0, .int 0, .ref 109, .int 0, .int 0, .ref 110, .ref 111, .ref 112, .ref 113, .ref 114, .ref 115, .ref 116, .ref 117, .int 0, .int 0, .int (-1), .int (-1), .ref 118, .ref 119, .ref 120, .ref 121, .ref 122, .ref 123, .ref 124, .ref 125, .ref 126, .ref 127, .ref 128, .ref 129, .int 0, .ref 130, .ref 131, .ref 132, .ref 133, .ref 134, .int 0, .int 0])), (100, .inl (0, 4870, .inl (upd (upd (upd (upd (upd (fun _ => 0) 63 (-1)) 1 4) 59 0) 61 0) 60 0)))])) := by
  refine JM.of (by decide) rfl (fun h => by cases h) (Nat.le_of_ble_eq_true rfl) ⟨1, rfl⟩ ?_
  refine J_hc0 (J_ls (ls2 := [some (.ref 98), some (.int 1), some (.int 4), none]) rfl ?_)
  refine J_iload_n dX12_beans_0 rfl rfl ?_
  refine J_iconst (v := 0) dX12_beans_1 (by decide) ?_
  refine J_iconst (v := 4) dX12_beans_2 (by decide) ?_
  refine J_callS (st := []) dX12_beans_3 cs_X12_138 (c_X12_lies_13 ) rfl rfl (Nat.le_of_ble_eq_true rfl) ⟨(Nat.le_of_ble_eq_true rfl), (Nat.le_of_ble_eq_true rfl)⟩ ⟨(Nat.le_of_ble_eq_true rfl), (Nat.le_of_ble_eq_true rfl)⟩ (fun r h9 hp => ?_)
  obtain ⟨rfl, rfl⟩ := hp
  refine J_nf (nh2 := nh) (ck2 := 0) (sk2 := 0) (st2 := [.int 1]) rfl rfl rfl rfl ?_
  refine J_if_eq (tgt := 39) dX12_beans_6 (by decide) (fun q => absurd q (by decide +kernel)) (fun _ => ?_)
  refine J_iload_n dX12_beans_9 rfl rfl ?_
  refine J_iconst (v := 0) dX12_beans_10 (by decide) ?_
  refine J_bipush (v := 7) dX12_beans_11 (by decide +kernel) ?_
  refine J_callS (st := []) dX12_beans_13 cs_X12_138 (c_X12_lies_9 ) rfl rfl (Nat.le_of_ble_eq_true rfl) ⟨(Nat.le_of_ble_eq_true rfl), (Nat.le_of_ble_eq_true rfl)⟩ ⟨(Nat.le_of_ble_eq_true rfl), (Nat.le_of_ble_eq_true rfl)⟩ (fun r h9 hp => ?_)
  obtain ⟨rfl, rfl⟩ := hp
  refine J_nf (nh2 := nh) (ck2 := 0) (sk2 := 0) (st2 := [.int 1]) rfl rfl rfl rfl ?_
  refine J_if_eq (tgt := 39) dX12_beans_16 (by decide) (fun q => absurd q (by decide +kernel)) (fun _ => ?_)
  refine J_aload_n dX12_beans_19 rfl rfl ?_
  refine J_callV (st := []) dX12_beans_20 cv_X12_149 (c_X12_places_1 hk98 hk100) hk98 rfl rfl (Nat.le_of_ble_eq_true rfl) ⟨(Nat.le_of_ble_eq_true rfl), (Nat.le_of_ble_eq_true rfl)⟩ ⟨(Nat.le_of_ble_eq_true rfl), (Nat.le_of_ble_eq_true rfl)⟩ (fun r h9 hp => ?_)
  obtain ⟨rfl, rfl⟩ := hp
  refine J_nf (nh2 := nh) (ck2 := 0) (sk2 := 0) (st2 := [.int 0]) rfl rfl rfl rfl ?_
  refine J_aload_n dX12_beans_23 rfl rfl ?_
  refine J_get (v := .ref 100) dX12_beans_24 fl_X12_20 hk98 rfl ?_
  refine J_iconst (v := 0) dX12_beans_27 (by decide) ?_
  refine J_iload_n dX12_beans_28 rfl rfl ?_
  refine J_iadd (z := 1) dX12_beans_29 (by decide +kernel) ?_
  refine J_iald (i2 := 1) (v := 0) dX12_beans_30 hk100 rfl (jin (by decide +kernel)) (by decide +kernel) rfl ?_
  refine J_isub (z := 0) dX12_beans_31 (by decide +kernel) ?_
  refine J_iload_n dX12_beans_32 rfl rfl ?_
  refine J_iadd (z := 4) dX12_beans_33 (by decide +kernel) ?_
  refine J_bipush (v := 7) dX12_beans_34 (by decide +kernel) ?_
  refine J_icmp_le (tgt := 45) dX12_beans_36 (by decide) (fun _ => ?_) (fun q => absurd (by decide +kernel) q)
  refine J_aload_n dX12_beans_45 rfl rfl ?_
  refine J_get (v := .ref 100) dX12_beans_46 fl_X12_20 hk98 rfl ?_
  refine J_iconst (v := 0) dX12_beans_49 (by decide) ?_
  refine J_iload_n dX12_beans_50 rfl rfl ?_
  refine J_iadd (z := 1) dX12_beans_51 (by decide +kernel) ?_
  refine J_iald (i2 := 1) (v := 0) dX12_beans_52 hk100 rfl (jin (by decide +kernel)) (by decide +kernel) rfl ?_
  refine J_istore_n dX12_beans_53 rfl (Nat.le_of_ble_eq_true rfl) rfl ?_
  refine J_aload_n dX12_beans_54 rfl rfl ?_
  refine J_get (v := .ref 100) dX12_beans_55 fl_X12_20 hk98 rfl ?_
  refine J_iconst (v := 0) dX12_beans_58 (by decide) ?_
  refine J_iload_n dX12_beans_59 rfl rfl ?_
  refine J_iadd (z := 1) dX12_beans_60 (by decide +kernel) ?_
  refine J_iload_n dX12_beans_61 rfl rfl ?_
  refine K_iast (i2 := 1) dX12_beans_62 hk100 rfl (jin (by decide +kernel)) (by decide +kernel) ?_
  refine J_aload_n dX12_beans_63 rfl rfl ?_
  refine J_callV (st := []) dX12_beans_64 cv_X12_153 (c_X12_newBeans_13 hk98 rfl) hk98 rfl rfl (Nat.le_of_ble_eq_true rfl) ⟨(Nat.le_of_ble_eq_true rfl), (Nat.le_of_ble_eq_true rfl)⟩ ⟨(Nat.le_of_ble_eq_true rfl), (Nat.le_of_ble_eq_true rfl)⟩ (fun r h9 hp => ?_)
  obtain ⟨rfl, rfl⟩ := hp
  refine J_nf (nh2 := nh) (ck2 := 0) (sk2 := 0) (st2 := []) rfl rfl rfl rfl ?_
  refine J_app (L3 := [(100, .inl (0, 4870, .inl (upd (upd (upd (upd (upd (fun _ => 0) 63 (-1)) 1 4) 59 0) 61 0) 60 0))), (100, .inl (0, 4870, .inl (upd (upd (fun _ => 0) 63 (-1)) 1 4)))]) rfl ?_
  refine J_aload_n dX12_beans_67 rfl rfl ?_
  refine J_iload_n dX12_beans_68 rfl rfl ?_
  refine J_callV (st := []) dX12_beans_69 cv_X12_146 (c_X12_good_1 hk98) hk98 rfl rfl (Nat.le_of_ble_eq_true rfl) ⟨(Nat.le_of_ble_eq_true rfl), (Nat.le_of_ble_eq_true rfl)⟩ ⟨(Nat.le_of_ble_eq_true rfl), (Nat.le_of_ble_eq_true rfl)⟩ (fun r h9 hp => ?_)
  obtain ⟨rfl, rfl⟩ := hp
  refine J_nf (nh2 := nh) (ck2 := 0) (sk2 := 0) (st2 := [.int 0]) rfl rfl rfl rfl ?_
  refine J_app (L3 := [(98, .inr (12, [.int 0, .int 1, .ref 99, .ref 100, .ref 101, .ref 102, .ref 103, .ref 104, .ref 105, .int 0, .int (-1), .ref 106, .ref 107, .ref 108, .int 0, .int 0, .int 0, .int 0, .int 0, .int 0, .int 0, .ref 109, .int 0, .int 0, .ref 110, .ref 111, .ref 112, .ref 113, .ref 114, .ref 115, .ref 116, .ref 117, .int 0, .int 0, .int (-1), .int (-1), .ref 118, .ref 119, .ref 120, .ref 121, .ref 122, .ref 123, .ref 124, .ref 125, .ref 126, .ref 127, .ref 128, .ref 129, .int 0, .ref 130, .ref 131, .ref 132, .ref 133, .ref 134, .int 0, .int 0])), (100, .inl (0, 4870, .inl (upd (upd (upd (upd (upd (fun _ => 0) 63 (-1)) 1 4) 59 0) 61 0) 60 0))), (100, .inl (0, 4870, .inl (upd (upd (fun _ => 0) 63 (-1)) 1 4)))]) rfl ?_
  refine J_mask (L2 := [(98, .inr (12, [.int 0, .int 1, .ref 99, .ref 100, .ref 101, .ref 102, .ref 103, .ref 104, .ref 105, .int 0, .int (-1), .ref 106, .ref 107, .ref 108, .int 0, .int 0, .int 0, .int 0, .int 0, .int 0, .int 0, .ref 109, .int 0, .int 0, .ref 110, .ref 111, .ref 112, .ref 113, .ref 114, .ref 115, .ref 116, .ref 117, .int 0, .int 0, .int (-1), .int (-1), .ref 118, .ref 119, .ref 120, .ref 121, .ref 122, .ref 123, .ref 124, .ref 125, .ref 126, .ref 127, .ref 128, .ref 129, .int 0, .ref 130, .ref 131, .ref 132, .ref 133, .ref 134, .int 0, .int 0])), (100, .inl (0, 4870, .inl (upd (upd (upd (upd (upd (fun _ => 0) 63 (-1)) 1 4) 59 0) 61 0) 60 0)))]) (ks := [98, 100, 100]) [true, true, false] rfl (by decide +kernel) rfl ?_
  exact J_iret dX12_beans_72 rfl rfl (Nat.le_of_ble_eq_true rfl) (Nat.le_of_ble_eq_true rfl) ⟨rfl, rfl⟩
set_option maxHeartbeats 4000000 in
set_option maxRecDepth 100000 in
theorem c_X0_behind_6 {l : Launch} {G : jG} {nh : Nat} {fh : Nat → Option va_E}  : JM l G yX0_behind MX0_behind { frames := 0, cells := 0, slots := 0, locals := 0 } [.int 585, .int 1] (nh, fh) (fun r h9 => r = some (.int 4681) ∧ h9 = (nh, fh)) := by
  refine JM.of (by decide) rfl (fun h => by cases h) (Nat.le_of_ble_eq_true rfl) ⟨0, rfl⟩ ?_
  refine J_hc0 (J_ls (ls2 := [some (.int 585), some (.int 1)]) rfl ?_)
  refine J_iload_n dX0_behind_0 rfl rfl ?_
  refine J_iconst (v := 3) dX0_behind_1 (by decide) ?_
  refine J_ishl (z := 4680) dX0_behind_2 (by decide +kernel) ?_
  refine J_iload_n dX0_behind_3 rfl rfl ?_
  refine J_ior (z := 4681) dX0_behind_4 (by decide +kernel) ?_
  exact J_iret dX0_behind_5 rfl rfl (Nat.le_of_ble_eq_true rfl) (Nat.le_of_ble_eq_true rfl) ⟨rfl, rfl⟩
set_option maxHeartbeats 4000000 in
set_option maxRecDepth 100000 in
theorem c_X0_packed_13 {l : Launch} {G : jG} {nh : Nat} {fh : Nat → Option va_E} (hk51 : fh 51 = some (.inr (0, [.ref 52, .ref 53, .int 0, .int 5]))) (hk53 : fh 53 = some (.inl (0, 7, .inl (upd (upd (upd (upd (upd (fun _ => 0) 0 1) 1 1) 2 1) 3 1) 4 1)))) : JM l G yX0_packed MX0_packed { frames := 1, cells := 0, slots := 0, locals := 21 } [.ref 51] (nh, fh) (fun r h9 => r = some (.int 4681) ∧ h9 = (nh, fh)) := by
  refine JM.of (by decide) rfl (fun h => by cases h) (Nat.le_of_ble_eq_true rfl) ⟨2, rfl⟩ ?_
  refine J_hc0 (J_ls (ls2 := [some (.ref 51), none, none]) rfl ?_)
  refine J_iconst (v := 0) dX0_packed_0 (by decide) ?_
  refine J_istore_n dX0_packed_1 rfl (Nat.le_of_ble_eq_true rfl) rfl ?_
  refine J_iconst (v := 0) dX0_packed_2 (by decide) ?_
  refine J_istore_n dX0_packed_3 rfl (Nat.le_of_ble_eq_true rfl) rfl ?_
  refine J_iload_n dX0_packed_4 rfl rfl ?_
  refine J_aload_n dX0_packed_5 rfl rfl ?_
  refine J_get (v := .int 5) dX0_packed_6 fl_X0_22 hk51 rfl ?_
  refine J_icmp_ge (tgt := 29) dX0_packed_9 (by decide) (fun q => absurd q (by decide +kernel)) (fun _ => ?_)
  refine J_iload_n dX0_packed_12 rfl rfl ?_
  refine J_aload_n dX0_packed_13 rfl rfl ?_
  refine J_get (v := .ref 53) dX0_packed_14 fl_X0_15 hk51 rfl ?_
  refine J_iload_n dX0_packed_17 rfl rfl ?_
  refine J_iald (i2 := 0) (v := 1) dX0_packed_18 hk53 rfl (jin (by decide +kernel)) (by decide +kernel) rfl ?_
  refine J_callS (st := []) dX0_packed_19 cs_X0_33 (c_X0_behind_2 ) rfl rfl (Nat.le_of_ble_eq_true rfl) ⟨(Nat.le_of_ble_eq_true rfl), (Nat.le_of_ble_eq_true rfl)⟩ ⟨(Nat.le_of_ble_eq_true rfl), (Nat.le_of_ble_eq_true rfl)⟩ (fun r h9 hp => ?_)
  obtain ⟨rfl, rfl⟩ := hp
  refine J_nf (nh2 := nh) (ck2 := 0) (sk2 := 0) (st2 := [.int 1]) rfl rfl rfl rfl ?_
  refine J_istore_n dX0_packed_22 rfl (Nat.le_of_ble_eq_true rfl) rfl ?_
  refine J_iinc (v := 1) dX0_packed_23 rfl (by decide +kernel) (Nat.le_of_ble_eq_true rfl) rfl ?_
  refine J_ls (ls2 := [some (.ref 51), some (.int 1), some (.int 1)]) rfl ?_
  refine J_goto (tgt := 4) dX0_packed_26 (by decide) ?_
  refine J_iload_n dX0_packed_4 rfl rfl ?_
  refine J_aload_n dX0_packed_5 rfl rfl ?_
  refine J_get (v := .int 5) dX0_packed_6 fl_X0_22 hk51 rfl ?_
  refine J_icmp_ge (tgt := 29) dX0_packed_9 (by decide) (fun q => absurd q (by decide +kernel)) (fun _ => ?_)
  refine J_iload_n dX0_packed_12 rfl rfl ?_
  refine J_aload_n dX0_packed_13 rfl rfl ?_
  refine J_get (v := .ref 53) dX0_packed_14 fl_X0_15 hk51 rfl ?_
  refine J_iload_n dX0_packed_17 rfl rfl ?_
  refine J_iald (i2 := 1) (v := 1) dX0_packed_18 hk53 rfl (jin (by decide +kernel)) (by decide +kernel) rfl ?_
  refine J_callS (st := []) dX0_packed_19 cs_X0_33 (c_X0_behind_3 ) rfl rfl (Nat.le_of_ble_eq_true rfl) ⟨(Nat.le_of_ble_eq_true rfl), (Nat.le_of_ble_eq_true rfl)⟩ ⟨(Nat.le_of_ble_eq_true rfl), (Nat.le_of_ble_eq_true rfl)⟩ (fun r h9 hp => ?_)
  obtain ⟨rfl, rfl⟩ := hp
  refine J_nf (nh2 := nh) (ck2 := 0) (sk2 := 0) (st2 := [.int 9]) rfl rfl rfl rfl ?_
  refine J_istore_n dX0_packed_22 rfl (Nat.le_of_ble_eq_true rfl) rfl ?_
  refine J_iinc (v := 2) dX0_packed_23 rfl (by decide +kernel) (Nat.le_of_ble_eq_true rfl) rfl ?_
  refine J_ls (ls2 := [some (.ref 51), some (.int 9), some (.int 2)]) rfl ?_
  refine J_goto (tgt := 4) dX0_packed_26 (by decide) ?_
  refine J_iload_n dX0_packed_4 rfl rfl ?_
  refine J_aload_n dX0_packed_5 rfl rfl ?_
  refine J_get (v := .int 5) dX0_packed_6 fl_X0_22 hk51 rfl ?_
  refine J_icmp_ge (tgt := 29) dX0_packed_9 (by decide) (fun q => absurd q (by decide +kernel)) (fun _ => ?_)
  refine J_iload_n dX0_packed_12 rfl rfl ?_
  refine J_aload_n dX0_packed_13 rfl rfl ?_
  refine J_get (v := .ref 53) dX0_packed_14 fl_X0_15 hk51 rfl ?_
  refine J_iload_n dX0_packed_17 rfl rfl ?_
  refine J_iald (i2 := 2) (v := 1) dX0_packed_18 hk53 rfl (jin (by decide +kernel)) (by decide +kernel) rfl ?_
  refine J_callS (st := []) dX0_packed_19 cs_X0_33 (c_X0_behind_4 ) rfl rfl (Nat.le_of_ble_eq_true rfl) ⟨(Nat.le_of_ble_eq_true rfl), (Nat.le_of_ble_eq_true rfl)⟩ ⟨(Nat.le_of_ble_eq_true rfl), (Nat.le_of_ble_eq_true rfl)⟩ (fun r h9 hp => ?_)
  obtain ⟨rfl, rfl⟩ := hp
  refine J_nf (nh2 := nh) (ck2 := 0) (sk2 := 0) (st2 := [.int 73]) rfl rfl rfl rfl ?_
  refine J_istore_n dX0_packed_22 rfl (Nat.le_of_ble_eq_true rfl) rfl ?_
  refine J_iinc (v := 3) dX0_packed_23 rfl (by decide +kernel) (Nat.le_of_ble_eq_true rfl) rfl ?_
  refine J_ls (ls2 := [some (.ref 51), some (.int 73), some (.int 3)]) rfl ?_
  refine J_goto (tgt := 4) dX0_packed_26 (by decide) ?_
  refine J_iload_n dX0_packed_4 rfl rfl ?_
  refine J_aload_n dX0_packed_5 rfl rfl ?_
  refine J_get (v := .int 5) dX0_packed_6 fl_X0_22 hk51 rfl ?_
  refine J_icmp_ge (tgt := 29) dX0_packed_9 (by decide) (fun q => absurd q (by decide +kernel)) (fun _ => ?_)
  refine J_iload_n dX0_packed_12 rfl rfl ?_
  refine J_aload_n dX0_packed_13 rfl rfl ?_
  refine J_get (v := .ref 53) dX0_packed_14 fl_X0_15 hk51 rfl ?_
  refine J_iload_n dX0_packed_17 rfl rfl ?_
  refine J_iald (i2 := 3) (v := 1) dX0_packed_18 hk53 rfl (jin (by decide +kernel)) (by decide +kernel) rfl ?_
  refine J_callS (st := []) dX0_packed_19 cs_X0_33 (c_X0_behind_5 ) rfl rfl (Nat.le_of_ble_eq_true rfl) ⟨(Nat.le_of_ble_eq_true rfl), (Nat.le_of_ble_eq_true rfl)⟩ ⟨(Nat.le_of_ble_eq_true rfl), (Nat.le_of_ble_eq_true rfl)⟩ (fun r h9 hp => ?_)
  obtain ⟨rfl, rfl⟩ := hp
  refine J_nf (nh2 := nh) (ck2 := 0) (sk2 := 0) (st2 := [.int 585]) rfl rfl rfl rfl ?_
  refine J_istore_n dX0_packed_22 rfl (Nat.le_of_ble_eq_true rfl) rfl ?_
  refine J_iinc (v := 4) dX0_packed_23 rfl (by decide +kernel) (Nat.le_of_ble_eq_true rfl) rfl ?_
  refine J_ls (ls2 := [some (.ref 51), some (.int 585), some (.int 4)]) rfl ?_
  refine J_goto (tgt := 4) dX0_packed_26 (by decide) ?_
  refine J_iload_n dX0_packed_4 rfl rfl ?_
  refine J_aload_n dX0_packed_5 rfl rfl ?_
  refine J_get (v := .int 5) dX0_packed_6 fl_X0_22 hk51 rfl ?_
  refine J_icmp_ge (tgt := 29) dX0_packed_9 (by decide) (fun q => absurd q (by decide +kernel)) (fun _ => ?_)
  refine J_iload_n dX0_packed_12 rfl rfl ?_
  refine J_aload_n dX0_packed_13 rfl rfl ?_
  refine J_get (v := .ref 53) dX0_packed_14 fl_X0_15 hk51 rfl ?_
  refine J_iload_n dX0_packed_17 rfl rfl ?_
  refine J_iald (i2 := 4) (v := 1) dX0_packed_18 hk53 rfl (jin (by decide +kernel)) (by decide +kernel) rfl ?_
  refine J_callS (st := []) dX0_packed_19 cs_X0_33 (c_X0_behind_6 ) rfl rfl (Nat.le_of_ble_eq_true rfl) ⟨(Nat.le_of_ble_eq_true rfl), (Nat.le_of_ble_eq_true rfl)⟩ ⟨(Nat.le_of_ble_eq_true rfl), (Nat.le_of_ble_eq_true rfl)⟩ (fun r h9 hp => ?_)
  obtain ⟨rfl, rfl⟩ := hp
  refine J_nf (nh2 := nh) (ck2 := 0) (sk2 := 0) (st2 := [.int 4681]) rfl rfl rfl rfl ?_
  refine J_istore_n dX0_packed_22 rfl (Nat.le_of_ble_eq_true rfl) rfl ?_
  refine J_iinc (v := 5) dX0_packed_23 rfl (by decide +kernel) (Nat.le_of_ble_eq_true rfl) rfl ?_
  refine J_ls (ls2 := [some (.ref 51), some (.int 4681), some (.int 5)]) rfl ?_
  refine J_goto (tgt := 4) dX0_packed_26 (by decide) ?_
  refine J_iload_n dX0_packed_4 rfl rfl ?_
  refine J_aload_n dX0_packed_5 rfl rfl ?_
  refine J_get (v := .int 5) dX0_packed_6 fl_X0_22 hk51 rfl ?_
  refine J_icmp_ge (tgt := 29) dX0_packed_9 (by decide) (fun _ => ?_) (fun q => absurd (by decide +kernel) q)
  refine J_iload_n dX0_packed_29 rfl rfl ?_
  exact J_iret dX0_packed_30 rfl rfl (Nat.le_of_ble_eq_true rfl) (Nat.le_of_ble_eq_true rfl) ⟨rfl, rfl⟩
set_option maxHeartbeats 4000000 in
set_option maxRecDepth 100000 in
theorem c_X0_nextOrder_12 {l : Launch} {G : jG} {nh : Nat} {fh : Nat → Option va_E} (hk51 : fh 51 = some (.inr (0, [.ref 52, .ref 53, .int 1, .int 5]))) (hk53 : fh 53 = some (.inl (0, 7, .inl (upd (upd (upd (upd (upd (fun _ => 0) 0 1) 1 1) 2 1) 3 1) 4 1)))) : JM l G yX0_nextOrder MX0_nextOrder { frames := 0, cells := 0, slots := 0, locals := 0 } [.ref 51] (nh, fh) (fun r h9 => r = some (.int 0) ∧ h9 = (nh, fh)) := by
  refine JM.of (by decide) rfl (fun h => by cases h) (Nat.le_of_ble_eq_true rfl) ⟨4, rfl⟩ ?_
  refine J_hc0 (J_ls (ls2 := [some (.ref 51), none, none, none, none]) rfl ?_)
  refine J_aload_n dX0_nextOrder_0 rfl rfl ?_
  refine J_get (v := .int 5) dX0_nextOrder_1 fl_X0_22 hk51 rfl ?_
  refine J_iconst (v := 2) dX0_nextOrder_4 (by decide) ?_
  refine J_isub (z := 3) dX0_nextOrder_5 (by decide +kernel) ?_
  refine J_istore_n dX0_nextOrder_6 rfl (Nat.le_of_ble_eq_true rfl) rfl ?_
  refine J_iload_n dX0_nextOrder_7 rfl rfl ?_
  refine J_if_lt (tgt := 34) dX0_nextOrder_8 (by decide) (fun q => absurd q (by decide +kernel)) (fun _ => ?_)
  refine J_aload_n dX0_nextOrder_11 rfl rfl ?_
  refine J_get (v := .ref 53) dX0_nextOrder_12 fl_X0_15 hk51 rfl ?_
  refine J_iload_n dX0_nextOrder_15 rfl rfl ?_
  refine J_iald (i2 := 3) (v := 1) dX0_nextOrder_16 hk53 rfl (jin (by decide +kernel)) (by decide +kernel) rfl ?_
  refine J_aload_n dX0_nextOrder_17 rfl rfl ?_
  refine J_get (v := .ref 53) dX0_nextOrder_18 fl_X0_15 hk51 rfl ?_
  refine J_iload_n dX0_nextOrder_21 rfl rfl ?_
  refine J_iconst (v := 1) dX0_nextOrder_22 (by decide) ?_
  refine J_iadd (z := 4) dX0_nextOrder_23 (by decide +kernel) ?_
  refine J_iald (i2 := 4) (v := 1) dX0_nextOrder_24 hk53 rfl (jin (by decide +kernel)) (by decide +kernel) rfl ?_
  refine J_icmp_lt (tgt := 34) dX0_nextOrder_25 (by decide) (fun q => absurd q (by decide +kernel)) (fun _ => ?_)
  refine J_iinc (v := 2) dX0_nextOrder_28 rfl (by decide +kernel) (Nat.le_of_ble_eq_true rfl) rfl ?_
  refine J_ls (ls2 := [some (.ref 51), some (.int 2), none, none, none]) rfl ?_
  refine J_goto (tgt := 7) dX0_nextOrder_31 (by decide) ?_
  refine J_iload_n dX0_nextOrder_7 rfl rfl ?_
  refine J_if_lt (tgt := 34) dX0_nextOrder_8 (by decide) (fun q => absurd q (by decide +kernel)) (fun _ => ?_)
  refine J_aload_n dX0_nextOrder_11 rfl rfl ?_
  refine J_get (v := .ref 53) dX0_nextOrder_12 fl_X0_15 hk51 rfl ?_
  refine J_iload_n dX0_nextOrder_15 rfl rfl ?_
  refine J_iald (i2 := 2) (v := 1) dX0_nextOrder_16 hk53 rfl (jin (by decide +kernel)) (by decide +kernel) rfl ?_
  refine J_aload_n dX0_nextOrder_17 rfl rfl ?_
  refine J_get (v := .ref 53) dX0_nextOrder_18 fl_X0_15 hk51 rfl ?_
  refine J_iload_n dX0_nextOrder_21 rfl rfl ?_
  refine J_iconst (v := 1) dX0_nextOrder_22 (by decide) ?_
  refine J_iadd (z := 3) dX0_nextOrder_23 (by decide +kernel) ?_
  refine J_iald (i2 := 3) (v := 1) dX0_nextOrder_24 hk53 rfl (jin (by decide +kernel)) (by decide +kernel) rfl ?_
  refine J_icmp_lt (tgt := 34) dX0_nextOrder_25 (by decide) (fun q => absurd q (by decide +kernel)) (fun _ => ?_)
  refine J_iinc (v := 1) dX0_nextOrder_28 rfl (by decide +kernel) (Nat.le_of_ble_eq_true rfl) rfl ?_
  refine J_ls (ls2 := [some (.ref 51), some (.int 1), none, none, none]) rfl ?_
  refine J_goto (tgt := 7) dX0_nextOrder_31 (by decide) ?_
  refine J_iload_n dX0_nextOrder_7 rfl rfl ?_
  refine J_if_lt (tgt := 34) dX0_nextOrder_8 (by decide) (fun q => absurd q (by decide +kernel)) (fun _ => ?_)
  refine J_aload_n dX0_nextOrder_11 rfl rfl ?_
  refine J_get (v := .ref 53) dX0_nextOrder_12 fl_X0_15 hk51 rfl ?_
  refine J_iload_n dX0_nextOrder_15 rfl rfl ?_
  refine J_iald (i2 := 1) (v := 1) dX0_nextOrder_16 hk53 rfl (jin (by decide +kernel)) (by decide +kernel) rfl ?_
  refine J_aload_n dX0_nextOrder_17 rfl rfl ?_
  refine J_get (v := .ref 53) dX0_nextOrder_18 fl_X0_15 hk51 rfl ?_
  refine J_iload_n dX0_nextOrder_21 rfl rfl ?_
  refine J_iconst (v := 1) dX0_nextOrder_22 (by decide) ?_
  refine J_iadd (z := 2) dX0_nextOrder_23 (by decide +kernel) ?_
  refine J_iald (i2 := 2) (v := 1) dX0_nextOrder_24 hk53 rfl (jin (by decide +kernel)) (by decide +kernel) rfl ?_
  refine J_icmp_lt (tgt := 34) dX0_nextOrder_25 (by decide) (fun q => absurd q (by decide +kernel)) (fun _ => ?_)
  refine J_iinc (v := 0) dX0_nextOrder_28 rfl (by decide +kernel) (Nat.le_of_ble_eq_true rfl) rfl ?_
  refine J_ls (ls2 := [some (.ref 51), some (.int 0), none, none, none]) rfl ?_
  refine J_goto (tgt := 7) dX0_nextOrder_31 (by decide) ?_
  refine J_iload_n dX0_nextOrder_7 rfl rfl ?_
  refine J_if_lt (tgt := 34) dX0_nextOrder_8 (by decide) (fun q => absurd q (by decide +kernel)) (fun _ => ?_)
  refine J_aload_n dX0_nextOrder_11 rfl rfl ?_
  refine J_get (v := .ref 53) dX0_nextOrder_12 fl_X0_15 hk51 rfl ?_
  refine J_iload_n dX0_nextOrder_15 rfl rfl ?_
  refine J_iald (i2 := 0) (v := 1) dX0_nextOrder_16 hk53 rfl (jin (by decide +kernel)) (by decide +kernel) rfl ?_
  refine J_aload_n dX0_nextOrder_17 rfl rfl ?_
  refine J_get (v := .ref 53) dX0_nextOrder_18 fl_X0_15 hk51 rfl ?_
  refine J_iload_n dX0_nextOrder_21 rfl rfl ?_
  refine J_iconst (v := 1) dX0_nextOrder_22 (by decide) ?_
  refine J_iadd (z := 1) dX0_nextOrder_23 (by decide +kernel) ?_
  refine J_iald (i2 := 1) (v := 1) dX0_nextOrder_24 hk53 rfl (jin (by decide +kernel)) (by decide +kernel) rfl ?_
  refine J_icmp_lt (tgt := 34) dX0_nextOrder_25 (by decide) (fun q => absurd q (by decide +kernel)) (fun _ => ?_)
  refine J_iinc (v := (-1)) dX0_nextOrder_28 rfl (by decide +kernel) (Nat.le_of_ble_eq_true rfl) rfl ?_
  refine J_ls (ls2 := [some (.ref 51), some (.int (-1)), none, none, none]) rfl ?_
  refine J_goto (tgt := 7) dX0_nextOrder_31 (by decide) ?_
  refine J_iload_n dX0_nextOrder_7 rfl rfl ?_
  refine J_if_lt (tgt := 34) dX0_nextOrder_8 (by decide) (fun _ => ?_) (fun q => absurd (by decide +kernel) q)
  refine J_iload_n dX0_nextOrder_34 rfl rfl ?_
  refine J_if_ge (tgt := 40) dX0_nextOrder_35 (by decide) (fun q => absurd q (by decide +kernel)) (fun _ => ?_)
  refine J_iconst (v := 0) dX0_nextOrder_38 (by decide) ?_
  exact J_iret dX0_nextOrder_39 rfl (by decide +kernel) (Nat.le_of_ble_eq_true rfl) (Nat.le_of_ble_eq_true rfl) ⟨rfl, rfl⟩
set_option maxHeartbeats 4000000 in
set_option maxRecDepth 100000 in
theorem c_X0_settle_15 {l : Launch} {G : jG} {nh : Nat} {fh : Nat → Option va_E} (hk2 : fh 2 = some (.inl (0, 5, .inl (upd (fun _ => 0) 1 5)))) (hk51 : fh 51 = some (.inr (0, [.ref 52, .ref 53, .int 1, .int 0]))) (hk52 : fh 52 = some (.inl (0, 1260, .inl (upd (fun _ => 0) 0 0)))) (hk53 : fh 53 = some (.inl (0, 7, .inl (fun _ => 0)))) : JM l G yX0_settle MX0_settle { frames := 2, cells := 0, slots := 0, locals := 43 } [.ref 51, .ref 2] (nh, fh) (fun r h9 => r = none ∧ h9 = (nh, hc fh [(51, .inr (0, [.ref 52, .ref 53, .int 1, .int 5])), (52, .inl (0, 1260, .inl (upd (upd (fun _ => 0) 0 0) 0 4681))), (53, .inl (0, 7, .inl (upd (upd (upd (upd (upd (fun _ => 0) 0 1) 1 1) 2 1) 3 1) 4 1)))])) := by
  refine JM.of (by decide) rfl (fun h => by cases h) (Nat.le_of_ble_eq_true rfl) ⟨2, rfl⟩ ?_
  refine J_hc0 (J_ls (ls2 := [some (.ref 51), some (.ref 2), none, none]) rfl ?_)
  refine J_aload_n dX0_settle_0 rfl rfl ?_
  refine J_iconst (v := 0) dX0_settle_1 (by decide) ?_
  refine K_put (fs2 := [.ref 52, .ref 53, .int 1, .int 0]) dX0_settle_2 fw_X0_22 hk51 (Nat.le_of_ble_eq_true rfl) (fun _ => ⟨rfl, rfl⟩) rfl ?_
  refine J_iconst (v := 0) dX0_settle_5 (by decide) ?_
  refine J_istore_n dX0_settle_6 rfl (Nat.le_of_ble_eq_true rfl) rfl ?_
  refine J_iload_n dX0_settle_7 rfl rfl ?_
  refine J_iconst (v := 5) dX0_settle_8 (by decide) ?_
  refine J_icmp_ge (tgt := 62) dX0_settle_9 (by decide) (fun q => absurd q (by decide +kernel)) (fun _ => ?_)
  refine J_iconst (v := 0) dX0_settle_12 (by decide) ?_
  refine J_istore_n dX0_settle_13 rfl (Nat.le_of_ble_eq_true rfl) rfl ?_
  refine J_iload_n dX0_settle_14 rfl rfl ?_
  refine J_aload_n dX0_settle_15 rfl rfl ?_
  refine J_iload_n dX0_settle_16 rfl rfl ?_
  refine J_iald (i2 := 0) (v := 0) dX0_settle_17 hk2 rfl (jin (by decide +kernel)) (by decide +kernel) rfl ?_
  refine J_icmp_ge (tgt := 56) dX0_settle_18 (by decide) (fun _ => ?_) (fun q => absurd (by decide +kernel) q)
  refine J_iinc (v := 1) dX0_settle_56 rfl (by decide +kernel) (Nat.le_of_ble_eq_true rfl) rfl ?_
  refine J_ls (ls2 := [some (.ref 51), some (.ref 2), some (.int 1), some (.int 0)]) rfl ?_
  refine J_goto (tgt := 7) dX0_settle_59 (by decide) ?_
  refine J_iload_n dX0_settle_7 rfl rfl ?_
  refine J_iconst (v := 5) dX0_settle_8 (by decide) ?_
  refine J_icmp_ge (tgt := 62) dX0_settle_9 (by decide) (fun q => absurd q (by decide +kernel)) (fun _ => ?_)
  refine J_iconst (v := 0) dX0_settle_12 (by decide) ?_
  refine J_istore_n dX0_settle_13 rfl (Nat.le_of_ble_eq_true rfl) rfl ?_
  refine J_iload_n dX0_settle_14 rfl rfl ?_
  refine J_aload_n dX0_settle_15 rfl rfl ?_
  refine J_iload_n dX0_settle_16 rfl rfl ?_
  refine J_iald (i2 := 1) (v := 5) dX0_settle_17 hk2 rfl (jin (by decide +kernel)) (by decide +kernel) rfl ?_
  refine J_icmp_ge (tgt := 56) dX0_settle_18 (by decide) (fun q => absurd q (by decide +kernel)) (fun _ => ?_)
  refine J_aload_n dX0_settle_21 rfl rfl ?_
  refine J_get (v := .int 0) dX0_settle_22 fl_X0_22 rfl rfl ?_
  refine J_bipush (v := 7) dX0_settle_25 (by decide +kernel) ?_
  refine J_icmp_ge (tgt := 56) dX0_settle_27 (by decide) (fun q => absurd q (by decide +kernel)) (fun _ => ?_)
  refine J_aload_n dX0_settle_30 rfl rfl ?_
  refine J_get (v := .ref 53) dX0_settle_31 fl_X0_15 rfl rfl ?_
  refine J_aload_n dX0_settle_34 rfl rfl ?_
  refine J_get (v := .int 0) dX0_settle_35 fl_X0_22 rfl rfl ?_
  refine J_iload_n dX0_settle_38 rfl rfl ?_
  refine K_iast (i2 := 0) dX0_settle_39 hk53 rfl (jin (by decide +kernel)) (by decide +kernel) ?_
  refine J_aload_n dX0_settle_40 rfl rfl ?_
  refine J_dup dX0_settle_41 rfl ?_
  refine J_get (v := .int 0) dX0_settle_42 fl_X0_22 rfl rfl ?_
  refine J_iconst (v := 1) dX0_settle_45 (by decide) ?_
  refine J_iadd (z := 1) dX0_settle_46 (by decide +kernel) ?_
  refine K_put (fs2 := [.ref 52, .ref 53, .int 1, .int 1]) dX0_settle_47 fw_X0_22 rfl (Nat.le_of_ble_eq_true rfl) (fun _ => ⟨rfl, rfl⟩) rfl ?_
  refine J_iinc (v := 1) dX0_settle_50 rfl (by decide +kernel) (Nat.le_of_ble_eq_true rfl) rfl ?_
  refine J_ls (ls2 := [some (.ref 51), some (.ref 2), some (.int 1), some (.int 1)]) rfl ?_
  refine J_goto (tgt := 14) dX0_settle_53 (by decide) ?_
  refine J_iload_n dX0_settle_14 rfl rfl ?_
  refine J_aload_n dX0_settle_15 rfl rfl ?_
  refine J_iload_n dX0_settle_16 rfl rfl ?_
  refine J_iald (i2 := 1) (v := 5) dX0_settle_17 hk2 rfl (jin (by decide +kernel)) (by decide +kernel) rfl ?_
  refine J_icmp_ge (tgt := 56) dX0_settle_18 (by decide) (fun q => absurd q (by decide +kernel)) (fun _ => ?_)
  refine J_aload_n dX0_settle_21 rfl rfl ?_
  refine J_get (v := .int 1) dX0_settle_22 fl_X0_22 rfl rfl ?_
  refine J_bipush (v := 7) dX0_settle_25 (by decide +kernel) ?_
  refine J_icmp_ge (tgt := 56) dX0_settle_27 (by decide) (fun q => absurd q (by decide +kernel)) (fun _ => ?_)
  refine J_aload_n dX0_settle_30 rfl rfl ?_
  refine J_get (v := .ref 53) dX0_settle_31 fl_X0_15 rfl rfl ?_
  refine J_aload_n dX0_settle_34 rfl rfl ?_
  refine J_get (v := .int 1) dX0_settle_35 fl_X0_22 rfl rfl ?_
  refine J_iload_n dX0_settle_38 rfl rfl ?_
  refine K_iast (i2 := 1) dX0_settle_39 rfl rfl (jin (by decide +kernel)) (by decide +kernel) ?_
  refine J_aload_n dX0_settle_40 rfl rfl ?_
  refine J_dup dX0_settle_41 rfl ?_
  refine J_get (v := .int 1) dX0_settle_42 fl_X0_22 rfl rfl ?_
  refine J_iconst (v := 1) dX0_settle_45 (by decide) ?_
  refine J_iadd (z := 2) dX0_settle_46 (by decide +kernel) ?_
  refine K_put (fs2 := [.ref 52, .ref 53, .int 1, .int 2]) dX0_settle_47 fw_X0_22 rfl (Nat.le_of_ble_eq_true rfl) (fun _ => ⟨rfl, rfl⟩) rfl ?_
  refine J_iinc (v := 2) dX0_settle_50 rfl (by decide +kernel) (Nat.le_of_ble_eq_true rfl) rfl ?_
  refine J_ls (ls2 := [some (.ref 51), some (.ref 2), some (.int 1), some (.int 2)]) rfl ?_
  refine J_goto (tgt := 14) dX0_settle_53 (by decide) ?_
  refine J_iload_n dX0_settle_14 rfl rfl ?_
  refine J_aload_n dX0_settle_15 rfl rfl ?_
  refine J_iload_n dX0_settle_16 rfl rfl ?_
  refine J_iald (i2 := 1) (v := 5) dX0_settle_17 hk2 rfl (jin (by decide +kernel)) (by decide +kernel) rfl ?_
  refine J_icmp_ge (tgt := 56) dX0_settle_18 (by decide) (fun q => absurd q (by decide +kernel)) (fun _ => ?_)
  refine J_aload_n dX0_settle_21 rfl rfl ?_
  refine J_get (v := .int 2) dX0_settle_22 fl_X0_22 rfl rfl ?_
  refine J_bipush (v := 7) dX0_settle_25 (by decide +kernel) ?_
  refine J_icmp_ge (tgt := 56) dX0_settle_27 (by decide) (fun q => absurd q (by decide +kernel)) (fun _ => ?_)
  refine J_aload_n dX0_settle_30 rfl rfl ?_
  refine J_get (v := .ref 53) dX0_settle_31 fl_X0_15 rfl rfl ?_
  refine J_aload_n dX0_settle_34 rfl rfl ?_
  refine J_get (v := .int 2) dX0_settle_35 fl_X0_22 rfl rfl ?_
  refine J_iload_n dX0_settle_38 rfl rfl ?_
  refine K_iast (i2 := 2) dX0_settle_39 rfl rfl (jin (by decide +kernel)) (by decide +kernel) ?_
  refine J_aload_n dX0_settle_40 rfl rfl ?_
  refine J_dup dX0_settle_41 rfl ?_
  refine J_get (v := .int 2) dX0_settle_42 fl_X0_22 rfl rfl ?_
  refine J_iconst (v := 1) dX0_settle_45 (by decide) ?_
  refine J_iadd (z := 3) dX0_settle_46 (by decide +kernel) ?_
  refine K_put (fs2 := [.ref 52, .ref 53, .int 1, .int 3]) dX0_settle_47 fw_X0_22 rfl (Nat.le_of_ble_eq_true rfl) (fun _ => ⟨rfl, rfl⟩) rfl ?_
  refine J_iinc (v := 3) dX0_settle_50 rfl (by decide +kernel) (Nat.le_of_ble_eq_true rfl) rfl ?_
  refine J_ls (ls2 := [some (.ref 51), some (.ref 2), some (.int 1), some (.int 3)]) rfl ?_
  refine J_goto (tgt := 14) dX0_settle_53 (by decide) ?_
  refine J_iload_n dX0_settle_14 rfl rfl ?_
  refine J_aload_n dX0_settle_15 rfl rfl ?_
  refine J_iload_n dX0_settle_16 rfl rfl ?_
  refine J_iald (i2 := 1) (v := 5) dX0_settle_17 hk2 rfl (jin (by decide +kernel)) (by decide +kernel) rfl ?_
  refine J_icmp_ge (tgt := 56) dX0_settle_18 (by decide) (fun q => absurd q (by decide +kernel)) (fun _ => ?_)
  refine J_aload_n dX0_settle_21 rfl rfl ?_
  refine J_get (v := .int 3) dX0_settle_22 fl_X0_22 rfl rfl ?_
  refine J_bipush (v := 7) dX0_settle_25 (by decide +kernel) ?_
  refine J_icmp_ge (tgt := 56) dX0_settle_27 (by decide) (fun q => absurd q (by decide +kernel)) (fun _ => ?_)
  refine J_aload_n dX0_settle_30 rfl rfl ?_
  refine J_get (v := .ref 53) dX0_settle_31 fl_X0_15 rfl rfl ?_
  refine J_aload_n dX0_settle_34 rfl rfl ?_
  refine J_get (v := .int 3) dX0_settle_35 fl_X0_22 rfl rfl ?_
  refine J_iload_n dX0_settle_38 rfl rfl ?_
  refine K_iast (i2 := 3) dX0_settle_39 rfl rfl (jin (by decide +kernel)) (by decide +kernel) ?_
  refine J_aload_n dX0_settle_40 rfl rfl ?_
  refine J_dup dX0_settle_41 rfl ?_
  refine J_get (v := .int 3) dX0_settle_42 fl_X0_22 rfl rfl ?_
  refine J_iconst (v := 1) dX0_settle_45 (by decide) ?_
  refine J_iadd (z := 4) dX0_settle_46 (by decide +kernel) ?_
  refine K_put (fs2 := [.ref 52, .ref 53, .int 1, .int 4]) dX0_settle_47 fw_X0_22 rfl (Nat.le_of_ble_eq_true rfl) (fun _ => ⟨rfl, rfl⟩) rfl ?_
  refine J_iinc (v := 4) dX0_settle_50 rfl (by decide +kernel) (Nat.le_of_ble_eq_true rfl) rfl ?_
  refine J_ls (ls2 := [some (.ref 51), some (.ref 2), some (.int 1), some (.int 4)]) rfl ?_
  refine J_goto (tgt := 14) dX0_settle_53 (by decide) ?_
  refine J_iload_n dX0_settle_14 rfl rfl ?_
  refine J_aload_n dX0_settle_15 rfl rfl ?_
  refine J_iload_n dX0_settle_16 rfl rfl ?_
  refine J_iald (i2 := 1) (v := 5) dX0_settle_17 hk2 rfl (jin (by decide +kernel)) (by decide +kernel) rfl ?_
  refine J_icmp_ge (tgt := 56) dX0_settle_18 (by decide) (fun q => absurd q (by decide +kernel)) (fun _ => ?_)
  refine J_aload_n dX0_settle_21 rfl rfl ?_
  refine J_get (v := .int 4) dX0_settle_22 fl_X0_22 rfl rfl ?_
  refine J_bipush (v := 7) dX0_settle_25 (by decide +kernel) ?_
  refine J_icmp_ge (tgt := 56) dX0_settle_27 (by decide) (fun q => absurd q (by decide +kernel)) (fun _ => ?_)
  refine J_aload_n dX0_settle_30 rfl rfl ?_
  refine J_get (v := .ref 53) dX0_settle_31 fl_X0_15 rfl rfl ?_
  refine J_aload_n dX0_settle_34 rfl rfl ?_
  refine J_get (v := .int 4) dX0_settle_35 fl_X0_22 rfl rfl ?_
  refine J_iload_n dX0_settle_38 rfl rfl ?_
  refine K_iast (i2 := 4) dX0_settle_39 rfl rfl (jin (by decide +kernel)) (by decide +kernel) ?_
  refine J_aload_n dX0_settle_40 rfl rfl ?_
  refine J_dup dX0_settle_41 rfl ?_
  refine J_get (v := .int 4) dX0_settle_42 fl_X0_22 rfl rfl ?_
  refine J_iconst (v := 1) dX0_settle_45 (by decide) ?_
  refine J_iadd (z := 5) dX0_settle_46 (by decide +kernel) ?_
  refine K_put (fs2 := [.ref 52, .ref 53, .int 1, .int 5]) dX0_settle_47 fw_X0_22 rfl (Nat.le_of_ble_eq_true rfl) (fun _ => ⟨rfl, rfl⟩) rfl ?_
  refine J_iinc (v := 5) dX0_settle_50 rfl (by decide +kernel) (Nat.le_of_ble_eq_true rfl) rfl ?_
  refine J_ls (ls2 := [some (.ref 51), some (.ref 2), some (.int 1), some (.int 5)]) rfl ?_
  refine J_goto (tgt := 14) dX0_settle_53 (by decide) ?_
  refine J_iload_n dX0_settle_14 rfl rfl ?_
  refine J_aload_n dX0_settle_15 rfl rfl ?_
  refine J_iload_n dX0_settle_16 rfl rfl ?_
  refine J_iald (i2 := 1) (v := 5) dX0_settle_17 hk2 rfl (jin (by decide +kernel)) (by decide +kernel) rfl ?_
  refine J_icmp_ge (tgt := 56) dX0_settle_18 (by decide) (fun _ => ?_) (fun q => absurd (by decide +kernel) q)
  refine J_iinc (v := 2) dX0_settle_56 rfl (by decide +kernel) (Nat.le_of_ble_eq_true rfl) rfl ?_
  refine J_ls (ls2 := [some (.ref 51), some (.ref 2), some (.int 2), some (.int 5)]) rfl ?_
  refine J_goto (tgt := 7) dX0_settle_59 (by decide) ?_
  refine J_iload_n dX0_settle_7 rfl rfl ?_
  refine J_iconst (v := 5) dX0_settle_8 (by decide) ?_
  refine J_icmp_ge (tgt := 62) dX0_settle_9 (by decide) (fun q => absurd q (by decide +kernel)) (fun _ => ?_)
  refine J_iconst (v := 0) dX0_settle_12 (by decide) ?_
  refine J_istore_n dX0_settle_13 rfl (Nat.le_of_ble_eq_true rfl) rfl ?_
  refine J_iload_n dX0_settle_14 rfl rfl ?_
  refine J_aload_n dX0_settle_15 rfl rfl ?_
  refine J_iload_n dX0_settle_16 rfl rfl ?_
  refine J_iald (i2 := 2) (v := 0) dX0_settle_17 hk2 rfl (jin (by decide +kernel)) (by decide +kernel) rfl ?_
  refine J_icmp_ge (tgt := 56) dX0_settle_18 (by decide) (fun _ => ?_) (fun q => absurd (by decide +kernel) q)
  refine J_iinc (v := 3) dX0_settle_56 rfl (by decide +kernel) (Nat.le_of_ble_eq_true rfl) rfl ?_
  refine J_ls (ls2 := [some (.ref 51), some (.ref 2), some (.int 3), some (.int 0)]) rfl ?_
  refine J_goto (tgt := 7) dX0_settle_59 (by decide) ?_
  refine J_iload_n dX0_settle_7 rfl rfl ?_
  refine J_iconst (v := 5) dX0_settle_8 (by decide) ?_
  refine J_icmp_ge (tgt := 62) dX0_settle_9 (by decide) (fun q => absurd q (by decide +kernel)) (fun _ => ?_)
  refine J_iconst (v := 0) dX0_settle_12 (by decide) ?_
  refine J_istore_n dX0_settle_13 rfl (Nat.le_of_ble_eq_true rfl) rfl ?_
  refine J_iload_n dX0_settle_14 rfl rfl ?_
  refine J_aload_n dX0_settle_15 rfl rfl ?_
  refine J_iload_n dX0_settle_16 rfl rfl ?_
  refine J_iald (i2 := 3) (v := 0) dX0_settle_17 hk2 rfl (jin (by decide +kernel)) (by decide +kernel) rfl ?_
  refine J_icmp_ge (tgt := 56) dX0_settle_18 (by decide) (fun _ => ?_) (fun q => absurd (by decide +kernel) q)
  refine J_iinc (v := 4) dX0_settle_56 rfl (by decide +kernel) (Nat.le_of_ble_eq_true rfl) rfl ?_
  refine J_ls (ls2 := [some (.ref 51), some (.ref 2), some (.int 4), some (.int 0)]) rfl ?_
  refine J_goto (tgt := 7) dX0_settle_59 (by decide) ?_
  refine J_iload_n dX0_settle_7 rfl rfl ?_
  refine J_iconst (v := 5) dX0_settle_8 (by decide) ?_
  refine J_icmp_ge (tgt := 62) dX0_settle_9 (by decide) (fun q => absurd q (by decide +kernel)) (fun _ => ?_)
  refine J_iconst (v := 0) dX0_settle_12 (by decide) ?_
  refine J_istore_n dX0_settle_13 rfl (Nat.le_of_ble_eq_true rfl) rfl ?_
  refine J_iload_n dX0_settle_14 rfl rfl ?_
  refine J_aload_n dX0_settle_15 rfl rfl ?_
  refine J_iload_n dX0_settle_16 rfl rfl ?_
  refine J_iald (i2 := 4) (v := 0) dX0_settle_17 hk2 rfl (jin (by decide +kernel)) (by decide +kernel) rfl ?_
  refine J_icmp_ge (tgt := 56) dX0_settle_18 (by decide) (fun _ => ?_) (fun q => absurd (by decide +kernel) q)
  refine J_iinc (v := 5) dX0_settle_56 rfl (by decide +kernel) (Nat.le_of_ble_eq_true rfl) rfl ?_
  refine J_ls (ls2 := [some (.ref 51), some (.ref 2), some (.int 5), some (.int 0)]) rfl ?_
  refine J_goto (tgt := 7) dX0_settle_59 (by decide) ?_
  refine J_iload_n dX0_settle_7 rfl rfl ?_
  refine J_iconst (v := 5) dX0_settle_8 (by decide) ?_
  refine J_icmp_ge (tgt := 62) dX0_settle_9 (by decide) (fun _ => ?_) (fun q => absurd (by decide +kernel) q)
  refine J_aload_n dX0_settle_62 rfl rfl ?_
  refine J_iconst (v := 0) dX0_settle_63 (by decide) ?_
  refine K_put (fs2 := [.ref 52, .ref 53, .int 0, .int 5]) dX0_settle_64 fw_X0_18 rfl (Nat.le_of_ble_eq_true rfl) (fun _ => ⟨rfl, rfl⟩) rfl ?_
  refine J_iconst (v := 1) dX0_settle_67 (by decide) ?_
  refine J_istore_n dX0_settle_68 rfl (Nat.le_of_ble_eq_true rfl) rfl ?_
  refine J_iconst (v := 0) dX0_settle_69 (by decide) ?_
  refine J_istore_n dX0_settle_70 rfl (Nat.le_of_ble_eq_true rfl) rfl ?_
  refine J_iload_n dX0_settle_71 rfl rfl ?_
  refine J_sipush (v := 1260) dX0_settle_72 (by decide +kernel) ?_
  refine J_icmp_ge (tgt := 116) dX0_settle_75 (by decide) (fun q => absurd q (by decide +kernel)) (fun _ => ?_)
  refine J_iload_n dX0_settle_78 rfl rfl ?_
  refine J_if_eq (tgt := 116) dX0_settle_79 (by decide) (fun q => absurd q (by decide +kernel)) (fun _ => ?_)
  refine J_aload_n dX0_settle_82 rfl rfl ?_
  refine J_get (v := .ref 52) dX0_settle_83 fl_X0_9 rfl rfl ?_
  refine J_aload_n dX0_settle_86 rfl rfl ?_
  refine J_get (v := .int 0) dX0_settle_87 fl_X0_18 rfl rfl ?_
  refine J_aload_n dX0_settle_90 rfl rfl ?_
  refine J_callV (st := [.int 0, .ref 52]) dX0_settle_91 cv_X0_25 (c_X0_packed_13 rfl rfl) rfl rfl rfl (Nat.le_of_ble_eq_true rfl) ⟨(Nat.le_of_ble_eq_true rfl), (Nat.le_of_ble_eq_true rfl)⟩ ⟨(Nat.le_of_ble_eq_true rfl), (Nat.le_of_ble_eq_true rfl)⟩ (fun r h9 hp => ?_)
  obtain ⟨rfl, rfl⟩ := hp
  refine J_nf (nh2 := nh) (ck2 := 0) (sk2 := 0) (st2 := [.int 4681, .int 0, .ref 52]) rfl rfl rfl rfl ?_
  refine K_iast (i2 := 0) dX0_settle_94 hk52 rfl (jin (by decide +kernel)) (by decide +kernel) ?_
  refine J_aload_n dX0_settle_95 rfl rfl ?_
  refine J_dup dX0_settle_96 rfl ?_
  refine J_get (v := .int 0) dX0_settle_97 fl_X0_18 rfl rfl ?_
  refine J_iconst (v := 1) dX0_settle_100 (by decide) ?_
  refine J_iadd (z := 1) dX0_settle_101 (by decide +kernel) ?_
  refine K_put (fs2 := [.ref 52, .ref 53, .int 1, .int 5]) dX0_settle_102 fw_X0_18 rfl (Nat.le_of_ble_eq_true rfl) (fun _ => ⟨rfl, rfl⟩) rfl ?_
  refine J_aload_n dX0_settle_105 rfl rfl ?_
  refine J_callV (st := []) dX0_settle_106 cv_X0_29 (c_X0_nextOrder_12 rfl rfl) rfl rfl rfl (Nat.le_of_ble_eq_true rfl) ⟨(Nat.le_of_ble_eq_true rfl), (Nat.le_of_ble_eq_true rfl)⟩ ⟨(Nat.le_of_ble_eq_true rfl), (Nat.le_of_ble_eq_true rfl)⟩ (fun r h9 hp => ?_)
  obtain ⟨rfl, rfl⟩ := hp
  refine J_nf (nh2 := nh) (ck2 := 0) (sk2 := 0) (st2 := [.int 0]) rfl rfl rfl rfl ?_
  refine J_istore_n dX0_settle_109 rfl (Nat.le_of_ble_eq_true rfl) rfl ?_
  refine J_iinc (v := 1) dX0_settle_110 rfl (by decide +kernel) (Nat.le_of_ble_eq_true rfl) rfl ?_
  refine J_ls (ls2 := [some (.ref 51), some (.ref 2), some (.int 0), some (.int 1)]) rfl ?_
  refine J_goto (tgt := 71) dX0_settle_113 (by decide) ?_
  refine J_iload_n dX0_settle_71 rfl rfl ?_
  refine J_sipush (v := 1260) dX0_settle_72 (by decide +kernel) ?_
  refine J_icmp_ge (tgt := 116) dX0_settle_75 (by decide) (fun q => absurd q (by decide +kernel)) (fun _ => ?_)
  refine J_iload_n dX0_settle_78 rfl rfl ?_
  refine J_if_eq (tgt := 116) dX0_settle_79 (by decide) (fun _ => ?_) (fun q => absurd (by decide +kernel) q)
  refine J_mask (L2 := [(51, .inr (0, [.ref 52, .ref 53, .int 1, .int 5])), (52, .inl (0, 1260, .inl (upd (upd (fun _ => 0) 0 0) 0 4681))), (53, .inl (0, 7, .inl (upd (upd (upd (upd (upd (fun _ => 0) 0 1) 1 1) 2 1) 3 1) 4 1)))]) (ks := [51, 52, 51, 51, 53, 51, 53, 51, 53, 51, 53, 51, 53, 51]) [true, true, false, false, true, false, false, false, false, false, false, false, false, false] rfl (by decide +kernel) rfl ?_
  exact J_vret dX0_settle_116 rfl (Nat.le_of_ble_eq_true rfl) (Nat.le_of_ble_eq_true rfl) ⟨rfl, rfl⟩
set_option maxHeartbeats 4000000 in
set_option maxRecDepth 100000 in
theorem c_X11_resettle_14 {l : Launch} {G : jG} {nh : Nat} {fh : Nat → Option va_E} (hk0 : fh 0 = some (.inr (11, [.ref 1, .ref 17, .ref 50, .ref 51, .ref 54, .ref 57, .ref 65, .ref 75, .ref 81, .ref 85, .ref 88, .ref 93, .ref 96, .int 0, .int (-1), .ref 97, .int 0]))) (hk1 : fh 1 = some (.inr (8, [.ref 2, .ref 3, .ref 4, .int 0, .int (-1), .ref 11, .ref 12, .int 0, .ref 13, .ref 14, .int 0, .ref 15, .ref 16, .int 0]))) (hk2 : fh 2 = some (.inl (0, 5, .inl (upd (fun _ => 0) 1 5)))) (hk51 : fh 51 = some (.inr (0, [.ref 52, .ref 53, .int 1, .int 0]))) (hk52 : fh 52 = some (.inl (0, 1260, .inl (upd (fun _ => 0) 0 0)))) (hk53 : fh 53 = some (.inl (0, 7, .inl (fun _ => 0)))) (hk57 : fh 57 = some (.inr (9, [.ref 1, .ref 51, .ref 58, .ref 61, .ref 62, .ref 63, .ref 64, .int 0, .int 1, .int 1]))) : JM l G yX11_resettle MX11_resettle { frames := 3, cells := 0, slots := 0, locals := 66 } [.ref 0] (nh, fh) (fun r h9 => r = none ∧ h9 = (nh, hc fh [(57, .inr (9, [.ref 1, .ref 51, .ref 58, .ref 61, .ref 62, .ref 63, .ref 64, .int 1, .int 1, .int 1])), (1, .inr (8, [.ref 2, .ref 3, .ref 4, .int 0, .int (-1), .ref 11, .ref 12, .int 0, .ref 13, .ref 14, .int 0, .ref 15, .ref 16, .int 0])), (51, .inr (0, [.ref 52, .ref 53, .int 1, .int 5])), (52, .inl (0, 1260, .inl (upd (upd (fun _ => 0) 0 0) 0 4681))), (53, .inl (0, 7, .inl (upd (upd (upd (upd (upd (fun _ => 0) 0 1) 1 1) 2 1) 3 1) 4 1)))])) := by
  refine JM.of (by decide) rfl (fun h => by cases h) (Nat.le_of_ble_eq_true rfl) ⟨0, rfl⟩ ?_
  refine J_hc0 (J_ls (ls2 := [some (.ref 0)]) rfl ?_)
  refine J_aload_n dX11_resettle_0 rfl rfl ?_
  refine J_get (v := .ref 51) dX11_resettle_1 fl_X11_27 hk0 rfl ?_
  refine J_aload_n dX11_resettle_4 rfl rfl ?_
  refine J_get (v := .ref 1) dX11_resettle_5 fl_X11_10 hk0 rfl ?_
  refine J_get (v := .ref 2) dX11_resettle_8 fl_X11_111 hk1 rfl ?_
  refine J_callV (st := []) dX11_resettle_11 cv_X11_114 (c_X0_settle_15 hk2 hk51 hk52 hk53) hk51 rfl rfl (Nat.le_of_ble_eq_true rfl) ⟨(Nat.le_of_ble_eq_true rfl), (Nat.le_of_ble_eq_true rfl)⟩ ⟨(Nat.le_of_ble_eq_true rfl), (Nat.le_of_ble_eq_true rfl)⟩ (fun r h9 hp => ?_)
  obtain ⟨rfl, rfl⟩ := hp
  refine J_nf (nh2 := nh) (ck2 := 0) (sk2 := 0) (st2 := []) rfl rfl rfl rfl ?_
  refine J_app (L3 := [(51, .inr (0, [.ref 52, .ref 53, .int 1, .int 5])), (52, .inl (0, 1260, .inl (upd (upd (fun _ => 0) 0 0) 0 4681))), (53, .inl (0, 7, .inl (upd (upd (upd (upd (upd (fun _ => 0) 0 1) 1 1) 2 1) 3 1) 4 1)))]) rfl ?_
  refine J_aload_n dX11_resettle_14 rfl rfl ?_
  refine J_get (v := .ref 1) dX11_resettle_15 fl_X11_10 hk0 rfl ?_
  refine J_iconst (v := 0) dX11_resettle_18 (by decide) ?_
  refine K_put (fs2 := [.ref 2, .ref 3, .ref 4, .int 0, .int (-1), .ref 11, .ref 12, .int 0, .ref 13, .ref 14, .int 0, .ref 15, .ref 16, .int 0]) dX11_resettle_19 fw_X11_204 hk1 (Nat.le_of_ble_eq_true rfl) (fun _ => ⟨rfl, rfl⟩) rfl ?_
  refine J_aload_n dX11_resettle_22 rfl rfl ?_
  refine J_get (v := .ref 1) dX11_resettle_23 fl_X11_10 hk0 rfl ?_
  refine J_iconst (v := 0) dX11_resettle_26 (by decide) ?_
  refine K_put (fs2 := [.ref 2, .ref 3, .ref 4, .int 0, .int (-1), .ref 11, .ref 12, .int 0, .ref 13, .ref 14, .int 0, .ref 15, .ref 16, .int 0]) dX11_resettle_27 fw_X11_286 rfl (Nat.le_of_ble_eq_true rfl) (fun _ => ⟨rfl, rfl⟩) rfl ?_
  refine J_aload_n dX11_resettle_30 rfl rfl ?_
  refine J_get (v := .ref 1) dX11_resettle_31 fl_X11_10 hk0 rfl ?_
  refine J_aload_n dX11_resettle_34 rfl rfl ?_
  refine J_get (v := .ref 51) dX11_resettle_35 fl_X11_27 hk0 rfl ?_
  refine J_callV (st := [.ref 1]) dX11_resettle_38 cv_X11_122 (c_X0_places_6 rfl) rfl rfl rfl (Nat.le_of_ble_eq_true rfl) ⟨(Nat.le_of_ble_eq_true rfl), (Nat.le_of_ble_eq_true rfl)⟩ ⟨(Nat.le_of_ble_eq_true rfl), (Nat.le_of_ble_eq_true rfl)⟩ (fun r h9 hp => ?_)
  obtain ⟨rfl, rfl⟩ := hp
  refine J_nf (nh2 := nh) (ck2 := 0) (sk2 := 0) (st2 := [.int 5, .ref 1]) rfl rfl rfl rfl ?_
  refine J_callV (st := []) dX11_resettle_41 cv_X11_321 (c_X8_dropSwapsBeyond_6 rfl) rfl rfl rfl (Nat.le_of_ble_eq_true rfl) ⟨(Nat.le_of_ble_eq_true rfl), (Nat.le_of_ble_eq_true rfl)⟩ ⟨(Nat.le_of_ble_eq_true rfl), (Nat.le_of_ble_eq_true rfl)⟩ (fun r h9 hp => ?_)
  obtain ⟨rfl, rfl⟩ := hp
  refine J_nf (nh2 := nh) (ck2 := 0) (sk2 := 0) (st2 := []) rfl rfl rfl rfl ?_
  refine J_app (L3 := [(1, .inr (8, [.ref 2, .ref 3, .ref 4, .int 0, .int (-1), .ref 11, .ref 12, .int 0, .ref 13, .ref 14, .int 0, .ref 15, .ref 16, .int 0])), (1, .inr (8, [.ref 2, .ref 3, .ref 4, .int 0, .int (-1), .ref 11, .ref 12, .int 0, .ref 13, .ref 14, .int 0, .ref 15, .ref 16, .int 0])), (1, .inr (8, [.ref 2, .ref 3, .ref 4, .int 0, .int (-1), .ref 11, .ref 12, .int 0, .ref 13, .ref 14, .int 0, .ref 15, .ref 16, .int 0])), (51, .inr (0, [.ref 52, .ref 53, .int 1, .int 5])), (52, .inl (0, 1260, .inl (upd (upd (fun _ => 0) 0 0) 0 4681))), (53, .inl (0, 7, .inl (upd (upd (upd (upd (upd (fun _ => 0) 0 1) 1 1) 2 1) 3 1) 4 1)))]) rfl ?_
  refine J_aload_n dX11_resettle_44 rfl rfl ?_
  refine J_get (v := .ref 57) dX11_resettle_45 fl_X11_43 hk0 rfl ?_
  refine J_callV (st := []) dX11_resettle_48 cv_X11_148 (c_X9_changeAll_1 hk57) hk57 rfl rfl (Nat.le_of_ble_eq_true rfl) ⟨(Nat.le_of_ble_eq_true rfl), (Nat.le_of_ble_eq_true rfl)⟩ ⟨(Nat.le_of_ble_eq_true rfl), (Nat.le_of_ble_eq_true rfl)⟩ (fun r h9 hp => ?_)
  obtain ⟨rfl, rfl⟩ := hp
  refine J_nf (nh2 := nh) (ck2 := 0) (sk2 := 0) (st2 := []) rfl rfl rfl rfl ?_
  refine J_app (L3 := [(57, .inr (9, [.ref 1, .ref 51, .ref 58, .ref 61, .ref 62, .ref 63, .ref 64, .int 1, .int 1, .int 1])), (1, .inr (8, [.ref 2, .ref 3, .ref 4, .int 0, .int (-1), .ref 11, .ref 12, .int 0, .ref 13, .ref 14, .int 0, .ref 15, .ref 16, .int 0])), (1, .inr (8, [.ref 2, .ref 3, .ref 4, .int 0, .int (-1), .ref 11, .ref 12, .int 0, .ref 13, .ref 14, .int 0, .ref 15, .ref 16, .int 0])), (1, .inr (8, [.ref 2, .ref 3, .ref 4, .int 0, .int (-1), .ref 11, .ref 12, .int 0, .ref 13, .ref 14, .int 0, .ref 15, .ref 16, .int 0])), (51, .inr (0, [.ref 52, .ref 53, .int 1, .int 5])), (52, .inl (0, 1260, .inl (upd (upd (fun _ => 0) 0 0) 0 4681))), (53, .inl (0, 7, .inl (upd (upd (upd (upd (upd (fun _ => 0) 0 1) 1 1) 2 1) 3 1) 4 1)))]) rfl ?_
  refine J_mask (L2 := [(57, .inr (9, [.ref 1, .ref 51, .ref 58, .ref 61, .ref 62, .ref 63, .ref 64, .int 1, .int 1, .int 1])), (1, .inr (8, [.ref 2, .ref 3, .ref 4, .int 0, .int (-1), .ref 11, .ref 12, .int 0, .ref 13, .ref 14, .int 0, .ref 15, .ref 16, .int 0])), (51, .inr (0, [.ref 52, .ref 53, .int 1, .int 5])), (52, .inl (0, 1260, .inl (upd (upd (fun _ => 0) 0 0) 0 4681))), (53, .inl (0, 7, .inl (upd (upd (upd (upd (upd (fun _ => 0) 0 1) 1 1) 2 1) 3 1) 4 1)))]) (ks := [57, 1, 1, 1, 51, 52, 53]) [true, true, false, false, true, true, true] rfl (by decide +kernel) rfl ?_
  exact J_vret dX11_resettle_51 rfl (Nat.le_of_ble_eq_true rfl) (Nat.le_of_ble_eq_true rfl) ⟨rfl, rfl⟩
set_option maxHeartbeats 4000000 in
set_option maxRecDepth 100000 in
theorem c_X11_beans_16 {l : Launch} {G : jG} {nh : Nat} {fh : Nat → Option va_E} (hk0 : fh 0 = some (.inr (11, [.ref 1, .ref 17, .ref 50, .ref 51, .ref 54, .ref 57, .ref 65, .ref 75, .ref 81, .ref 85, .ref 88, .ref 93, .ref 96, .int 0, .int (-1), .ref 97, .int 0]))) (hk1 : fh 1 = some (.inr (8, [.ref 2, .ref 3, .ref 4, .int 0, .int (-1), .ref 11, .ref 12, .int 0, .ref 13, .ref 14, .int 0, .ref 15, .ref 16, .int 0]))) (hk2 : fh 2 = some (.inl (0, 5, .inl (fun _ => 0)))) (hk51 : fh 51 = some (.inr (0, [.ref 52, .ref 53, .int 1, .int 0]))) (hk52 : fh 52 = some (.inl (0, 1260, .inl (upd (fun _ => 0) 0 0)))) (hk53 : fh 53 = some (.inl (0, 7, .inl (fun _ => 0)))) (hk57 : fh 57 = some (.inr (9, [.ref 1, .ref 51, .ref 58, .ref 61, .ref 62, .ref 63, .ref 64, .int 0, .int 1, .int 1]))) : JM l G yX11_beans MX11_beans { frames := 4, cells := 0, slots := 0, locals := 86 } [.ref 0, .int 1, .int 5] (nh, fh) (fun r h9 => r = some (.int 0) ∧ h9 = (nh, hc fh [(0, .inr (11, [.ref 1, .ref 17, .ref 50, .ref 51, .ref 54, .ref 57, .ref 65, .ref 75, .ref 81, .ref 85, .ref 88, .ref 93, .ref 96, .int 0, .int (-1), .ref 97, .int 0])), (57, .inr (9, [.ref 1, .ref 51, .ref 58, .ref 61, .ref 62, .ref 63, .ref 64, .int 1, .int 1, .int 1])), (1, .inr (8, [.ref 2, .ref 3, .ref 4, .int 0, .int (-1), .ref 11, .ref 12, .int 0, .ref 13, .ref 14, .int 0, .ref 15, .ref 16, .int 0])), (51, .inr (0, [.ref 52, .ref 53, .int 1, .int 5])), (52, .inl (0, 1260, .inl (upd (upd (fun _ => 0) 0 0) 0 4681))), (53, .inl (0, 7, .inl (upd (upd (upd (upd (upd (fun _ => 0) 0 1) 1 1) 2 1) 3 1) 4 1))), (2, .inl (0, 5, .inl (upd (fun _ => 0) 1 5)))])) := by
  refine JM.of (by decide) rfl (fun h => by cases h) (Nat.le_of_ble_eq_true rfl) ⟨1, rfl⟩ ?_
  refine J_hc0 (J_ls (ls2 := [some (.ref 0), some (.int 1), some (.int 5), none]) rfl ?_)
  refine J_iload_n dX11_beans_0 rfl rfl ?_
  refine J_if_lt (tgt := 19) dX11_beans_1 (by decide) (fun q => absurd q (by decide +kernel)) (fun _ => ?_)
  refine J_iload_n dX11_beans_4 rfl rfl ?_
  refine J_iconst (v := 5) dX11_beans_5 (by decide) ?_
  refine J_icmp_ge (tgt := 19) dX11_beans_6 (by decide) (fun q => absurd q (by decide +kernel)) (fun _ => ?_)
  refine J_iload_n dX11_beans_9 rfl rfl ?_
  refine J_if_lt (tgt := 19) dX11_beans_10 (by decide) (fun q => absurd q (by decide +kernel)) (fun _ => ?_)
  refine J_iload_n dX11_beans_13 rfl rfl ?_
  refine J_bipush (v := 7) dX11_beans_14 (by decide +kernel) ?_
  refine J_icmp_le (tgt := 25) dX11_beans_16 (by decide) (fun _ => ?_) (fun q => absurd (by decide +kernel) q)
  refine J_aload_n dX11_beans_25 rfl rfl ?_
  refine J_get (v := .ref 1) dX11_beans_26 fl_X11_10 hk0 rfl ?_
  refine J_get (v := .ref 2) dX11_beans_29 fl_X11_111 hk1 rfl ?_
  refine J_iload_n dX11_beans_32 rfl rfl ?_
  refine J_iald (i2 := 1) (v := 0) dX11_beans_33 hk2 rfl (jin (by decide +kernel)) (by decide +kernel) rfl ?_
  refine J_istore_n dX11_beans_34 rfl (Nat.le_of_ble_eq_true rfl) rfl ?_
  refine J_aload_n dX11_beans_35 rfl rfl ?_
  refine J_get (v := .ref 51) dX11_beans_36 fl_X11_27 hk0 rfl ?_
  refine J_callV (st := []) dX11_beans_39 cv_X11_122 (c_X0_places_1 hk51) hk51 rfl rfl (Nat.le_of_ble_eq_true rfl) ⟨(Nat.le_of_ble_eq_true rfl), (Nat.le_of_ble_eq_true rfl)⟩ ⟨(Nat.le_of_ble_eq_true rfl), (Nat.le_of_ble_eq_true rfl)⟩ (fun r h9 hp => ?_)
  obtain ⟨rfl, rfl⟩ := hp
  refine J_nf (nh2 := nh) (ck2 := 0) (sk2 := 0) (st2 := [.int 0]) rfl rfl rfl rfl ?_
  refine J_iload_n dX11_beans_42 rfl rfl ?_
  refine J_isub (z := 0) dX11_beans_43 (by decide +kernel) ?_
  refine J_iload_n dX11_beans_44 rfl rfl ?_
  refine J_iadd (z := 5) dX11_beans_45 (by decide +kernel) ?_
  refine J_bipush (v := 7) dX11_beans_46 (by decide +kernel) ?_
  refine J_icmp_le (tgt := 57) dX11_beans_48 (by decide) (fun _ => ?_) (fun q => absurd (by decide +kernel) q)
  refine J_aload_n dX11_beans_57 rfl rfl ?_
  refine J_get (v := .ref 1) dX11_beans_58 fl_X11_10 hk0 rfl ?_
  refine J_get (v := .ref 2) dX11_beans_61 fl_X11_111 hk1 rfl ?_
  refine J_iload_n dX11_beans_64 rfl rfl ?_
  refine J_iload_n dX11_beans_65 rfl rfl ?_
  refine K_iast (i2 := 1) dX11_beans_66 hk2 rfl (jin (by decide +kernel)) (by decide +kernel) ?_
  refine J_aload_n dX11_beans_67 rfl rfl ?_
  refine J_callV (st := []) dX11_beans_68 cv_X11_126 (c_X11_resettle_14 hk0 hk1 rfl hk51 hk52 hk53 hk57) hk0 rfl rfl (Nat.le_of_ble_eq_true rfl) ⟨(Nat.le_of_ble_eq_true rfl), (Nat.le_of_ble_eq_true rfl)⟩ ⟨(Nat.le_of_ble_eq_true rfl), (Nat.le_of_ble_eq_true rfl)⟩ (fun r h9 hp => ?_)
  obtain ⟨rfl, rfl⟩ := hp
  refine J_nf (nh2 := nh) (ck2 := 0) (sk2 := 0) (st2 := []) rfl rfl rfl rfl ?_
  refine J_app (L3 := [(57, .inr (9, [.ref 1, .ref 51, .ref 58, .ref 61, .ref 62, .ref 63, .ref 64, .int 1, .int 1, .int 1])), (1, .inr (8, [.ref 2, .ref 3, .ref 4, .int 0, .int (-1), .ref 11, .ref 12, .int 0, .ref 13, .ref 14, .int 0, .ref 15, .ref 16, .int 0])), (51, .inr (0, [.ref 52, .ref 53, .int 1, .int 5])), (52, .inl (0, 1260, .inl (upd (upd (fun _ => 0) 0 0) 0 4681))), (53, .inl (0, 7, .inl (upd (upd (upd (upd (upd (fun _ => 0) 0 1) 1 1) 2 1) 3 1) 4 1))), (2, .inl (0, 5, .inl (upd (fun _ => 0) 1 5)))]) rfl ?_
  refine J_aload_n dX11_beans_71 rfl rfl ?_
  refine J_iload_n dX11_beans_72 rfl rfl ?_
  refine J_callV (st := []) dX11_beans_73 cv_X11_129 (c_X11_accept_1 hk0) hk0 rfl rfl (Nat.le_of_ble_eq_true rfl) ⟨(Nat.le_of_ble_eq_true rfl), (Nat.le_of_ble_eq_true rfl)⟩ ⟨(Nat.le_of_ble_eq_true rfl), (Nat.le_of_ble_eq_true rfl)⟩ (fun r h9 hp => ?_)
  obtain ⟨rfl, rfl⟩ := hp
  refine J_nf (nh2 := nh) (ck2 := 0) (sk2 := 0) (st2 := [.int 0]) rfl rfl rfl rfl ?_
  refine J_app (L3 := [(0, .inr (11, [.ref 1, .ref 17, .ref 50, .ref 51, .ref 54, .ref 57, .ref 65, .ref 75, .ref 81, .ref 85, .ref 88, .ref 93, .ref 96, .int 0, .int (-1), .ref 97, .int 0])), (57, .inr (9, [.ref 1, .ref 51, .ref 58, .ref 61, .ref 62, .ref 63, .ref 64, .int 1, .int 1, .int 1])), (1, .inr (8, [.ref 2, .ref 3, .ref 4, .int 0, .int (-1), .ref 11, .ref 12, .int 0, .ref 13, .ref 14, .int 0, .ref 15, .ref 16, .int 0])), (51, .inr (0, [.ref 52, .ref 53, .int 1, .int 5])), (52, .inl (0, 1260, .inl (upd (upd (fun _ => 0) 0 0) 0 4681))), (53, .inl (0, 7, .inl (upd (upd (upd (upd (upd (fun _ => 0) 0 1) 1 1) 2 1) 3 1) 4 1))), (2, .inl (0, 5, .inl (upd (fun _ => 0) 1 5)))]) rfl ?_
  exact J_iret dX11_beans_76 rfl rfl (Nat.le_of_ble_eq_true rfl) (Nat.le_of_ble_eq_true rfl) ⟨rfl, rfl⟩
set_option maxHeartbeats 4000000 in
set_option maxRecDepth 100000 in
theorem c_X12_newBeans_14 {l : Launch} {G : jG} {nh : Nat} {fh : Nat → Option va_E} (hk98 : fh 98 = some (.inr (12, [.int 0, .int 0, .ref 99, .ref 100, .ref 101, .ref 102, .ref 103, .ref 104, .ref 105, .int 0, .int (-1), .ref 106, .ref 107, .ref 108, .int 0, .int 0, .int 0, .int 0, .int 0, .int 0, .int 0, .ref 109, .int 0, .int 0, .ref 110, .ref 111, .ref 112, .ref 113, .ref 114, .ref 115, .ref 116, .ref 117, .int 0, .int 0, .int (-1), .int (-1), .ref 118, .ref 119, .ref 120, .ref 121, .ref 122, .ref 123, .ref 124, .ref 125, .ref 126, .ref 127, .ref 128, .ref 129, .int 0, .ref 130, .ref 131, .ref 132, .ref 133, .ref 134, .int 0, .int 0]))) (hk100 : fh 100 = some (.inl (0, 4870, .inl (upd (upd (fun _ => 0) 63 (-1)) 1 5)))) : JM l G yX12_newBeans MX12_newBeans { frames := 0, cells := 0, slots := 0, locals := 0 } [.ref 98] (nh, fh) (fun r h9 => r = none ∧ h9 = (nh, hc fh [(100, .inl (0, 4870, .inl (upd (upd (upd (upd (upd (fun _ => 0) 63 (-1)) 1 5) 59 0) 61 0) 60 0)))])) := by
  refine JM.of (by decide) rfl (fun h => by cases h) (Nat.le_of_ble_eq_true rfl) ⟨2, rfl⟩ ?_
  refine J_hc0 (J_ls (ls2 := [some (.ref 98), none, none]) rfl ?_)
  refine J_aload_n dX12_newBeans_0 rfl rfl ?_
  refine J_get (v := .ref 100) dX12_newBeans_1 fl_X12_20 hk98 rfl ?_
  refine J_bipush (v := 59) dX12_newBeans_4 (by decide +kernel) ?_
  refine J_iconst (v := 0) dX12_newBeans_6 (by decide) ?_
  refine K_iast (i2 := 59) dX12_newBeans_7 hk100 rfl (jin (by decide +kernel)) (by decide +kernel) ?_
  refine J_aload_n dX12_newBeans_8 rfl rfl ?_
  refine J_get (v := .ref 100) dX12_newBeans_9 fl_X12_20 hk98 rfl ?_
  refine J_bipush (v := 61) dX12_newBeans_12 (by decide +kernel) ?_
  refine J_iconst (v := 0) dX12_newBeans_14 (by decide) ?_
  refine K_iast (i2 := 61) dX12_newBeans_15 rfl rfl (jin (by decide +kernel)) (by decide +kernel) ?_
  refine J_iconst (v := 0) dX12_newBeans_16 (by decide) ?_
  refine J_istore_n dX12_newBeans_17 rfl (Nat.le_of_ble_eq_true rfl) rfl ?_
  refine J_iconst (v := 0) dX12_newBeans_18 (by decide) ?_
  refine J_istore_n dX12_newBeans_19 rfl (Nat.le_of_ble_eq_true rfl) rfl ?_
  refine J_iload_n dX12_newBeans_20 rfl rfl ?_
  refine J_aload_n dX12_newBeans_21 rfl rfl ?_
  refine J_get (v := .ref 100) dX12_newBeans_22 fl_X12_20 hk98 rfl ?_
  refine J_bipush (v := 60) dX12_newBeans_25 (by decide +kernel) ?_
  refine J_iald (i2 := 60) (v := 0) dX12_newBeans_27 rfl rfl (jin (by decide +kernel)) (by decide +kernel) rfl ?_
  refine J_icmp_ge (tgt := 111) dX12_newBeans_28 (by decide) (fun _ => ?_) (fun q => absurd (by decide +kernel) q)
  refine J_aload_n dX12_newBeans_111 rfl rfl ?_
  refine J_get (v := .ref 100) dX12_newBeans_112 fl_X12_20 hk98 rfl ?_
  refine J_bipush (v := 60) dX12_newBeans_115 (by decide +kernel) ?_
  refine J_iload_n dX12_newBeans_117 rfl rfl ?_
  refine K_iast (i2 := 60) dX12_newBeans_118 rfl rfl (jin (by decide +kernel)) (by decide +kernel) ?_
  refine J_mask (L2 := [(100, .inl (0, 4870, .inl (upd (upd (upd (upd (upd (fun _ => 0) 63 (-1)) 1 5) 59 0) 61 0) 60 0)))]) (ks := [100, 100, 100]) [true, false, false] rfl (by decide +kernel) rfl ?_
  exact J_vret dX12_newBeans_119 rfl (Nat.le_of_ble_eq_true rfl) (Nat.le_of_ble_eq_true rfl) ⟨rfl, rfl⟩
set_option maxHeartbeats 4000000 in
set_option maxRecDepth 100000 in
theorem c_X12_beans_16 {l : Launch} {G : jG} {nh : Nat} {fh : Nat → Option va_E} (hk98 : fh 98 = some (.inr (12, [.int 0, .int 0, .ref 99, .ref 100, .ref 101, .ref 102, .ref 103, .ref 104, .ref 105, .int 0, .int (-1), .ref 106, .ref 107, .ref 108, .int 0, .int 0, .int 0, .int 0, .int 0, .int 0, .int 0, .ref 109, .int 0, .int 0, .ref 110, .ref 111, .ref 112, .ref 113, .ref 114, .ref 115, .ref 116, .ref 117, .int 0, .int 0, .int (-1), .int (-1), .ref 118, .ref 119, .ref 120, .ref 121, .ref 122, .ref 123, .ref 124, .ref 125, .ref 126, .ref 127, .ref 128, .ref 129, .int 0, .ref 130, .ref 131, .ref 132, .ref 133, .ref 134, .int 0, .int 0]))) (hk100 : fh 100 = some (.inl (0, 4870, .inl (upd (fun _ => 0) 63 (-1))))) : JM l G yX12_beans MX12_beans { frames := 1, cells := 0, slots := 0, locals := 22 } [.ref 98, .int 1, .int 5] (nh, fh) (fun r h9 => r = some (.int 0) ∧ h9 = (nh, hc fh [(98, .inr (12, [.int 0, .int 1, .ref 99, .ref 100, .ref 101, .ref 102, .ref 103, .ref 104, .ref 105, .int 0, .int (-1), .ref 106, .ref 107, .ref 108, .int 0, .int 0, .int 0, .int 0, .int 0, .int 0, .int 0, .ref 109, .int 0, .int 0, .ref 110, .ref 111, .ref 112, .ref 113, .ref 114, .ref 115, .ref 116, .ref 117, .int 0, .int 0, .int (-1), .int (-1), .ref 118, .ref 119, .ref 120, .ref 121, .ref 122, .ref 123, .ref 124, .ref 125, .ref 126, .ref 127, .ref 128, .ref 129, .int 0, .ref 130, .ref 131, .ref 132, .ref 133, .ref 134, .int 0, .int 0])), (100, .inl (0, 4870, .inl (upd (upd (upd (upd (upd (fun _ => 0) 63 (-1)) 1 5) 59 0) 61 0) 60 0)))])) := by
  refine JM.of (by decide) rfl (fun h => by cases h) (Nat.le_of_ble_eq_true rfl) ⟨1, rfl⟩ ?_
  refine J_hc0 (J_ls (ls2 := [some (.ref 98), some (.int 1), some (.int 5), none]) rfl ?_)
  refine J_iload_n dX12_beans_0 rfl rfl ?_
  refine J_iconst (v := 0) dX12_beans_1 (by decide) ?_
  refine J_iconst (v := 4) dX12_beans_2 (by decide) ?_
  refine J_callS (st := []) dX12_beans_3 cs_X12_138 (c_X12_lies_13 ) rfl rfl (Nat.le_of_ble_eq_true rfl) ⟨(Nat.le_of_ble_eq_true rfl), (Nat.le_of_ble_eq_true rfl)⟩ ⟨(Nat.le_of_ble_eq_true rfl), (Nat.le_of_ble_eq_true rfl)⟩ (fun r h9 hp => ?_)
  obtain ⟨rfl, rfl⟩ := hp
  refine J_nf (nh2 := nh) (ck2 := 0) (sk2 := 0) (st2 := [.int 1]) rfl rfl rfl rfl ?_
  refine J_if_eq (tgt := 39) dX12_beans_6 (by decide) (fun q => absurd q (by decide +kernel)) (fun _ => ?_)
  refine J_iload_n dX12_beans_9 rfl rfl ?_
  refine J_iconst (v := 0) dX12_beans_10 (by decide) ?_
  refine J_bipush (v := 7) dX12_beans_11 (by decide +kernel) ?_
  refine J_callS (st := []) dX12_beans_13 cs_X12_138 (c_X12_lies_10 ) rfl rfl (Nat.le_of_ble_eq_true rfl) ⟨(Nat.le_of_ble_eq_true rfl), (Nat.le_of_ble_eq_true rfl)⟩ ⟨(Nat.le_of_ble_eq_true rfl), (Nat.le_of_ble_eq_true rfl)⟩ (fun r h9 hp => ?_)
  obtain ⟨rfl, rfl⟩ := hp
  refine J_nf (nh2 := nh) (ck2 := 0) (sk2 := 0) (st2 := [.int 1]) rfl rfl rfl rfl ?_
  refine J_if_eq (tgt := 39) dX12_beans_16 (by decide) (fun q => absurd q (by decide +kernel)) (fun _ => ?_)
  refine J_aload_n dX12_beans_19 rfl rfl ?_
  refine J_callV (st := []) dX12_beans_20 cv_X12_149 (c_X12_places_1 hk98 hk100) hk98 rfl rfl (Nat.le_of_ble_eq_true rfl) ⟨(Nat.le_of_ble_eq_true rfl), (Nat.le_of_ble_eq_true rfl)⟩ ⟨(Nat.le_of_ble_eq_true rfl), (Nat.le_of_ble_eq_true rfl)⟩ (fun r h9 hp => ?_)
  obtain ⟨rfl, rfl⟩ := hp
  refine J_nf (nh2 := nh) (ck2 := 0) (sk2 := 0) (st2 := [.int 0]) rfl rfl rfl rfl ?_
  refine J_aload_n dX12_beans_23 rfl rfl ?_
  refine J_get (v := .ref 100) dX12_beans_24 fl_X12_20 hk98 rfl ?_
  refine J_iconst (v := 0) dX12_beans_27 (by decide) ?_
  refine J_iload_n dX12_beans_28 rfl rfl ?_
  refine J_iadd (z := 1) dX12_beans_29 (by decide +kernel) ?_
  refine J_iald (i2 := 1) (v := 0) dX12_beans_30 hk100 rfl (jin (by decide +kernel)) (by decide +kernel) rfl ?_
  refine J_isub (z := 0) dX12_beans_31 (by decide +kernel) ?_
  refine J_iload_n dX12_beans_32 rfl rfl ?_
  refine J_iadd (z := 5) dX12_beans_33 (by decide +kernel) ?_
  refine J_bipush (v := 7) dX12_beans_34 (by decide +kernel) ?_
  refine J_icmp_le (tgt := 45) dX12_beans_36 (by decide) (fun _ => ?_) (fun q => absurd (by decide +kernel) q)
  refine J_aload_n dX12_beans_45 rfl rfl ?_
  refine J_get (v := .ref 100) dX12_beans_46 fl_X12_20 hk98 rfl ?_
  refine J_iconst (v := 0) dX12_beans_49 (by decide) ?_
  refine J_iload_n dX12_beans_50 rfl rfl ?_
  refine J_iadd (z := 1) dX12_beans_51 (by decide +kernel) ?_
  refine J_iald (i2 := 1) (v := 0) dX12_beans_52 hk100 rfl (jin (by decide +kernel)) (by decide +kernel) rfl ?_
  refine J_istore_n dX12_beans_53 rfl (Nat.le_of_ble_eq_true rfl) rfl ?_
  refine J_aload_n dX12_beans_54 rfl rfl ?_
  refine J_get (v := .ref 100) dX12_beans_55 fl_X12_20 hk98 rfl ?_
  refine J_iconst (v := 0) dX12_beans_58 (by decide) ?_
  refine J_iload_n dX12_beans_59 rfl rfl ?_
  refine J_iadd (z := 1) dX12_beans_60 (by decide +kernel) ?_
  refine J_iload_n dX12_beans_61 rfl rfl ?_
  refine K_iast (i2 := 1) dX12_beans_62 hk100 rfl (jin (by decide +kernel)) (by decide +kernel) ?_
  refine J_aload_n dX12_beans_63 rfl rfl ?_
  refine J_callV (st := []) dX12_beans_64 cv_X12_153 (c_X12_newBeans_14 hk98 rfl) hk98 rfl rfl (Nat.le_of_ble_eq_true rfl) ⟨(Nat.le_of_ble_eq_true rfl), (Nat.le_of_ble_eq_true rfl)⟩ ⟨(Nat.le_of_ble_eq_true rfl), (Nat.le_of_ble_eq_true rfl)⟩ (fun r h9 hp => ?_)
  obtain ⟨rfl, rfl⟩ := hp
  refine J_nf (nh2 := nh) (ck2 := 0) (sk2 := 0) (st2 := []) rfl rfl rfl rfl ?_
  refine J_app (L3 := [(100, .inl (0, 4870, .inl (upd (upd (upd (upd (upd (fun _ => 0) 63 (-1)) 1 5) 59 0) 61 0) 60 0))), (100, .inl (0, 4870, .inl (upd (upd (fun _ => 0) 63 (-1)) 1 5)))]) rfl ?_
  refine J_aload_n dX12_beans_67 rfl rfl ?_
  refine J_iload_n dX12_beans_68 rfl rfl ?_
  refine J_callV (st := []) dX12_beans_69 cv_X12_146 (c_X12_good_1 hk98) hk98 rfl rfl (Nat.le_of_ble_eq_true rfl) ⟨(Nat.le_of_ble_eq_true rfl), (Nat.le_of_ble_eq_true rfl)⟩ ⟨(Nat.le_of_ble_eq_true rfl), (Nat.le_of_ble_eq_true rfl)⟩ (fun r h9 hp => ?_)
  obtain ⟨rfl, rfl⟩ := hp
  refine J_nf (nh2 := nh) (ck2 := 0) (sk2 := 0) (st2 := [.int 0]) rfl rfl rfl rfl ?_
  refine J_app (L3 := [(98, .inr (12, [.int 0, .int 1, .ref 99, .ref 100, .ref 101, .ref 102, .ref 103, .ref 104, .ref 105, .int 0, .int (-1), .ref 106, .ref 107, .ref 108, .int 0, .int 0, .int 0, .int 0, .int 0, .int 0, .int 0, .ref 109, .int 0, .int 0, .ref 110, .ref 111, .ref 112, .ref 113, .ref 114, .ref 115, .ref 116, .ref 117, .int 0, .int 0, .int (-1), .int (-1), .ref 118, .ref 119, .ref 120, .ref 121, .ref 122, .ref 123, .ref 124, .ref 125, .ref 126, .ref 127, .ref 128, .ref 129, .int 0, .ref 130, .ref 131, .ref 132, .ref 133, .ref 134, .int 0, .int 0])), (100, .inl (0, 4870, .inl (upd (upd (upd (upd (upd (fun _ => 0) 63 (-1)) 1 5) 59 0) 61 0) 60 0))), (100, .inl (0, 4870, .inl (upd (upd (fun _ => 0) 63 (-1)) 1 5)))]) rfl ?_
  refine J_mask (L2 := [(98, .inr (12, [.int 0, .int 1, .ref 99, .ref 100, .ref 101, .ref 102, .ref 103, .ref 104, .ref 105, .int 0, .int (-1), .ref 106, .ref 107, .ref 108, .int 0, .int 0, .int 0, .int 0, .int 0, .int 0, .int 0, .ref 109, .int 0, .int 0, .ref 110, .ref 111, .ref 112, .ref 113, .ref 114, .ref 115, .ref 116, .ref 117, .int 0, .int 0, .int (-1), .int (-1), .ref 118, .ref 119, .ref 120, .ref 121, .ref 122, .ref 123, .ref 124, .ref 125, .ref 126, .ref 127, .ref 128, .ref 129, .int 0, .ref 130, .ref 131, .ref 132, .ref 133, .ref 134, .int 0, .int 0])), (100, .inl (0, 4870, .inl (upd (upd (upd (upd (upd (fun _ => 0) 63 (-1)) 1 5) 59 0) 61 0) 60 0)))]) (ks := [98, 100, 100]) [true, true, false] rfl (by decide +kernel) rfl ?_
  exact J_iret dX12_beans_72 rfl rfl (Nat.le_of_ble_eq_true rfl) (Nat.le_of_ble_eq_true rfl) ⟨rfl, rfl⟩
set_option maxHeartbeats 4000000 in
set_option maxRecDepth 100000 in
theorem c_X0_behind_7 {l : Launch} {G : jG} {nh : Nat} {fh : Nat → Option va_E}  : JM l G yX0_behind MX0_behind { frames := 0, cells := 0, slots := 0, locals := 0 } [.int 4681, .int 1] (nh, fh) (fun r h9 => r = some (.int 37449) ∧ h9 = (nh, fh)) := by
  refine JM.of (by decide) rfl (fun h => by cases h) (Nat.le_of_ble_eq_true rfl) ⟨0, rfl⟩ ?_
  refine J_hc0 (J_ls (ls2 := [some (.int 4681), some (.int 1)]) rfl ?_)
  refine J_iload_n dX0_behind_0 rfl rfl ?_
  refine J_iconst (v := 3) dX0_behind_1 (by decide) ?_
  refine J_ishl (z := 37448) dX0_behind_2 (by decide +kernel) ?_
  refine J_iload_n dX0_behind_3 rfl rfl ?_
  refine J_ior (z := 37449) dX0_behind_4 (by decide +kernel) ?_
  exact J_iret dX0_behind_5 rfl rfl (Nat.le_of_ble_eq_true rfl) (Nat.le_of_ble_eq_true rfl) ⟨rfl, rfl⟩
set_option maxHeartbeats 4000000 in
set_option maxRecDepth 100000 in
theorem c_X0_packed_14 {l : Launch} {G : jG} {nh : Nat} {fh : Nat → Option va_E} (hk51 : fh 51 = some (.inr (0, [.ref 52, .ref 53, .int 0, .int 6]))) (hk53 : fh 53 = some (.inl (0, 7, .inl (upd (upd (upd (upd (upd (upd (fun _ => 0) 0 1) 1 1) 2 1) 3 1) 4 1) 5 1)))) : JM l G yX0_packed MX0_packed { frames := 1, cells := 0, slots := 0, locals := 21 } [.ref 51] (nh, fh) (fun r h9 => r = some (.int 37449) ∧ h9 = (nh, fh)) := by
  refine JM.of (by decide) rfl (fun h => by cases h) (Nat.le_of_ble_eq_true rfl) ⟨2, rfl⟩ ?_
  refine J_hc0 (J_ls (ls2 := [some (.ref 51), none, none]) rfl ?_)
  refine J_iconst (v := 0) dX0_packed_0 (by decide) ?_
  refine J_istore_n dX0_packed_1 rfl (Nat.le_of_ble_eq_true rfl) rfl ?_
  refine J_iconst (v := 0) dX0_packed_2 (by decide) ?_
  refine J_istore_n dX0_packed_3 rfl (Nat.le_of_ble_eq_true rfl) rfl ?_
  refine J_iload_n dX0_packed_4 rfl rfl ?_
  refine J_aload_n dX0_packed_5 rfl rfl ?_
  refine J_get (v := .int 6) dX0_packed_6 fl_X0_22 hk51 rfl ?_
  refine J_icmp_ge (tgt := 29) dX0_packed_9 (by decide) (fun q => absurd q (by decide +kernel)) (fun _ => ?_)
  refine J_iload_n dX0_packed_12 rfl rfl ?_
  refine J_aload_n dX0_packed_13 rfl rfl ?_
  refine J_get (v := .ref 53) dX0_packed_14 fl_X0_15 hk51 rfl ?_
  refine J_iload_n dX0_packed_17 rfl rfl ?_
  refine J_iald (i2 := 0) (v := 1) dX0_packed_18 hk53 rfl (jin (by decide +kernel)) (by decide +kernel) rfl ?_
  refine J_callS (st := []) dX0_packed_19 cs_X0_33 (c_X0_behind_2 ) rfl rfl (Nat.le_of_ble_eq_true rfl) ⟨(Nat.le_of_ble_eq_true rfl), (Nat.le_of_ble_eq_true rfl)⟩ ⟨(Nat.le_of_ble_eq_true rfl), (Nat.le_of_ble_eq_true rfl)⟩ (fun r h9 hp => ?_)
  obtain ⟨rfl, rfl⟩ := hp
  refine J_nf (nh2 := nh) (ck2 := 0) (sk2 := 0) (st2 := [.int 1]) rfl rfl rfl rfl ?_
  refine J_istore_n dX0_packed_22 rfl (Nat.le_of_ble_eq_true rfl) rfl ?_
  refine J_iinc (v := 1) dX0_packed_23 rfl (by decide +kernel) (Nat.le_of_ble_eq_true rfl) rfl ?_
  refine J_ls (ls2 := [some (.ref 51), some (.int 1), some (.int 1)]) rfl ?_
  refine J_goto (tgt := 4) dX0_packed_26 (by decide) ?_
  refine J_iload_n dX0_packed_4 rfl rfl ?_
  refine J_aload_n dX0_packed_5 rfl rfl ?_
  refine J_get (v := .int 6) dX0_packed_6 fl_X0_22 hk51 rfl ?_
  refine J_icmp_ge (tgt := 29) dX0_packed_9 (by decide) (fun q => absurd q (by decide +kernel)) (fun _ => ?_)
  refine J_iload_n dX0_packed_12 rfl rfl ?_
  refine J_aload_n dX0_packed_13 rfl rfl ?_
  refine J_get (v := .ref 53) dX0_packed_14 fl_X0_15 hk51 rfl ?_
  refine J_iload_n dX0_packed_17 rfl rfl ?_
  refine J_iald (i2 := 1) (v := 1) dX0_packed_18 hk53 rfl (jin (by decide +kernel)) (by decide +kernel) rfl ?_
  refine J_callS (st := []) dX0_packed_19 cs_X0_33 (c_X0_behind_3 ) rfl rfl (Nat.le_of_ble_eq_true rfl) ⟨(Nat.le_of_ble_eq_true rfl), (Nat.le_of_ble_eq_true rfl)⟩ ⟨(Nat.le_of_ble_eq_true rfl), (Nat.le_of_ble_eq_true rfl)⟩ (fun r h9 hp => ?_)
  obtain ⟨rfl, rfl⟩ := hp
  refine J_nf (nh2 := nh) (ck2 := 0) (sk2 := 0) (st2 := [.int 9]) rfl rfl rfl rfl ?_
  refine J_istore_n dX0_packed_22 rfl (Nat.le_of_ble_eq_true rfl) rfl ?_
  refine J_iinc (v := 2) dX0_packed_23 rfl (by decide +kernel) (Nat.le_of_ble_eq_true rfl) rfl ?_
  refine J_ls (ls2 := [some (.ref 51), some (.int 9), some (.int 2)]) rfl ?_
  refine J_goto (tgt := 4) dX0_packed_26 (by decide) ?_
  refine J_iload_n dX0_packed_4 rfl rfl ?_
  refine J_aload_n dX0_packed_5 rfl rfl ?_
  refine J_get (v := .int 6) dX0_packed_6 fl_X0_22 hk51 rfl ?_
  refine J_icmp_ge (tgt := 29) dX0_packed_9 (by decide) (fun q => absurd q (by decide +kernel)) (fun _ => ?_)
  refine J_iload_n dX0_packed_12 rfl rfl ?_
  refine J_aload_n dX0_packed_13 rfl rfl ?_
  refine J_get (v := .ref 53) dX0_packed_14 fl_X0_15 hk51 rfl ?_
  refine J_iload_n dX0_packed_17 rfl rfl ?_
  refine J_iald (i2 := 2) (v := 1) dX0_packed_18 hk53 rfl (jin (by decide +kernel)) (by decide +kernel) rfl ?_
  refine J_callS (st := []) dX0_packed_19 cs_X0_33 (c_X0_behind_4 ) rfl rfl (Nat.le_of_ble_eq_true rfl) ⟨(Nat.le_of_ble_eq_true rfl), (Nat.le_of_ble_eq_true rfl)⟩ ⟨(Nat.le_of_ble_eq_true rfl), (Nat.le_of_ble_eq_true rfl)⟩ (fun r h9 hp => ?_)
  obtain ⟨rfl, rfl⟩ := hp
  refine J_nf (nh2 := nh) (ck2 := 0) (sk2 := 0) (st2 := [.int 73]) rfl rfl rfl rfl ?_
  refine J_istore_n dX0_packed_22 rfl (Nat.le_of_ble_eq_true rfl) rfl ?_
  refine J_iinc (v := 3) dX0_packed_23 rfl (by decide +kernel) (Nat.le_of_ble_eq_true rfl) rfl ?_
  refine J_ls (ls2 := [some (.ref 51), some (.int 73), some (.int 3)]) rfl ?_
  refine J_goto (tgt := 4) dX0_packed_26 (by decide) ?_
  refine J_iload_n dX0_packed_4 rfl rfl ?_
  refine J_aload_n dX0_packed_5 rfl rfl ?_
  refine J_get (v := .int 6) dX0_packed_6 fl_X0_22 hk51 rfl ?_
  refine J_icmp_ge (tgt := 29) dX0_packed_9 (by decide) (fun q => absurd q (by decide +kernel)) (fun _ => ?_)
  refine J_iload_n dX0_packed_12 rfl rfl ?_
  refine J_aload_n dX0_packed_13 rfl rfl ?_
  refine J_get (v := .ref 53) dX0_packed_14 fl_X0_15 hk51 rfl ?_
  refine J_iload_n dX0_packed_17 rfl rfl ?_
  refine J_iald (i2 := 3) (v := 1) dX0_packed_18 hk53 rfl (jin (by decide +kernel)) (by decide +kernel) rfl ?_
  refine J_callS (st := []) dX0_packed_19 cs_X0_33 (c_X0_behind_5 ) rfl rfl (Nat.le_of_ble_eq_true rfl) ⟨(Nat.le_of_ble_eq_true rfl), (Nat.le_of_ble_eq_true rfl)⟩ ⟨(Nat.le_of_ble_eq_true rfl), (Nat.le_of_ble_eq_true rfl)⟩ (fun r h9 hp => ?_)
  obtain ⟨rfl, rfl⟩ := hp
  refine J_nf (nh2 := nh) (ck2 := 0) (sk2 := 0) (st2 := [.int 585]) rfl rfl rfl rfl ?_
  refine J_istore_n dX0_packed_22 rfl (Nat.le_of_ble_eq_true rfl) rfl ?_
  refine J_iinc (v := 4) dX0_packed_23 rfl (by decide +kernel) (Nat.le_of_ble_eq_true rfl) rfl ?_
  refine J_ls (ls2 := [some (.ref 51), some (.int 585), some (.int 4)]) rfl ?_
  refine J_goto (tgt := 4) dX0_packed_26 (by decide) ?_
  refine J_iload_n dX0_packed_4 rfl rfl ?_
  refine J_aload_n dX0_packed_5 rfl rfl ?_
  refine J_get (v := .int 6) dX0_packed_6 fl_X0_22 hk51 rfl ?_
  refine J_icmp_ge (tgt := 29) dX0_packed_9 (by decide) (fun q => absurd q (by decide +kernel)) (fun _ => ?_)
  refine J_iload_n dX0_packed_12 rfl rfl ?_
  refine J_aload_n dX0_packed_13 rfl rfl ?_
  refine J_get (v := .ref 53) dX0_packed_14 fl_X0_15 hk51 rfl ?_
  refine J_iload_n dX0_packed_17 rfl rfl ?_
  refine J_iald (i2 := 4) (v := 1) dX0_packed_18 hk53 rfl (jin (by decide +kernel)) (by decide +kernel) rfl ?_
  refine J_callS (st := []) dX0_packed_19 cs_X0_33 (c_X0_behind_6 ) rfl rfl (Nat.le_of_ble_eq_true rfl) ⟨(Nat.le_of_ble_eq_true rfl), (Nat.le_of_ble_eq_true rfl)⟩ ⟨(Nat.le_of_ble_eq_true rfl), (Nat.le_of_ble_eq_true rfl)⟩ (fun r h9 hp => ?_)
  obtain ⟨rfl, rfl⟩ := hp
  refine J_nf (nh2 := nh) (ck2 := 0) (sk2 := 0) (st2 := [.int 4681]) rfl rfl rfl rfl ?_
  refine J_istore_n dX0_packed_22 rfl (Nat.le_of_ble_eq_true rfl) rfl ?_
  refine J_iinc (v := 5) dX0_packed_23 rfl (by decide +kernel) (Nat.le_of_ble_eq_true rfl) rfl ?_
  refine J_ls (ls2 := [some (.ref 51), some (.int 4681), some (.int 5)]) rfl ?_
  refine J_goto (tgt := 4) dX0_packed_26 (by decide) ?_
  refine J_iload_n dX0_packed_4 rfl rfl ?_
  refine J_aload_n dX0_packed_5 rfl rfl ?_
  refine J_get (v := .int 6) dX0_packed_6 fl_X0_22 hk51 rfl ?_
  refine J_icmp_ge (tgt := 29) dX0_packed_9 (by decide) (fun q => absurd q (by decide +kernel)) (fun _ => ?_)
  refine J_iload_n dX0_packed_12 rfl rfl ?_
  refine J_aload_n dX0_packed_13 rfl rfl ?_
  refine J_get (v := .ref 53) dX0_packed_14 fl_X0_15 hk51 rfl ?_
  refine J_iload_n dX0_packed_17 rfl rfl ?_
  refine J_iald (i2 := 5) (v := 1) dX0_packed_18 hk53 rfl (jin (by decide +kernel)) (by decide +kernel) rfl ?_
  refine J_callS (st := []) dX0_packed_19 cs_X0_33 (c_X0_behind_7 ) rfl rfl (Nat.le_of_ble_eq_true rfl) ⟨(Nat.le_of_ble_eq_true rfl), (Nat.le_of_ble_eq_true rfl)⟩ ⟨(Nat.le_of_ble_eq_true rfl), (Nat.le_of_ble_eq_true rfl)⟩ (fun r h9 hp => ?_)
  obtain ⟨rfl, rfl⟩ := hp
  refine J_nf (nh2 := nh) (ck2 := 0) (sk2 := 0) (st2 := [.int 37449]) rfl rfl rfl rfl ?_
  refine J_istore_n dX0_packed_22 rfl (Nat.le_of_ble_eq_true rfl) rfl ?_
  refine J_iinc (v := 6) dX0_packed_23 rfl (by decide +kernel) (Nat.le_of_ble_eq_true rfl) rfl ?_
  refine J_ls (ls2 := [some (.ref 51), some (.int 37449), some (.int 6)]) rfl ?_
  refine J_goto (tgt := 4) dX0_packed_26 (by decide) ?_
  refine J_iload_n dX0_packed_4 rfl rfl ?_
  refine J_aload_n dX0_packed_5 rfl rfl ?_
  refine J_get (v := .int 6) dX0_packed_6 fl_X0_22 hk51 rfl ?_
  refine J_icmp_ge (tgt := 29) dX0_packed_9 (by decide) (fun _ => ?_) (fun q => absurd (by decide +kernel) q)
  refine J_iload_n dX0_packed_29 rfl rfl ?_
  exact J_iret dX0_packed_30 rfl rfl (Nat.le_of_ble_eq_true rfl) (Nat.le_of_ble_eq_true rfl) ⟨rfl, rfl⟩
set_option maxHeartbeats 4000000 in
set_option maxRecDepth 100000 in
theorem c_X0_nextOrder_13 {l : Launch} {G : jG} {nh : Nat} {fh : Nat → Option va_E} (hk51 : fh 51 = some (.inr (0, [.ref 52, .ref 53, .int 1, .int 6]))) (hk53 : fh 53 = some (.inl (0, 7, .inl (upd (upd (upd (upd (upd (upd (fun _ => 0) 0 1) 1 1) 2 1) 3 1) 4 1) 5 1)))) : JM l G yX0_nextOrder MX0_nextOrder { frames := 0, cells := 0, slots := 0, locals := 0 } [.ref 51] (nh, fh) (fun r h9 => r = some (.int 0) ∧ h9 = (nh, fh)) := by
  refine JM.of (by decide) rfl (fun h => by cases h) (Nat.le_of_ble_eq_true rfl) ⟨4, rfl⟩ ?_
  refine J_hc0 (J_ls (ls2 := [some (.ref 51), none, none, none, none]) rfl ?_)
  refine J_aload_n dX0_nextOrder_0 rfl rfl ?_
  refine J_get (v := .int 6) dX0_nextOrder_1 fl_X0_22 hk51 rfl ?_
  refine J_iconst (v := 2) dX0_nextOrder_4 (by decide) ?_
  refine J_isub (z := 4) dX0_nextOrder_5 (by decide +kernel) ?_
  refine J_istore_n dX0_nextOrder_6 rfl (Nat.le_of_ble_eq_true rfl) rfl ?_
  refine J_iload_n dX0_nextOrder_7 rfl rfl ?_
  refine J_if_lt (tgt := 34) dX0_nextOrder_8 (by decide) (fun q => absurd q (by decide +kernel)) (fun _ => ?_)
  refine J_aload_n dX0_nextOrder_11 rfl rfl ?_
  refine J_get (v := .ref 53) dX0_nextOrder_12 fl_X0_15 hk51 rfl ?_
  refine J_iload_n dX0_nextOrder_15 rfl rfl ?_
  refine J_iald (i2 := 4) (v := 1) dX0_nextOrder_16 hk53 rfl (jin (by decide +kernel)) (by decide +kernel) rfl ?_
  refine J_aload_n dX0_nextOrder_17 rfl rfl ?_
  refine J_get (v := .ref 53) dX0_nextOrder_18 fl_X0_15 hk51 rfl ?_
  refine J_iload_n dX0_nextOrder_21 rfl rfl ?_
  refine J_iconst (v := 1) dX0_nextOrder_22 (by decide) ?_
  refine J_iadd (z := 5) dX0_nextOrder_23 (by decide +kernel) ?_
  refine J_iald (i2 := 5) (v := 1) dX0_nextOrder_24 hk53 rfl (jin (by decide +kernel)) (by decide +kernel) rfl ?_
  refine J_icmp_lt (tgt := 34) dX0_nextOrder_25 (by decide) (fun q => absurd q (by decide +kernel)) (fun _ => ?_)
  refine J_iinc (v := 3) dX0_nextOrder_28 rfl (by decide +kernel) (Nat.le_of_ble_eq_true rfl) rfl ?_
  refine J_ls (ls2 := [some (.ref 51), some (.int 3), none, none, none]) rfl ?_
  refine J_goto (tgt := 7) dX0_nextOrder_31 (by decide) ?_
  refine J_iload_n dX0_nextOrder_7 rfl rfl ?_
  refine J_if_lt (tgt := 34) dX0_nextOrder_8 (by decide) (fun q => absurd q (by decide +kernel)) (fun _ => ?_)
  refine J_aload_n dX0_nextOrder_11 rfl rfl ?_
  refine J_get (v := .ref 53) dX0_nextOrder_12 fl_X0_15 hk51 rfl ?_
  refine J_iload_n dX0_nextOrder_15 rfl rfl ?_
  refine J_iald (i2 := 3) (v := 1) dX0_nextOrder_16 hk53 rfl (jin (by decide +kernel)) (by decide +kernel) rfl ?_
  refine J_aload_n dX0_nextOrder_17 rfl rfl ?_
  refine J_get (v := .ref 53) dX0_nextOrder_18 fl_X0_15 hk51 rfl ?_
  refine J_iload_n dX0_nextOrder_21 rfl rfl ?_
  refine J_iconst (v := 1) dX0_nextOrder_22 (by decide) ?_
  refine J_iadd (z := 4) dX0_nextOrder_23 (by decide +kernel) ?_
  refine J_iald (i2 := 4) (v := 1) dX0_nextOrder_24 hk53 rfl (jin (by decide +kernel)) (by decide +kernel) rfl ?_
  refine J_icmp_lt (tgt := 34) dX0_nextOrder_25 (by decide) (fun q => absurd q (by decide +kernel)) (fun _ => ?_)
  refine J_iinc (v := 2) dX0_nextOrder_28 rfl (by decide +kernel) (Nat.le_of_ble_eq_true rfl) rfl ?_
  refine J_ls (ls2 := [some (.ref 51), some (.int 2), none, none, none]) rfl ?_
  refine J_goto (tgt := 7) dX0_nextOrder_31 (by decide) ?_
  refine J_iload_n dX0_nextOrder_7 rfl rfl ?_
  refine J_if_lt (tgt := 34) dX0_nextOrder_8 (by decide) (fun q => absurd q (by decide +kernel)) (fun _ => ?_)
  refine J_aload_n dX0_nextOrder_11 rfl rfl ?_
  refine J_get (v := .ref 53) dX0_nextOrder_12 fl_X0_15 hk51 rfl ?_
  refine J_iload_n dX0_nextOrder_15 rfl rfl ?_
  refine J_iald (i2 := 2) (v := 1) dX0_nextOrder_16 hk53 rfl (jin (by decide +kernel)) (by decide +kernel) rfl ?_
  refine J_aload_n dX0_nextOrder_17 rfl rfl ?_
  refine J_get (v := .ref 53) dX0_nextOrder_18 fl_X0_15 hk51 rfl ?_
  refine J_iload_n dX0_nextOrder_21 rfl rfl ?_
  refine J_iconst (v := 1) dX0_nextOrder_22 (by decide) ?_
  refine J_iadd (z := 3) dX0_nextOrder_23 (by decide +kernel) ?_
  refine J_iald (i2 := 3) (v := 1) dX0_nextOrder_24 hk53 rfl (jin (by decide +kernel)) (by decide +kernel) rfl ?_
  refine J_icmp_lt (tgt := 34) dX0_nextOrder_25 (by decide) (fun q => absurd q (by decide +kernel)) (fun _ => ?_)
  refine J_iinc (v := 1) dX0_nextOrder_28 rfl (by decide +kernel) (Nat.le_of_ble_eq_true rfl) rfl ?_
  refine J_ls (ls2 := [some (.ref 51), some (.int 1), none, none, none]) rfl ?_
  refine J_goto (tgt := 7) dX0_nextOrder_31 (by decide) ?_
  refine J_iload_n dX0_nextOrder_7 rfl rfl ?_
  refine J_if_lt (tgt := 34) dX0_nextOrder_8 (by decide) (fun q => absurd q (by decide +kernel)) (fun _ => ?_)
  refine J_aload_n dX0_nextOrder_11 rfl rfl ?_
  refine J_get (v := .ref 53) dX0_nextOrder_12 fl_X0_15 hk51 rfl ?_
  refine J_iload_n dX0_nextOrder_15 rfl rfl ?_
  refine J_iald (i2 := 1) (v := 1) dX0_nextOrder_16 hk53 rfl (jin (by decide +kernel)) (by decide +kernel) rfl ?_
  refine J_aload_n dX0_nextOrder_17 rfl rfl ?_
  refine J_get (v := .ref 53) dX0_nextOrder_18 fl_X0_15 hk51 rfl ?_
  refine J_iload_n dX0_nextOrder_21 rfl rfl ?_
  refine J_iconst (v := 1) dX0_nextOrder_22 (by decide) ?_
  refine J_iadd (z := 2) dX0_nextOrder_23 (by decide +kernel) ?_
  refine J_iald (i2 := 2) (v := 1) dX0_nextOrder_24 hk53 rfl (jin (by decide +kernel)) (by decide +kernel) rfl ?_
  refine J_icmp_lt (tgt := 34) dX0_nextOrder_25 (by decide) (fun q => absurd q (by decide +kernel)) (fun _ => ?_)
  refine J_iinc (v := 0) dX0_nextOrder_28 rfl (by decide +kernel) (Nat.le_of_ble_eq_true rfl) rfl ?_
  refine J_ls (ls2 := [some (.ref 51), some (.int 0), none, none, none]) rfl ?_
  refine J_goto (tgt := 7) dX0_nextOrder_31 (by decide) ?_
  refine J_iload_n dX0_nextOrder_7 rfl rfl ?_
  refine J_if_lt (tgt := 34) dX0_nextOrder_8 (by decide) (fun q => absurd q (by decide +kernel)) (fun _ => ?_)
  refine J_aload_n dX0_nextOrder_11 rfl rfl ?_
  refine J_get (v := .ref 53) dX0_nextOrder_12 fl_X0_15 hk51 rfl ?_
  refine J_iload_n dX0_nextOrder_15 rfl rfl ?_
  refine J_iald (i2 := 0) (v := 1) dX0_nextOrder_16 hk53 rfl (jin (by decide +kernel)) (by decide +kernel) rfl ?_
  refine J_aload_n dX0_nextOrder_17 rfl rfl ?_
  refine J_get (v := .ref 53) dX0_nextOrder_18 fl_X0_15 hk51 rfl ?_
  refine J_iload_n dX0_nextOrder_21 rfl rfl ?_
  refine J_iconst (v := 1) dX0_nextOrder_22 (by decide) ?_
  refine J_iadd (z := 1) dX0_nextOrder_23 (by decide +kernel) ?_
  refine J_iald (i2 := 1) (v := 1) dX0_nextOrder_24 hk53 rfl (jin (by decide +kernel)) (by decide +kernel) rfl ?_
  refine J_icmp_lt (tgt := 34) dX0_nextOrder_25 (by decide) (fun q => absurd q (by decide +kernel)) (fun _ => ?_)
  refine J_iinc (v := (-1)) dX0_nextOrder_28 rfl (by decide +kernel) (Nat.le_of_ble_eq_true rfl) rfl ?_
  refine J_ls (ls2 := [some (.ref 51), some (.int (-1)), none, none, none]) rfl ?_
  refine J_goto (tgt := 7) dX0_nextOrder_31 (by decide) ?_
  refine J_iload_n dX0_nextOrder_7 rfl rfl ?_
  refine J_if_lt (tgt := 34) dX0_nextOrder_8 (by decide) (fun _ => ?_) (fun q => absurd (by decide +kernel) q)
  refine J_iload_n dX0_nextOrder_34 rfl rfl ?_
  refine J_if_ge (tgt := 40) dX0_nextOrder_35 (by decide) (fun q => absurd q (by decide +kernel)) (fun _ => ?_)
  refine J_iconst (v := 0) dX0_nextOrder_38 (by decide) ?_
  exact J_iret dX0_nextOrder_39 rfl (by decide +kernel) (Nat.le_of_ble_eq_true rfl) (Nat.le_of_ble_eq_true rfl) ⟨rfl, rfl⟩
set_option maxHeartbeats 4000000 in
set_option maxRecDepth 100000 in
theorem c_X0_settle_16 {l : Launch} {G : jG} {nh : Nat} {fh : Nat → Option va_E} (hk2 : fh 2 = some (.inl (0, 5, .inl (upd (fun _ => 0) 1 6)))) (hk51 : fh 51 = some (.inr (0, [.ref 52, .ref 53, .int 1, .int 0]))) (hk52 : fh 52 = some (.inl (0, 1260, .inl (upd (fun _ => 0) 0 0)))) (hk53 : fh 53 = some (.inl (0, 7, .inl (fun _ => 0)))) : JM l G yX0_settle MX0_settle { frames := 2, cells := 0, slots := 0, locals := 43 } [.ref 51, .ref 2] (nh, fh) (fun r h9 => r = none ∧ h9 = (nh, hc fh [(51, .inr (0, [.ref 52, .ref 53, .int 1, .int 6])), (52, .inl (0, 1260, .inl (upd (upd (fun _ => 0) 0 0) 0 37449))), (53, .inl (0, 7, .inl (upd (upd (upd (upd (upd (upd (fun _ => 0) 0 1) 1 1) 2 1) 3 1) 4 1) 5 1)))])) := by
  refine JM.of (by decide) rfl (fun h => by cases h) (Nat.le_of_ble_eq_true rfl) ⟨2, rfl⟩ ?_
  refine J_hc0 (J_ls (ls2 := [some (.ref 51), some (.ref 2), none, none]) rfl ?_)
  refine J_aload_n dX0_settle_0 rfl rfl ?_
  refine J_iconst (v := 0) dX0_settle_1 (by decide) ?_
  refine K_put (fs2 := [.ref 52, .ref 53, .int 1, .int 0]) dX0_settle_2 fw_X0_22 hk51 (Nat.le_of_ble_eq_true rfl) (fun _ => ⟨rfl, rfl⟩) rfl ?_
  refine J_iconst (v := 0) dX0_settle_5 (by decide) ?_
  refine J_istore_n dX0_settle_6 rfl (Nat.le_of_ble_eq_true rfl) rfl ?_
  refine J_iload_n dX0_settle_7 rfl rfl ?_
  refine J_iconst (v := 5) dX0_settle_8 (by decide) ?_
  refine J_icmp_ge (tgt := 62) dX0_settle_9 (by decide) (fun q => absurd q (by decide +kernel)) (fun _ => ?_)
  refine J_iconst (v := 0) dX0_settle_12 (by decide) ?_
  refine J_istore_n dX0_settle_13 rfl (Nat.le_of_ble_eq_true rfl) rfl ?_
  refine J_iload_n dX0_settle_14 rfl rfl ?_
  refine J_aload_n dX0_settle_15 rfl rfl ?_
  refine J_iload_n dX0_settle_16 rfl rfl ?_
  refine J_iald (i2 := 0) (v := 0) dX0_settle_17 hk2 rfl (jin (by decide +kernel)) (by decide +kernel) rfl ?_
  refine J_icmp_ge (tgt := 56) dX0_settle_18 (by decide) (fun _ => ?_) (fun q => absurd (by decide +kernel) q)
  refine J_iinc (v := 1) dX0_settle_56 rfl (by decide +kernel) (Nat.le_of_ble_eq_true rfl) rfl ?_
  refine J_ls (ls2 := [some (.ref 51), some (.ref 2), some (.int 1), some (.int 0)]) rfl ?_
  refine J_goto (tgt := 7) dX0_settle_59 (by decide) ?_
  refine J_iload_n dX0_settle_7 rfl rfl ?_
  refine J_iconst (v := 5) dX0_settle_8 (by decide) ?_
  refine J_icmp_ge (tgt := 62) dX0_settle_9 (by decide) (fun q => absurd q (by decide +kernel)) (fun _ => ?_)
  refine J_iconst (v := 0) dX0_settle_12 (by decide) ?_
  refine J_istore_n dX0_settle_13 rfl (Nat.le_of_ble_eq_true rfl) rfl ?_
  refine J_iload_n dX0_settle_14 rfl rfl ?_
  refine J_aload_n dX0_settle_15 rfl rfl ?_
  refine J_iload_n dX0_settle_16 rfl rfl ?_
  refine J_iald (i2 := 1) (v := 6) dX0_settle_17 hk2 rfl (jin (by decide +kernel)) (by decide +kernel) rfl ?_
  refine J_icmp_ge (tgt := 56) dX0_settle_18 (by decide) (fun q => absurd q (by decide +kernel)) (fun _ => ?_)
  refine J_aload_n dX0_settle_21 rfl rfl ?_
  refine J_get (v := .int 0) dX0_settle_22 fl_X0_22 rfl rfl ?_
  refine J_bipush (v := 7) dX0_settle_25 (by decide +kernel) ?_
  refine J_icmp_ge (tgt := 56) dX0_settle_27 (by decide) (fun q => absurd q (by decide +kernel)) (fun _ => ?_)
  refine J_aload_n dX0_settle_30 rfl rfl ?_
  refine J_get (v := .ref 53) dX0_settle_31 fl_X0_15 rfl rfl ?_
  refine J_aload_n dX0_settle_34 rfl rfl ?_
  refine J_get (v := .int 0) dX0_settle_35 fl_X0_22 rfl rfl ?_
  refine J_iload_n dX0_settle_38 rfl rfl ?_
  refine K_iast (i2 := 0) dX0_settle_39 hk53 rfl (jin (by decide +kernel)) (by decide +kernel) ?_
  refine J_aload_n dX0_settle_40 rfl rfl ?_
  refine J_dup dX0_settle_41 rfl ?_
  refine J_get (v := .int 0) dX0_settle_42 fl_X0_22 rfl rfl ?_
  refine J_iconst (v := 1) dX0_settle_45 (by decide) ?_
  refine J_iadd (z := 1) dX0_settle_46 (by decide +kernel) ?_
  refine K_put (fs2 := [.ref 52, .ref 53, .int 1, .int 1]) dX0_settle_47 fw_X0_22 rfl (Nat.le_of_ble_eq_true rfl) (fun _ => ⟨rfl, rfl⟩) rfl ?_
  refine J_iinc (v := 1) dX0_settle_50 rfl (by decide +kernel) (Nat.le_of_ble_eq_true rfl) rfl ?_
  refine J_ls (ls2 := [some (.ref 51), some (.ref 2), some (.int 1), some (.int 1)]) rfl ?_
  refine J_goto (tgt := 14) dX0_settle_53 (by decide) ?_
  refine J_iload_n dX0_settle_14 rfl rfl ?_
  refine J_aload_n dX0_settle_15 rfl rfl ?_
  refine J_iload_n dX0_settle_16 rfl rfl ?_
  refine J_iald (i2 := 1) (v := 6) dX0_settle_17 hk2 rfl (jin (by decide +kernel)) (by decide +kernel) rfl ?_
  refine J_icmp_ge (tgt := 56) dX0_settle_18 (by decide) (fun q => absurd q (by decide +kernel)) (fun _ => ?_)
  refine J_aload_n dX0_settle_21 rfl rfl ?_
  refine J_get (v := .int 1) dX0_settle_22 fl_X0_22 rfl rfl ?_
  refine J_bipush (v := 7) dX0_settle_25 (by decide +kernel) ?_
  refine J_icmp_ge (tgt := 56) dX0_settle_27 (by decide) (fun q => absurd q (by decide +kernel)) (fun _ => ?_)
  refine J_aload_n dX0_settle_30 rfl rfl ?_
  refine J_get (v := .ref 53) dX0_settle_31 fl_X0_15 rfl rfl ?_
  refine J_aload_n dX0_settle_34 rfl rfl ?_
  refine J_get (v := .int 1) dX0_settle_35 fl_X0_22 rfl rfl ?_
  refine J_iload_n dX0_settle_38 rfl rfl ?_
  refine K_iast (i2 := 1) dX0_settle_39 rfl rfl (jin (by decide +kernel)) (by decide +kernel) ?_
  refine J_aload_n dX0_settle_40 rfl rfl ?_
  refine J_dup dX0_settle_41 rfl ?_
  refine J_get (v := .int 1) dX0_settle_42 fl_X0_22 rfl rfl ?_
  refine J_iconst (v := 1) dX0_settle_45 (by decide) ?_
  refine J_iadd (z := 2) dX0_settle_46 (by decide +kernel) ?_
  refine K_put (fs2 := [.ref 52, .ref 53, .int 1, .int 2]) dX0_settle_47 fw_X0_22 rfl (Nat.le_of_ble_eq_true rfl) (fun _ => ⟨rfl, rfl⟩) rfl ?_
  refine J_iinc (v := 2) dX0_settle_50 rfl (by decide +kernel) (Nat.le_of_ble_eq_true rfl) rfl ?_
  refine J_ls (ls2 := [some (.ref 51), some (.ref 2), some (.int 1), some (.int 2)]) rfl ?_
  refine J_goto (tgt := 14) dX0_settle_53 (by decide) ?_
  refine J_iload_n dX0_settle_14 rfl rfl ?_
  refine J_aload_n dX0_settle_15 rfl rfl ?_
  refine J_iload_n dX0_settle_16 rfl rfl ?_
  refine J_iald (i2 := 1) (v := 6) dX0_settle_17 hk2 rfl (jin (by decide +kernel)) (by decide +kernel) rfl ?_
  refine J_icmp_ge (tgt := 56) dX0_settle_18 (by decide) (fun q => absurd q (by decide +kernel)) (fun _ => ?_)
  refine J_aload_n dX0_settle_21 rfl rfl ?_
  refine J_get (v := .int 2) dX0_settle_22 fl_X0_22 rfl rfl ?_
  refine J_bipush (v := 7) dX0_settle_25 (by decide +kernel) ?_
  refine J_icmp_ge (tgt := 56) dX0_settle_27 (by decide) (fun q => absurd q (by decide +kernel)) (fun _ => ?_)
  refine J_aload_n dX0_settle_30 rfl rfl ?_
  refine J_get (v := .ref 53) dX0_settle_31 fl_X0_15 rfl rfl ?_
  refine J_aload_n dX0_settle_34 rfl rfl ?_
  refine J_get (v := .int 2) dX0_settle_35 fl_X0_22 rfl rfl ?_
  refine J_iload_n dX0_settle_38 rfl rfl ?_
  refine K_iast (i2 := 2) dX0_settle_39 rfl rfl (jin (by decide +kernel)) (by decide +kernel) ?_
  refine J_aload_n dX0_settle_40 rfl rfl ?_
  refine J_dup dX0_settle_41 rfl ?_
  refine J_get (v := .int 2) dX0_settle_42 fl_X0_22 rfl rfl ?_
  refine J_iconst (v := 1) dX0_settle_45 (by decide) ?_
  refine J_iadd (z := 3) dX0_settle_46 (by decide +kernel) ?_
  refine K_put (fs2 := [.ref 52, .ref 53, .int 1, .int 3]) dX0_settle_47 fw_X0_22 rfl (Nat.le_of_ble_eq_true rfl) (fun _ => ⟨rfl, rfl⟩) rfl ?_
  refine J_iinc (v := 3) dX0_settle_50 rfl (by decide +kernel) (Nat.le_of_ble_eq_true rfl) rfl ?_
  refine J_ls (ls2 := [some (.ref 51), some (.ref 2), some (.int 1), some (.int 3)]) rfl ?_
  refine J_goto (tgt := 14) dX0_settle_53 (by decide) ?_
  refine J_iload_n dX0_settle_14 rfl rfl ?_
  refine J_aload_n dX0_settle_15 rfl rfl ?_
  refine J_iload_n dX0_settle_16 rfl rfl ?_
  refine J_iald (i2 := 1) (v := 6) dX0_settle_17 hk2 rfl (jin (by decide +kernel)) (by decide +kernel) rfl ?_
  refine J_icmp_ge (tgt := 56) dX0_settle_18 (by decide) (fun q => absurd q (by decide +kernel)) (fun _ => ?_)
  refine J_aload_n dX0_settle_21 rfl rfl ?_
  refine J_get (v := .int 3) dX0_settle_22 fl_X0_22 rfl rfl ?_
  refine J_bipush (v := 7) dX0_settle_25 (by decide +kernel) ?_
  refine J_icmp_ge (tgt := 56) dX0_settle_27 (by decide) (fun q => absurd q (by decide +kernel)) (fun _ => ?_)
  refine J_aload_n dX0_settle_30 rfl rfl ?_
  refine J_get (v := .ref 53) dX0_settle_31 fl_X0_15 rfl rfl ?_
  refine J_aload_n dX0_settle_34 rfl rfl ?_
  refine J_get (v := .int 3) dX0_settle_35 fl_X0_22 rfl rfl ?_
  refine J_iload_n dX0_settle_38 rfl rfl ?_
  refine K_iast (i2 := 3) dX0_settle_39 rfl rfl (jin (by decide +kernel)) (by decide +kernel) ?_
  refine J_aload_n dX0_settle_40 rfl rfl ?_
  refine J_dup dX0_settle_41 rfl ?_
  refine J_get (v := .int 3) dX0_settle_42 fl_X0_22 rfl rfl ?_
  refine J_iconst (v := 1) dX0_settle_45 (by decide) ?_
  refine J_iadd (z := 4) dX0_settle_46 (by decide +kernel) ?_
  refine K_put (fs2 := [.ref 52, .ref 53, .int 1, .int 4]) dX0_settle_47 fw_X0_22 rfl (Nat.le_of_ble_eq_true rfl) (fun _ => ⟨rfl, rfl⟩) rfl ?_
  refine J_iinc (v := 4) dX0_settle_50 rfl (by decide +kernel) (Nat.le_of_ble_eq_true rfl) rfl ?_
  refine J_ls (ls2 := [some (.ref 51), some (.ref 2), some (.int 1), some (.int 4)]) rfl ?_
  refine J_goto (tgt := 14) dX0_settle_53 (by decide) ?_
  refine J_iload_n dX0_settle_14 rfl rfl ?_
  refine J_aload_n dX0_settle_15 rfl rfl ?_
  refine J_iload_n dX0_settle_16 rfl rfl ?_
  refine J_iald (i2 := 1) (v := 6) dX0_settle_17 hk2 rfl (jin (by decide +kernel)) (by decide +kernel) rfl ?_
  refine J_icmp_ge (tgt := 56) dX0_settle_18 (by decide) (fun q => absurd q (by decide +kernel)) (fun _ => ?_)
  refine J_aload_n dX0_settle_21 rfl rfl ?_
  refine J_get (v := .int 4) dX0_settle_22 fl_X0_22 rfl rfl ?_
  refine J_bipush (v := 7) dX0_settle_25 (by decide +kernel) ?_
  refine J_icmp_ge (tgt := 56) dX0_settle_27 (by decide) (fun q => absurd q (by decide +kernel)) (fun _ => ?_)
  refine J_aload_n dX0_settle_30 rfl rfl ?_
  refine J_get (v := .ref 53) dX0_settle_31 fl_X0_15 rfl rfl ?_
  refine J_aload_n dX0_settle_34 rfl rfl ?_
  refine J_get (v := .int 4) dX0_settle_35 fl_X0_22 rfl rfl ?_
  refine J_iload_n dX0_settle_38 rfl rfl ?_
  refine K_iast (i2 := 4) dX0_settle_39 rfl rfl (jin (by decide +kernel)) (by decide +kernel) ?_
  refine J_aload_n dX0_settle_40 rfl rfl ?_
  refine J_dup dX0_settle_41 rfl ?_
  refine J_get (v := .int 4) dX0_settle_42 fl_X0_22 rfl rfl ?_
  refine J_iconst (v := 1) dX0_settle_45 (by decide) ?_
  refine J_iadd (z := 5) dX0_settle_46 (by decide +kernel) ?_
  refine K_put (fs2 := [.ref 52, .ref 53, .int 1, .int 5]) dX0_settle_47 fw_X0_22 rfl (Nat.le_of_ble_eq_true rfl) (fun _ => ⟨rfl, rfl⟩) rfl ?_
  refine J_iinc (v := 5) dX0_settle_50 rfl (by decide +kernel) (Nat.le_of_ble_eq_true rfl) rfl ?_
  refine J_ls (ls2 := [some (.ref 51), some (.ref 2), some (.int 1), some (.int 5)]) rfl ?_
  refine J_goto (tgt := 14) dX0_settle_53 (by decide) ?_
  refine J_iload_n dX0_settle_14 rfl rfl ?_
  refine J_aload_n dX0_settle_15 rfl rfl ?_
  refine J_iload_n dX0_settle_16 rfl rfl ?_
  refine J_iald (i2 := 1) (v := 6) dX0_settle_17 hk2 rfl (jin (by decide +kernel)) (by decide +kernel) rfl ?_
  refine J_icmp_ge (tgt := 56) dX0_settle_18 (by decide) (fun q => absurd q (by decide +kernel)) (fun _ => ?_)
  refine J_aload_n dX0_settle_21 rfl rfl ?_
  refine J_get (v := .int 5) dX0_settle_22 fl_X0_22 rfl rfl ?_
  refine J_bipush (v := 7) dX0_settle_25 (by decide +kernel) ?_
  refine J_icmp_ge (tgt := 56) dX0_settle_27 (by decide) (fun q => absurd q (by decide +kernel)) (fun _ => ?_)
  refine J_aload_n dX0_settle_30 rfl rfl ?_
  refine J_get (v := .ref 53) dX0_settle_31 fl_X0_15 rfl rfl ?_
  refine J_aload_n dX0_settle_34 rfl rfl ?_
  refine J_get (v := .int 5) dX0_settle_35 fl_X0_22 rfl rfl ?_
  refine J_iload_n dX0_settle_38 rfl rfl ?_
  refine K_iast (i2 := 5) dX0_settle_39 rfl rfl (jin (by decide +kernel)) (by decide +kernel) ?_
  refine J_aload_n dX0_settle_40 rfl rfl ?_
  refine J_dup dX0_settle_41 rfl ?_
  refine J_get (v := .int 5) dX0_settle_42 fl_X0_22 rfl rfl ?_
  refine J_iconst (v := 1) dX0_settle_45 (by decide) ?_
  refine J_iadd (z := 6) dX0_settle_46 (by decide +kernel) ?_
  refine K_put (fs2 := [.ref 52, .ref 53, .int 1, .int 6]) dX0_settle_47 fw_X0_22 rfl (Nat.le_of_ble_eq_true rfl) (fun _ => ⟨rfl, rfl⟩) rfl ?_
  refine J_iinc (v := 6) dX0_settle_50 rfl (by decide +kernel) (Nat.le_of_ble_eq_true rfl) rfl ?_
  refine J_ls (ls2 := [some (.ref 51), some (.ref 2), some (.int 1), some (.int 6)]) rfl ?_
  refine J_goto (tgt := 14) dX0_settle_53 (by decide) ?_
  refine J_iload_n dX0_settle_14 rfl rfl ?_
  refine J_aload_n dX0_settle_15 rfl rfl ?_
  refine J_iload_n dX0_settle_16 rfl rfl ?_
  refine J_iald (i2 := 1) (v := 6) dX0_settle_17 hk2 rfl (jin (by decide +kernel)) (by decide +kernel) rfl ?_
  refine J_icmp_ge (tgt := 56) dX0_settle_18 (by decide) (fun _ => ?_) (fun q => absurd (by decide +kernel) q)
  refine J_iinc (v := 2) dX0_settle_56 rfl (by decide +kernel) (Nat.le_of_ble_eq_true rfl) rfl ?_
  refine J_ls (ls2 := [some (.ref 51), some (.ref 2), some (.int 2), some (.int 6)]) rfl ?_
  refine J_goto (tgt := 7) dX0_settle_59 (by decide) ?_
  refine J_iload_n dX0_settle_7 rfl rfl ?_
  refine J_iconst (v := 5) dX0_settle_8 (by decide) ?_
  refine J_icmp_ge (tgt := 62) dX0_settle_9 (by decide) (fun q => absurd q (by decide +kernel)) (fun _ => ?_)
  refine J_iconst (v := 0) dX0_settle_12 (by decide) ?_
  refine J_istore_n dX0_settle_13 rfl (Nat.le_of_ble_eq_true rfl) rfl ?_
  refine J_iload_n dX0_settle_14 rfl rfl ?_
  refine J_aload_n dX0_settle_15 rfl rfl ?_
  refine J_iload_n dX0_settle_16 rfl rfl ?_
  refine J_iald (i2 := 2) (v := 0) dX0_settle_17 hk2 rfl (jin (by decide +kernel)) (by decide +kernel) rfl ?_
  refine J_icmp_ge (tgt := 56) dX0_settle_18 (by decide) (fun _ => ?_) (fun q => absurd (by decide +kernel) q)
  refine J_iinc (v := 3) dX0_settle_56 rfl (by decide +kernel) (Nat.le_of_ble_eq_true rfl) rfl ?_
  refine J_ls (ls2 := [some (.ref 51), some (.ref 2), some (.int 3), some (.int 0)]) rfl ?_
  refine J_goto (tgt := 7) dX0_settle_59 (by decide) ?_
  refine J_iload_n dX0_settle_7 rfl rfl ?_
  refine J_iconst (v := 5) dX0_settle_8 (by decide) ?_
  refine J_icmp_ge (tgt := 62) dX0_settle_9 (by decide) (fun q => absurd q (by decide +kernel)) (fun _ => ?_)
  refine J_iconst (v := 0) dX0_settle_12 (by decide) ?_
  refine J_istore_n dX0_settle_13 rfl (Nat.le_of_ble_eq_true rfl) rfl ?_
  refine J_iload_n dX0_settle_14 rfl rfl ?_
  refine J_aload_n dX0_settle_15 rfl rfl ?_
  refine J_iload_n dX0_settle_16 rfl rfl ?_
  refine J_iald (i2 := 3) (v := 0) dX0_settle_17 hk2 rfl (jin (by decide +kernel)) (by decide +kernel) rfl ?_
  refine J_icmp_ge (tgt := 56) dX0_settle_18 (by decide) (fun _ => ?_) (fun q => absurd (by decide +kernel) q)
  refine J_iinc (v := 4) dX0_settle_56 rfl (by decide +kernel) (Nat.le_of_ble_eq_true rfl) rfl ?_
  refine J_ls (ls2 := [some (.ref 51), some (.ref 2), some (.int 4), some (.int 0)]) rfl ?_
  refine J_goto (tgt := 7) dX0_settle_59 (by decide) ?_
  refine J_iload_n dX0_settle_7 rfl rfl ?_
  refine J_iconst (v := 5) dX0_settle_8 (by decide) ?_
  refine J_icmp_ge (tgt := 62) dX0_settle_9 (by decide) (fun q => absurd q (by decide +kernel)) (fun _ => ?_)
  refine J_iconst (v := 0) dX0_settle_12 (by decide) ?_
  refine J_istore_n dX0_settle_13 rfl (Nat.le_of_ble_eq_true rfl) rfl ?_
  refine J_iload_n dX0_settle_14 rfl rfl ?_
  refine J_aload_n dX0_settle_15 rfl rfl ?_
  refine J_iload_n dX0_settle_16 rfl rfl ?_
  refine J_iald (i2 := 4) (v := 0) dX0_settle_17 hk2 rfl (jin (by decide +kernel)) (by decide +kernel) rfl ?_
  refine J_icmp_ge (tgt := 56) dX0_settle_18 (by decide) (fun _ => ?_) (fun q => absurd (by decide +kernel) q)
  refine J_iinc (v := 5) dX0_settle_56 rfl (by decide +kernel) (Nat.le_of_ble_eq_true rfl) rfl ?_
  refine J_ls (ls2 := [some (.ref 51), some (.ref 2), some (.int 5), some (.int 0)]) rfl ?_
  refine J_goto (tgt := 7) dX0_settle_59 (by decide) ?_
  refine J_iload_n dX0_settle_7 rfl rfl ?_
  refine J_iconst (v := 5) dX0_settle_8 (by decide) ?_
  refine J_icmp_ge (tgt := 62) dX0_settle_9 (by decide) (fun _ => ?_) (fun q => absurd (by decide +kernel) q)
  refine J_aload_n dX0_settle_62 rfl rfl ?_
  refine J_iconst (v := 0) dX0_settle_63 (by decide) ?_
  refine K_put (fs2 := [.ref 52, .ref 53, .int 0, .int 6]) dX0_settle_64 fw_X0_18 rfl (Nat.le_of_ble_eq_true rfl) (fun _ => ⟨rfl, rfl⟩) rfl ?_
  refine J_iconst (v := 1) dX0_settle_67 (by decide) ?_
  refine J_istore_n dX0_settle_68 rfl (Nat.le_of_ble_eq_true rfl) rfl ?_
  refine J_iconst (v := 0) dX0_settle_69 (by decide) ?_
  refine J_istore_n dX0_settle_70 rfl (Nat.le_of_ble_eq_true rfl) rfl ?_
  refine J_iload_n dX0_settle_71 rfl rfl ?_
  refine J_sipush (v := 1260) dX0_settle_72 (by decide +kernel) ?_
  refine J_icmp_ge (tgt := 116) dX0_settle_75 (by decide) (fun q => absurd q (by decide +kernel)) (fun _ => ?_)
  refine J_iload_n dX0_settle_78 rfl rfl ?_
  refine J_if_eq (tgt := 116) dX0_settle_79 (by decide) (fun q => absurd q (by decide +kernel)) (fun _ => ?_)
  refine J_aload_n dX0_settle_82 rfl rfl ?_
  refine J_get (v := .ref 52) dX0_settle_83 fl_X0_9 rfl rfl ?_
  refine J_aload_n dX0_settle_86 rfl rfl ?_
  refine J_get (v := .int 0) dX0_settle_87 fl_X0_18 rfl rfl ?_
  refine J_aload_n dX0_settle_90 rfl rfl ?_
  refine J_callV (st := [.int 0, .ref 52]) dX0_settle_91 cv_X0_25 (c_X0_packed_14 rfl rfl) rfl rfl rfl (Nat.le_of_ble_eq_true rfl) ⟨(Nat.le_of_ble_eq_true rfl), (Nat.le_of_ble_eq_true rfl)⟩ ⟨(Nat.le_of_ble_eq_true rfl), (Nat.le_of_ble_eq_true rfl)⟩ (fun r h9 hp => ?_)
  obtain ⟨rfl, rfl⟩ := hp
  refine J_nf (nh2 := nh) (ck2 := 0) (sk2 := 0) (st2 := [.int 37449, .int 0, .ref 52]) rfl rfl rfl rfl ?_
  refine K_iast (i2 := 0) dX0_settle_94 hk52 rfl (jin (by decide +kernel)) (by decide +kernel) ?_
  refine J_aload_n dX0_settle_95 rfl rfl ?_
  refine J_dup dX0_settle_96 rfl ?_
  refine J_get (v := .int 0) dX0_settle_97 fl_X0_18 rfl rfl ?_
  refine J_iconst (v := 1) dX0_settle_100 (by decide) ?_
  refine J_iadd (z := 1) dX0_settle_101 (by decide +kernel) ?_
  refine K_put (fs2 := [.ref 52, .ref 53, .int 1, .int 6]) dX0_settle_102 fw_X0_18 rfl (Nat.le_of_ble_eq_true rfl) (fun _ => ⟨rfl, rfl⟩) rfl ?_
  refine J_aload_n dX0_settle_105 rfl rfl ?_
  refine J_callV (st := []) dX0_settle_106 cv_X0_29 (c_X0_nextOrder_13 rfl rfl) rfl rfl rfl (Nat.le_of_ble_eq_true rfl) ⟨(Nat.le_of_ble_eq_true rfl), (Nat.le_of_ble_eq_true rfl)⟩ ⟨(Nat.le_of_ble_eq_true rfl), (Nat.le_of_ble_eq_true rfl)⟩ (fun r h9 hp => ?_)
  obtain ⟨rfl, rfl⟩ := hp
  refine J_nf (nh2 := nh) (ck2 := 0) (sk2 := 0) (st2 := [.int 0]) rfl rfl rfl rfl ?_
  refine J_istore_n dX0_settle_109 rfl (Nat.le_of_ble_eq_true rfl) rfl ?_
  refine J_iinc (v := 1) dX0_settle_110 rfl (by decide +kernel) (Nat.le_of_ble_eq_true rfl) rfl ?_
  refine J_ls (ls2 := [some (.ref 51), some (.ref 2), some (.int 0), some (.int 1)]) rfl ?_
  refine J_goto (tgt := 71) dX0_settle_113 (by decide) ?_
  refine J_iload_n dX0_settle_71 rfl rfl ?_
  refine J_sipush (v := 1260) dX0_settle_72 (by decide +kernel) ?_
  refine J_icmp_ge (tgt := 116) dX0_settle_75 (by decide) (fun q => absurd q (by decide +kernel)) (fun _ => ?_)
  refine J_iload_n dX0_settle_78 rfl rfl ?_
  refine J_if_eq (tgt := 116) dX0_settle_79 (by decide) (fun _ => ?_) (fun q => absurd (by decide +kernel) q)
  refine J_mask (L2 := [(51, .inr (0, [.ref 52, .ref 53, .int 1, .int 6])), (52, .inl (0, 1260, .inl (upd (upd (fun _ => 0) 0 0) 0 37449))), (53, .inl (0, 7, .inl (upd (upd (upd (upd (upd (upd (fun _ => 0) 0 1) 1 1) 2 1) 3 1) 4 1) 5 1)))]) (ks := [51, 52, 51, 51, 53, 51, 53, 51, 53, 51, 53, 51, 53, 51, 53, 51]) [true, true, false, false, true, false, false, false, false, false, false, false, false, false, false, false] rfl (by decide +kernel) rfl ?_
  exact J_vret dX0_settle_116 rfl (Nat.le_of_ble_eq_true rfl) (Nat.le_of_ble_eq_true rfl) ⟨rfl, rfl⟩
set_option maxHeartbeats 4000000 in
set_option maxRecDepth 100000 in
theorem c_X11_resettle_15 {l : Launch} {G : jG} {nh : Nat} {fh : Nat → Option va_E} (hk0 : fh 0 = some (.inr (11, [.ref 1, .ref 17, .ref 50, .ref 51, .ref 54, .ref 57, .ref 65, .ref 75, .ref 81, .ref 85, .ref 88, .ref 93, .ref 96, .int 0, .int (-1), .ref 97, .int 0]))) (hk1 : fh 1 = some (.inr (8, [.ref 2, .ref 3, .ref 4, .int 0, .int (-1), .ref 11, .ref 12, .int 0, .ref 13, .ref 14, .int 0, .ref 15, .ref 16, .int 0]))) (hk2 : fh 2 = some (.inl (0, 5, .inl (upd (fun _ => 0) 1 6)))) (hk51 : fh 51 = some (.inr (0, [.ref 52, .ref 53, .int 1, .int 0]))) (hk52 : fh 52 = some (.inl (0, 1260, .inl (upd (fun _ => 0) 0 0)))) (hk53 : fh 53 = some (.inl (0, 7, .inl (fun _ => 0)))) (hk57 : fh 57 = some (.inr (9, [.ref 1, .ref 51, .ref 58, .ref 61, .ref 62, .ref 63, .ref 64, .int 0, .int 1, .int 1]))) : JM l G yX11_resettle MX11_resettle { frames := 3, cells := 0, slots := 0, locals := 66 } [.ref 0] (nh, fh) (fun r h9 => r = none ∧ h9 = (nh, hc fh [(57, .inr (9, [.ref 1, .ref 51, .ref 58, .ref 61, .ref 62, .ref 63, .ref 64, .int 1, .int 1, .int 1])), (1, .inr (8, [.ref 2, .ref 3, .ref 4, .int 0, .int (-1), .ref 11, .ref 12, .int 0, .ref 13, .ref 14, .int 0, .ref 15, .ref 16, .int 0])), (51, .inr (0, [.ref 52, .ref 53, .int 1, .int 6])), (52, .inl (0, 1260, .inl (upd (upd (fun _ => 0) 0 0) 0 37449))), (53, .inl (0, 7, .inl (upd (upd (upd (upd (upd (upd (fun _ => 0) 0 1) 1 1) 2 1) 3 1) 4 1) 5 1)))])) := by
  refine JM.of (by decide) rfl (fun h => by cases h) (Nat.le_of_ble_eq_true rfl) ⟨0, rfl⟩ ?_
  refine J_hc0 (J_ls (ls2 := [some (.ref 0)]) rfl ?_)
  refine J_aload_n dX11_resettle_0 rfl rfl ?_
  refine J_get (v := .ref 51) dX11_resettle_1 fl_X11_27 hk0 rfl ?_
  refine J_aload_n dX11_resettle_4 rfl rfl ?_
  refine J_get (v := .ref 1) dX11_resettle_5 fl_X11_10 hk0 rfl ?_
  refine J_get (v := .ref 2) dX11_resettle_8 fl_X11_111 hk1 rfl ?_
  refine J_callV (st := []) dX11_resettle_11 cv_X11_114 (c_X0_settle_16 hk2 hk51 hk52 hk53) hk51 rfl rfl (Nat.le_of_ble_eq_true rfl) ⟨(Nat.le_of_ble_eq_true rfl), (Nat.le_of_ble_eq_true rfl)⟩ ⟨(Nat.le_of_ble_eq_true rfl), (Nat.le_of_ble_eq_true rfl)⟩ (fun r h9 hp => ?_)
  obtain ⟨rfl, rfl⟩ := hp
  refine J_nf (nh2 := nh) (ck2 := 0) (sk2 := 0) (st2 := []) rfl rfl rfl rfl ?_
  refine J_app (L3 := [(51, .inr (0, [.ref 52, .ref 53, .int 1, .int 6])), (52, .inl (0, 1260, .inl (upd (upd (fun _ => 0) 0 0) 0 37449))), (53, .inl (0, 7, .inl (upd (upd (upd (upd (upd (upd (fun _ => 0) 0 1) 1 1) 2 1) 3 1) 4 1) 5 1)))]) rfl ?_
  refine J_aload_n dX11_resettle_14 rfl rfl ?_
  refine J_get (v := .ref 1) dX11_resettle_15 fl_X11_10 hk0 rfl ?_
  refine J_iconst (v := 0) dX11_resettle_18 (by decide) ?_
  refine K_put (fs2 := [.ref 2, .ref 3, .ref 4, .int 0, .int (-1), .ref 11, .ref 12, .int 0, .ref 13, .ref 14, .int 0, .ref 15, .ref 16, .int 0]) dX11_resettle_19 fw_X11_204 hk1 (Nat.le_of_ble_eq_true rfl) (fun _ => ⟨rfl, rfl⟩) rfl ?_
  refine J_aload_n dX11_resettle_22 rfl rfl ?_
  refine J_get (v := .ref 1) dX11_resettle_23 fl_X11_10 hk0 rfl ?_
  refine J_iconst (v := 0) dX11_resettle_26 (by decide) ?_
  refine K_put (fs2 := [.ref 2, .ref 3, .ref 4, .int 0, .int (-1), .ref 11, .ref 12, .int 0, .ref 13, .ref 14, .int 0, .ref 15, .ref 16, .int 0]) dX11_resettle_27 fw_X11_286 rfl (Nat.le_of_ble_eq_true rfl) (fun _ => ⟨rfl, rfl⟩) rfl ?_
  refine J_aload_n dX11_resettle_30 rfl rfl ?_
  refine J_get (v := .ref 1) dX11_resettle_31 fl_X11_10 hk0 rfl ?_
  refine J_aload_n dX11_resettle_34 rfl rfl ?_
  refine J_get (v := .ref 51) dX11_resettle_35 fl_X11_27 hk0 rfl ?_
  refine J_callV (st := [.ref 1]) dX11_resettle_38 cv_X11_122 (c_X0_places_7 rfl) rfl rfl rfl (Nat.le_of_ble_eq_true rfl) ⟨(Nat.le_of_ble_eq_true rfl), (Nat.le_of_ble_eq_true rfl)⟩ ⟨(Nat.le_of_ble_eq_true rfl), (Nat.le_of_ble_eq_true rfl)⟩ (fun r h9 hp => ?_)
  obtain ⟨rfl, rfl⟩ := hp
  refine J_nf (nh2 := nh) (ck2 := 0) (sk2 := 0) (st2 := [.int 6, .ref 1]) rfl rfl rfl rfl ?_
  refine J_callV (st := []) dX11_resettle_41 cv_X11_321 (c_X8_dropSwapsBeyond_7 rfl) rfl rfl rfl (Nat.le_of_ble_eq_true rfl) ⟨(Nat.le_of_ble_eq_true rfl), (Nat.le_of_ble_eq_true rfl)⟩ ⟨(Nat.le_of_ble_eq_true rfl), (Nat.le_of_ble_eq_true rfl)⟩ (fun r h9 hp => ?_)
  obtain ⟨rfl, rfl⟩ := hp
  refine J_nf (nh2 := nh) (ck2 := 0) (sk2 := 0) (st2 := []) rfl rfl rfl rfl ?_
  refine J_app (L3 := [(1, .inr (8, [.ref 2, .ref 3, .ref 4, .int 0, .int (-1), .ref 11, .ref 12, .int 0, .ref 13, .ref 14, .int 0, .ref 15, .ref 16, .int 0])), (1, .inr (8, [.ref 2, .ref 3, .ref 4, .int 0, .int (-1), .ref 11, .ref 12, .int 0, .ref 13, .ref 14, .int 0, .ref 15, .ref 16, .int 0])), (1, .inr (8, [.ref 2, .ref 3, .ref 4, .int 0, .int (-1), .ref 11, .ref 12, .int 0, .ref 13, .ref 14, .int 0, .ref 15, .ref 16, .int 0])), (51, .inr (0, [.ref 52, .ref 53, .int 1, .int 6])), (52, .inl (0, 1260, .inl (upd (upd (fun _ => 0) 0 0) 0 37449))), (53, .inl (0, 7, .inl (upd (upd (upd (upd (upd (upd (fun _ => 0) 0 1) 1 1) 2 1) 3 1) 4 1) 5 1)))]) rfl ?_
  refine J_aload_n dX11_resettle_44 rfl rfl ?_
  refine J_get (v := .ref 57) dX11_resettle_45 fl_X11_43 hk0 rfl ?_
  refine J_callV (st := []) dX11_resettle_48 cv_X11_148 (c_X9_changeAll_1 hk57) hk57 rfl rfl (Nat.le_of_ble_eq_true rfl) ⟨(Nat.le_of_ble_eq_true rfl), (Nat.le_of_ble_eq_true rfl)⟩ ⟨(Nat.le_of_ble_eq_true rfl), (Nat.le_of_ble_eq_true rfl)⟩ (fun r h9 hp => ?_)
  obtain ⟨rfl, rfl⟩ := hp
  refine J_nf (nh2 := nh) (ck2 := 0) (sk2 := 0) (st2 := []) rfl rfl rfl rfl ?_
  refine J_app (L3 := [(57, .inr (9, [.ref 1, .ref 51, .ref 58, .ref 61, .ref 62, .ref 63, .ref 64, .int 1, .int 1, .int 1])), (1, .inr (8, [.ref 2, .ref 3, .ref 4, .int 0, .int (-1), .ref 11, .ref 12, .int 0, .ref 13, .ref 14, .int 0, .ref 15, .ref 16, .int 0])), (1, .inr (8, [.ref 2, .ref 3, .ref 4, .int 0, .int (-1), .ref 11, .ref 12, .int 0, .ref 13, .ref 14, .int 0, .ref 15, .ref 16, .int 0])), (1, .inr (8, [.ref 2, .ref 3, .ref 4, .int 0, .int (-1), .ref 11, .ref 12, .int 0, .ref 13, .ref 14, .int 0, .ref 15, .ref 16, .int 0])), (51, .inr (0, [.ref 52, .ref 53, .int 1, .int 6])), (52, .inl (0, 1260, .inl (upd (upd (fun _ => 0) 0 0) 0 37449))), (53, .inl (0, 7, .inl (upd (upd (upd (upd (upd (upd (fun _ => 0) 0 1) 1 1) 2 1) 3 1) 4 1) 5 1)))]) rfl ?_
  refine J_mask (L2 := [(57, .inr (9, [.ref 1, .ref 51, .ref 58, .ref 61, .ref 62, .ref 63, .ref 64, .int 1, .int 1, .int 1])), (1, .inr (8, [.ref 2, .ref 3, .ref 4, .int 0, .int (-1), .ref 11, .ref 12, .int 0, .ref 13, .ref 14, .int 0, .ref 15, .ref 16, .int 0])), (51, .inr (0, [.ref 52, .ref 53, .int 1, .int 6])), (52, .inl (0, 1260, .inl (upd (upd (fun _ => 0) 0 0) 0 37449))), (53, .inl (0, 7, .inl (upd (upd (upd (upd (upd (upd (fun _ => 0) 0 1) 1 1) 2 1) 3 1) 4 1) 5 1)))]) (ks := [57, 1, 1, 1, 51, 52, 53]) [true, true, false, false, true, true, true] rfl (by decide +kernel) rfl ?_
  exact J_vret dX11_resettle_51 rfl (Nat.le_of_ble_eq_true rfl) (Nat.le_of_ble_eq_true rfl) ⟨rfl, rfl⟩
set_option maxHeartbeats 4000000 in
set_option maxRecDepth 100000 in
theorem c_X11_beans_17 {l : Launch} {G : jG} {nh : Nat} {fh : Nat → Option va_E} (hk0 : fh 0 = some (.inr (11, [.ref 1, .ref 17, .ref 50, .ref 51, .ref 54, .ref 57, .ref 65, .ref 75, .ref 81, .ref 85, .ref 88, .ref 93, .ref 96, .int 0, .int (-1), .ref 97, .int 0]))) (hk1 : fh 1 = some (.inr (8, [.ref 2, .ref 3, .ref 4, .int 0, .int (-1), .ref 11, .ref 12, .int 0, .ref 13, .ref 14, .int 0, .ref 15, .ref 16, .int 0]))) (hk2 : fh 2 = some (.inl (0, 5, .inl (fun _ => 0)))) (hk51 : fh 51 = some (.inr (0, [.ref 52, .ref 53, .int 1, .int 0]))) (hk52 : fh 52 = some (.inl (0, 1260, .inl (upd (fun _ => 0) 0 0)))) (hk53 : fh 53 = some (.inl (0, 7, .inl (fun _ => 0)))) (hk57 : fh 57 = some (.inr (9, [.ref 1, .ref 51, .ref 58, .ref 61, .ref 62, .ref 63, .ref 64, .int 0, .int 1, .int 1]))) : JM l G yX11_beans MX11_beans { frames := 4, cells := 0, slots := 0, locals := 86 } [.ref 0, .int 1, .int 6] (nh, fh) (fun r h9 => r = some (.int 0) ∧ h9 = (nh, hc fh [(0, .inr (11, [.ref 1, .ref 17, .ref 50, .ref 51, .ref 54, .ref 57, .ref 65, .ref 75, .ref 81, .ref 85, .ref 88, .ref 93, .ref 96, .int 0, .int (-1), .ref 97, .int 0])), (57, .inr (9, [.ref 1, .ref 51, .ref 58, .ref 61, .ref 62, .ref 63, .ref 64, .int 1, .int 1, .int 1])), (1, .inr (8, [.ref 2, .ref 3, .ref 4, .int 0, .int (-1), .ref 11, .ref 12, .int 0, .ref 13, .ref 14, .int 0, .ref 15, .ref 16, .int 0])), (51, .inr (0, [.ref 52, .ref 53, .int 1, .int 6])), (52, .inl (0, 1260, .inl (upd (upd (fun _ => 0) 0 0) 0 37449))), (53, .inl (0, 7, .inl (upd (upd (upd (upd (upd (upd (fun _ => 0) 0 1) 1 1) 2 1) 3 1) 4 1) 5 1))), (2, .inl (0, 5, .inl (upd (fun _ => 0) 1 6)))])) := by
  refine JM.of (by decide) rfl (fun h => by cases h) (Nat.le_of_ble_eq_true rfl) ⟨1, rfl⟩ ?_
  refine J_hc0 (J_ls (ls2 := [some (.ref 0), some (.int 1), some (.int 6), none]) rfl ?_)
  refine J_iload_n dX11_beans_0 rfl rfl ?_
  refine J_if_lt (tgt := 19) dX11_beans_1 (by decide) (fun q => absurd q (by decide +kernel)) (fun _ => ?_)
  refine J_iload_n dX11_beans_4 rfl rfl ?_
  refine J_iconst (v := 5) dX11_beans_5 (by decide) ?_
  refine J_icmp_ge (tgt := 19) dX11_beans_6 (by decide) (fun q => absurd q (by decide +kernel)) (fun _ => ?_)
  refine J_iload_n dX11_beans_9 rfl rfl ?_
  refine J_if_lt (tgt := 19) dX11_beans_10 (by decide) (fun q => absurd q (by decide +kernel)) (fun _ => ?_)
  refine J_iload_n dX11_beans_13 rfl rfl ?_
  refine J_bipush (v := 7) dX11_beans_14 (by decide +kernel) ?_
  refine J_icmp_le (tgt := 25) dX11_beans_16 (by decide) (fun _ => ?_) (fun q => absurd (by decide +kernel) q)
  refine J_aload_n dX11_beans_25 rfl rfl ?_
  refine J_get (v := .ref 1) dX11_beans_26 fl_X11_10 hk0 rfl ?_
  refine J_get (v := .ref 2) dX11_beans_29 fl_X11_111 hk1 rfl ?_
  refine J_iload_n dX11_beans_32 rfl rfl ?_
  refine J_iald (i2 := 1) (v := 0) dX11_beans_33 hk2 rfl (jin (by decide +kernel)) (by decide +kernel) rfl ?_
  refine J_istore_n dX11_beans_34 rfl (Nat.le_of_ble_eq_true rfl) rfl ?_
  refine J_aload_n dX11_beans_35 rfl rfl ?_
  refine J_get (v := .ref 51) dX11_beans_36 fl_X11_27 hk0 rfl ?_
  refine J_callV (st := []) dX11_beans_39 cv_X11_122 (c_X0_places_1 hk51) hk51 rfl rfl (Nat.le_of_ble_eq_true rfl) ⟨(Nat.le_of_ble_eq_true rfl), (Nat.le_of_ble_eq_true rfl)⟩ ⟨(Nat.le_of_ble_eq_true rfl), (Nat.le_of_ble_eq_true rfl)⟩ (fun r h9 hp => ?_)
  obtain ⟨rfl, rfl⟩ := hp
  refine J_nf (nh2 := nh) (ck2 := 0) (sk2 := 0) (st2 := [.int 0]) rfl rfl rfl rfl ?_
  refine J_iload_n dX11_beans_42 rfl rfl ?_
  refine J_isub (z := 0) dX11_beans_43 (by decide +kernel) ?_
  refine J_iload_n dX11_beans_44 rfl rfl ?_
  refine J_iadd (z := 6) dX11_beans_45 (by decide +kernel) ?_
  refine J_bipush (v := 7) dX11_beans_46 (by decide +kernel) ?_
  refine J_icmp_le (tgt := 57) dX11_beans_48 (by decide) (fun _ => ?_) (fun q => absurd (by decide +kernel) q)
  refine J_aload_n dX11_beans_57 rfl rfl ?_
  refine J_get (v := .ref 1) dX11_beans_58 fl_X11_10 hk0 rfl ?_
  refine J_get (v := .ref 2) dX11_beans_61 fl_X11_111 hk1 rfl ?_
  refine J_iload_n dX11_beans_64 rfl rfl ?_
  refine J_iload_n dX11_beans_65 rfl rfl ?_
  refine K_iast (i2 := 1) dX11_beans_66 hk2 rfl (jin (by decide +kernel)) (by decide +kernel) ?_
  refine J_aload_n dX11_beans_67 rfl rfl ?_
  refine J_callV (st := []) dX11_beans_68 cv_X11_126 (c_X11_resettle_15 hk0 hk1 rfl hk51 hk52 hk53 hk57) hk0 rfl rfl (Nat.le_of_ble_eq_true rfl) ⟨(Nat.le_of_ble_eq_true rfl), (Nat.le_of_ble_eq_true rfl)⟩ ⟨(Nat.le_of_ble_eq_true rfl), (Nat.le_of_ble_eq_true rfl)⟩ (fun r h9 hp => ?_)
  obtain ⟨rfl, rfl⟩ := hp
  refine J_nf (nh2 := nh) (ck2 := 0) (sk2 := 0) (st2 := []) rfl rfl rfl rfl ?_
  refine J_app (L3 := [(57, .inr (9, [.ref 1, .ref 51, .ref 58, .ref 61, .ref 62, .ref 63, .ref 64, .int 1, .int 1, .int 1])), (1, .inr (8, [.ref 2, .ref 3, .ref 4, .int 0, .int (-1), .ref 11, .ref 12, .int 0, .ref 13, .ref 14, .int 0, .ref 15, .ref 16, .int 0])), (51, .inr (0, [.ref 52, .ref 53, .int 1, .int 6])), (52, .inl (0, 1260, .inl (upd (upd (fun _ => 0) 0 0) 0 37449))), (53, .inl (0, 7, .inl (upd (upd (upd (upd (upd (upd (fun _ => 0) 0 1) 1 1) 2 1) 3 1) 4 1) 5 1))), (2, .inl (0, 5, .inl (upd (fun _ => 0) 1 6)))]) rfl ?_
  refine J_aload_n dX11_beans_71 rfl rfl ?_
  refine J_iload_n dX11_beans_72 rfl rfl ?_
  refine J_callV (st := []) dX11_beans_73 cv_X11_129 (c_X11_accept_1 hk0) hk0 rfl rfl (Nat.le_of_ble_eq_true rfl) ⟨(Nat.le_of_ble_eq_true rfl), (Nat.le_of_ble_eq_true rfl)⟩ ⟨(Nat.le_of_ble_eq_true rfl), (Nat.le_of_ble_eq_true rfl)⟩ (fun r h9 hp => ?_)
  obtain ⟨rfl, rfl⟩ := hp
  refine J_nf (nh2 := nh) (ck2 := 0) (sk2 := 0) (st2 := [.int 0]) rfl rfl rfl rfl ?_
  refine J_app (L3 := [(0, .inr (11, [.ref 1, .ref 17, .ref 50, .ref 51, .ref 54, .ref 57, .ref 65, .ref 75, .ref 81, .ref 85, .ref 88, .ref 93, .ref 96, .int 0, .int (-1), .ref 97, .int 0])), (57, .inr (9, [.ref 1, .ref 51, .ref 58, .ref 61, .ref 62, .ref 63, .ref 64, .int 1, .int 1, .int 1])), (1, .inr (8, [.ref 2, .ref 3, .ref 4, .int 0, .int (-1), .ref 11, .ref 12, .int 0, .ref 13, .ref 14, .int 0, .ref 15, .ref 16, .int 0])), (51, .inr (0, [.ref 52, .ref 53, .int 1, .int 6])), (52, .inl (0, 1260, .inl (upd (upd (fun _ => 0) 0 0) 0 37449))), (53, .inl (0, 7, .inl (upd (upd (upd (upd (upd (upd (fun _ => 0) 0 1) 1 1) 2 1) 3 1) 4 1) 5 1))), (2, .inl (0, 5, .inl (upd (fun _ => 0) 1 6)))]) rfl ?_
  exact J_iret dX11_beans_76 rfl rfl (Nat.le_of_ble_eq_true rfl) (Nat.le_of_ble_eq_true rfl) ⟨rfl, rfl⟩
set_option maxHeartbeats 4000000 in
set_option maxRecDepth 100000 in
theorem c_X12_newBeans_15 {l : Launch} {G : jG} {nh : Nat} {fh : Nat → Option va_E} (hk98 : fh 98 = some (.inr (12, [.int 0, .int 0, .ref 99, .ref 100, .ref 101, .ref 102, .ref 103, .ref 104, .ref 105, .int 0, .int (-1), .ref 106, .ref 107, .ref 108, .int 0, .int 0, .int 0, .int 0, .int 0, .int 0, .int 0, .ref 109, .int 0, .int 0, .ref 110, .ref 111, .ref 112, .ref 113, .ref 114, .ref 115, .ref 116, .ref 117, .int 0, .int 0, .int (-1), .int (-1), .ref 118, .ref 119, .ref 120, .ref 121, .ref 122, .ref 123, .ref 124, .ref 125, .ref 126, .ref 127, .ref 128, .ref 129, .int 0, .ref 130, .ref 131, .ref 132, .ref 133, .ref 134, .int 0, .int 0]))) (hk100 : fh 100 = some (.inl (0, 4870, .inl (upd (upd (fun _ => 0) 63 (-1)) 1 6)))) : JM l G yX12_newBeans MX12_newBeans { frames := 0, cells := 0, slots := 0, locals := 0 } [.ref 98] (nh, fh) (fun r h9 => r = none ∧ h9 = (nh, hc fh [(100, .inl (0, 4870, .inl (upd (upd (upd (upd (upd (fun _ => 0) 63 (-1)) 1 6) 59 0) 61 0) 60 0)))])) := by
  refine JM.of (by decide) rfl (fun h => by cases h) (Nat.le_of_ble_eq_true rfl) ⟨2, rfl⟩ ?_
  refine J_hc0 (J_ls (ls2 := [some (.ref 98), none, none]) rfl ?_)
  refine J_aload_n dX12_newBeans_0 rfl rfl ?_
  refine J_get (v := .ref 100) dX12_newBeans_1 fl_X12_20 hk98 rfl ?_
  refine J_bipush (v := 59) dX12_newBeans_4 (by decide +kernel) ?_
  refine J_iconst (v := 0) dX12_newBeans_6 (by decide) ?_
  refine K_iast (i2 := 59) dX12_newBeans_7 hk100 rfl (jin (by decide +kernel)) (by decide +kernel) ?_
  refine J_aload_n dX12_newBeans_8 rfl rfl ?_
  refine J_get (v := .ref 100) dX12_newBeans_9 fl_X12_20 hk98 rfl ?_
  refine J_bipush (v := 61) dX12_newBeans_12 (by decide +kernel) ?_
  refine J_iconst (v := 0) dX12_newBeans_14 (by decide) ?_
  refine K_iast (i2 := 61) dX12_newBeans_15 rfl rfl (jin (by decide +kernel)) (by decide +kernel) ?_
  refine J_iconst (v := 0) dX12_newBeans_16 (by decide) ?_
  refine J_istore_n dX12_newBeans_17 rfl (Nat.le_of_ble_eq_true rfl) rfl ?_
  refine J_iconst (v := 0) dX12_newBeans_18 (by decide) ?_
  refine J_istore_n dX12_newBeans_19 rfl (Nat.le_of_ble_eq_true rfl) rfl ?_
  refine J_iload_n dX12_newBeans_20 rfl rfl ?_
  refine J_aload_n dX12_newBeans_21 rfl rfl ?_
  refine J_get (v := .ref 100) dX12_newBeans_22 fl_X12_20 hk98 rfl ?_
  refine J_bipush (v := 60) dX12_newBeans_25 (by decide +kernel) ?_
  refine J_iald (i2 := 60) (v := 0) dX12_newBeans_27 rfl rfl (jin (by decide +kernel)) (by decide +kernel) rfl ?_
  refine J_icmp_ge (tgt := 111) dX12_newBeans_28 (by decide) (fun _ => ?_) (fun q => absurd (by decide +kernel) q)
  refine J_aload_n dX12_newBeans_111 rfl rfl ?_
  refine J_get (v := .ref 100) dX12_newBeans_112 fl_X12_20 hk98 rfl ?_
  refine J_bipush (v := 60) dX12_newBeans_115 (by decide +kernel) ?_
  refine J_iload_n dX12_newBeans_117 rfl rfl ?_
  refine K_iast (i2 := 60) dX12_newBeans_118 rfl rfl (jin (by decide +kernel)) (by decide +kernel) ?_
  refine J_mask (L2 := [(100, .inl (0, 4870, .inl (upd (upd (upd (upd (upd (fun _ => 0) 63 (-1)) 1 6) 59 0) 61 0) 60 0)))]) (ks := [100, 100, 100]) [true, false, false] rfl (by decide +kernel) rfl ?_
  exact J_vret dX12_newBeans_119 rfl (Nat.le_of_ble_eq_true rfl) (Nat.le_of_ble_eq_true rfl) ⟨rfl, rfl⟩
set_option maxHeartbeats 4000000 in
set_option maxRecDepth 100000 in
theorem c_X12_beans_17 {l : Launch} {G : jG} {nh : Nat} {fh : Nat → Option va_E} (hk98 : fh 98 = some (.inr (12, [.int 0, .int 0, .ref 99, .ref 100, .ref 101, .ref 102, .ref 103, .ref 104, .ref 105, .int 0, .int (-1), .ref 106, .ref 107, .ref 108, .int 0, .int 0, .int 0, .int 0, .int 0, .int 0, .int 0, .ref 109, .int 0, .int 0, .ref 110, .ref 111, .ref 112, .ref 113, .ref 114, .ref 115, .ref 116, .ref 117, .int 0, .int 0, .int (-1), .int (-1), .ref 118, .ref 119, .ref 120, .ref 121, .ref 122, .ref 123, .ref 124, .ref 125, .ref 126, .ref 127, .ref 128, .ref 129, .int 0, .ref 130, .ref 131, .ref 132, .ref 133, .ref 134, .int 0, .int 0]))) (hk100 : fh 100 = some (.inl (0, 4870, .inl (upd (fun _ => 0) 63 (-1))))) : JM l G yX12_beans MX12_beans { frames := 1, cells := 0, slots := 0, locals := 22 } [.ref 98, .int 1, .int 6] (nh, fh) (fun r h9 => r = some (.int 0) ∧ h9 = (nh, hc fh [(98, .inr (12, [.int 0, .int 1, .ref 99, .ref 100, .ref 101, .ref 102, .ref 103, .ref 104, .ref 105, .int 0, .int (-1), .ref 106, .ref 107, .ref 108, .int 0, .int 0, .int 0, .int 0, .int 0, .int 0, .int 0, .ref 109, .int 0, .int 0, .ref 110, .ref 111, .ref 112, .ref 113, .ref 114, .ref 115, .ref 116, .ref 117, .int 0, .int 0, .int (-1), .int (-1), .ref 118, .ref 119, .ref 120, .ref 121, .ref 122, .ref 123, .ref 124, .ref 125, .ref 126, .ref 127, .ref 128, .ref 129, .int 0, .ref 130, .ref 131, .ref 132, .ref 133, .ref 134, .int 0, .int 0])), (100, .inl (0, 4870, .inl (upd (upd (upd (upd (upd (fun _ => 0) 63 (-1)) 1 6) 59 0) 61 0) 60 0)))])) := by
  refine JM.of (by decide) rfl (fun h => by cases h) (Nat.le_of_ble_eq_true rfl) ⟨1, rfl⟩ ?_
  refine J_hc0 (J_ls (ls2 := [some (.ref 98), some (.int 1), some (.int 6), none]) rfl ?_)
  refine J_iload_n dX12_beans_0 rfl rfl ?_
  refine J_iconst (v := 0) dX12_beans_1 (by decide) ?_
  refine J_iconst (v := 4) dX12_beans_2 (by decide) ?_
  refine J_callS (st := []) dX12_beans_3 cs_X12_138 (c_X12_lies_13 ) rfl rfl (Nat.le_of_ble_eq_true rfl) ⟨(Nat.le_of_ble_eq_true rfl), (Nat.le_of_ble_eq_true rfl)⟩ ⟨(Nat.le_of_ble_eq_true rfl), (Nat.le_of_ble_eq_true rfl)⟩ (fun r h9 hp => ?_)
  obtain ⟨rfl, rfl⟩ := hp
  refine J_nf (nh2 := nh) (ck2 := 0) (sk2 := 0) (st2 := [.int 1]) rfl rfl rfl rfl ?_
  refine J_if_eq (tgt := 39) dX12_beans_6 (by decide) (fun q => absurd q (by decide +kernel)) (fun _ => ?_)
  refine J_iload_n dX12_beans_9 rfl rfl ?_
  refine J_iconst (v := 0) dX12_beans_10 (by decide) ?_
  refine J_bipush (v := 7) dX12_beans_11 (by decide +kernel) ?_
  refine J_callS (st := []) dX12_beans_13 cs_X12_138 (c_X12_lies_11 ) rfl rfl (Nat.le_of_ble_eq_true rfl) ⟨(Nat.le_of_ble_eq_true rfl), (Nat.le_of_ble_eq_true rfl)⟩ ⟨(Nat.le_of_ble_eq_true rfl), (Nat.le_of_ble_eq_true rfl)⟩ (fun r h9 hp => ?_)
  obtain ⟨rfl, rfl⟩ := hp
  refine J_nf (nh2 := nh) (ck2 := 0) (sk2 := 0) (st2 := [.int 1]) rfl rfl rfl rfl ?_
  refine J_if_eq (tgt := 39) dX12_beans_16 (by decide) (fun q => absurd q (by decide +kernel)) (fun _ => ?_)
  refine J_aload_n dX12_beans_19 rfl rfl ?_
  refine J_callV (st := []) dX12_beans_20 cv_X12_149 (c_X12_places_1 hk98 hk100) hk98 rfl rfl (Nat.le_of_ble_eq_true rfl) ⟨(Nat.le_of_ble_eq_true rfl), (Nat.le_of_ble_eq_true rfl)⟩ ⟨(Nat.le_of_ble_eq_true rfl), (Nat.le_of_ble_eq_true rfl)⟩ (fun r h9 hp => ?_)
  obtain ⟨rfl, rfl⟩ := hp
  refine J_nf (nh2 := nh) (ck2 := 0) (sk2 := 0) (st2 := [.int 0]) rfl rfl rfl rfl ?_
  refine J_aload_n dX12_beans_23 rfl rfl ?_
  refine J_get (v := .ref 100) dX12_beans_24 fl_X12_20 hk98 rfl ?_
  refine J_iconst (v := 0) dX12_beans_27 (by decide) ?_
  refine J_iload_n dX12_beans_28 rfl rfl ?_
  refine J_iadd (z := 1) dX12_beans_29 (by decide +kernel) ?_
  refine J_iald (i2 := 1) (v := 0) dX12_beans_30 hk100 rfl (jin (by decide +kernel)) (by decide +kernel) rfl ?_
  refine J_isub (z := 0) dX12_beans_31 (by decide +kernel) ?_
  refine J_iload_n dX12_beans_32 rfl rfl ?_
  refine J_iadd (z := 6) dX12_beans_33 (by decide +kernel) ?_
  refine J_bipush (v := 7) dX12_beans_34 (by decide +kernel) ?_
  refine J_icmp_le (tgt := 45) dX12_beans_36 (by decide) (fun _ => ?_) (fun q => absurd (by decide +kernel) q)
  refine J_aload_n dX12_beans_45 rfl rfl ?_
  refine J_get (v := .ref 100) dX12_beans_46 fl_X12_20 hk98 rfl ?_
  refine J_iconst (v := 0) dX12_beans_49 (by decide) ?_
  refine J_iload_n dX12_beans_50 rfl rfl ?_
  refine J_iadd (z := 1) dX12_beans_51 (by decide +kernel) ?_
  refine J_iald (i2 := 1) (v := 0) dX12_beans_52 hk100 rfl (jin (by decide +kernel)) (by decide +kernel) rfl ?_
  refine J_istore_n dX12_beans_53 rfl (Nat.le_of_ble_eq_true rfl) rfl ?_
  refine J_aload_n dX12_beans_54 rfl rfl ?_
  refine J_get (v := .ref 100) dX12_beans_55 fl_X12_20 hk98 rfl ?_
  refine J_iconst (v := 0) dX12_beans_58 (by decide) ?_
  refine J_iload_n dX12_beans_59 rfl rfl ?_
  refine J_iadd (z := 1) dX12_beans_60 (by decide +kernel) ?_
  refine J_iload_n dX12_beans_61 rfl rfl ?_
  refine K_iast (i2 := 1) dX12_beans_62 hk100 rfl (jin (by decide +kernel)) (by decide +kernel) ?_
  refine J_aload_n dX12_beans_63 rfl rfl ?_
  refine J_callV (st := []) dX12_beans_64 cv_X12_153 (c_X12_newBeans_15 hk98 rfl) hk98 rfl rfl (Nat.le_of_ble_eq_true rfl) ⟨(Nat.le_of_ble_eq_true rfl), (Nat.le_of_ble_eq_true rfl)⟩ ⟨(Nat.le_of_ble_eq_true rfl), (Nat.le_of_ble_eq_true rfl)⟩ (fun r h9 hp => ?_)
  obtain ⟨rfl, rfl⟩ := hp
  refine J_nf (nh2 := nh) (ck2 := 0) (sk2 := 0) (st2 := []) rfl rfl rfl rfl ?_
  refine J_app (L3 := [(100, .inl (0, 4870, .inl (upd (upd (upd (upd (upd (fun _ => 0) 63 (-1)) 1 6) 59 0) 61 0) 60 0))), (100, .inl (0, 4870, .inl (upd (upd (fun _ => 0) 63 (-1)) 1 6)))]) rfl ?_
  refine J_aload_n dX12_beans_67 rfl rfl ?_
  refine J_iload_n dX12_beans_68 rfl rfl ?_
  refine J_callV (st := []) dX12_beans_69 cv_X12_146 (c_X12_good_1 hk98) hk98 rfl rfl (Nat.le_of_ble_eq_true rfl) ⟨(Nat.le_of_ble_eq_true rfl), (Nat.le_of_ble_eq_true rfl)⟩ ⟨(Nat.le_of_ble_eq_true rfl), (Nat.le_of_ble_eq_true rfl)⟩ (fun r h9 hp => ?_)
  obtain ⟨rfl, rfl⟩ := hp
  refine J_nf (nh2 := nh) (ck2 := 0) (sk2 := 0) (st2 := [.int 0]) rfl rfl rfl rfl ?_
  refine J_app (L3 := [(98, .inr (12, [.int 0, .int 1, .ref 99, .ref 100, .ref 101, .ref 102, .ref 103, .ref 104, .ref 105, .int 0, .int (-1), .ref 106, .ref 107, .ref 108, .int 0, .int 0, .int 0, .int 0, .int 0, .int 0, .int 0, .ref 109, .int 0, .int 0, .ref 110, .ref 111, .ref 112, .ref 113, .ref 114, .ref 115, .ref 116, .ref 117, .int 0, .int 0, .int (-1), .int (-1), .ref 118, .ref 119, .ref 120, .ref 121, .ref 122, .ref 123, .ref 124, .ref 125, .ref 126, .ref 127, .ref 128, .ref 129, .int 0, .ref 130, .ref 131, .ref 132, .ref 133, .ref 134, .int 0, .int 0])), (100, .inl (0, 4870, .inl (upd (upd (upd (upd (upd (fun _ => 0) 63 (-1)) 1 6) 59 0) 61 0) 60 0))), (100, .inl (0, 4870, .inl (upd (upd (fun _ => 0) 63 (-1)) 1 6)))]) rfl ?_
  refine J_mask (L2 := [(98, .inr (12, [.int 0, .int 1, .ref 99, .ref 100, .ref 101, .ref 102, .ref 103, .ref 104, .ref 105, .int 0, .int (-1), .ref 106, .ref 107, .ref 108, .int 0, .int 0, .int 0, .int 0, .int 0, .int 0, .int 0, .ref 109, .int 0, .int 0, .ref 110, .ref 111, .ref 112, .ref 113, .ref 114, .ref 115, .ref 116, .ref 117, .int 0, .int 0, .int (-1), .int (-1), .ref 118, .ref 119, .ref 120, .ref 121, .ref 122, .ref 123, .ref 124, .ref 125, .ref 126, .ref 127, .ref 128, .ref 129, .int 0, .ref 130, .ref 131, .ref 132, .ref 133, .ref 134, .int 0, .int 0])), (100, .inl (0, 4870, .inl (upd (upd (upd (upd (upd (fun _ => 0) 63 (-1)) 1 6) 59 0) 61 0) 60 0)))]) (ks := [98, 100, 100]) [true, true, false] rfl (by decide +kernel) rfl ?_
  exact J_iret dX12_beans_72 rfl rfl (Nat.le_of_ble_eq_true rfl) (Nat.le_of_ble_eq_true rfl) ⟨rfl, rfl⟩
set_option maxHeartbeats 4000000 in
set_option maxRecDepth 100000 in
theorem c_X0_behind_8 {l : Launch} {G : jG} {nh : Nat} {fh : Nat → Option va_E}  : JM l G yX0_behind MX0_behind { frames := 0, cells := 0, slots := 0, locals := 0 } [.int 37449, .int 1] (nh, fh) (fun r h9 => r = some (.int 299593) ∧ h9 = (nh, fh)) := by
  refine JM.of (by decide) rfl (fun h => by cases h) (Nat.le_of_ble_eq_true rfl) ⟨0, rfl⟩ ?_
  refine J_hc0 (J_ls (ls2 := [some (.int 37449), some (.int 1)]) rfl ?_)
  refine J_iload_n dX0_behind_0 rfl rfl ?_
  refine J_iconst (v := 3) dX0_behind_1 (by decide) ?_
  refine J_ishl (z := 299592) dX0_behind_2 (by decide +kernel) ?_
  refine J_iload_n dX0_behind_3 rfl rfl ?_
  refine J_ior (z := 299593) dX0_behind_4 (by decide +kernel) ?_
  exact J_iret dX0_behind_5 rfl rfl (Nat.le_of_ble_eq_true rfl) (Nat.le_of_ble_eq_true rfl) ⟨rfl, rfl⟩
set_option maxHeartbeats 4000000 in
set_option maxRecDepth 100000 in
theorem c_X0_packed_15 {l : Launch} {G : jG} {nh : Nat} {fh : Nat → Option va_E} (hk51 : fh 51 = some (.inr (0, [.ref 52, .ref 53, .int 0, .int 7]))) (hk53 : fh 53 = some (.inl (0, 7, .inl (upd (upd (upd (upd (upd (upd (upd (fun _ => 0) 0 1) 1 1) 2 1) 3 1) 4 1) 5 1) 6 1)))) : JM l G yX0_packed MX0_packed { frames := 1, cells := 0, slots := 0, locals := 21 } [.ref 51] (nh, fh) (fun r h9 => r = some (.int 299593) ∧ h9 = (nh, fh)) := by
  refine JM.of (by decide) rfl (fun h => by cases h) (Nat.le_of_ble_eq_true rfl) ⟨2, rfl⟩ ?_
  refine J_hc0 (J_ls (ls2 := [some (.ref 51), none, none]) rfl ?_)
  refine J_iconst (v := 0) dX0_packed_0 (by decide) ?_
  refine J_istore_n dX0_packed_1 rfl (Nat.le_of_ble_eq_true rfl) rfl ?_
  refine J_iconst (v := 0) dX0_packed_2 (by decide) ?_
  refine J_istore_n dX0_packed_3 rfl (Nat.le_of_ble_eq_true rfl) rfl ?_
  refine J_iload_n dX0_packed_4 rfl rfl ?_
  refine J_aload_n dX0_packed_5 rfl rfl ?_
  refine J_get (v := .int 7) dX0_packed_6 fl_X0_22 hk51 rfl ?_
  refine J_icmp_ge (tgt := 29) dX0_packed_9 (by decide) (fun q => absurd q (by decide +kernel)) (fun _ => ?_)
  refine J_iload_n dX0_packed_12 rfl rfl ?_
  refine J_aload_n dX0_packed_13 rfl rfl ?_
  refine J_get (v := .ref 53) dX0_packed_14 fl_X0_15 hk51 rfl ?_
  refine J_iload_n dX0_packed_17 rfl rfl ?_
  refine J_iald (i2 := 0) (v := 1) dX0_packed_18 hk53 rfl (jin (by decide +kernel)) (by decide +kernel) rfl ?_
  refine J_callS (st := []) dX0_packed_19 cs_X0_33 (c_X0_behind_2 ) rfl rfl (Nat.le_of_ble_eq_true rfl) ⟨(Nat.le_of_ble_eq_true rfl), (Nat.le_of_ble_eq_true rfl)⟩ ⟨(Nat.le_of_ble_eq_true rfl), (Nat.le_of_ble_eq_true rfl)⟩ (fun r h9 hp => ?_)
  obtain ⟨rfl, rfl⟩ := hp
  refine J_nf (nh2 := nh) (ck2 := 0) (sk2 := 0) (st2 := [.int 1]) rfl rfl rfl rfl ?_
  refine J_istore_n dX0_packed_22 rfl (Nat.le_of_ble_eq_true rfl) rfl ?_
  refine J_iinc (v := 1) dX0_packed_23 rfl (by decide +kernel) (Nat.le_of_ble_eq_true rfl) rfl ?_
  refine J_ls (ls2 := [some (.ref 51), some (.int 1), some (.int 1)]) rfl ?_
  refine J_goto (tgt := 4) dX0_packed_26 (by decide) ?_
  refine J_iload_n dX0_packed_4 rfl rfl ?_
  refine J_aload_n dX0_packed_5 rfl rfl ?_
  refine J_get (v := .int 7) dX0_packed_6 fl_X0_22 hk51 rfl ?_
  refine J_icmp_ge (tgt := 29) dX0_packed_9 (by decide) (fun q => absurd q (by decide +kernel)) (fun _ => ?_)
  refine J_iload_n dX0_packed_12 rfl rfl ?_
  refine J_aload_n dX0_packed_13 rfl rfl ?_
  refine J_get (v := .ref 53) dX0_packed_14 fl_X0_15 hk51 rfl ?_
  refine J_iload_n dX0_packed_17 rfl rfl ?_
  refine J_iald (i2 := 1) (v := 1) dX0_packed_18 hk53 rfl (jin (by decide +kernel)) (by decide +kernel) rfl ?_
  refine J_callS (st := []) dX0_packed_19 cs_X0_33 (c_X0_behind_3 ) rfl rfl (Nat.le_of_ble_eq_true rfl) ⟨(Nat.le_of_ble_eq_true rfl), (Nat.le_of_ble_eq_true rfl)⟩ ⟨(Nat.le_of_ble_eq_true rfl), (Nat.le_of_ble_eq_true rfl)⟩ (fun r h9 hp => ?_)
  obtain ⟨rfl, rfl⟩ := hp
  refine J_nf (nh2 := nh) (ck2 := 0) (sk2 := 0) (st2 := [.int 9]) rfl rfl rfl rfl ?_
  refine J_istore_n dX0_packed_22 rfl (Nat.le_of_ble_eq_true rfl) rfl ?_
  refine J_iinc (v := 2) dX0_packed_23 rfl (by decide +kernel) (Nat.le_of_ble_eq_true rfl) rfl ?_
  refine J_ls (ls2 := [some (.ref 51), some (.int 9), some (.int 2)]) rfl ?_
  refine J_goto (tgt := 4) dX0_packed_26 (by decide) ?_
  refine J_iload_n dX0_packed_4 rfl rfl ?_
  refine J_aload_n dX0_packed_5 rfl rfl ?_
  refine J_get (v := .int 7) dX0_packed_6 fl_X0_22 hk51 rfl ?_
  refine J_icmp_ge (tgt := 29) dX0_packed_9 (by decide) (fun q => absurd q (by decide +kernel)) (fun _ => ?_)
  refine J_iload_n dX0_packed_12 rfl rfl ?_
  refine J_aload_n dX0_packed_13 rfl rfl ?_
  refine J_get (v := .ref 53) dX0_packed_14 fl_X0_15 hk51 rfl ?_
  refine J_iload_n dX0_packed_17 rfl rfl ?_
  refine J_iald (i2 := 2) (v := 1) dX0_packed_18 hk53 rfl (jin (by decide +kernel)) (by decide +kernel) rfl ?_
  refine J_callS (st := []) dX0_packed_19 cs_X0_33 (c_X0_behind_4 ) rfl rfl (Nat.le_of_ble_eq_true rfl) ⟨(Nat.le_of_ble_eq_true rfl), (Nat.le_of_ble_eq_true rfl)⟩ ⟨(Nat.le_of_ble_eq_true rfl), (Nat.le_of_ble_eq_true rfl)⟩ (fun r h9 hp => ?_)
  obtain ⟨rfl, rfl⟩ := hp
  refine J_nf (nh2 := nh) (ck2 := 0) (sk2 := 0) (st2 := [.int 73]) rfl rfl rfl rfl ?_
  refine J_istore_n dX0_packed_22 rfl (Nat.le_of_ble_eq_true rfl) rfl ?_
  refine J_iinc (v := 3) dX0_packed_23 rfl (by decide +kernel) (Nat.le_of_ble_eq_true rfl) rfl ?_
  refine J_ls (ls2 := [some (.ref 51), some (.int 73), some (.int 3)]) rfl ?_
  refine J_goto (tgt := 4) dX0_packed_26 (by decide) ?_
  refine J_iload_n dX0_packed_4 rfl rfl ?_
  refine J_aload_n dX0_packed_5 rfl rfl ?_
  refine J_get (v := .int 7) dX0_packed_6 fl_X0_22 hk51 rfl ?_
  refine J_icmp_ge (tgt := 29) dX0_packed_9 (by decide) (fun q => absurd q (by decide +kernel)) (fun _ => ?_)
  refine J_iload_n dX0_packed_12 rfl rfl ?_
  refine J_aload_n dX0_packed_13 rfl rfl ?_
  refine J_get (v := .ref 53) dX0_packed_14 fl_X0_15 hk51 rfl ?_
  refine J_iload_n dX0_packed_17 rfl rfl ?_
  refine J_iald (i2 := 3) (v := 1) dX0_packed_18 hk53 rfl (jin (by decide +kernel)) (by decide +kernel) rfl ?_
  refine J_callS (st := []) dX0_packed_19 cs_X0_33 (c_X0_behind_5 ) rfl rfl (Nat.le_of_ble_eq_true rfl) ⟨(Nat.le_of_ble_eq_true rfl), (Nat.le_of_ble_eq_true rfl)⟩ ⟨(Nat.le_of_ble_eq_true rfl), (Nat.le_of_ble_eq_true rfl)⟩ (fun r h9 hp => ?_)
  obtain ⟨rfl, rfl⟩ := hp
  refine J_nf (nh2 := nh) (ck2 := 0) (sk2 := 0) (st2 := [.int 585]) rfl rfl rfl rfl ?_
  refine J_istore_n dX0_packed_22 rfl (Nat.le_of_ble_eq_true rfl) rfl ?_
  refine J_iinc (v := 4) dX0_packed_23 rfl (by decide +kernel) (Nat.le_of_ble_eq_true rfl) rfl ?_
  refine J_ls (ls2 := [some (.ref 51), some (.int 585), some (.int 4)]) rfl ?_
  refine J_goto (tgt := 4) dX0_packed_26 (by decide) ?_
  refine J_iload_n dX0_packed_4 rfl rfl ?_
  refine J_aload_n dX0_packed_5 rfl rfl ?_
  refine J_get (v := .int 7) dX0_packed_6 fl_X0_22 hk51 rfl ?_
  refine J_icmp_ge (tgt := 29) dX0_packed_9 (by decide) (fun q => absurd q (by decide +kernel)) (fun _ => ?_)
  refine J_iload_n dX0_packed_12 rfl rfl ?_
  refine J_aload_n dX0_packed_13 rfl rfl ?_
  refine J_get (v := .ref 53) dX0_packed_14 fl_X0_15 hk51 rfl ?_
  refine J_iload_n dX0_packed_17 rfl rfl ?_
  refine J_iald (i2 := 4) (v := 1) dX0_packed_18 hk53 rfl (jin (by decide +kernel)) (by decide +kernel) rfl ?_
  refine J_callS (st := []) dX0_packed_19 cs_X0_33 (c_X0_behind_6 ) rfl rfl (Nat.le_of_ble_eq_true rfl) ⟨(Nat.le_of_ble_eq_true rfl), (Nat.le_of_ble_eq_true rfl)⟩ ⟨(Nat.le_of_ble_eq_true rfl), (Nat.le_of_ble_eq_true rfl)⟩ (fun r h9 hp => ?_)
  obtain ⟨rfl, rfl⟩ := hp
  refine J_nf (nh2 := nh) (ck2 := 0) (sk2 := 0) (st2 := [.int 4681]) rfl rfl rfl rfl ?_
  refine J_istore_n dX0_packed_22 rfl (Nat.le_of_ble_eq_true rfl) rfl ?_
  refine J_iinc (v := 5) dX0_packed_23 rfl (by decide +kernel) (Nat.le_of_ble_eq_true rfl) rfl ?_
  refine J_ls (ls2 := [some (.ref 51), some (.int 4681), some (.int 5)]) rfl ?_
  refine J_goto (tgt := 4) dX0_packed_26 (by decide) ?_
  refine J_iload_n dX0_packed_4 rfl rfl ?_
  refine J_aload_n dX0_packed_5 rfl rfl ?_
  refine J_get (v := .int 7) dX0_packed_6 fl_X0_22 hk51 rfl ?_
  refine J_icmp_ge (tgt := 29) dX0_packed_9 (by decide) (fun q => absurd q (by decide +kernel)) (fun _ => ?_)
  refine J_iload_n dX0_packed_12 rfl rfl ?_
  refine J_aload_n dX0_packed_13 rfl rfl ?_
  refine J_get (v := .ref 53) dX0_packed_14 fl_X0_15 hk51 rfl ?_
  refine J_iload_n dX0_packed_17 rfl rfl ?_
  refine J_iald (i2 := 5) (v := 1) dX0_packed_18 hk53 rfl (jin (by decide +kernel)) (by decide +kernel) rfl ?_
  refine J_callS (st := []) dX0_packed_19 cs_X0_33 (c_X0_behind_7 ) rfl rfl (Nat.le_of_ble_eq_true rfl) ⟨(Nat.le_of_ble_eq_true rfl), (Nat.le_of_ble_eq_true rfl)⟩ ⟨(Nat.le_of_ble_eq_true rfl), (Nat.le_of_ble_eq_true rfl)⟩ (fun r h9 hp => ?_)
  obtain ⟨rfl, rfl⟩ := hp
  refine J_nf (nh2 := nh) (ck2 := 0) (sk2 := 0) (st2 := [.int 37449]) rfl rfl rfl rfl ?_
  refine J_istore_n dX0_packed_22 rfl (Nat.le_of_ble_eq_true rfl) rfl ?_
  refine J_iinc (v := 6) dX0_packed_23 rfl (by decide +kernel) (Nat.le_of_ble_eq_true rfl) rfl ?_
  refine J_ls (ls2 := [some (.ref 51), some (.int 37449), some (.int 6)]) rfl ?_
  refine J_goto (tgt := 4) dX0_packed_26 (by decide) ?_
  refine J_iload_n dX0_packed_4 rfl rfl ?_
  refine J_aload_n dX0_packed_5 rfl rfl ?_
  refine J_get (v := .int 7) dX0_packed_6 fl_X0_22 hk51 rfl ?_
  refine J_icmp_ge (tgt := 29) dX0_packed_9 (by decide) (fun q => absurd q (by decide +kernel)) (fun _ => ?_)
  refine J_iload_n dX0_packed_12 rfl rfl ?_
  refine J_aload_n dX0_packed_13 rfl rfl ?_
  refine J_get (v := .ref 53) dX0_packed_14 fl_X0_15 hk51 rfl ?_
  refine J_iload_n dX0_packed_17 rfl rfl ?_
  refine J_iald (i2 := 6) (v := 1) dX0_packed_18 hk53 rfl (jin (by decide +kernel)) (by decide +kernel) rfl ?_
  refine J_callS (st := []) dX0_packed_19 cs_X0_33 (c_X0_behind_8 ) rfl rfl (Nat.le_of_ble_eq_true rfl) ⟨(Nat.le_of_ble_eq_true rfl), (Nat.le_of_ble_eq_true rfl)⟩ ⟨(Nat.le_of_ble_eq_true rfl), (Nat.le_of_ble_eq_true rfl)⟩ (fun r h9 hp => ?_)
  obtain ⟨rfl, rfl⟩ := hp
  refine J_nf (nh2 := nh) (ck2 := 0) (sk2 := 0) (st2 := [.int 299593]) rfl rfl rfl rfl ?_
  refine J_istore_n dX0_packed_22 rfl (Nat.le_of_ble_eq_true rfl) rfl ?_
  refine J_iinc (v := 7) dX0_packed_23 rfl (by decide +kernel) (Nat.le_of_ble_eq_true rfl) rfl ?_
  refine J_ls (ls2 := [some (.ref 51), some (.int 299593), some (.int 7)]) rfl ?_
  refine J_goto (tgt := 4) dX0_packed_26 (by decide) ?_
  refine J_iload_n dX0_packed_4 rfl rfl ?_
  refine J_aload_n dX0_packed_5 rfl rfl ?_
  refine J_get (v := .int 7) dX0_packed_6 fl_X0_22 hk51 rfl ?_
  refine J_icmp_ge (tgt := 29) dX0_packed_9 (by decide) (fun _ => ?_) (fun q => absurd (by decide +kernel) q)
  refine J_iload_n dX0_packed_29 rfl rfl ?_
  exact J_iret dX0_packed_30 rfl rfl (Nat.le_of_ble_eq_true rfl) (Nat.le_of_ble_eq_true rfl) ⟨rfl, rfl⟩
set_option maxHeartbeats 4000000 in
set_option maxRecDepth 100000 in
theorem c_X0_nextOrder_14 {l : Launch} {G : jG} {nh : Nat} {fh : Nat → Option va_E} (hk51 : fh 51 = some (.inr (0, [.ref 52, .ref 53, .int 1, .int 7]))) (hk53 : fh 53 = some (.inl (0, 7, .inl (upd (upd (upd (upd (upd (upd (upd (fun _ => 0) 0 1) 1 1) 2 1) 3 1) 4 1) 5 1) 6 1)))) : JM l G yX0_nextOrder MX0_nextOrder { frames := 0, cells := 0, slots := 0, locals := 0 } [.ref 51] (nh, fh) (fun r h9 => r = some (.int 0) ∧ h9 = (nh, fh)) := by
  refine JM.of (by decide) rfl (fun h => by cases h) (Nat.le_of_ble_eq_true rfl) ⟨4, rfl⟩ ?_
  refine J_hc0 (J_ls (ls2 := [some (.ref 51), none, none, none, none]) rfl ?_)
  refine J_aload_n dX0_nextOrder_0 rfl rfl ?_
  refine J_get (v := .int 7) dX0_nextOrder_1 fl_X0_22 hk51 rfl ?_
  refine J_iconst (v := 2) dX0_nextOrder_4 (by decide) ?_
  refine J_isub (z := 5) dX0_nextOrder_5 (by decide +kernel) ?_
  refine J_istore_n dX0_nextOrder_6 rfl (Nat.le_of_ble_eq_true rfl) rfl ?_
  refine J_iload_n dX0_nextOrder_7 rfl rfl ?_
  refine J_if_lt (tgt := 34) dX0_nextOrder_8 (by decide) (fun q => absurd q (by decide +kernel)) (fun _ => ?_)
  refine J_aload_n dX0_nextOrder_11 rfl rfl ?_
  refine J_get (v := .ref 53) dX0_nextOrder_12 fl_X0_15 hk51 rfl ?_
  refine J_iload_n dX0_nextOrder_15 rfl rfl ?_
  refine J_iald (i2 := 5) (v := 1) dX0_nextOrder_16 hk53 rfl (jin (by decide +kernel)) (by decide +kernel) rfl ?_
  refine J_aload_n dX0_nextOrder_17 rfl rfl ?_
  refine J_get (v := .ref 53) dX0_nextOrder_18 fl_X0_15 hk51 rfl ?_
  refine J_iload_n dX0_nextOrder_21 rfl rfl ?_
  refine J_iconst (v := 1) dX0_nextOrder_22 (by decide) ?_
  refine J_iadd (z := 6) dX0_nextOrder_23 (by decide +kernel) ?_
  refine J_iald (i2 := 6) (v := 1) dX0_nextOrder_24 hk53 rfl (jin (by decide +kernel)) (by decide +kernel) rfl ?_
  refine J_icmp_lt (tgt := 34) dX0_nextOrder_25 (by decide) (fun q => absurd q (by decide +kernel)) (fun _ => ?_)
  refine J_iinc (v := 4) dX0_nextOrder_28 rfl (by decide +kernel) (Nat.le_of_ble_eq_true rfl) rfl ?_
  refine J_ls (ls2 := [some (.ref 51), some (.int 4), none, none, none]) rfl ?_
  refine J_goto (tgt := 7) dX0_nextOrder_31 (by decide) ?_
  refine J_iload_n dX0_nextOrder_7 rfl rfl ?_
  refine J_if_lt (tgt := 34) dX0_nextOrder_8 (by decide) (fun q => absurd q (by decide +kernel)) (fun _ => ?_)
  refine J_aload_n dX0_nextOrder_11 rfl rfl ?_
  refine J_get (v := .ref 53) dX0_nextOrder_12 fl_X0_15 hk51 rfl ?_
  refine J_iload_n dX0_nextOrder_15 rfl rfl ?_
  refine J_iald (i2 := 4) (v := 1) dX0_nextOrder_16 hk53 rfl (jin (by decide +kernel)) (by decide +kernel) rfl ?_
  refine J_aload_n dX0_nextOrder_17 rfl rfl ?_
  refine J_get (v := .ref 53) dX0_nextOrder_18 fl_X0_15 hk51 rfl ?_
  refine J_iload_n dX0_nextOrder_21 rfl rfl ?_
  refine J_iconst (v := 1) dX0_nextOrder_22 (by decide) ?_
  refine J_iadd (z := 5) dX0_nextOrder_23 (by decide +kernel) ?_
  refine J_iald (i2 := 5) (v := 1) dX0_nextOrder_24 hk53 rfl (jin (by decide +kernel)) (by decide +kernel) rfl ?_
  refine J_icmp_lt (tgt := 34) dX0_nextOrder_25 (by decide) (fun q => absurd q (by decide +kernel)) (fun _ => ?_)
  refine J_iinc (v := 3) dX0_nextOrder_28 rfl (by decide +kernel) (Nat.le_of_ble_eq_true rfl) rfl ?_
  refine J_ls (ls2 := [some (.ref 51), some (.int 3), none, none, none]) rfl ?_
  refine J_goto (tgt := 7) dX0_nextOrder_31 (by decide) ?_
  refine J_iload_n dX0_nextOrder_7 rfl rfl ?_
  refine J_if_lt (tgt := 34) dX0_nextOrder_8 (by decide) (fun q => absurd q (by decide +kernel)) (fun _ => ?_)
  refine J_aload_n dX0_nextOrder_11 rfl rfl ?_
  refine J_get (v := .ref 53) dX0_nextOrder_12 fl_X0_15 hk51 rfl ?_
  refine J_iload_n dX0_nextOrder_15 rfl rfl ?_
  refine J_iald (i2 := 3) (v := 1) dX0_nextOrder_16 hk53 rfl (jin (by decide +kernel)) (by decide +kernel) rfl ?_
  refine J_aload_n dX0_nextOrder_17 rfl rfl ?_
  refine J_get (v := .ref 53) dX0_nextOrder_18 fl_X0_15 hk51 rfl ?_
  refine J_iload_n dX0_nextOrder_21 rfl rfl ?_
  refine J_iconst (v := 1) dX0_nextOrder_22 (by decide) ?_
  refine J_iadd (z := 4) dX0_nextOrder_23 (by decide +kernel) ?_
  refine J_iald (i2 := 4) (v := 1) dX0_nextOrder_24 hk53 rfl (jin (by decide +kernel)) (by decide +kernel) rfl ?_
  refine J_icmp_lt (tgt := 34) dX0_nextOrder_25 (by decide) (fun q => absurd q (by decide +kernel)) (fun _ => ?_)
  refine J_iinc (v := 2) dX0_nextOrder_28 rfl (by decide +kernel) (Nat.le_of_ble_eq_true rfl) rfl ?_
  refine J_ls (ls2 := [some (.ref 51), some (.int 2), none, none, none]) rfl ?_
  refine J_goto (tgt := 7) dX0_nextOrder_31 (by decide) ?_
  refine J_iload_n dX0_nextOrder_7 rfl rfl ?_
  refine J_if_lt (tgt := 34) dX0_nextOrder_8 (by decide) (fun q => absurd q (by decide +kernel)) (fun _ => ?_)
  refine J_aload_n dX0_nextOrder_11 rfl rfl ?_
  refine J_get (v := .ref 53) dX0_nextOrder_12 fl_X0_15 hk51 rfl ?_
  refine J_iload_n dX0_nextOrder_15 rfl rfl ?_
  refine J_iald (i2 := 2) (v := 1) dX0_nextOrder_16 hk53 rfl (jin (by decide +kernel)) (by decide +kernel) rfl ?_
  refine J_aload_n dX0_nextOrder_17 rfl rfl ?_
  refine J_get (v := .ref 53) dX0_nextOrder_18 fl_X0_15 hk51 rfl ?_
  refine J_iload_n dX0_nextOrder_21 rfl rfl ?_
  refine J_iconst (v := 1) dX0_nextOrder_22 (by decide) ?_
  refine J_iadd (z := 3) dX0_nextOrder_23 (by decide +kernel) ?_
  refine J_iald (i2 := 3) (v := 1) dX0_nextOrder_24 hk53 rfl (jin (by decide +kernel)) (by decide +kernel) rfl ?_
  refine J_icmp_lt (tgt := 34) dX0_nextOrder_25 (by decide) (fun q => absurd q (by decide +kernel)) (fun _ => ?_)
  refine J_iinc (v := 1) dX0_nextOrder_28 rfl (by decide +kernel) (Nat.le_of_ble_eq_true rfl) rfl ?_
  refine J_ls (ls2 := [some (.ref 51), some (.int 1), none, none, none]) rfl ?_
  refine J_goto (tgt := 7) dX0_nextOrder_31 (by decide) ?_
  refine J_iload_n dX0_nextOrder_7 rfl rfl ?_
  refine J_if_lt (tgt := 34) dX0_nextOrder_8 (by decide) (fun q => absurd q (by decide +kernel)) (fun _ => ?_)
  refine J_aload_n dX0_nextOrder_11 rfl rfl ?_
  refine J_get (v := .ref 53) dX0_nextOrder_12 fl_X0_15 hk51 rfl ?_
  refine J_iload_n dX0_nextOrder_15 rfl rfl ?_
  refine J_iald (i2 := 1) (v := 1) dX0_nextOrder_16 hk53 rfl (jin (by decide +kernel)) (by decide +kernel) rfl ?_
  refine J_aload_n dX0_nextOrder_17 rfl rfl ?_
  refine J_get (v := .ref 53) dX0_nextOrder_18 fl_X0_15 hk51 rfl ?_
  refine J_iload_n dX0_nextOrder_21 rfl rfl ?_
  refine J_iconst (v := 1) dX0_nextOrder_22 (by decide) ?_
  refine J_iadd (z := 2) dX0_nextOrder_23 (by decide +kernel) ?_
  refine J_iald (i2 := 2) (v := 1) dX0_nextOrder_24 hk53 rfl (jin (by decide +kernel)) (by decide +kernel) rfl ?_
  refine J_icmp_lt (tgt := 34) dX0_nextOrder_25 (by decide) (fun q => absurd q (by decide +kernel)) (fun _ => ?_)
  refine J_iinc (v := 0) dX0_nextOrder_28 rfl (by decide +kernel) (Nat.le_of_ble_eq_true rfl) rfl ?_
  refine J_ls (ls2 := [some (.ref 51), some (.int 0), none, none, none]) rfl ?_
  refine J_goto (tgt := 7) dX0_nextOrder_31 (by decide) ?_
  refine J_iload_n dX0_nextOrder_7 rfl rfl ?_
  refine J_if_lt (tgt := 34) dX0_nextOrder_8 (by decide) (fun q => absurd q (by decide +kernel)) (fun _ => ?_)
  refine J_aload_n dX0_nextOrder_11 rfl rfl ?_
  refine J_get (v := .ref 53) dX0_nextOrder_12 fl_X0_15 hk51 rfl ?_
  refine J_iload_n dX0_nextOrder_15 rfl rfl ?_
  refine J_iald (i2 := 0) (v := 1) dX0_nextOrder_16 hk53 rfl (jin (by decide +kernel)) (by decide +kernel) rfl ?_
  refine J_aload_n dX0_nextOrder_17 rfl rfl ?_
  refine J_get (v := .ref 53) dX0_nextOrder_18 fl_X0_15 hk51 rfl ?_
  refine J_iload_n dX0_nextOrder_21 rfl rfl ?_
  refine J_iconst (v := 1) dX0_nextOrder_22 (by decide) ?_
  refine J_iadd (z := 1) dX0_nextOrder_23 (by decide +kernel) ?_
  refine J_iald (i2 := 1) (v := 1) dX0_nextOrder_24 hk53 rfl (jin (by decide +kernel)) (by decide +kernel) rfl ?_
  refine J_icmp_lt (tgt := 34) dX0_nextOrder_25 (by decide) (fun q => absurd q (by decide +kernel)) (fun _ => ?_)
  refine J_iinc (v := (-1)) dX0_nextOrder_28 rfl (by decide +kernel) (Nat.le_of_ble_eq_true rfl) rfl ?_
  refine J_ls (ls2 := [some (.ref 51), some (.int (-1)), none, none, none]) rfl ?_
  refine J_goto (tgt := 7) dX0_nextOrder_31 (by decide) ?_
  refine J_iload_n dX0_nextOrder_7 rfl rfl ?_
  refine J_if_lt (tgt := 34) dX0_nextOrder_8 (by decide) (fun _ => ?_) (fun q => absurd (by decide +kernel) q)
  refine J_iload_n dX0_nextOrder_34 rfl rfl ?_
  refine J_if_ge (tgt := 40) dX0_nextOrder_35 (by decide) (fun q => absurd q (by decide +kernel)) (fun _ => ?_)
  refine J_iconst (v := 0) dX0_nextOrder_38 (by decide) ?_
  exact J_iret dX0_nextOrder_39 rfl (by decide +kernel) (Nat.le_of_ble_eq_true rfl) (Nat.le_of_ble_eq_true rfl) ⟨rfl, rfl⟩
set_option maxHeartbeats 4000000 in
set_option maxRecDepth 100000 in
theorem c_X0_settle_17 {l : Launch} {G : jG} {nh : Nat} {fh : Nat → Option va_E} (hk2 : fh 2 = some (.inl (0, 5, .inl (upd (fun _ => 0) 1 7)))) (hk51 : fh 51 = some (.inr (0, [.ref 52, .ref 53, .int 1, .int 0]))) (hk52 : fh 52 = some (.inl (0, 1260, .inl (upd (fun _ => 0) 0 0)))) (hk53 : fh 53 = some (.inl (0, 7, .inl (fun _ => 0)))) : JM l G yX0_settle MX0_settle { frames := 2, cells := 0, slots := 0, locals := 43 } [.ref 51, .ref 2] (nh, fh) (fun r h9 => r = none ∧ h9 = (nh, hc fh [(51, .inr (0, [.ref 52, .ref 53, .int 1, .int 7])), (52, .inl (0, 1260, .inl (upd (upd (fun _ => 0) 0 0) 0 299593))), (53, .inl (0, 7, .inl (upd (upd (upd (upd (upd (upd (upd (fun _ => 0) 0 1) 1 1) 2 1) 3 1) 4 1) 5 1) 6 1)))])) := by
  refine JM.of (by decide) rfl (fun h => by cases h) (Nat.le_of_ble_eq_true rfl) ⟨2, rfl⟩ ?_
  refine J_hc0 (J_ls (ls2 := [some (.ref 51), some (.ref 2), none, none]) rfl ?_)
  refine J_aload_n dX0_settle_0 rfl rfl ?_
  refine J_iconst (v := 0) dX0_settle_1 (by decide) ?_
  refine K_put (fs2 := [.ref 52, .ref 53, .int 1, .int 0]) dX0_settle_2 fw_X0_22 hk51 (Nat.le_of_ble_eq_true rfl) (fun _ => ⟨rfl, rfl⟩) rfl ?_
  refine J_iconst (v := 0) dX0_settle_5 (by decide) ?_
  refine J_istore_n dX0_settle_6 rfl (Nat.le_of_ble_eq_true rfl) rfl ?_
  refine J_iload_n dX0_settle_7 rfl rfl ?_
  refine J_iconst (v := 5) dX0_settle_8 (by decide) ?_
  refine J_icmp_ge (tgt := 62) dX0_settle_9 (by decide) (fun q => absurd q (by decide +kernel)) (fun _ => ?_)
  refine J_iconst (v := 0) dX0_settle_12 (by decide) ?_
  refine J_istore_n dX0_settle_13 rfl (Nat.le_of_ble_eq_true rfl) rfl ?_
  refine J_iload_n dX0_settle_14 rfl rfl ?_
  refine J_aload_n dX0_settle_15 rfl rfl ?_
  refine J_iload_n dX0_settle_16 rfl rfl ?_
  refine J_iald (i2 := 0) (v := 0) dX0_settle_17 hk2 rfl (jin (by decide +kernel)) (by decide +kernel) rfl ?_
  refine J_icmp_ge (tgt := 56) dX0_settle_18 (by decide) (fun _ => ?_) (fun q => absurd (by decide +kernel) q)
  refine J_iinc (v := 1) dX0_settle_56 rfl (by decide +kernel) (Nat.le_of_ble_eq_true rfl) rfl ?_
  refine J_ls (ls2 := [some (.ref 51), some (.ref 2), some (.int 1), some (.int 0)]) rfl ?_
  refine J_goto (tgt := 7) dX0_settle_59 (by decide) ?_
  refine J_iload_n dX0_settle_7 rfl rfl ?_
  refine J_iconst (v := 5) dX0_settle_8 (by decide) ?_
  refine J_icmp_ge (tgt := 62) dX0_settle_9 (by decide) (fun q => absurd q (by decide +kernel)) (fun _ => ?_)
  refine J_iconst (v := 0) dX0_settle_12 (by decide) ?_
  refine J_istore_n dX0_settle_13 rfl (Nat.le_of_ble_eq_true rfl) rfl ?_
  refine J_iload_n dX0_settle_14 rfl rfl ?_
  refine J_aload_n dX0_settle_15 rfl rfl ?_
  refine J_iload_n dX0_settle_16 rfl rfl ?_
  refine J_iald (i2 := 1) (v := 7) dX0_settle_17 hk2 rfl (jin (by decide +kernel)) (by decide +kernel) rfl ?_
  refine J_icmp_ge (tgt := 56) dX0_settle_18 (by decide) (fun q => absurd q (by decide +kernel)) (fun _ => ?_)
  refine J_aload_n dX0_settle_21 rfl rfl ?_
  refine J_get (v := .int 0) dX0_settle_22 fl_X0_22 rfl rfl ?_
  refine J_bipush (v := 7) dX0_settle_25 (by decide +kernel) ?_
  refine J_icmp_ge (tgt := 56) dX0_settle_27 (by decide) (fun q => absurd q (by decide +kernel)) (fun _ => ?_)
  refine J_aload_n dX0_settle_30 rfl rfl ?_
  refine J_get (v := .ref 53) dX0_settle_31 fl_X0_15 rfl rfl ?_
  refine J_aload_n dX0_settle_34 rfl rfl ?_
  refine J_get (v := .int 0) dX0_settle_35 fl_X0_22 rfl rfl ?_
  refine J_iload_n dX0_settle_38 rfl rfl ?_
  refine K_iast (i2 := 0) dX0_settle_39 hk53 rfl (jin (by decide +kernel)) (by decide +kernel) ?_
  refine J_aload_n dX0_settle_40 rfl rfl ?_
  refine J_dup dX0_settle_41 rfl ?_
  refine J_get (v := .int 0) dX0_settle_42 fl_X0_22 rfl rfl ?_
  refine J_iconst (v := 1) dX0_settle_45 (by decide) ?_
  refine J_iadd (z := 1) dX0_settle_46 (by decide +kernel) ?_
  refine K_put (fs2 := [.ref 52, .ref 53, .int 1, .int 1]) dX0_settle_47 fw_X0_22 rfl (Nat.le_of_ble_eq_true rfl) (fun _ => ⟨rfl, rfl⟩) rfl ?_
  refine J_iinc (v := 1) dX0_settle_50 rfl (by decide +kernel) (Nat.le_of_ble_eq_true rfl) rfl ?_
  refine J_ls (ls2 := [some (.ref 51), some (.ref 2), some (.int 1), some (.int 1)]) rfl ?_
  refine J_goto (tgt := 14) dX0_settle_53 (by decide) ?_
  refine J_iload_n dX0_settle_14 rfl rfl ?_
  refine J_aload_n dX0_settle_15 rfl rfl ?_
  refine J_iload_n dX0_settle_16 rfl rfl ?_
  refine J_iald (i2 := 1) (v := 7) dX0_settle_17 hk2 rfl (jin (by decide +kernel)) (by decide +kernel) rfl ?_
  refine J_icmp_ge (tgt := 56) dX0_settle_18 (by decide) (fun q => absurd q (by decide +kernel)) (fun _ => ?_)
  refine J_aload_n dX0_settle_21 rfl rfl ?_
  refine J_get (v := .int 1) dX0_settle_22 fl_X0_22 rfl rfl ?_
  refine J_bipush (v := 7) dX0_settle_25 (by decide +kernel) ?_
  refine J_icmp_ge (tgt := 56) dX0_settle_27 (by decide) (fun q => absurd q (by decide +kernel)) (fun _ => ?_)
  refine J_aload_n dX0_settle_30 rfl rfl ?_
  refine J_get (v := .ref 53) dX0_settle_31 fl_X0_15 rfl rfl ?_
  refine J_aload_n dX0_settle_34 rfl rfl ?_
  refine J_get (v := .int 1) dX0_settle_35 fl_X0_22 rfl rfl ?_
  refine J_iload_n dX0_settle_38 rfl rfl ?_
  refine K_iast (i2 := 1) dX0_settle_39 rfl rfl (jin (by decide +kernel)) (by decide +kernel) ?_
  refine J_aload_n dX0_settle_40 rfl rfl ?_
  refine J_dup dX0_settle_41 rfl ?_
  refine J_get (v := .int 1) dX0_settle_42 fl_X0_22 rfl rfl ?_
  refine J_iconst (v := 1) dX0_settle_45 (by decide) ?_
  refine J_iadd (z := 2) dX0_settle_46 (by decide +kernel) ?_
  refine K_put (fs2 := [.ref 52, .ref 53, .int 1, .int 2]) dX0_settle_47 fw_X0_22 rfl (Nat.le_of_ble_eq_true rfl) (fun _ => ⟨rfl, rfl⟩) rfl ?_
  refine J_iinc (v := 2) dX0_settle_50 rfl (by decide +kernel) (Nat.le_of_ble_eq_true rfl) rfl ?_
  refine J_ls (ls2 := [some (.ref 51), some (.ref 2), some (.int 1), some (.int 2)]) rfl ?_
  refine J_goto (tgt := 14) dX0_settle_53 (by decide) ?_
  refine J_iload_n dX0_settle_14 rfl rfl ?_
  refine J_aload_n dX0_settle_15 rfl rfl ?_
  refine J_iload_n dX0_settle_16 rfl rfl ?_
  refine J_iald (i2 := 1) (v := 7) dX0_settle_17 hk2 rfl (jin (by decide +kernel)) (by decide +kernel) rfl ?_
  refine J_icmp_ge (tgt := 56) dX0_settle_18 (by decide) (fun q => absurd q (by decide +kernel)) (fun _ => ?_)
  refine J_aload_n dX0_settle_21 rfl rfl ?_
  refine J_get (v := .int 2) dX0_settle_22 fl_X0_22 rfl rfl ?_
  refine J_bipush (v := 7) dX0_settle_25 (by decide +kernel) ?_
  refine J_icmp_ge (tgt := 56) dX0_settle_27 (by decide) (fun q => absurd q (by decide +kernel)) (fun _ => ?_)
  refine J_aload_n dX0_settle_30 rfl rfl ?_
  refine J_get (v := .ref 53) dX0_settle_31 fl_X0_15 rfl rfl ?_
  refine J_aload_n dX0_settle_34 rfl rfl ?_
  refine J_get (v := .int 2) dX0_settle_35 fl_X0_22 rfl rfl ?_
  refine J_iload_n dX0_settle_38 rfl rfl ?_
  refine K_iast (i2 := 2) dX0_settle_39 rfl rfl (jin (by decide +kernel)) (by decide +kernel) ?_
  refine J_aload_n dX0_settle_40 rfl rfl ?_
  refine J_dup dX0_settle_41 rfl ?_
  refine J_get (v := .int 2) dX0_settle_42 fl_X0_22 rfl rfl ?_
  refine J_iconst (v := 1) dX0_settle_45 (by decide) ?_
  refine J_iadd (z := 3) dX0_settle_46 (by decide +kernel) ?_
  refine K_put (fs2 := [.ref 52, .ref 53, .int 1, .int 3]) dX0_settle_47 fw_X0_22 rfl (Nat.le_of_ble_eq_true rfl) (fun _ => ⟨rfl, rfl⟩) rfl ?_
  refine J_iinc (v := 3) dX0_settle_50 rfl (by decide +kernel) (Nat.le_of_ble_eq_true rfl) rfl ?_
  refine J_ls (ls2 := [some (.ref 51), some (.ref 2), some (.int 1), some (.int 3)]) rfl ?_
  refine J_goto (tgt := 14) dX0_settle_53 (by decide) ?_
  refine J_iload_n dX0_settle_14 rfl rfl ?_
  refine J_aload_n dX0_settle_15 rfl rfl ?_
  refine J_iload_n dX0_settle_16 rfl rfl ?_
  refine J_iald (i2 := 1) (v := 7) dX0_settle_17 hk2 rfl (jin (by decide +kernel)) (by decide +kernel) rfl ?_
  refine J_icmp_ge (tgt := 56) dX0_settle_18 (by decide) (fun q => absurd q (by decide +kernel)) (fun _ => ?_)
  refine J_aload_n dX0_settle_21 rfl rfl ?_
  refine J_get (v := .int 3) dX0_settle_22 fl_X0_22 rfl rfl ?_
  refine J_bipush (v := 7) dX0_settle_25 (by decide +kernel) ?_
  refine J_icmp_ge (tgt := 56) dX0_settle_27 (by decide) (fun q => absurd q (by decide +kernel)) (fun _ => ?_)
  refine J_aload_n dX0_settle_30 rfl rfl ?_
  refine J_get (v := .ref 53) dX0_settle_31 fl_X0_15 rfl rfl ?_
  refine J_aload_n dX0_settle_34 rfl rfl ?_
  refine J_get (v := .int 3) dX0_settle_35 fl_X0_22 rfl rfl ?_
  refine J_iload_n dX0_settle_38 rfl rfl ?_
  refine K_iast (i2 := 3) dX0_settle_39 rfl rfl (jin (by decide +kernel)) (by decide +kernel) ?_
  refine J_aload_n dX0_settle_40 rfl rfl ?_
  refine J_dup dX0_settle_41 rfl ?_
  refine J_get (v := .int 3) dX0_settle_42 fl_X0_22 rfl rfl ?_
  refine J_iconst (v := 1) dX0_settle_45 (by decide) ?_
  refine J_iadd (z := 4) dX0_settle_46 (by decide +kernel) ?_
  refine K_put (fs2 := [.ref 52, .ref 53, .int 1, .int 4]) dX0_settle_47 fw_X0_22 rfl (Nat.le_of_ble_eq_true rfl) (fun _ => ⟨rfl, rfl⟩) rfl ?_
  refine J_iinc (v := 4) dX0_settle_50 rfl (by decide +kernel) (Nat.le_of_ble_eq_true rfl) rfl ?_
  refine J_ls (ls2 := [some (.ref 51), some (.ref 2), some (.int 1), some (.int 4)]) rfl ?_
  refine J_goto (tgt := 14) dX0_settle_53 (by decide) ?_
  refine J_iload_n dX0_settle_14 rfl rfl ?_
  refine J_aload_n dX0_settle_15 rfl rfl ?_
  refine J_iload_n dX0_settle_16 rfl rfl ?_
  refine J_iald (i2 := 1) (v := 7) dX0_settle_17 hk2 rfl (jin (by decide +kernel)) (by decide +kernel) rfl ?_
  refine J_icmp_ge (tgt := 56) dX0_settle_18 (by decide) (fun q => absurd q (by decide +kernel)) (fun _ => ?_)
  refine J_aload_n dX0_settle_21 rfl rfl ?_
  refine J_get (v := .int 4) dX0_settle_22 fl_X0_22 rfl rfl ?_
  refine J_bipush (v := 7) dX0_settle_25 (by decide +kernel) ?_
  refine J_icmp_ge (tgt := 56) dX0_settle_27 (by decide) (fun q => absurd q (by decide +kernel)) (fun _ => ?_)
  refine J_aload_n dX0_settle_30 rfl rfl ?_
  refine J_get (v := .ref 53) dX0_settle_31 fl_X0_15 rfl rfl ?_
  refine J_aload_n dX0_settle_34 rfl rfl ?_
  refine J_get (v := .int 4) dX0_settle_35 fl_X0_22 rfl rfl ?_
  refine J_iload_n dX0_settle_38 rfl rfl ?_
  refine K_iast (i2 := 4) dX0_settle_39 rfl rfl (jin (by decide +kernel)) (by decide +kernel) ?_
  refine J_aload_n dX0_settle_40 rfl rfl ?_
  refine J_dup dX0_settle_41 rfl ?_
  refine J_get (v := .int 4) dX0_settle_42 fl_X0_22 rfl rfl ?_
  refine J_iconst (v := 1) dX0_settle_45 (by decide) ?_
  refine J_iadd (z := 5) dX0_settle_46 (by decide +kernel) ?_
  refine K_put (fs2 := [.ref 52, .ref 53, .int 1, .int 5]) dX0_settle_47 fw_X0_22 rfl (Nat.le_of_ble_eq_true rfl) (fun _ => ⟨rfl, rfl⟩) rfl ?_
  refine J_iinc (v := 5) dX0_settle_50 rfl (by decide +kernel) (Nat.le_of_ble_eq_true rfl) rfl ?_
  refine J_ls (ls2 := [some (.ref 51), some (.ref 2), some (.int 1), some (.int 5)]) rfl ?_
  refine J_goto (tgt := 14) dX0_settle_53 (by decide) ?_
  refine J_iload_n dX0_settle_14 rfl rfl ?_
  refine J_aload_n dX0_settle_15 rfl rfl ?_
  refine J_iload_n dX0_settle_16 rfl rfl ?_
  refine J_iald (i2 := 1) (v := 7) dX0_settle_17 hk2 rfl (jin (by decide +kernel)) (by decide +kernel) rfl ?_
  refine J_icmp_ge (tgt := 56) dX0_settle_18 (by decide) (fun q => absurd q (by decide +kernel)) (fun _ => ?_)
  refine J_aload_n dX0_settle_21 rfl rfl ?_
  refine J_get (v := .int 5) dX0_settle_22 fl_X0_22 rfl rfl ?_
  refine J_bipush (v := 7) dX0_settle_25 (by decide +kernel) ?_
  refine J_icmp_ge (tgt := 56) dX0_settle_27 (by decide) (fun q => absurd q (by decide +kernel)) (fun _ => ?_)
  refine J_aload_n dX0_settle_30 rfl rfl ?_
  refine J_get (v := .ref 53) dX0_settle_31 fl_X0_15 rfl rfl ?_
  refine J_aload_n dX0_settle_34 rfl rfl ?_
  refine J_get (v := .int 5) dX0_settle_35 fl_X0_22 rfl rfl ?_
  refine J_iload_n dX0_settle_38 rfl rfl ?_
  refine K_iast (i2 := 5) dX0_settle_39 rfl rfl (jin (by decide +kernel)) (by decide +kernel) ?_
  refine J_aload_n dX0_settle_40 rfl rfl ?_
  refine J_dup dX0_settle_41 rfl ?_
  refine J_get (v := .int 5) dX0_settle_42 fl_X0_22 rfl rfl ?_
  refine J_iconst (v := 1) dX0_settle_45 (by decide) ?_
  refine J_iadd (z := 6) dX0_settle_46 (by decide +kernel) ?_
  refine K_put (fs2 := [.ref 52, .ref 53, .int 1, .int 6]) dX0_settle_47 fw_X0_22 rfl (Nat.le_of_ble_eq_true rfl) (fun _ => ⟨rfl, rfl⟩) rfl ?_
  refine J_iinc (v := 6) dX0_settle_50 rfl (by decide +kernel) (Nat.le_of_ble_eq_true rfl) rfl ?_
  refine J_ls (ls2 := [some (.ref 51), some (.ref 2), some (.int 1), some (.int 6)]) rfl ?_
  refine J_goto (tgt := 14) dX0_settle_53 (by decide) ?_
  refine J_iload_n dX0_settle_14 rfl rfl ?_
  refine J_aload_n dX0_settle_15 rfl rfl ?_
  refine J_iload_n dX0_settle_16 rfl rfl ?_
  refine J_iald (i2 := 1) (v := 7) dX0_settle_17 hk2 rfl (jin (by decide +kernel)) (by decide +kernel) rfl ?_
  refine J_icmp_ge (tgt := 56) dX0_settle_18 (by decide) (fun q => absurd q (by decide +kernel)) (fun _ => ?_)
  refine J_aload_n dX0_settle_21 rfl rfl ?_
  refine J_get (v := .int 6) dX0_settle_22 fl_X0_22 rfl rfl ?_
  refine J_bipush (v := 7) dX0_settle_25 (by decide +kernel) ?_
  refine J_icmp_ge (tgt := 56) dX0_settle_27 (by decide) (fun q => absurd q (by decide +kernel)) (fun _ => ?_)
  refine J_aload_n dX0_settle_30 rfl rfl ?_
  refine J_get (v := .ref 53) dX0_settle_31 fl_X0_15 rfl rfl ?_
  refine J_aload_n dX0_settle_34 rfl rfl ?_
  refine J_get (v := .int 6) dX0_settle_35 fl_X0_22 rfl rfl ?_
  refine J_iload_n dX0_settle_38 rfl rfl ?_
  refine K_iast (i2 := 6) dX0_settle_39 rfl rfl (jin (by decide +kernel)) (by decide +kernel) ?_
  refine J_aload_n dX0_settle_40 rfl rfl ?_
  refine J_dup dX0_settle_41 rfl ?_
  refine J_get (v := .int 6) dX0_settle_42 fl_X0_22 rfl rfl ?_
  refine J_iconst (v := 1) dX0_settle_45 (by decide) ?_
  refine J_iadd (z := 7) dX0_settle_46 (by decide +kernel) ?_
  refine K_put (fs2 := [.ref 52, .ref 53, .int 1, .int 7]) dX0_settle_47 fw_X0_22 rfl (Nat.le_of_ble_eq_true rfl) (fun _ => ⟨rfl, rfl⟩) rfl ?_
  refine J_iinc (v := 7) dX0_settle_50 rfl (by decide +kernel) (Nat.le_of_ble_eq_true rfl) rfl ?_
  refine J_ls (ls2 := [some (.ref 51), some (.ref 2), some (.int 1), some (.int 7)]) rfl ?_
  refine J_goto (tgt := 14) dX0_settle_53 (by decide) ?_
  refine J_iload_n dX0_settle_14 rfl rfl ?_
  refine J_aload_n dX0_settle_15 rfl rfl ?_
  refine J_iload_n dX0_settle_16 rfl rfl ?_
  refine J_iald (i2 := 1) (v := 7) dX0_settle_17 hk2 rfl (jin (by decide +kernel)) (by decide +kernel) rfl ?_
  refine J_icmp_ge (tgt := 56) dX0_settle_18 (by decide) (fun _ => ?_) (fun q => absurd (by decide +kernel) q)
  refine J_iinc (v := 2) dX0_settle_56 rfl (by decide +kernel) (Nat.le_of_ble_eq_true rfl) rfl ?_
  refine J_ls (ls2 := [some (.ref 51), some (.ref 2), some (.int 2), some (.int 7)]) rfl ?_
  refine J_goto (tgt := 7) dX0_settle_59 (by decide) ?_
  refine J_iload_n dX0_settle_7 rfl rfl ?_
  refine J_iconst (v := 5) dX0_settle_8 (by decide) ?_
  refine J_icmp_ge (tgt := 62) dX0_settle_9 (by decide) (fun q => absurd q (by decide +kernel)) (fun _ => ?_)
  refine J_iconst (v := 0) dX0_settle_12 (by decide) ?_
  refine J_istore_n dX0_settle_13 rfl (Nat.le_of_ble_eq_true rfl) rfl ?_
  refine J_iload_n dX0_settle_14 rfl rfl ?_
  refine J_aload_n dX0_settle_15 rfl rfl ?_
  refine J_iload_n dX0_settle_16 rfl rfl ?_
  refine J_iald (i2 := 2) (v := 0) dX0_settle_17 hk2 rfl (jin (by decide +kernel)) (by decide +kernel) rfl ?_
  refine J_icmp_ge (tgt := 56) dX0_settle_18 (by decide) (fun _ => ?_) (fun q => absurd (by decide +kernel) q)
  refine J_iinc (v := 3) dX0_settle_56 rfl (by decide +kernel) (Nat.le_of_ble_eq_true rfl) rfl ?_
  refine J_ls (ls2 := [some (.ref 51), some (.ref 2), some (.int 3), some (.int 0)]) rfl ?_
  refine J_goto (tgt := 7) dX0_settle_59 (by decide) ?_
  refine J_iload_n dX0_settle_7 rfl rfl ?_
  refine J_iconst (v := 5) dX0_settle_8 (by decide) ?_
  refine J_icmp_ge (tgt := 62) dX0_settle_9 (by decide) (fun q => absurd q (by decide +kernel)) (fun _ => ?_)
  refine J_iconst (v := 0) dX0_settle_12 (by decide) ?_
  refine J_istore_n dX0_settle_13 rfl (Nat.le_of_ble_eq_true rfl) rfl ?_
  refine J_iload_n dX0_settle_14 rfl rfl ?_
  refine J_aload_n dX0_settle_15 rfl rfl ?_
  refine J_iload_n dX0_settle_16 rfl rfl ?_
  refine J_iald (i2 := 3) (v := 0) dX0_settle_17 hk2 rfl (jin (by decide +kernel)) (by decide +kernel) rfl ?_
  refine J_icmp_ge (tgt := 56) dX0_settle_18 (by decide) (fun _ => ?_) (fun q => absurd (by decide +kernel) q)
  refine J_iinc (v := 4) dX0_settle_56 rfl (by decide +kernel) (Nat.le_of_ble_eq_true rfl) rfl ?_
  refine J_ls (ls2 := [some (.ref 51), some (.ref 2), some (.int 4), some (.int 0)]) rfl ?_
  refine J_goto (tgt := 7) dX0_settle_59 (by decide) ?_
  refine J_iload_n dX0_settle_7 rfl rfl ?_
  refine J_iconst (v := 5) dX0_settle_8 (by decide) ?_
  refine J_icmp_ge (tgt := 62) dX0_settle_9 (by decide) (fun q => absurd q (by decide +kernel)) (fun _ => ?_)
  refine J_iconst (v := 0) dX0_settle_12 (by decide) ?_
  refine J_istore_n dX0_settle_13 rfl (Nat.le_of_ble_eq_true rfl) rfl ?_
  refine J_iload_n dX0_settle_14 rfl rfl ?_
  refine J_aload_n dX0_settle_15 rfl rfl ?_
  refine J_iload_n dX0_settle_16 rfl rfl ?_
  refine J_iald (i2 := 4) (v := 0) dX0_settle_17 hk2 rfl (jin (by decide +kernel)) (by decide +kernel) rfl ?_
  refine J_icmp_ge (tgt := 56) dX0_settle_18 (by decide) (fun _ => ?_) (fun q => absurd (by decide +kernel) q)
  refine J_iinc (v := 5) dX0_settle_56 rfl (by decide +kernel) (Nat.le_of_ble_eq_true rfl) rfl ?_
  refine J_ls (ls2 := [some (.ref 51), some (.ref 2), some (.int 5), some (.int 0)]) rfl ?_
  refine J_goto (tgt := 7) dX0_settle_59 (by decide) ?_
  refine J_iload_n dX0_settle_7 rfl rfl ?_
  refine J_iconst (v := 5) dX0_settle_8 (by decide) ?_
  refine J_icmp_ge (tgt := 62) dX0_settle_9 (by decide) (fun _ => ?_) (fun q => absurd (by decide +kernel) q)
  refine J_aload_n dX0_settle_62 rfl rfl ?_
  refine J_iconst (v := 0) dX0_settle_63 (by decide) ?_
  refine K_put (fs2 := [.ref 52, .ref 53, .int 0, .int 7]) dX0_settle_64 fw_X0_18 rfl (Nat.le_of_ble_eq_true rfl) (fun _ => ⟨rfl, rfl⟩) rfl ?_
  refine J_iconst (v := 1) dX0_settle_67 (by decide) ?_
  refine J_istore_n dX0_settle_68 rfl (Nat.le_of_ble_eq_true rfl) rfl ?_
  refine J_iconst (v := 0) dX0_settle_69 (by decide) ?_
  refine J_istore_n dX0_settle_70 rfl (Nat.le_of_ble_eq_true rfl) rfl ?_
  refine J_iload_n dX0_settle_71 rfl rfl ?_
  refine J_sipush (v := 1260) dX0_settle_72 (by decide +kernel) ?_
  refine J_icmp_ge (tgt := 116) dX0_settle_75 (by decide) (fun q => absurd q (by decide +kernel)) (fun _ => ?_)
  refine J_iload_n dX0_settle_78 rfl rfl ?_
  refine J_if_eq (tgt := 116) dX0_settle_79 (by decide) (fun q => absurd q (by decide +kernel)) (fun _ => ?_)
  refine J_aload_n dX0_settle_82 rfl rfl ?_
  refine J_get (v := .ref 52) dX0_settle_83 fl_X0_9 rfl rfl ?_
  refine J_aload_n dX0_settle_86 rfl rfl ?_
  refine J_get (v := .int 0) dX0_settle_87 fl_X0_18 rfl rfl ?_
  refine J_aload_n dX0_settle_90 rfl rfl ?_
  refine J_callV (st := [.int 0, .ref 52]) dX0_settle_91 cv_X0_25 (c_X0_packed_15 rfl rfl) rfl rfl rfl (Nat.le_of_ble_eq_true rfl) ⟨(Nat.le_of_ble_eq_true rfl), (Nat.le_of_ble_eq_true rfl)⟩ ⟨(Nat.le_of_ble_eq_true rfl), (Nat.le_of_ble_eq_true rfl)⟩ (fun r h9 hp => ?_)
  obtain ⟨rfl, rfl⟩ := hp
  refine J_nf (nh2 := nh) (ck2 := 0) (sk2 := 0) (st2 := [.int 299593, .int 0, .ref 52]) rfl rfl rfl rfl ?_
  refine K_iast (i2 := 0) dX0_settle_94 hk52 rfl (jin (by decide +kernel)) (by decide +kernel) ?_
  refine J_aload_n dX0_settle_95 rfl rfl ?_
  refine J_dup dX0_settle_96 rfl ?_
  refine J_get (v := .int 0) dX0_settle_97 fl_X0_18 rfl rfl ?_
  refine J_iconst (v := 1) dX0_settle_100 (by decide) ?_
  refine J_iadd (z := 1) dX0_settle_101 (by decide +kernel) ?_
  refine K_put (fs2 := [.ref 52, .ref 53, .int 1, .int 7]) dX0_settle_102 fw_X0_18 rfl (Nat.le_of_ble_eq_true rfl) (fun _ => ⟨rfl, rfl⟩) rfl ?_
  refine J_aload_n dX0_settle_105 rfl rfl ?_
  refine J_callV (st := []) dX0_settle_106 cv_X0_29 (c_X0_nextOrder_14 rfl rfl) rfl rfl rfl (Nat.le_of_ble_eq_true rfl) ⟨(Nat.le_of_ble_eq_true rfl), (Nat.le_of_ble_eq_true rfl)⟩ ⟨(Nat.le_of_ble_eq_true rfl), (Nat.le_of_ble_eq_true rfl)⟩ (fun r h9 hp => ?_)
  obtain ⟨rfl, rfl⟩ := hp
  refine J_nf (nh2 := nh) (ck2 := 0) (sk2 := 0) (st2 := [.int 0]) rfl rfl rfl rfl ?_
  refine J_istore_n dX0_settle_109 rfl (Nat.le_of_ble_eq_true rfl) rfl ?_
  refine J_iinc (v := 1) dX0_settle_110 rfl (by decide +kernel) (Nat.le_of_ble_eq_true rfl) rfl ?_
  refine J_ls (ls2 := [some (.ref 51), some (.ref 2), some (.int 0), some (.int 1)]) rfl ?_
  refine J_goto (tgt := 71) dX0_settle_113 (by decide) ?_
  refine J_iload_n dX0_settle_71 rfl rfl ?_
  refine J_sipush (v := 1260) dX0_settle_72 (by decide +kernel) ?_
  refine J_icmp_ge (tgt := 116) dX0_settle_75 (by decide) (fun q => absurd q (by decide +kernel)) (fun _ => ?_)
  refine J_iload_n dX0_settle_78 rfl rfl ?_
  refine J_if_eq (tgt := 116) dX0_settle_79 (by decide) (fun _ => ?_) (fun q => absurd (by decide +kernel) q)
  refine J_mask (L2 := [(51, .inr (0, [.ref 52, .ref 53, .int 1, .int 7])), (52, .inl (0, 1260, .inl (upd (upd (fun _ => 0) 0 0) 0 299593))), (53, .inl (0, 7, .inl (upd (upd (upd (upd (upd (upd (upd (fun _ => 0) 0 1) 1 1) 2 1) 3 1) 4 1) 5 1) 6 1)))]) (ks := [51, 52, 51, 51, 53, 51, 53, 51, 53, 51, 53, 51, 53, 51, 53, 51, 53, 51]) [true, true, false, false, true, false, false, false, false, false, false, false, false, false, false, false, false, false] rfl (by decide +kernel) rfl ?_
  exact J_vret dX0_settle_116 rfl (Nat.le_of_ble_eq_true rfl) (Nat.le_of_ble_eq_true rfl) ⟨rfl, rfl⟩
set_option maxHeartbeats 4000000 in
set_option maxRecDepth 100000 in
theorem c_X11_resettle_16 {l : Launch} {G : jG} {nh : Nat} {fh : Nat → Option va_E} (hk0 : fh 0 = some (.inr (11, [.ref 1, .ref 17, .ref 50, .ref 51, .ref 54, .ref 57, .ref 65, .ref 75, .ref 81, .ref 85, .ref 88, .ref 93, .ref 96, .int 0, .int (-1), .ref 97, .int 0]))) (hk1 : fh 1 = some (.inr (8, [.ref 2, .ref 3, .ref 4, .int 0, .int (-1), .ref 11, .ref 12, .int 0, .ref 13, .ref 14, .int 0, .ref 15, .ref 16, .int 0]))) (hk2 : fh 2 = some (.inl (0, 5, .inl (upd (fun _ => 0) 1 7)))) (hk51 : fh 51 = some (.inr (0, [.ref 52, .ref 53, .int 1, .int 0]))) (hk52 : fh 52 = some (.inl (0, 1260, .inl (upd (fun _ => 0) 0 0)))) (hk53 : fh 53 = some (.inl (0, 7, .inl (fun _ => 0)))) (hk57 : fh 57 = some (.inr (9, [.ref 1, .ref 51, .ref 58, .ref 61, .ref 62, .ref 63, .ref 64, .int 0, .int 1, .int 1]))) : JM l G yX11_resettle MX11_resettle { frames := 3, cells := 0, slots := 0, locals := 66 } [.ref 0] (nh, fh) (fun r h9 => r = none ∧ h9 = (nh, hc fh [(57, .inr (9, [.ref 1, .ref 51, .ref 58, .ref 61, .ref 62, .ref 63, .ref 64, .int 1, .int 1, .int 1])), (1, .inr (8, [.ref 2, .ref 3, .ref 4, .int 0, .int (-1), .ref 11, .ref 12, .int 0, .ref 13, .ref 14, .int 0, .ref 15, .ref 16, .int 0])), (51, .inr (0, [.ref 52, .ref 53, .int 1, .int 7])), (52, .inl (0, 1260, .inl (upd (upd (fun _ => 0) 0 0) 0 299593))), (53, .inl (0, 7, .inl (upd (upd (upd (upd (upd (upd (upd (fun _ => 0) 0 1) 1 1) 2 1) 3 1) 4 1) 5 1) 6 1)))])) := by
  refine JM.of (by decide) rfl (fun h => by cases h) (Nat.le_of_ble_eq_true rfl) ⟨0, rfl⟩ ?_
  refine J_hc0 (J_ls (ls2 := [some (.ref 0)]) rfl ?_)
  refine J_aload_n dX11_resettle_0 rfl rfl ?_
  refine J_get (v := .ref 51) dX11_resettle_1 fl_X11_27 hk0 rfl ?_
  refine J_aload_n dX11_resettle_4 rfl rfl ?_
  refine J_get (v := .ref 1) dX11_resettle_5 fl_X11_10 hk0 rfl ?_
  refine J_get (v := .ref 2) dX11_resettle_8 fl_X11_111 hk1 rfl ?_
  refine J_callV (st := []) dX11_resettle_11 cv_X11_114 (c_X0_settle_17 hk2 hk51 hk52 hk53) hk51 rfl rfl (Nat.le_of_ble_eq_true rfl) ⟨(Nat.le_of_ble_eq_true rfl), (Nat.le_of_ble_eq_true rfl)⟩ ⟨(Nat.le_of_ble_eq_true rfl), (Nat.le_of_ble_eq_true rfl)⟩ (fun r h9 hp => ?_)
  obtain ⟨rfl, rfl⟩ := hp
  refine J_nf (nh2 := nh) (ck2 := 0) (sk2 := 0) (st2 := []) rfl rfl rfl rfl ?_
  refine J_app (L3 := [(51, .inr (0, [.ref 52, .ref 53, .int 1, .int 7])), (52, .inl (0, 1260, .inl (upd (upd (fun _ => 0) 0 0) 0 299593))), (53, .inl (0, 7, .inl (upd (upd (upd (upd (upd (upd (upd (fun _ => 0) 0 1) 1 1) 2 1) 3 1) 4 1) 5 1) 6 1)))]) rfl ?_
  refine J_aload_n dX11_resettle_14 rfl rfl ?_
  refine J_get (v := .ref 1) dX11_resettle_15 fl_X11_10 hk0 rfl ?_
  refine J_iconst (v := 0) dX11_resettle_18 (by decide) ?_
  refine K_put (fs2 := [.ref 2, .ref 3, .ref 4, .int 0, .int (-1), .ref 11, .ref 12, .int 0, .ref 13, .ref 14, .int 0, .ref 15, .ref 16, .int 0]) dX11_resettle_19 fw_X11_204 hk1 (Nat.le_of_ble_eq_true rfl) (fun _ => ⟨rfl, rfl⟩) rfl ?_
  refine J_aload_n dX11_resettle_22 rfl rfl ?_
  refine J_get (v := .ref 1) dX11_resettle_23 fl_X11_10 hk0 rfl ?_
  refine J_iconst (v := 0) dX11_resettle_26 (by decide) ?_
  refine K_put (fs2 := [.ref 2, .ref 3, .ref 4, .int 0, .int (-1), .ref 11, .ref 12, .int 0, .ref 13, .ref 14, .int 0, .ref 15, .ref 16, .int 0]) dX11_resettle_27 fw_X11_286 rfl (Nat.le_of_ble_eq_true rfl) (fun _ => ⟨rfl, rfl⟩) rfl ?_
  refine J_aload_n dX11_resettle_30 rfl rfl ?_
  refine J_get (v := .ref 1) dX11_resettle_31 fl_X11_10 hk0 rfl ?_
  refine J_aload_n dX11_resettle_34 rfl rfl ?_
  refine J_get (v := .ref 51) dX11_resettle_35 fl_X11_27 hk0 rfl ?_
  refine J_callV (st := [.ref 1]) dX11_resettle_38 cv_X11_122 (c_X0_places_8 rfl) rfl rfl rfl (Nat.le_of_ble_eq_true rfl) ⟨(Nat.le_of_ble_eq_true rfl), (Nat.le_of_ble_eq_true rfl)⟩ ⟨(Nat.le_of_ble_eq_true rfl), (Nat.le_of_ble_eq_true rfl)⟩ (fun r h9 hp => ?_)
  obtain ⟨rfl, rfl⟩ := hp
  refine J_nf (nh2 := nh) (ck2 := 0) (sk2 := 0) (st2 := [.int 7, .ref 1]) rfl rfl rfl rfl ?_
  refine J_callV (st := []) dX11_resettle_41 cv_X11_321 (c_X8_dropSwapsBeyond_8 rfl) rfl rfl rfl (Nat.le_of_ble_eq_true rfl) ⟨(Nat.le_of_ble_eq_true rfl), (Nat.le_of_ble_eq_true rfl)⟩ ⟨(Nat.le_of_ble_eq_true rfl), (Nat.le_of_ble_eq_true rfl)⟩ (fun r h9 hp => ?_)
  obtain ⟨rfl, rfl⟩ := hp
  refine J_nf (nh2 := nh) (ck2 := 0) (sk2 := 0) (st2 := []) rfl rfl rfl rfl ?_
  refine J_app (L3 := [(1, .inr (8, [.ref 2, .ref 3, .ref 4, .int 0, .int (-1), .ref 11, .ref 12, .int 0, .ref 13, .ref 14, .int 0, .ref 15, .ref 16, .int 0])), (1, .inr (8, [.ref 2, .ref 3, .ref 4, .int 0, .int (-1), .ref 11, .ref 12, .int 0, .ref 13, .ref 14, .int 0, .ref 15, .ref 16, .int 0])), (1, .inr (8, [.ref 2, .ref 3, .ref 4, .int 0, .int (-1), .ref 11, .ref 12, .int 0, .ref 13, .ref 14, .int 0, .ref 15, .ref 16, .int 0])), (51, .inr (0, [.ref 52, .ref 53, .int 1, .int 7])), (52, .inl (0, 1260, .inl (upd (upd (fun _ => 0) 0 0) 0 299593))), (53, .inl (0, 7, .inl (upd (upd (upd (upd (upd (upd (upd (fun _ => 0) 0 1) 1 1) 2 1) 3 1) 4 1) 5 1) 6 1)))]) rfl ?_
  refine J_aload_n dX11_resettle_44 rfl rfl ?_
  refine J_get (v := .ref 57) dX11_resettle_45 fl_X11_43 hk0 rfl ?_
  refine J_callV (st := []) dX11_resettle_48 cv_X11_148 (c_X9_changeAll_1 hk57) hk57 rfl rfl (Nat.le_of_ble_eq_true rfl) ⟨(Nat.le_of_ble_eq_true rfl), (Nat.le_of_ble_eq_true rfl)⟩ ⟨(Nat.le_of_ble_eq_true rfl), (Nat.le_of_ble_eq_true rfl)⟩ (fun r h9 hp => ?_)
  obtain ⟨rfl, rfl⟩ := hp
  refine J_nf (nh2 := nh) (ck2 := 0) (sk2 := 0) (st2 := []) rfl rfl rfl rfl ?_
  refine J_app (L3 := [(57, .inr (9, [.ref 1, .ref 51, .ref 58, .ref 61, .ref 62, .ref 63, .ref 64, .int 1, .int 1, .int 1])), (1, .inr (8, [.ref 2, .ref 3, .ref 4, .int 0, .int (-1), .ref 11, .ref 12, .int 0, .ref 13, .ref 14, .int 0, .ref 15, .ref 16, .int 0])), (1, .inr (8, [.ref 2, .ref 3, .ref 4, .int 0, .int (-1), .ref 11, .ref 12, .int 0, .ref 13, .ref 14, .int 0, .ref 15, .ref 16, .int 0])), (1, .inr (8, [.ref 2, .ref 3, .ref 4, .int 0, .int (-1), .ref 11, .ref 12, .int 0, .ref 13, .ref 14, .int 0, .ref 15, .ref 16, .int 0])), (51, .inr (0, [.ref 52, .ref 53, .int 1, .int 7])), (52, .inl (0, 1260, .inl (upd (upd (fun _ => 0) 0 0) 0 299593))), (53, .inl (0, 7, .inl (upd (upd (upd (upd (upd (upd (upd (fun _ => 0) 0 1) 1 1) 2 1) 3 1) 4 1) 5 1) 6 1)))]) rfl ?_
  refine J_mask (L2 := [(57, .inr (9, [.ref 1, .ref 51, .ref 58, .ref 61, .ref 62, .ref 63, .ref 64, .int 1, .int 1, .int 1])), (1, .inr (8, [.ref 2, .ref 3, .ref 4, .int 0, .int (-1), .ref 11, .ref 12, .int 0, .ref 13, .ref 14, .int 0, .ref 15, .ref 16, .int 0])), (51, .inr (0, [.ref 52, .ref 53, .int 1, .int 7])), (52, .inl (0, 1260, .inl (upd (upd (fun _ => 0) 0 0) 0 299593))), (53, .inl (0, 7, .inl (upd (upd (upd (upd (upd (upd (upd (fun _ => 0) 0 1) 1 1) 2 1) 3 1) 4 1) 5 1) 6 1)))]) (ks := [57, 1, 1, 1, 51, 52, 53]) [true, true, false, false, true, true, true] rfl (by decide +kernel) rfl ?_
  exact J_vret dX11_resettle_51 rfl (Nat.le_of_ble_eq_true rfl) (Nat.le_of_ble_eq_true rfl) ⟨rfl, rfl⟩
