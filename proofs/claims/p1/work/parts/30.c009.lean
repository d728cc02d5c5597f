/-! contracts at fresh objects: written by wip/tools/law.py -/
set_option maxHeartbeats 4000000 in
set_option maxRecDepth 100000 in
theorem c_X11_beans_43 {l : Launch} {G : jG} {nh : Nat} {fh : Nat → Option va_E} (a1 : Int32) (b_a1 : 0 ≤ a1.toInt ∧ a1.toInt ≤ 4) (a2 : Int32) (b_a2 : 8 ≤ a2.toInt ∧ a2.toInt ≤ 2147483647) (hk0 : fh 0 = some (.inr (11, [.ref 1, .ref 17, .ref 50, .ref 51, .ref 54, .ref 57, .ref 65, .ref 75, .ref 81, .ref 85, .ref 88, .ref 93, .ref 96, .int 0, .int (-1), .ref 97, .int 0]))) (hk96 : fh 96 = some (.inl (0, 5, .inl (fun _ => 0)))) : JM l G yX11_beans MX11_beans { frames := 2, cells := 0, slots := 0, locals := 41 } [.ref 0, .int a1, .int a2] (nh, fh) (fun r h9 => r = some (.int (-1)) ∧ h9 = (nh, hc fh [(96, .inl (0, 5, .inl (upd (fun _ => 0) 0 1))), (0, .inr (11, [.ref 1, .ref 17, .ref 50, .ref 51, .ref 54, .ref 57, .ref 65, .ref 75, .ref 81, .ref 85, .ref 88, .ref 93, .ref 96, .int (-1), .int (-1), .ref 97, .int 0]))])) := by
  refine JM.of (by decide) rfl (fun h => by cases h) (Nat.le_of_ble_eq_true rfl) ⟨1, rfl⟩ ?_
  refine J_hc0 (J_ls (ls2 := [some (.ref 0), some (.int a1), some (.int a2), none]) rfl ?_)
  refine J_iload_n dX11_beans_0 rfl rfl ?_
  refine J_if_lt (tgt := 19) dX11_beans_1 (by decide) (fun q => absurd q (by have hb0 := b_a1; simp only [fa_lt, fa_le, fa_eq, kc_0]; omega)) (fun _ => ?_)
  refine J_iload_n dX11_beans_4 rfl rfl ?_
  refine J_iconst (v := 5) dX11_beans_5 (by decide) ?_
  refine J_icmp_ge (tgt := 19) dX11_beans_6 (by decide) (fun q => absurd q (by have hb0 := b_a1; simp only [fa_lt, fa_le, fa_eq, kc_5]; omega)) (fun _ => ?_)
  refine J_iload_n dX11_beans_9 rfl rfl ?_
  refine J_if_lt (tgt := 19) dX11_beans_10 (by decide) (fun q => absurd q (by have hb0 := b_a2; simp only [fa_lt, fa_le, fa_eq, kc_0]; omega)) (fun _ => ?_)
  refine J_iload_n dX11_beans_13 rfl rfl ?_
  refine J_bipush (v := 7) dX11_beans_14 (by decide +kernel) ?_
  refine J_icmp_le (tgt := 25) dX11_beans_16 (by decide) (fun q => absurd q (by have hb0 := b_a2; simp only [fa_lt, fa_le, fa_eq, kc_7]; omega)) (fun _ => ?_)
  refine J_aload_n dX11_beans_19 rfl rfl ?_
  refine J_iconst (v := (-1)) dX11_beans_20 (by decide) ?_
  refine J_callV (st := []) dX11_beans_21 cv_X11_118 (c_X11_refuse_1 hk0 hk96) hk0 rfl rfl (Nat.le_of_ble_eq_true rfl) ⟨(Nat.le_of_ble_eq_true rfl), (Nat.le_of_ble_eq_true rfl)⟩ ⟨(Nat.le_of_ble_eq_true rfl), (Nat.le_of_ble_eq_true rfl)⟩ (fun r h9 hp => ?_)
  obtain ⟨rfl, rfl⟩ := hp
  refine J_nf (nh2 := nh) (ck2 := 0) (sk2 := 0) (st2 := [.int (-1)]) rfl rfl rfl rfl ?_
  refine J_app (L3 := [(96, .inl (0, 5, .inl (upd (fun _ => 0) 0 1))), (0, .inr (11, [.ref 1, .ref 17, .ref 50, .ref 51, .ref 54, .ref 57, .ref 65, .ref 75, .ref 81, .ref 85, .ref 88, .ref 93, .ref 96, .int (-1), .int (-1), .ref 97, .int 0]))]) rfl ?_
  exact J_iret dX11_beans_24 rfl rfl (Nat.le_of_ble_eq_true rfl) (Nat.le_of_ble_eq_true rfl) ⟨rfl, rfl⟩
set_option maxHeartbeats 4000000 in
set_option maxRecDepth 100000 in
theorem c_X12_lies_17 {l : Launch} {G : jG} {nh : Nat} {fh : Nat → Option va_E} (a0 : Int32) (b_a0 : 8 ≤ a0.toInt ∧ a0.toInt ≤ 2147483647) : JM l G yX12_lies MX12_lies { frames := 0, cells := 0, slots := 0, locals := 0 } [.int a0, .int 0, .int 7] (nh, fh) (fun r h9 => r = some (.int 0) ∧ h9 = (nh, fh)) := by
  refine JM.of (by decide) rfl (fun h => by cases h) (Nat.le_of_ble_eq_true rfl) ⟨0, rfl⟩ ?_
  refine J_hc0 (J_ls (ls2 := [some (.int a0), some (.int 0), some (.int 7)]) rfl ?_)
  refine J_iload_n dX12_lies_0 rfl rfl ?_
  refine J_iload_n dX12_lies_1 rfl rfl ?_
  refine J_icmp_lt (tgt := 14) dX12_lies_2 (by decide) (fun q => absurd q (by have hb0 := b_a0; simp only [fa_lt, fa_le, fa_eq, kc_0]; omega)) (fun _ => ?_)
  refine J_iload_n dX12_lies_5 rfl rfl ?_
  refine J_iload_n dX12_lies_6 rfl rfl ?_
  refine J_icmp_gt (tgt := 14) dX12_lies_7 (by decide) (fun _ => ?_) (fun q => absurd (by have hb0 := b_a0; simp only [fa_lt, fa_le, fa_eq, kc_7]; omega) q)
  refine J_iconst (v := 0) dX12_lies_14 (by decide) ?_
  exact J_iret dX12_lies_15 rfl (by decide +kernel) (Nat.le_of_ble_eq_true rfl) (Nat.le_of_ble_eq_true rfl) ⟨rfl, rfl⟩
set_option maxHeartbeats 4000000 in
set_option maxRecDepth 100000 in
theorem c_X12_beans_43 {l : Launch} {G : jG} {nh : Nat} {fh : Nat → Option va_E} (a1 : Int32) (b_a1 : 0 ≤ a1.toInt ∧ a1.toInt ≤ 4) (a2 : Int32) (b_a2 : 8 ≤ a2.toInt ∧ a2.toInt ≤ 2147483647) (hk98 : fh 98 = some (.inr (12, [.int 0, .int 0, .ref 99, .ref 100, .ref 101, .ref 102, .ref 103, .ref 104, .ref 105, .int 0, .int (-1), .ref 106, .ref 107, .ref 108, .int 0, .int 0, .int 0, .int 0, .int 0, .int 0, .int 0, .ref 109, .int 0, .int 0, .ref 110, .ref 111, .ref 112, .ref 113, .ref 114, .ref 115, .ref 116, .ref 117, .int 0, .int 0, .int (-1), .int (-1), .ref 118, .ref 119, .ref 120, .ref 121, .ref 122, .ref 123, .ref 124, .ref 125, .ref 126, .ref 127, .ref 128, .ref 129, .int 0, .ref 130, .ref 131, .ref 132, .ref 133, .ref 134, .int 0, .int 0]))) (hk99 : fh 99 = some (.inl (0, 7, .inl (fun _ => 0)))) : JM l G yX12_beans MX12_beans { frames := 1, cells := 0, slots := 0, locals := 22 } [.ref 98, .int a1, .int a2] (nh, fh) (fun r h9 => r = some (.int (-1)) ∧ h9 = (nh, hc fh [(99, .inl (0, 7, .inl (upd (fun _ => 0) 1 1))), (98, .inr (12, [.int (-1), .int 0, .ref 99, .ref 100, .ref 101, .ref 102, .ref 103, .ref 104, .ref 105, .int 0, .int (-1), .ref 106, .ref 107, .ref 108, .int 0, .int 0, .int 0, .int 0, .int 0, .int 0, .int 0, .ref 109, .int 0, .int 0, .ref 110, .ref 111, .ref 112, .ref 113, .ref 114, .ref 115, .ref 116, .ref 117, .int 0, .int 0, .int (-1), .int (-1), .ref 118, .ref 119, .ref 120, .ref 121, .ref 122, .ref 123, .ref 124, .ref 125, .ref 126, .ref 127, .ref 128, .ref 129, .int 0, .ref 130, .ref 131, .ref 132, .ref 133, .ref 134, .int 0, .int 0]))])) := by
  refine JM.of (by decide) rfl (fun h => by cases h) (Nat.le_of_ble_eq_true rfl) ⟨1, rfl⟩ ?_
  refine J_hc0 (J_ls (ls2 := [some (.ref 98), some (.int a1), some (.int a2), none]) rfl ?_)
  refine J_iload_n dX12_beans_0 rfl rfl ?_
  refine J_iconst (v := 0) dX12_beans_1 (by decide) ?_
  refine J_iconst (v := 4) dX12_beans_2 (by decide) ?_
  refine J_callS (st := []) dX12_beans_3 cs_X12_138 (c_X12_lies_2 (a1) b_a1) rfl rfl (Nat.le_of_ble_eq_true rfl) ⟨(Nat.le_of_ble_eq_true rfl), (Nat.le_of_ble_eq_true rfl)⟩ ⟨(Nat.le_of_ble_eq_true rfl), (Nat.le_of_ble_eq_true rfl)⟩ (fun r h9 hp => ?_)
  obtain ⟨rfl, rfl⟩ := hp
  refine J_nf (nh2 := nh) (ck2 := 0) (sk2 := 0) (st2 := [.int 1]) rfl rfl rfl rfl ?_
  refine J_if_eq (tgt := 39) dX12_beans_6 (by decide) (fun q => absurd q (by decide +kernel)) (fun _ => ?_)
  refine J_iload_n dX12_beans_9 rfl rfl ?_
  refine J_iconst (v := 0) dX12_beans_10 (by decide) ?_
  refine J_bipush (v := 7) dX12_beans_11 (by decide +kernel) ?_
  refine J_callS (st := []) dX12_beans_13 cs_X12_138 (c_X12_lies_17 (a2) b_a2) rfl rfl (Nat.le_of_ble_eq_true rfl) ⟨(Nat.le_of_ble_eq_true rfl), (Nat.le_of_ble_eq_true rfl)⟩ ⟨(Nat.le_of_ble_eq_true rfl), (Nat.le_of_ble_eq_true rfl)⟩ (fun r h9 hp => ?_)
  obtain ⟨rfl, rfl⟩ := hp
  refine J_nf (nh2 := nh) (ck2 := 0) (sk2 := 0) (st2 := [.int 0]) rfl rfl rfl rfl ?_
  refine J_if_eq (tgt := 39) dX12_beans_16 (by decide) (fun _ => ?_) (fun q => absurd (by decide +kernel) q)
  refine J_aload_n dX12_beans_39 rfl rfl ?_
  refine J_iconst (v := (-1)) dX12_beans_40 (by decide) ?_
  refine J_callV (st := []) dX12_beans_41 cv_X12_142 (c_X12_refuses_1 hk98 hk99) hk98 rfl rfl (Nat.le_of_ble_eq_true rfl) ⟨(Nat.le_of_ble_eq_true rfl), (Nat.le_of_ble_eq_true rfl)⟩ ⟨(Nat.le_of_ble_eq_true rfl), (Nat.le_of_ble_eq_true rfl)⟩ (fun r h9 hp => ?_)
  obtain ⟨rfl, rfl⟩ := hp
  refine J_nf (nh2 := nh) (ck2 := 0) (sk2 := 0) (st2 := [.int (-1)]) rfl rfl rfl rfl ?_
  refine J_app (L3 := [(99, .inl (0, 7, .inl (upd (fun _ => 0) 1 1))), (98, .inr (12, [.int (-1), .int 0, .ref 99, .ref 100, .ref 101, .ref 102, .ref 103, .ref 104, .ref 105, .int 0, .int (-1), .ref 106, .ref 107, .ref 108, .int 0, .int 0, .int 0, .int 0, .int 0, .int 0, .int 0, .ref 109, .int 0, .int 0, .ref 110, .ref 111, .ref 112, .ref 113, .ref 114, .ref 115, .ref 116, .ref 117, .int 0, .int 0, .int (-1), .int (-1), .ref 118, .ref 119, .ref 120, .ref 121, .ref 122, .ref 123, .ref 124, .ref 125, .ref 126, .ref 127, .ref 128, .ref 129, .int 0, .ref 130, .ref 131, .ref 132, .ref 133, .ref 134, .int 0, .int 0]))]) rfl ?_
  exact J_iret dX12_beans_44 rfl rfl (Nat.le_of_ble_eq_true rfl) (Nat.le_of_ble_eq_true rfl) ⟨rfl, rfl⟩
set_option maxHeartbeats 4000000 in
set_option maxRecDepth 100000 in
theorem c_X11_beans_44 {l : Launch} {G : jG} {nh : Nat} {fh : Nat → Option va_E} (a1 : Int32) (b_a1 : 5 ≤ a1.toInt ∧ a1.toInt ≤ 2147483647) (a2 : Int32) (b_a2 : (-2147483648) ≤ a2.toInt ∧ a2.toInt ≤ 2147483647) (hk0 : fh 0 = some (.inr (11, [.ref 1, .ref 17, .ref 50, .ref 51, .ref 54, .ref 57, .ref 65, .ref 75, .ref 81, .ref 85, .ref 88, .ref 93, .ref 96, .int 0, .int (-1), .ref 97, .int 0]))) (hk96 : fh 96 = some (.inl (0, 5, .inl (fun _ => 0)))) : JM l G yX11_beans MX11_beans { frames := 2, cells := 0, slots := 0, locals := 41 } [.ref 0, .int a1, .int a2] (nh, fh) (fun r h9 => r = some (.int (-1)) ∧ h9 = (nh, hc fh [(96, .inl (0, 5, .inl (upd (fun _ => 0) 0 1))), (0, .inr (11, [.ref 1, .ref 17, .ref 50, .ref 51, .ref 54, .ref 57, .ref 65, .ref 75, .ref 81, .ref 85, .ref 88, .ref 93, .ref 96, .int (-1), .int (-1), .ref 97, .int 0]))])) := by
  refine JM.of (by decide) rfl (fun h => by cases h) (Nat.le_of_ble_eq_true rfl) ⟨1, rfl⟩ ?_
  refine J_hc0 (J_ls (ls2 := [some (.ref 0), some (.int a1), some (.int a2), none]) rfl ?_)
  refine J_iload_n dX11_beans_0 rfl rfl ?_
  refine J_if_lt (tgt := 19) dX11_beans_1 (by decide) (fun q => absurd q (by have hb0 := b_a1; simp only [fa_lt, fa_le, fa_eq, kc_0]; omega)) (fun _ => ?_)
  refine J_iload_n dX11_beans_4 rfl rfl ?_
  refine J_iconst (v := 5) dX11_beans_5 (by decide) ?_
  refine J_icmp_ge (tgt := 19) dX11_beans_6 (by decide) (fun _ => ?_) (fun q => absurd (by have hb0 := b_a1; simp only [fa_lt, fa_le, fa_eq, kc_5]; omega) q)
  refine J_aload_n dX11_beans_19 rfl rfl ?_
  refine J_iconst (v := (-1)) dX11_beans_20 (by decide) ?_
  refine J_callV (st := []) dX11_beans_21 cv_X11_118 (c_X11_refuse_1 hk0 hk96) hk0 rfl rfl (Nat.le_of_ble_eq_true rfl) ⟨(Nat.le_of_ble_eq_true rfl), (Nat.le_of_ble_eq_true rfl)⟩ ⟨(Nat.le_of_ble_eq_true rfl), (Nat.le_of_ble_eq_true rfl)⟩ (fun r h9 hp => ?_)
  obtain ⟨rfl, rfl⟩ := hp
  refine J_nf (nh2 := nh) (ck2 := 0) (sk2 := 0) (st2 := [.int (-1)]) rfl rfl rfl rfl ?_
  refine J_app (L3 := [(96, .inl (0, 5, .inl (upd (fun _ => 0) 0 1))), (0, .inr (11, [.ref 1, .ref 17, .ref 50, .ref 51, .ref 54, .ref 57, .ref 65, .ref 75, .ref 81, .ref 85, .ref 88, .ref 93, .ref 96, .int (-1), .int (-1), .ref 97, .int 0]))]) rfl ?_
  exact J_iret dX11_beans_24 rfl rfl (Nat.le_of_ble_eq_true rfl) (Nat.le_of_ble_eq_true rfl) ⟨rfl, rfl⟩
set_option maxHeartbeats 4000000 in
set_option maxRecDepth 100000 in
theorem c_X12_lies_18 {l : Launch} {G : jG} {nh : Nat} {fh : Nat → Option va_E} (a0 : Int32) (b_a0 : 5 ≤ a0.toInt ∧ a0.toInt ≤ 2147483647) : JM l G yX12_lies MX12_lies { frames := 0, cells := 0, slots := 0, locals := 0 } [.int a0, .int 0, .int 4] (nh, fh) (fun r h9 => r = some (.int 0) ∧ h9 = (nh, fh)) := by
  refine JM.of (by decide) rfl (fun h => by cases h) (Nat.le_of_ble_eq_true rfl) ⟨0, rfl⟩ ?_
  refine J_hc0 (J_ls (ls2 := [some (.int a0), some (.int 0), some (.int 4)]) rfl ?_)
  refine J_iload_n dX12_lies_0 rfl rfl ?_
  refine J_iload_n dX12_lies_1 rfl rfl ?_
  refine J_icmp_lt (tgt := 14) dX12_lies_2 (by decide) (fun q => absurd q (by have hb0 := b_a0; simp only [fa_lt, fa_le, fa_eq, kc_0]; omega)) (fun _ => ?_)
  refine J_iload_n dX12_lies_5 rfl rfl ?_
  refine J_iload_n dX12_lies_6 rfl rfl ?_
  refine J_icmp_gt (tgt := 14) dX12_lies_7 (by decide) (fun _ => ?_) (fun q => absurd (by have hb0 := b_a0; simp only [fa_lt, fa_le, fa_eq, kc_4]; omega) q)
  refine J_iconst (v := 0) dX12_lies_14 (by decide) ?_
  exact J_iret dX12_lies_15 rfl (by decide +kernel) (Nat.le_of_ble_eq_true rfl) (Nat.le_of_ble_eq_true rfl) ⟨rfl, rfl⟩
set_option maxHeartbeats 4000000 in
set_option maxRecDepth 100000 in
theorem c_X12_beans_44 {l : Launch} {G : jG} {nh : Nat} {fh : Nat → Option va_E} (a1 : Int32) (b_a1 : 5 ≤ a1.toInt ∧ a1.toInt ≤ 2147483647) (a2 : Int32) (b_a2 : (-2147483648) ≤ a2.toInt ∧ a2.toInt ≤ 2147483647) (hk98 : fh 98 = some (.inr (12, [.int 0, .int 0, .ref 99, .ref 100, .ref 101, .ref 102, .ref 103, .ref 104, .ref 105, .int 0, .int (-1), .ref 106, .ref 107, .ref 108, .int 0, .int 0, .int 0, .int 0, .int 0, .int 0, .int 0, .ref 109, .int 0, .int 0, .ref 110, .ref 111, .ref 112, .ref 113, .ref 114, .ref 115, .ref 116, .ref 117, .int 0, .int 0, .int (-1), .int (-1), .ref 118, .ref 119, .ref 120, .ref 121, .ref 122, .ref 123, .ref 124, .ref 125, .ref 126, .ref 127, .ref 128, .ref 129, .int 0, .ref 130, .ref 131, .ref 132, .ref 133, .ref 134, .int 0, .int 0]))) (hk99 : fh 99 = some (.inl (0, 7, .inl (fun _ => 0)))) : JM l G yX12_beans MX12_beans { frames := 1, cells := 0, slots := 0, locals := 22 } [.ref 98, .int a1, .int a2] (nh, fh) (fun r h9 => r = some (.int (-1)) ∧ h9 = (nh, hc fh [(99, .inl (0, 7, .inl (upd (fun _ => 0) 1 1))), (98, .inr (12, [.int (-1), .int 0, .ref 99, .ref 100, .ref 101, .ref 102, .ref 103, .ref 104, .ref 105, .int 0, .int (-1), .ref 106, .ref 107, .ref 108, .int 0, .int 0, .int 0, .int 0, .int 0, .int 0, .int 0, .ref 109, .int 0, .int 0, .ref 110, .ref 111, .ref 112, .ref 113, .ref 114, .ref 115, .ref 116, .ref 117, .int 0, .int 0, .int (-1), .int (-1), .ref 118, .ref 119, .ref 120, .ref 121, .ref 122, .ref 123, .ref 124, .ref 125, .ref 126, .ref 127, .ref 128, .ref 129, .int 0, .ref 130, .ref 131, .ref 132, .ref 133, .ref 134, .int 0, .int 0]))])) := by
  refine JM.of (by decide) rfl (fun h => by cases h) (Nat.le_of_ble_eq_true rfl) ⟨1, rfl⟩ ?_
  refine J_hc0 (J_ls (ls2 := [some (.ref 98), some (.int a1), some (.int a2), none]) rfl ?_)
  refine J_iload_n dX12_beans_0 rfl rfl ?_
  refine J_iconst (v := 0) dX12_beans_1 (by decide) ?_
  refine J_iconst (v := 4) dX12_beans_2 (by decide) ?_
  refine J_callS (st := []) dX12_beans_3 cs_X12_138 (c_X12_lies_18 (a1) b_a1) rfl rfl (Nat.le_of_ble_eq_true rfl) ⟨(Nat.le_of_ble_eq_true rfl), (Nat.le_of_ble_eq_true rfl)⟩ ⟨(Nat.le_of_ble_eq_true rfl), (Nat.le_of_ble_eq_true rfl)⟩ (fun r h9 hp => ?_)
  obtain ⟨rfl, rfl⟩ := hp
  refine J_nf (nh2 := nh) (ck2 := 0) (sk2 := 0) (st2 := [.int 0]) rfl rfl rfl rfl ?_
  refine J_if_eq (tgt := 39) dX12_beans_6 (by decide) (fun _ => ?_) (fun q => absurd (by decide +kernel) q)
  refine J_aload_n dX12_beans_39 rfl rfl ?_
  refine J_iconst (v := (-1)) dX12_beans_40 (by decide) ?_
  refine J_callV (st := []) dX12_beans_41 cv_X12_142 (c_X12_refuses_1 hk98 hk99) hk98 rfl rfl (Nat.le_of_ble_eq_true rfl) ⟨(Nat.le_of_ble_eq_true rfl), (Nat.le_of_ble_eq_true rfl)⟩ ⟨(Nat.le_of_ble_eq_true rfl), (Nat.le_of_ble_eq_true rfl)⟩ (fun r h9 hp => ?_)
  obtain ⟨rfl, rfl⟩ := hp
  refine J_nf (nh2 := nh) (ck2 := 0) (sk2 := 0) (st2 := [.int (-1)]) rfl rfl rfl rfl ?_
  refine J_app (L3 := [(99, .inl (0, 7, .inl (upd (fun _ => 0) 1 1))), (98, .inr (12, [.int (-1), .int 0, .ref 99, .ref 100, .ref 101, .ref 102, .ref 103, .ref 104, .ref 105, .int 0, .int (-1), .ref 106, .ref 107, .ref 108, .int 0, .int 0, .int 0, .int 0, .int 0, .int 0, .int 0, .ref 109, .int 0, .int 0, .ref 110, .ref 111, .ref 112, .ref 113, .ref 114, .ref 115, .ref 116, .ref 117, .int 0, .int 0, .int (-1), .int (-1), .ref 118, .ref 119, .ref 120, .ref 121, .ref 122, .ref 123, .ref 124, .ref 125, .ref 126, .ref 127, .ref 128, .ref 129, .int 0, .ref 130, .ref 131, .ref 132, .ref 133, .ref 134, .int 0, .int 0]))]) rfl ?_
  exact J_iret dX12_beans_44 rfl rfl (Nat.le_of_ble_eq_true rfl) (Nat.le_of_ble_eq_true rfl) ⟨rfl, rfl⟩
set_option maxHeartbeats 4000000 in
set_option maxRecDepth 100000 in
theorem c_X0_many_1 {l : Launch} {G : jG} {nh : Nat} {fh : Nat → Option va_E} (hk51 : fh 51 = some (.inr (0, [.ref 52, .ref 53, .int 1, .int 0]))) : JM l G yX0_many MX0_many { frames := 0, cells := 0, slots := 0, locals := 0 } [.ref 51] (nh, fh) (fun r h9 => r = some (.int 1) ∧ h9 = (nh, fh)) := by
  refine JM.of (by decide) rfl (fun h => by cases h) (Nat.le_of_ble_eq_true rfl) ⟨0, rfl⟩ ?_
  refine J_hc0 (J_ls (ls2 := [some (.ref 51)]) rfl ?_)
  refine J_aload_n dX0_many_0 rfl rfl ?_
  refine J_get (v := .int 1) dX0_many_1 fl_X0_18 hk51 rfl ?_
  exact J_iret dX0_many_4 rfl rfl (Nat.le_of_ble_eq_true rfl) (Nat.le_of_ble_eq_true rfl) ⟨rfl, rfl⟩
set_option maxHeartbeats 4000000 in
set_option maxRecDepth 100000 in
theorem c_X11_houses_1 {l : Launch} {G : jG} {nh : Nat} {fh : Nat → Option va_E} (hk0 : fh 0 = some (.inr (11, [.ref 1, .ref 17, .ref 50, .ref 51, .ref 54, .ref 57, .ref 65, .ref 75, .ref 81, .ref 85, .ref 88, .ref 93, .ref 96, .int 0, .int (-1), .ref 97, .int 0]))) (hk51 : fh 51 = some (.inr (0, [.ref 52, .ref 53, .int 1, .int 0]))) : JM l G yX11_houses MX11_houses { frames := 1, cells := 0, slots := 0, locals := 20 } [.ref 0] (nh, fh) (fun r h9 => r = some (.int 1) ∧ h9 = (nh, fh)) := by
  refine JM.of (by decide) rfl (fun h => by cases h) (Nat.le_of_ble_eq_true rfl) ⟨0, rfl⟩ ?_
  refine J_hc0 (J_ls (ls2 := [some (.ref 0)]) rfl ?_)
  refine J_aload_n dX11_houses_0 rfl rfl ?_
  refine J_get (v := .ref 51) dX11_houses_1 fl_X11_27 hk0 rfl ?_
  refine J_callV (st := []) dX11_houses_4 cv_X11_132 (c_X0_many_1 hk51) hk51 rfl rfl (Nat.le_of_ble_eq_true rfl) ⟨(Nat.le_of_ble_eq_true rfl), (Nat.le_of_ble_eq_true rfl)⟩ ⟨(Nat.le_of_ble_eq_true rfl), (Nat.le_of_ble_eq_true rfl)⟩ (fun r h9 hp => ?_)
  obtain ⟨rfl, rfl⟩ := hp
  refine J_nf (nh2 := nh) (ck2 := 0) (sk2 := 0) (st2 := [.int 1]) rfl rfl rfl rfl ?_
  exact J_iret dX11_houses_7 rfl rfl (Nat.le_of_ble_eq_true rfl) (Nat.le_of_ble_eq_true rfl) ⟨rfl, rfl⟩
set_option maxHeartbeats 4000000 in
set_option maxRecDepth 100000 in
theorem c_X12_places_2 {l : Launch} {G : jG} {nh : Nat} {fh : Nat → Option va_E} (hk98 : fh 98 = some (.inr (12, [.int 0, .int 0, .ref 99, .ref 100, .ref 101, .ref 102, .ref 103, .ref 104, .ref 105, .int 0, .int (-1), .ref 106, .ref 107, .ref 108, .int 0, .int 0, .int 0, .int 0, .int 0, .int 0, .int 0, .ref 109, .int 0, .int 0, .ref 110, .ref 111, .ref 112, .ref 113, .ref 114, .ref 115, .ref 116, .ref 117, .int 0, .int 0, .int 0, .int (-1), .ref 118, .ref 119, .ref 120, .ref 121, .ref 122, .ref 123, .ref 124, .ref 125, .ref 126, .ref 127, .ref 128, .ref 129, .int 0, .ref 130, .ref 131, .ref 132, .ref 133, .ref 134, .int 0, .int 0]))) (hk100 : fh 100 = some (.inl (0, 4870, .inl (upd (fun _ => 0) 63 (-1))))) : JM l G yX12_places MX12_places { frames := 0, cells := 0, slots := 0, locals := 0 } [.ref 98] (nh, fh) (fun r h9 => r = some (.int 0) ∧ h9 = (nh, fh)) := by
  refine JM.of (by decide) rfl (fun h => by cases h) (Nat.le_of_ble_eq_true rfl) ⟨2, rfl⟩ ?_
  refine J_hc0 (J_ls (ls2 := [some (.ref 98), none, none]) rfl ?_)
  refine J_iconst (v := 0) dX12_places_0 (by decide) ?_
  refine J_istore_n dX12_places_1 rfl (Nat.le_of_ble_eq_true rfl) rfl ?_
  refine J_iconst (v := 0) dX12_places_2 (by decide) ?_
  refine J_istore_n dX12_places_3 rfl (Nat.le_of_ble_eq_true rfl) rfl ?_
  refine J_iload_n dX12_places_4 rfl rfl ?_
  refine J_iconst (v := 5) dX12_places_5 (by decide) ?_
  refine J_icmp_ge (tgt := 26) dX12_places_6 (by decide) (fun q => absurd q (by decide +kernel)) (fun _ => ?_)
  refine J_iload_n dX12_places_9 rfl rfl ?_
  refine J_aload_n dX12_places_10 rfl rfl ?_
  refine J_get (v := .ref 100) dX12_places_11 fl_X12_20 hk98 rfl ?_
  refine J_iconst (v := 0) dX12_places_14 (by decide) ?_
  refine J_iload_n dX12_places_15 rfl rfl ?_
  refine J_iadd (z := 0) dX12_places_16 (by decide +kernel) ?_
  refine J_iald (i2 := 0) (v := 0) dX12_places_17 hk100 rfl (jin (by decide +kernel)) (by decide +kernel) rfl ?_
  refine J_iadd (z := 0) dX12_places_18 (by decide +kernel) ?_
  refine J_istore_n dX12_places_19 rfl (Nat.le_of_ble_eq_true rfl) rfl ?_
  refine J_iinc (v := 1) dX12_places_20 rfl (by decide +kernel) (Nat.le_of_ble_eq_true rfl) rfl ?_
  refine J_ls (ls2 := [some (.ref 98), some (.int 0), some (.int 1)]) rfl ?_
  refine J_goto (tgt := 4) dX12_places_23 (by decide) ?_
  refine J_iload_n dX12_places_4 rfl rfl ?_
  refine J_iconst (v := 5) dX12_places_5 (by decide) ?_
  refine J_icmp_ge (tgt := 26) dX12_places_6 (by decide) (fun q => absurd q (by decide +kernel)) (fun _ => ?_)
  refine J_iload_n dX12_places_9 rfl rfl ?_
  refine J_aload_n dX12_places_10 rfl rfl ?_
  refine J_get (v := .ref 100) dX12_places_11 fl_X12_20 hk98 rfl ?_
  refine J_iconst (v := 0) dX12_places_14 (by decide) ?_
  refine J_iload_n dX12_places_15 rfl rfl ?_
  refine J_iadd (z := 1) dX12_places_16 (by decide +kernel) ?_
  refine J_iald (i2 := 1) (v := 0) dX12_places_17 hk100 rfl (jin (by decide +kernel)) (by decide +kernel) rfl ?_
  refine J_iadd (z := 0) dX12_places_18 (by decide +kernel) ?_
  refine J_istore_n dX12_places_19 rfl (Nat.le_of_ble_eq_true rfl) rfl ?_
  refine J_iinc (v := 2) dX12_places_20 rfl (by decide +kernel) (Nat.le_of_ble_eq_true rfl) rfl ?_
  refine J_ls (ls2 := [some (.ref 98), some (.int 0), some (.int 2)]) rfl ?_
  refine J_goto (tgt := 4) dX12_places_23 (by decide) ?_
  refine J_iload_n dX12_places_4 rfl rfl ?_
  refine J_iconst (v := 5) dX12_places_5 (by decide) ?_
  refine J_icmp_ge (tgt := 26) dX12_places_6 (by decide) (fun q => absurd q (by decide +kernel)) (fun _ => ?_)
  refine J_iload_n dX12_places_9 rfl rfl ?_
  refine J_aload_n dX12_places_10 rfl rfl ?_
  refine J_get (v := .ref 100) dX12_places_11 fl_X12_20 hk98 rfl ?_
  refine J_iconst (v := 0) dX12_places_14 (by decide) ?_
  refine J_iload_n dX12_places_15 rfl rfl ?_
  refine J_iadd (z := 2) dX12_places_16 (by decide +kernel) ?_
  refine J_iald (i2 := 2) (v := 0) dX12_places_17 hk100 rfl (jin (by decide +kernel)) (by decide +kernel) rfl ?_
  refine J_iadd (z := 0) dX12_places_18 (by decide +kernel) ?_
  refine J_istore_n dX12_places_19 rfl (Nat.le_of_ble_eq_true rfl) rfl ?_
  refine J_iinc (v := 3) dX12_places_20 rfl (by decide +kernel) (Nat.le_of_ble_eq_true rfl) rfl ?_
  refine J_ls (ls2 := [some (.ref 98), some (.int 0), some (.int 3)]) rfl ?_
  refine J_goto (tgt := 4) dX12_places_23 (by decide) ?_
  refine J_iload_n dX12_places_4 rfl rfl ?_
  refine J_iconst (v := 5) dX12_places_5 (by decide) ?_
  refine J_icmp_ge (tgt := 26) dX12_places_6 (by decide) (fun q => absurd q (by decide +kernel)) (fun _ => ?_)
  refine J_iload_n dX12_places_9 rfl rfl ?_
  refine J_aload_n dX12_places_10 rfl rfl ?_
  refine J_get (v := .ref 100) dX12_places_11 fl_X12_20 hk98 rfl ?_
  refine J_iconst (v := 0) dX12_places_14 (by decide) ?_
  refine J_iload_n dX12_places_15 rfl rfl ?_
  refine J_iadd (z := 3) dX12_places_16 (by decide +kernel) ?_
  refine J_iald (i2 := 3) (v := 0) dX12_places_17 hk100 rfl (jin (by decide +kernel)) (by decide +kernel) rfl ?_
  refine J_iadd (z := 0) dX12_places_18 (by decide +kernel) ?_
  refine J_istore_n dX12_places_19 rfl (Nat.le_of_ble_eq_true rfl) rfl ?_
  refine J_iinc (v := 4) dX12_places_20 rfl (by decide +kernel) (Nat.le_of_ble_eq_true rfl) rfl ?_
  refine J_ls (ls2 := [some (.ref 98), some (.int 0), some (.int 4)]) rfl ?_
  refine J_goto (tgt := 4) dX12_places_23 (by decide) ?_
  refine J_iload_n dX12_places_4 rfl rfl ?_
  refine J_iconst (v := 5) dX12_places_5 (by decide) ?_
  refine J_icmp_ge (tgt := 26) dX12_places_6 (by decide) (fun q => absurd q (by decide +kernel)) (fun _ => ?_)
  refine J_iload_n dX12_places_9 rfl rfl ?_
  refine J_aload_n dX12_places_10 rfl rfl ?_
  refine J_get (v := .ref 100) dX12_places_11 fl_X12_20 hk98 rfl ?_
  refine J_iconst (v := 0) dX12_places_14 (by decide) ?_
  refine J_iload_n dX12_places_15 rfl rfl ?_
  refine J_iadd (z := 4) dX12_places_16 (by decide +kernel) ?_
  refine J_iald (i2 := 4) (v := 0) dX12_places_17 hk100 rfl (jin (by decide +kernel)) (by decide +kernel) rfl ?_
  refine J_iadd (z := 0) dX12_places_18 (by decide +kernel) ?_
  refine J_istore_n dX12_places_19 rfl (Nat.le_of_ble_eq_true rfl) rfl ?_
  refine J_iinc (v := 5) dX12_places_20 rfl (by decide +kernel) (Nat.le_of_ble_eq_true rfl) rfl ?_
  refine J_ls (ls2 := [some (.ref 98), some (.int 0), some (.int 5)]) rfl ?_
  refine J_goto (tgt := 4) dX12_places_23 (by decide) ?_
  refine J_iload_n dX12_places_4 rfl rfl ?_
  refine J_iconst (v := 5) dX12_places_5 (by decide) ?_
  refine J_icmp_ge (tgt := 26) dX12_places_6 (by decide) (fun _ => ?_) (fun q => absurd (by decide +kernel) q)
  refine J_iload_n dX12_places_26 rfl rfl ?_
  exact J_iret dX12_places_27 rfl rfl (Nat.le_of_ble_eq_true rfl) (Nat.le_of_ble_eq_true rfl) ⟨rfl, rfl⟩
set_option maxHeartbeats 4000000 in
set_option maxRecDepth 100000 in
theorem c_X12_nextOrder_1 {l : Launch} {G : jG} {nh : Nat} {fh : Nat → Option va_E} (hk98 : fh 98 = some (.inr (12, [.int 0, .int 0, .ref 99, .ref 100, .ref 101, .ref 102, .ref 103, .ref 104, .ref 105, .int 0, .int (-1), .ref 106, .ref 107, .ref 108, .int 0, .int 0, .int 0, .int 0, .int 0, .int 0, .int 0, .ref 109, .int 0, .int 0, .ref 110, .ref 111, .ref 112, .ref 113, .ref 114, .ref 115, .ref 116, .ref 117, .int 1, .int 0, .int 0, .int (-1), .ref 118, .ref 119, .ref 120, .ref 121, .ref 122, .ref 123, .ref 124, .ref 125, .ref 126, .ref 127, .ref 128, .ref 129, .int 0, .ref 130, .ref 131, .ref 132, .ref 133, .ref 134, .int 0, .int 0]))) : JM l G yX12_nextOrder MX12_nextOrder { frames := 0, cells := 0, slots := 0, locals := 0 } [.ref 98] (nh, fh) (fun r h9 => r = some (.int 0) ∧ h9 = (nh, fh)) := by
  refine JM.of (by decide) rfl (fun h => by cases h) (Nat.le_of_ble_eq_true rfl) ⟨4, rfl⟩ ?_
  refine J_hc0 (J_ls (ls2 := [some (.ref 98), none, none, none, none]) rfl ?_)
  refine J_aload_n dX12_nextOrder_0 rfl rfl ?_
  refine J_get (v := .int 0) dX12_nextOrder_1 fl_X12_293 hk98 rfl ?_
  refine J_iconst (v := 2) dX12_nextOrder_4 (by decide) ?_
  refine J_isub (z := (-2)) dX12_nextOrder_5 (by decide +kernel) ?_
  refine J_istore_n dX12_nextOrder_6 rfl (Nat.le_of_ble_eq_true rfl) rfl ?_
  refine J_iload_n dX12_nextOrder_7 rfl rfl ?_
  refine J_if_lt (tgt := 34) dX12_nextOrder_8 (by decide) (fun _ => ?_) (fun q => absurd (by decide +kernel) q)
  refine J_iload_n dX12_nextOrder_34 rfl rfl ?_
  refine J_if_ge (tgt := 40) dX12_nextOrder_35 (by decide) (fun q => absurd q (by decide +kernel)) (fun _ => ?_)
  refine J_iconst (v := 0) dX12_nextOrder_38 (by decide) ?_
  exact J_iret dX12_nextOrder_39 rfl (by decide +kernel) (Nat.le_of_ble_eq_true rfl) (Nat.le_of_ble_eq_true rfl) ⟨rfl, rfl⟩
set_option maxHeartbeats 4000000 in
set_option maxRecDepth 100000 in
theorem c_X12_laysHouses_1 {l : Launch} {G : jG} {nh : Nat} {fh : Nat → Option va_E} (hk98 : fh 98 = some (.inr (12, [.int 0, .int 0, .ref 99, .ref 100, .ref 101, .ref 102, .ref 103, .ref 104, .ref 105, .int 0, .int (-1), .ref 106, .ref 107, .ref 108, .int 0, .int 0, .int 0, .int 0, .int 0, .int 0, .int 0, .ref 109, .int 0, .int 0, .ref 110, .ref 111, .ref 112, .ref 113, .ref 114, .ref 115, .ref 116, .ref 117, .int 0, .int 0, .int (-1), .int (-1), .ref 118, .ref 119, .ref 120, .ref 121, .ref 122, .ref 123, .ref 124, .ref 125, .ref 126, .ref 127, .ref 128, .ref 129, .int 0, .ref 130, .ref 131, .ref 132, .ref 133, .ref 134, .int 0, .int 0]))) (hk100 : fh 100 = some (.inl (0, 4870, .inl (upd (fun _ => 0) 63 (-1))))) (hk111 : fh 111 = some (.inl (0, 1260, .inl (fun _ => 0)))) : JM l G yX12_laysHouses MX12_laysHouses { frames := 1, cells := 0, slots := 0, locals := 24 } [.ref 98] (nh, fh) (fun r h9 => r = none ∧ h9 = (nh, hc fh [(98, .inr (12, [.int 0, .int 0, .ref 99, .ref 100, .ref 101, .ref 102, .ref 103, .ref 104, .ref 105, .int 0, .int (-1), .ref 106, .ref 107, .ref 108, .int 0, .int 0, .int 0, .int 0, .int 0, .int 0, .int 0, .ref 109, .int 0, .int 0, .ref 110, .ref 111, .ref 112, .ref 113, .ref 114, .ref 115, .ref 116, .ref 117, .int 1, .int 0, .int 0, .int (-1), .ref 118, .ref 119, .ref 120, .ref 121, .ref 122, .ref 123, .ref 124, .ref 125, .ref 126, .ref 127, .ref 128, .ref 129, .int 0, .ref 130, .ref 131, .ref 132, .ref 133, .ref 134, .int 0, .int 0])), (111, .inl (0, 1260, .inl (upd (fun _ => 0) 0 0)))])) := by
  refine JM.of (by decide) rfl (fun h => by cases h) (Nat.le_of_ble_eq_true rfl) ⟨4, rfl⟩ ?_
  refine J_hc0 (J_ls (ls2 := [some (.ref 98), none, none, none, none]) rfl ?_)
  refine J_aload_n dX12_laysHouses_0 rfl rfl ?_
  refine J_get (v := .int (-1)) dX12_laysHouses_1 fl_X12_79 hk98 rfl ?_
  refine J_aload_n dX12_laysHouses_4 rfl rfl ?_
  refine J_get (v := .int 0) dX12_laysHouses_5 fl_X12_11 hk98 rfl ?_
  refine J_icmp_ne (tgt := 12) dX12_laysHouses_8 (by decide) (fun _ => ?_) (fun q => absurd q (by decide +kernel))
  refine J_aload_n dX12_laysHouses_12 rfl rfl ?_
  refine J_aload_n dX12_laysHouses_13 rfl rfl ?_
  refine J_get (v := .int 0) dX12_laysHouses_14 fl_X12_11 hk98 rfl ?_
  refine K_put (fs2 := [.int 0, .int 0, .ref 99, .ref 100, .ref 101, .ref 102, .ref 103, .ref 104, .ref 105, .int 0, .int (-1), .ref 106, .ref 107, .ref 108, .int 0, .int 0, .int 0, .int 0, .int 0, .int 0, .int 0, .ref 109, .int 0, .int 0, .ref 110, .ref 111, .ref 112, .ref 113, .ref 114, .ref 115, .ref 116, .ref 117, .int 0, .int 0, .int 0, .int (-1), .ref 118, .ref 119, .ref 120, .ref 121, .ref 122, .ref 123, .ref 124, .ref 125, .ref 126, .ref 127, .ref 128, .ref 129, .int 0, .ref 130, .ref 131, .ref 132, .ref 133, .ref 134, .int 0, .int 0]) dX12_laysHouses_17 fw_X12_79 hk98 (Nat.le_of_ble_eq_true rfl) (fun _ => ⟨rfl, rfl⟩) rfl ?_
  refine J_aload_n dX12_laysHouses_20 rfl rfl ?_
  refine J_aload_n dX12_laysHouses_21 rfl rfl ?_
  refine J_callV (st := [.ref 98]) dX12_laysHouses_22 cv_X12_149 (c_X12_places_2 rfl hk100) rfl rfl rfl (Nat.le_of_ble_eq_true rfl) ⟨(Nat.le_of_ble_eq_true rfl), (Nat.le_of_ble_eq_true rfl)⟩ ⟨(Nat.le_of_ble_eq_true rfl), (Nat.le_of_ble_eq_true rfl)⟩ (fun r h9 hp => ?_)
  obtain ⟨rfl, rfl⟩ := hp
  refine J_nf (nh2 := nh) (ck2 := 0) (sk2 := 0) (st2 := [.int 0, .ref 98]) rfl rfl rfl rfl ?_
  refine K_put (fs2 := [.int 0, .int 0, .ref 99, .ref 100, .ref 101, .ref 102, .ref 103, .ref 104, .ref 105, .int 0, .int (-1), .ref 106, .ref 107, .ref 108, .int 0, .int 0, .int 0, .int 0, .int 0, .int 0, .int 0, .ref 109, .int 0, .int 0, .ref 110, .ref 111, .ref 112, .ref 113, .ref 114, .ref 115, .ref 116, .ref 117, .int 0, .int 0, .int 0, .int (-1), .ref 118, .ref 119, .ref 120, .ref 121, .ref 122, .ref 123, .ref 124, .ref 125, .ref 126, .ref 127, .ref 128, .ref 129, .int 0, .ref 130, .ref 131, .ref 132, .ref 133, .ref 134, .int 0, .int 0]) dX12_laysHouses_25 fw_X12_293 rfl (Nat.le_of_ble_eq_true rfl) (fun _ => ⟨rfl, rfl⟩) rfl ?_
  refine J_iconst (v := 0) dX12_laysHouses_28 (by decide) ?_
  refine J_istore_n dX12_laysHouses_29 rfl (Nat.le_of_ble_eq_true rfl) rfl ?_
  refine J_iconst (v := 0) dX12_laysHouses_30 (by decide) ?_
  refine J_istore_n dX12_laysHouses_31 rfl (Nat.le_of_ble_eq_true rfl) rfl ?_
  refine J_iload_n dX12_laysHouses_32 rfl rfl ?_
  refine J_iconst (v := 5) dX12_laysHouses_33 (by decide) ?_
  refine J_icmp_ge (tgt := 73) dX12_laysHouses_34 (by decide) (fun q => absurd q (by decide +kernel)) (fun _ => ?_)
  refine J_iconst (v := 0) dX12_laysHouses_37 (by decide) ?_
  refine J_istore_n dX12_laysHouses_38 rfl (Nat.le_of_ble_eq_true rfl) rfl ?_
  refine J_iload_n dX12_laysHouses_39 rfl rfl ?_
  refine J_aload_n dX12_laysHouses_40 rfl rfl ?_
  refine J_get (v := .ref 100) dX12_laysHouses_41 fl_X12_20 rfl rfl ?_
  refine J_iconst (v := 0) dX12_laysHouses_44 (by decide) ?_
  refine J_iload_n dX12_laysHouses_45 rfl rfl ?_
  refine J_iadd (z := 0) dX12_laysHouses_46 (by decide +kernel) ?_
  refine J_iald (i2 := 0) (v := 0) dX12_laysHouses_47 hk100 rfl (jin (by decide +kernel)) (by decide +kernel) rfl ?_
  refine J_icmp_ge (tgt := 67) dX12_laysHouses_48 (by decide) (fun _ => ?_) (fun q => absurd (by decide +kernel) q)
  refine J_iinc (v := 1) dX12_laysHouses_67 rfl (by decide +kernel) (Nat.le_of_ble_eq_true rfl) rfl ?_
  refine J_ls (ls2 := [some (.ref 98), some (.int 0), some (.int 1), some (.int 0), none]) rfl ?_
  refine J_goto (tgt := 32) dX12_laysHouses_70 (by decide) ?_
  refine J_iload_n dX12_laysHouses_32 rfl rfl ?_
  refine J_iconst (v := 5) dX12_laysHouses_33 (by decide) ?_
  refine J_icmp_ge (tgt := 73) dX12_laysHouses_34 (by decide) (fun q => absurd q (by decide +kernel)) (fun _ => ?_)
  refine J_iconst (v := 0) dX12_laysHouses_37 (by decide) ?_
  refine J_istore_n dX12_laysHouses_38 rfl (Nat.le_of_ble_eq_true rfl) rfl ?_
  refine J_iload_n dX12_laysHouses_39 rfl rfl ?_
  refine J_aload_n dX12_laysHouses_40 rfl rfl ?_
  refine J_get (v := .ref 100) dX12_laysHouses_41 fl_X12_20 rfl rfl ?_
  refine J_iconst (v := 0) dX12_laysHouses_44 (by decide) ?_
  refine J_iload_n dX12_laysHouses_45 rfl rfl ?_
  refine J_iadd (z := 1) dX12_laysHouses_46 (by decide +kernel) ?_
  refine J_iald (i2 := 1) (v := 0) dX12_laysHouses_47 hk100 rfl (jin (by decide +kernel)) (by decide +kernel) rfl ?_
  refine J_icmp_ge (tgt := 67) dX12_laysHouses_48 (by decide) (fun _ => ?_) (fun q => absurd (by decide +kernel) q)
  refine J_iinc (v := 2) dX12_laysHouses_67 rfl (by decide +kernel) (Nat.le_of_ble_eq_true rfl) rfl ?_
  refine J_ls (ls2 := [some (.ref 98), some (.int 0), some (.int 2), some (.int 0), none]) rfl ?_
  refine J_goto (tgt := 32) dX12_laysHouses_70 (by decide) ?_
  refine J_iload_n dX12_laysHouses_32 rfl rfl ?_
  refine J_iconst (v := 5) dX12_laysHouses_33 (by decide) ?_
  refine J_icmp_ge (tgt := 73) dX12_laysHouses_34 (by decide) (fun q => absurd q (by decide +kernel)) (fun _ => ?_)
  refine J_iconst (v := 0) dX12_laysHouses_37 (by decide) ?_
  refine J_istore_n dX12_laysHouses_38 rfl (Nat.le_of_ble_eq_true rfl) rfl ?_
  refine J_iload_n dX12_laysHouses_39 rfl rfl ?_
  refine J_aload_n dX12_laysHouses_40 rfl rfl ?_
  refine J_get (v := .ref 100) dX12_laysHouses_41 fl_X12_20 rfl rfl ?_
  refine J_iconst (v := 0) dX12_laysHouses_44 (by decide) ?_
  refine J_iload_n dX12_laysHouses_45 rfl rfl ?_
  refine J_iadd (z := 2) dX12_laysHouses_46 (by decide +kernel) ?_
  refine J_iald (i2 := 2) (v := 0) dX12_laysHouses_47 hk100 rfl (jin (by decide +kernel)) (by decide +kernel) rfl ?_
  refine J_icmp_ge (tgt := 67) dX12_laysHouses_48 (by decide) (fun _ => ?_) (fun q => absurd (by decide +kernel) q)
  refine J_iinc (v := 3) dX12_laysHouses_67 rfl (by decide +kernel) (Nat.le_of_ble_eq_true rfl) rfl ?_
  refine J_ls (ls2 := [some (.ref 98), some (.int 0), some (.int 3), some (.int 0), none]) rfl ?_
  refine J_goto (tgt := 32) dX12_laysHouses_70 (by decide) ?_
  refine J_iload_n dX12_laysHouses_32 rfl rfl ?_
  refine J_iconst (v := 5) dX12_laysHouses_33 (by decide) ?_
  refine J_icmp_ge (tgt := 73) dX12_laysHouses_34 (by decide) (fun q => absurd q (by decide +kernel)) (fun _ => ?_)
  refine J_iconst (v := 0) dX12_laysHouses_37 (by decide) ?_
  refine J_istore_n dX12_laysHouses_38 rfl (Nat.le_of_ble_eq_true rfl) rfl ?_
  refine J_iload_n dX12_laysHouses_39 rfl rfl ?_
  refine J_aload_n dX12_laysHouses_40 rfl rfl ?_
  refine J_get (v := .ref 100) dX12_laysHouses_41 fl_X12_20 rfl rfl ?_
  refine J_iconst (v := 0) dX12_laysHouses_44 (by decide) ?_
  refine J_iload_n dX12_laysHouses_45 rfl rfl ?_
  refine J_iadd (z := 3) dX12_laysHouses_46 (by decide +kernel) ?_
  refine J_iald (i2 := 3) (v := 0) dX12_laysHouses_47 hk100 rfl (jin (by decide +kernel)) (by decide +kernel) rfl ?_
  refine J_icmp_ge (tgt := 67) dX12_laysHouses_48 (by decide) (fun _ => ?_) (fun q => absurd (by decide +kernel) q)
  refine J_iinc (v := 4) dX12_laysHouses_67 rfl (by decide +kernel) (Nat.le_of_ble_eq_true rfl) rfl ?_
  refine J_ls (ls2 := [some (.ref 98), some (.int 0), some (.int 4), some (.int 0), none]) rfl ?_
  refine J_goto (tgt := 32) dX12_laysHouses_70 (by decide) ?_
  refine J_iload_n dX12_laysHouses_32 rfl rfl ?_
  refine J_iconst (v := 5) dX12_laysHouses_33 (by decide) ?_
  refine J_icmp_ge (tgt := 73) dX12_laysHouses_34 (by decide) (fun q => absurd q (by decide +kernel)) (fun _ => ?_)
  refine J_iconst (v := 0) dX12_laysHouses_37 (by decide) ?_
  refine J_istore_n dX12_laysHouses_38 rfl (Nat.le_of_ble_eq_true rfl) rfl ?_
  refine J_iload_n dX12_laysHouses_39 rfl rfl ?_
  refine J_aload_n dX12_laysHouses_40 rfl rfl ?_
  refine J_get (v := .ref 100) dX12_laysHouses_41 fl_X12_20 rfl rfl ?_
  refine J_iconst (v := 0) dX12_laysHouses_44 (by decide) ?_
  refine J_iload_n dX12_laysHouses_45 rfl rfl ?_
  refine J_iadd (z := 4) dX12_laysHouses_46 (by decide +kernel) ?_
  refine J_iald (i2 := 4) (v := 0) dX12_laysHouses_47 hk100 rfl (jin (by decide +kernel)) (by decide +kernel) rfl ?_
  refine J_icmp_ge (tgt := 67) dX12_laysHouses_48 (by decide) (fun _ => ?_) (fun q => absurd (by decide +kernel) q)
  refine J_iinc (v := 5) dX12_laysHouses_67 rfl (by decide +kernel) (Nat.le_of_ble_eq_true rfl) rfl ?_
  refine J_ls (ls2 := [some (.ref 98), some (.int 0), some (.int 5), some (.int 0), none]) rfl ?_
  refine J_goto (tgt := 32) dX12_laysHouses_70 (by decide) ?_
  refine J_iload_n dX12_laysHouses_32 rfl rfl ?_
  refine J_iconst (v := 5) dX12_laysHouses_33 (by decide) ?_
  refine J_icmp_ge (tgt := 73) dX12_laysHouses_34 (by decide) (fun _ => ?_) (fun q => absurd (by decide +kernel) q)
  refine J_aload_n dX12_laysHouses_73 rfl rfl ?_
  refine J_iconst (v := 0) dX12_laysHouses_74 (by decide) ?_
  refine K_put (fs2 := [.int 0, .int 0, .ref 99, .ref 100, .ref 101, .ref 102, .ref 103, .ref 104, .ref 105, .int 0, .int (-1), .ref 106, .ref 107, .ref 108, .int 0, .int 0, .int 0, .int 0, .int 0, .int 0, .int 0, .ref 109, .int 0, .int 0, .ref 110, .ref 111, .ref 112, .ref 113, .ref 114, .ref 115, .ref 116, .ref 117, .int 0, .int 0, .int 0, .int (-1), .ref 118, .ref 119, .ref 120, .ref 121, .ref 122, .ref 123, .ref 124, .ref 125, .ref 126, .ref 127, .ref 128, .ref 129, .int 0, .ref 130, .ref 131, .ref 132, .ref 133, .ref 134, .int 0, .int 0]) dX12_laysHouses_75 fw_X12_298 rfl (Nat.le_of_ble_eq_true rfl) (fun _ => ⟨rfl, rfl⟩) rfl ?_
  refine J_iconst (v := 1) dX12_laysHouses_78 (by decide) ?_
  refine J_istore_n dX12_laysHouses_79 rfl (Nat.le_of_ble_eq_true rfl) rfl ?_
  refine J_iload_n dX12_laysHouses_80 rfl rfl ?_
  refine J_if_eq (tgt := 166) dX12_laysHouses_81 (by decide) (fun q => absurd q (by decide +kernel)) (fun _ => ?_)
  refine J_iconst (v := 0) dX12_laysHouses_84 (by decide) ?_
  refine J_istore_n dX12_laysHouses_85 rfl (Nat.le_of_ble_eq_true rfl) rfl ?_
  refine J_iconst (v := 0) dX12_laysHouses_86 (by decide) ?_
  refine J_istore dX12_laysHouses_87 (Nat.le_of_ble_eq_true rfl) rfl ?_
  refine J_iload dX12_laysHouses_89 rfl ?_
  refine J_aload_n dX12_laysHouses_91 rfl rfl ?_
  refine J_get (v := .int 0) dX12_laysHouses_92 fl_X12_293 rfl rfl ?_
  refine J_icmp_ge (tgt := 138) dX12_laysHouses_95 (by decide) (fun _ => ?_) (fun q => absurd (by decide +kernel) q)
  refine J_aload_n dX12_laysHouses_138 rfl rfl ?_
  refine J_get (v := .ref 111) dX12_laysHouses_139 fl_X12_58 rfl rfl ?_
  refine J_aload_n dX12_laysHouses_142 rfl rfl ?_
  refine J_get (v := .int 0) dX12_laysHouses_143 fl_X12_298 rfl rfl ?_
  refine J_iload_n dX12_laysHouses_146 rfl rfl ?_
  refine K_iast (i2 := 0) dX12_laysHouses_147 hk111 rfl (jin (by decide +kernel)) (by decide +kernel) ?_
  refine J_aload_n dX12_laysHouses_148 rfl rfl ?_
  refine J_dup dX12_laysHouses_149 rfl ?_
  refine J_get (v := .int 0) dX12_laysHouses_150 fl_X12_298 rfl rfl ?_
  refine J_iconst (v := 1) dX12_laysHouses_153 (by decide) ?_
  refine J_iadd (z := 1) dX12_laysHouses_154 (by decide +kernel) ?_
  refine K_put (fs2 := [.int 0, .int 0, .ref 99, .ref 100, .ref 101, .ref 102, .ref 103, .ref 104, .ref 105, .int 0, .int (-1), .ref 106, .ref 107, .ref 108, .int 0, .int 0, .int 0, .int 0, .int 0, .int 0, .int 0, .ref 109, .int 0, .int 0, .ref 110, .ref 111, .ref 112, .ref 113, .ref 114, .ref 115, .ref 116, .ref 117, .int 1, .int 0, .int 0, .int (-1), .ref 118, .ref 119, .ref 120, .ref 121, .ref 122, .ref 123, .ref 124, .ref 125, .ref 126, .ref 127, .ref 128, .ref 129, .int 0, .ref 130, .ref 131, .ref 132, .ref 133, .ref 134, .int 0, .int 0]) dX12_laysHouses_155 fw_X12_298 rfl (Nat.le_of_ble_eq_true rfl) (fun _ => ⟨rfl, rfl⟩) rfl ?_
  refine J_aload_n dX12_laysHouses_158 rfl rfl ?_
  refine J_callV (st := []) dX12_laysHouses_159 cv_X12_301 (c_X12_nextOrder_1 rfl) rfl rfl rfl (Nat.le_of_ble_eq_true rfl) ⟨(Nat.le_of_ble_eq_true rfl), (Nat.le_of_ble_eq_true rfl)⟩ ⟨(Nat.le_of_ble_eq_true rfl), (Nat.le_of_ble_eq_true rfl)⟩ (fun r h9 hp => ?_)
  obtain ⟨rfl, rfl⟩ := hp
  refine J_nf (nh2 := nh) (ck2 := 0) (sk2 := 0) (st2 := [.int 0]) rfl rfl rfl rfl ?_
  refine J_istore_n dX12_laysHouses_162 rfl (Nat.le_of_ble_eq_true rfl) rfl ?_
  refine J_goto (tgt := 80) dX12_laysHouses_163 (by decide) ?_
  refine J_iload_n dX12_laysHouses_80 rfl rfl ?_
  refine J_if_eq (tgt := 166) dX12_laysHouses_81 (by decide) (fun _ => ?_) (fun q => absurd (by decide +kernel) q)
  refine J_mask (L2 := [(98, .inr (12, [.int 0, .int 0, .ref 99, .ref 100, .ref 101, .ref 102, .ref 103, .ref 104, .ref 105, .int 0, .int (-1), .ref 106, .ref 107, .ref 108, .int 0, .int 0, .int 0, .int 0, .int 0, .int 0, .int 0, .ref 109, .int 0, .int 0, .ref 110, .ref 111, .ref 112, .ref 113, .ref 114, .ref 115, .ref 116, .ref 117, .int 1, .int 0, .int 0, .int (-1), .ref 118, .ref 119, .ref 120, .ref 121, .ref 122, .ref 123, .ref 124, .ref 125, .ref 126, .ref 127, .ref 128, .ref 129, .int 0, .ref 130, .ref 131, .ref 132, .ref 133, .ref 134, .int 0, .int 0])), (111, .inl (0, 1260, .inl (upd (fun _ => 0) 0 0)))]) (ks := [98, 111, 98, 98, 98]) [true, true, false, false, false] rfl (by decide +kernel) rfl ?_
  exact J_vret dX12_laysHouses_166 rfl (Nat.le_of_ble_eq_true rfl) (Nat.le_of_ble_eq_true rfl) ⟨rfl, rfl⟩
set_option maxHeartbeats 4000000 in
set_option maxRecDepth 100000 in
theorem c_X12_houses_1 {l : Launch} {G : jG} {nh : Nat} {fh : Nat → Option va_E} (hk98 : fh 98 = some (.inr (12, [.int 0, .int 0, .ref 99, .ref 100, .ref 101, .ref 102, .ref 103, .ref 104, .ref 105, .int 0, .int (-1), .ref 106, .ref 107, .ref 108, .int 0, .int 0, .int 0, .int 0, .int 0, .int 0, .int 0, .ref 109, .int 0, .int 0, .ref 110, .ref 111, .ref 112, .ref 113, .ref 114, .ref 115, .ref 116, .ref 117, .int 0, .int 0, .int (-1), .int (-1), .ref 118, .ref 119, .ref 120, .ref 121, .ref 122, .ref 123, .ref 124, .ref 125, .ref 126, .ref 127, .ref 128, .ref 129, .int 0, .ref 130, .ref 131, .ref 132, .ref 133, .ref 134, .int 0, .int 0]))) (hk100 : fh 100 = some (.inl (0, 4870, .inl (upd (fun _ => 0) 63 (-1))))) (hk111 : fh 111 = some (.inl (0, 1260, .inl (fun _ => 0)))) : JM l G yX12_houses MX12_houses { frames := 2, cells := 0, slots := 0, locals := 48 } [.ref 98] (nh, fh) (fun r h9 => r = some (.int 1) ∧ h9 = (nh, hc fh [(98, .inr (12, [.int 0, .int 0, .ref 99, .ref 100, .ref 101, .ref 102, .ref 103, .ref 104, .ref 105, .int 0, .int (-1), .ref 106, .ref 107, .ref 108, .int 0, .int 0, .int 0, .int 0, .int 0, .int 0, .int 0, .ref 109, .int 0, .int 0, .ref 110, .ref 111, .ref 112, .ref 113, .ref 114, .ref 115, .ref 116, .ref 117, .int 1, .int 0, .int 0, .int (-1), .ref 118, .ref 119, .ref 120, .ref 121, .ref 122, .ref 123, .ref 124, .ref 125, .ref 126, .ref 127, .ref 128, .ref 129, .int 0, .ref 130, .ref 131, .ref 132, .ref 133, .ref 134, .int 0, .int 0])), (111, .inl (0, 1260, .inl (upd (fun _ => 0) 0 0)))])) := by
  refine JM.of (by decide) rfl (fun h => by cases h) (Nat.le_of_ble_eq_true rfl) ⟨0, rfl⟩ ?_
  refine J_hc0 (J_ls (ls2 := [some (.ref 98)]) rfl ?_)
  refine J_aload_n dX12_houses_0 rfl rfl ?_
  refine J_callV (st := []) dX12_houses_1 cv_X12_159 (c_X12_laysHouses_1 hk98 hk100 hk111) hk98 rfl rfl (Nat.le_of_ble_eq_true rfl) ⟨(Nat.le_of_ble_eq_true rfl), (Nat.le_of_ble_eq_true rfl)⟩ ⟨(Nat.le_of_ble_eq_true rfl), (Nat.le_of_ble_eq_true rfl)⟩ (fun r h9 hp => ?_)
  obtain ⟨rfl, rfl⟩ := hp
  refine J_nf (nh2 := nh) (ck2 := 0) (sk2 := 0) (st2 := []) rfl rfl rfl rfl ?_
  refine J_app (L3 := [(98, .inr (12, [.int 0, .int 0, .ref 99, .ref 100, .ref 101, .ref 102, .ref 103, .ref 104, .ref 105, .int 0, .int (-1), .ref 106, .ref 107, .ref 108, .int 0, .int 0, .int 0, .int 0, .int 0, .int 0, .int 0, .ref 109, .int 0, .int 0, .ref 110, .ref 111, .ref 112, .ref 113, .ref 114, .ref 115, .ref 116, .ref 117, .int 1, .int 0, .int 0, .int (-1), .ref 118, .ref 119, .ref 120, .ref 121, .ref 122, .ref 123, .ref 124, .ref 125, .ref 126, .ref 127, .ref 128, .ref 129, .int 0, .ref 130, .ref 131, .ref 132, .ref 133, .ref 134, .int 0, .int 0])), (111, .inl (0, 1260, .inl (upd (fun _ => 0) 0 0)))]) rfl ?_
  refine J_aload_n dX12_houses_4 rfl rfl ?_
  refine J_get (v := .int 1) dX12_houses_5 fl_X12_298 rfl rfl ?_
  exact J_iret dX12_houses_8 rfl rfl (Nat.le_of_ble_eq_true rfl) (Nat.le_of_ble_eq_true rfl) ⟨rfl, rfl⟩
set_option maxHeartbeats 4000000 in
set_option maxRecDepth 100000 in
theorem c_X0_has_1 {l : Launch} {G : jG} {nh : Nat} {fh : Nat → Option va_E} (a1 : Int32) (b_a1 : (-2147483648) ≤ a1.toInt ∧ a1.toInt ≤ (-1)) : JM l G yX0_has MX0_has { frames := 0, cells := 0, slots := 0, locals := 0 } [.ref 51, .int a1] (nh, fh) (fun r h9 => r = some (.int 0) ∧ h9 = (nh, fh)) := by
  refine JM.of (by decide) rfl (fun h => by cases h) (Nat.le_of_ble_eq_true rfl) ⟨0, rfl⟩ ?_
  refine J_hc0 (J_ls (ls2 := [some (.ref 51), some (.int a1)]) rfl ?_)
  refine J_iload_n dX0_has_0 rfl rfl ?_
  refine J_if_lt (tgt := 16) dX0_has_1 (by decide) (fun _ => ?_) (fun q => absurd (by have hb0 := b_a1; simp only [fa_lt, fa_le, fa_eq, kc_0]; omega) q)
  refine J_iconst (v := 0) dX0_has_16 (by decide) ?_
  exact J_iret dX0_has_17 rfl (by decide +kernel) (Nat.le_of_ble_eq_true rfl) (Nat.le_of_ble_eq_true rfl) ⟨rfl, rfl⟩
set_option maxHeartbeats 4000000 in
set_option maxRecDepth 100000 in
theorem c_X11_code_1 {l : Launch} {G : jG} {nh : Nat} {fh : Nat → Option va_E} (a1 : Int32) (b_a1 : (-2147483648) ≤ a1.toInt ∧ a1.toInt ≤ (-1)) (hk0 : fh 0 = some (.inr (11, [.ref 1, .ref 17, .ref 50, .ref 51, .ref 54, .ref 57, .ref 65, .ref 75, .ref 81, .ref 85, .ref 88, .ref 93, .ref 96, .int 0, .int (-1), .ref 97, .int 0]))) (hk51 : fh 51 = some (.inr (0, [.ref 52, .ref 53, .int 1, .int 0]))) : JM l G yX11_code MX11_code { frames := 1, cells := 0, slots := 0, locals := 21 } [.ref 0, .int a1] (nh, fh) (fun r h9 => r = some (.int (-1)) ∧ h9 = (nh, fh)) := by
  refine JM.of (by decide) rfl (fun h => by cases h) (Nat.le_of_ble_eq_true rfl) ⟨0, rfl⟩ ?_
  refine J_hc0 (J_ls (ls2 := [some (.ref 0), some (.int a1)]) rfl ?_)
  refine J_aload_n dX11_code_0 rfl rfl ?_
  refine J_get (v := .ref 51) dX11_code_1 fl_X11_27 hk0 rfl ?_
  refine J_iload_n dX11_code_4 rfl rfl ?_
  refine J_callV (st := []) dX11_code_5 cv_X11_135 (c_X0_has_1 (a1) b_a1) hk51 rfl rfl (Nat.le_of_ble_eq_true rfl) ⟨(Nat.le_of_ble_eq_true rfl), (Nat.le_of_ble_eq_true rfl)⟩ ⟨(Nat.le_of_ble_eq_true rfl), (Nat.le_of_ble_eq_true rfl)⟩ (fun r h9 hp => ?_)
  obtain ⟨rfl, rfl⟩ := hp
  refine J_nf (nh2 := nh) (ck2 := 0) (sk2 := 0) (st2 := [.int 0]) rfl rfl rfl rfl ?_
  refine J_if_eq (tgt := 22) dX11_code_8 (by decide) (fun _ => ?_) (fun q => absurd (by decide +kernel) q)
  refine J_iconst (v := (-1)) dX11_code_22 (by decide) ?_
  exact J_iret dX11_code_23 rfl rfl (Nat.le_of_ble_eq_true rfl) (Nat.le_of_ble_eq_true rfl) ⟨rfl, rfl⟩
set_option maxHeartbeats 4000000 in
set_option maxRecDepth 100000 in
theorem c_X12_lies_19 {l : Launch} {G : jG} {nh : Nat} {fh : Nat → Option va_E} (a0 : Int32) (b_a0 : (-2147483648) ≤ a0.toInt ∧ a0.toInt ≤ (-1)) : JM l G yX12_lies MX12_lies { frames := 0, cells := 0, slots := 0, locals := 0 } [.int a0, .int 0, .int 0] (nh, fh) (fun r h9 => r = some (.int 0) ∧ h9 = (nh, fh)) := by
  refine JM.of (by decide) rfl (fun h => by cases h) (Nat.le_of_ble_eq_true rfl) ⟨0, rfl⟩ ?_
  refine J_hc0 (J_ls (ls2 := [some (.int a0), some (.int 0), some (.int 0)]) rfl ?_)
  refine J_iload_n dX12_lies_0 rfl rfl ?_
  refine J_iload_n dX12_lies_1 rfl rfl ?_
  refine J_icmp_lt (tgt := 14) dX12_lies_2 (by decide) (fun _ => ?_) (fun q => absurd (by have hb0 := b_a0; simp only [fa_lt, fa_le, fa_eq, kc_0]; omega) q)
  refine J_iconst (v := 0) dX12_lies_14 (by decide) ?_
  exact J_iret dX12_lies_15 rfl (by decide +kernel) (Nat.le_of_ble_eq_true rfl) (Nat.le_of_ble_eq_true rfl) ⟨rfl, rfl⟩
set_option maxHeartbeats 4000000 in
set_option maxRecDepth 100000 in
theorem c_X12_isHouse_1 {l : Launch} {G : jG} {nh : Nat} {fh : Nat → Option va_E} (a1 : Int32) (b_a1 : (-2147483648) ≤ a1.toInt ∧ a1.toInt ≤ (-1)) (hk98 : fh 98 = some (.inr (12, [.int 0, .int 0, .ref 99, .ref 100, .ref 101, .ref 102, .ref 103, .ref 104, .ref 105, .int 0, .int (-1), .ref 106, .ref 107, .ref 108, .int 0, .int 0, .int 0, .int 0, .int 0, .int 0, .int 0, .ref 109, .int 0, .int 0, .ref 110, .ref 111, .ref 112, .ref 113, .ref 114, .ref 115, .ref 116, .ref 117, .int 0, .int 0, .int (-1), .int (-1), .ref 118, .ref 119, .ref 120, .ref 121, .ref 122, .ref 123, .ref 124, .ref 125, .ref 126, .ref 127, .ref 128, .ref 129, .int 0, .ref 130, .ref 131, .ref 132, .ref 133, .ref 134, .int 0, .int 0]))) (hk100 : fh 100 = some (.inl (0, 4870, .inl (upd (fun _ => 0) 63 (-1))))) (hk111 : fh 111 = some (.inl (0, 1260, .inl (fun _ => 0)))) : JM l G yX12_isHouse MX12_isHouse { frames := 2, cells := 0, slots := 0, locals := 48 } [.ref 98, .int a1] (nh, fh) (fun r h9 => r = some (.int 0) ∧ h9 = (nh, hc fh [(98, .inr (12, [.int 0, .int 0, .ref 99, .ref 100, .ref 101, .ref 102, .ref 103, .ref 104, .ref 105, .int 0, .int (-1), .ref 106, .ref 107, .ref 108, .int 0, .int 0, .int 0, .int 0, .int 0, .int 0, .int 0, .ref 109, .int 0, .int 0, .ref 110, .ref 111, .ref 112, .ref 113, .ref 114, .ref 115, .ref 116, .ref 117, .int 1, .int 0, .int 0, .int (-1), .ref 118, .ref 119, .ref 120, .ref 121, .ref 122, .ref 123, .ref 124, .ref 125, .ref 126, .ref 127, .ref 128, .ref 129, .int 0, .ref 130, .ref 131, .ref 132, .ref 133, .ref 134, .int 0, .int 0])), (111, .inl (0, 1260, .inl (upd (fun _ => 0) 0 0)))])) := by
  refine JM.of (by decide) rfl (fun h => by cases h) (Nat.le_of_ble_eq_true rfl) ⟨0, rfl⟩ ?_
  refine J_hc0 (J_ls (ls2 := [some (.ref 98), some (.int a1)]) rfl ?_)
  refine J_aload_n dX12_isHouse_0 rfl rfl ?_
  refine J_callV (st := []) dX12_isHouse_1 cv_X12_159 (c_X12_laysHouses_1 hk98 hk100 hk111) hk98 rfl rfl (Nat.le_of_ble_eq_true rfl) ⟨(Nat.le_of_ble_eq_true rfl), (Nat.le_of_ble_eq_true rfl)⟩ ⟨(Nat.le_of_ble_eq_true rfl), (Nat.le_of_ble_eq_true rfl)⟩ (fun r h9 hp => ?_)
  obtain ⟨rfl, rfl⟩ := hp
  refine J_nf (nh2 := nh) (ck2 := 0) (sk2 := 0) (st2 := []) rfl rfl rfl rfl ?_
  refine J_app (L3 := [(98, .inr (12, [.int 0, .int 0, .ref 99, .ref 100, .ref 101, .ref 102, .ref 103, .ref 104, .ref 105, .int 0, .int (-1), .ref 106, .ref 107, .ref 108, .int 0, .int 0, .int 0, .int 0, .int 0, .int 0, .int 0, .ref 109, .int 0, .int 0, .ref 110, .ref 111, .ref 112, .ref 113, .ref 114, .ref 115, .ref 116, .ref 117, .int 1, .int 0, .int 0, .int (-1), .ref 118, .ref 119, .ref 120, .ref 121, .ref 122, .ref 123, .ref 124, .ref 125, .ref 126, .ref 127, .ref 128, .ref 129, .int 0, .ref 130, .ref 131, .ref 132, .ref 133, .ref 134, .int 0, .int 0])), (111, .inl (0, 1260, .inl (upd (fun _ => 0) 0 0)))]) rfl ?_
  refine J_iload_n dX12_isHouse_4 rfl rfl ?_
  refine J_iconst (v := 0) dX12_isHouse_5 (by decide) ?_
  refine J_aload_n dX12_isHouse_6 rfl rfl ?_
  refine J_get (v := .int 1) dX12_isHouse_7 fl_X12_298 rfl rfl ?_
  refine J_iconst (v := 1) dX12_isHouse_10 (by decide) ?_
  refine J_isub (z := 0) dX12_isHouse_11 (by decide +kernel) ?_
  refine J_callS (st := []) dX12_isHouse_12 cs_X12_138 (c_X12_lies_19 (a1) b_a1) rfl rfl (Nat.le_of_ble_eq_true rfl) ⟨(Nat.le_of_ble_eq_true rfl), (Nat.le_of_ble_eq_true rfl)⟩ ⟨(Nat.le_of_ble_eq_true rfl), (Nat.le_of_ble_eq_true rfl)⟩ (fun r h9 hp => ?_)
  obtain ⟨rfl, rfl⟩ := hp
  refine J_nf (nh2 := nh) (ck2 := 0) (sk2 := 0) (st2 := [.int 0]) rfl rfl rfl rfl ?_
  exact J_iret dX12_isHouse_15 rfl (by decide +kernel) (Nat.le_of_ble_eq_true rfl) (Nat.le_of_ble_eq_true rfl) ⟨rfl, rfl⟩
set_option maxHeartbeats 4000000 in
set_option maxRecDepth 100000 in
theorem c_X12_code_1 {l : Launch} {G : jG} {nh : Nat} {fh : Nat → Option va_E} (a1 : Int32) (b_a1 : (-2147483648) ≤ a1.toInt ∧ a1.toInt ≤ (-1)) (hk98 : fh 98 = some (.inr (12, [.int 0, .int 0, .ref 99, .ref 100, .ref 101, .ref 102, .ref 103, .ref 104, .ref 105, .int 0, .int (-1), .ref 106, .ref 107, .ref 108, .int 0, .int 0, .int 0, .int 0, .int 0, .int 0, .int 0, .ref 109, .int 0, .int 0, .ref 110, .ref 111, .ref 112, .ref 113, .ref 114, .ref 115, .ref 116, .ref 117, .int 0, .int 0, .int (-1), .int (-1), .ref 118, .ref 119, .ref 120, .ref 121, .ref 122, .ref 123, .ref 124, .ref 125, .ref 126, .ref 127, .ref 128, .ref 129, .int 0, .ref 130, .ref 131, .ref 132, .ref 133, .ref 134, .int 0, .int 0]))) (hk100 : fh 100 = some (.inl (0, 4870, .inl (upd (fun _ => 0) 63 (-1))))) (hk111 : fh 111 = some (.inl (0, 1260, .inl (fun _ => 0)))) : JM l G yX12_code MX12_code { frames := 3, cells := 0, slots := 0, locals := 69 } [.ref 98, .int a1] (nh, fh) (fun r h9 => r = some (.int (-1)) ∧ h9 = (nh, hc fh [(98, .inr (12, [.int 0, .int 0, .ref 99, .ref 100, .ref 101, .ref 102, .ref 103, .ref 104, .ref 105, .int 0, .int (-1), .ref 106, .ref 107, .ref 108, .int 0, .int 0, .int 0, .int 0, .int 0, .int 0, .int 0, .ref 109, .int 0, .int 0, .ref 110, .ref 111, .ref 112, .ref 113, .ref 114, .ref 115, .ref 116, .ref 117, .int 1, .int 0, .int 0, .int (-1), .ref 118, .ref 119, .ref 120, .ref 121, .ref 122, .ref 123, .ref 124, .ref 125, .ref 126, .ref 127, .ref 128, .ref 129, .int 0, .ref 130, .ref 131, .ref 132, .ref 133, .ref 134, .int 0, .int 0])), (111, .inl (0, 1260, .inl (upd (fun _ => 0) 0 0)))])) := by
  refine JM.of (by decide) rfl (fun h => by cases h) (Nat.le_of_ble_eq_true rfl) ⟨0, rfl⟩ ?_
  refine J_hc0 (J_ls (ls2 := [some (.ref 98), some (.int a1)]) rfl ?_)
  refine J_aload_n dX12_code_0 rfl rfl ?_
  refine J_iload_n dX12_code_1 rfl rfl ?_
  refine J_callV (st := []) dX12_code_2 cv_X12_325 (c_X12_isHouse_1 (a1) b_a1 hk98 hk100 hk111) hk98 rfl rfl (Nat.le_of_ble_eq_true rfl) ⟨(Nat.le_of_ble_eq_true rfl), (Nat.le_of_ble_eq_true rfl)⟩ ⟨(Nat.le_of_ble_eq_true rfl), (Nat.le_of_ble_eq_true rfl)⟩ (fun r h9 hp => ?_)
  obtain ⟨rfl, rfl⟩ := hp
  refine J_nf (nh2 := nh) (ck2 := 0) (sk2 := 0) (st2 := [.int 0]) rfl rfl rfl rfl ?_
  refine J_app (L3 := [(98, .inr (12, [.int 0, .int 0, .ref 99, .ref 100, .ref 101, .ref 102, .ref 103, .ref 104, .ref 105, .int 0, .int (-1), .ref 106, .ref 107, .ref 108, .int 0, .int 0, .int 0, .int 0, .int 0, .int 0, .int 0, .ref 109, .int 0, .int 0, .ref 110, .ref 111, .ref 112, .ref 113, .ref 114, .ref 115, .ref 116, .ref 117, .int 1, .int 0, .int 0, .int (-1), .ref 118, .ref 119, .ref 120, .ref 121, .ref 122, .ref 123, .ref 124, .ref 125, .ref 126, .ref 127, .ref 128, .ref 129, .int 0, .ref 130, .ref 131, .ref 132, .ref 133, .ref 134, .int 0, .int 0])), (111, .inl (0, 1260, .inl (upd (fun _ => 0) 0 0)))]) rfl ?_
  refine J_if_eq (tgt := 17) dX12_code_5 (by decide) (fun _ => ?_) (fun q => absurd (by decide +kernel) q)
  refine J_iconst (v := (-1)) dX12_code_17 (by decide) ?_
  exact J_iret dX12_code_18 rfl rfl (Nat.le_of_ble_eq_true rfl) (Nat.le_of_ble_eq_true rfl) ⟨rfl, rfl⟩
set_option maxHeartbeats 4000000 in
set_option maxRecDepth 100000 in
theorem c_X0_has_2 {l : Launch} {G : jG} {nh : Nat} {fh : Nat → Option va_E} (hk51 : fh 51 = some (.inr (0, [.ref 52, .ref 53, .int 1, .int 0]))) : JM l G yX0_has MX0_has { frames := 0, cells := 0, slots := 0, locals := 0 } [.ref 51, .int 0] (nh, fh) (fun r h9 => r = some (.int 1) ∧ h9 = (nh, fh)) := by
  refine JM.of (by decide) rfl (fun h => by cases h) (Nat.le_of_ble_eq_true rfl) ⟨0, rfl⟩ ?_
  refine J_hc0 (J_ls (ls2 := [some (.ref 51), some (.int 0)]) rfl ?_)
  refine J_iload_n dX0_has_0 rfl rfl ?_
  refine J_if_lt (tgt := 16) dX0_has_1 (by decide) (fun q => absurd q (by decide +kernel)) (fun _ => ?_)
  refine J_iload_n dX0_has_4 rfl rfl ?_
  refine J_aload_n dX0_has_5 rfl rfl ?_
  refine J_get (v := .int 1) dX0_has_6 fl_X0_18 hk51 rfl ?_
  refine J_icmp_ge (tgt := 16) dX0_has_9 (by decide) (fun q => absurd q (by decide +kernel)) (fun _ => ?_)
  refine J_iconst (v := 1) dX0_has_12 (by decide) ?_
  refine J_goto (tgt := 17) dX0_has_13 (by decide) ?_
  exact J_iret dX0_has_17 rfl (by decide +kernel) (Nat.le_of_ble_eq_true rfl) (Nat.le_of_ble_eq_true rfl) ⟨rfl, rfl⟩
set_option maxHeartbeats 4000000 in
set_option maxRecDepth 100000 in
theorem c_X0_codeOf_1 {l : Launch} {G : jG} {nh : Nat} {fh : Nat → Option va_E} (hk51 : fh 51 = some (.inr (0, [.ref 52, .ref 53, .int 1, .int 0]))) : JM l G yX0_codeOf MX0_codeOf { frames := 0, cells := 0, slots := 0, locals := 0 } [.ref 51, .int 0] (nh, fh) (fun r h9 => r = some (.int 0) ∧ h9 = (nh, fh)) := by
  refine JM.of (by decide) rfl (fun h => by cases h) (Nat.le_of_ble_eq_true rfl) ⟨2, rfl⟩ ?_
  refine J_hc0 (J_ls (ls2 := [some (.ref 51), some (.int 0), none, none]) rfl ?_)
  refine J_iconst (v := 0) dX0_codeOf_0 (by decide) ?_
  refine J_istore_n dX0_codeOf_1 rfl (Nat.le_of_ble_eq_true rfl) rfl ?_
  refine J_iconst (v := 0) dX0_codeOf_2 (by decide) ?_
  refine J_istore_n dX0_codeOf_3 rfl (Nat.le_of_ble_eq_true rfl) rfl ?_
  refine J_iload_n dX0_codeOf_4 rfl rfl ?_
  refine J_aload_n dX0_codeOf_5 rfl rfl ?_
  refine J_get (v := .int 0) dX0_codeOf_6 fl_X0_22 hk51 rfl ?_
  refine J_icmp_ge (tgt := 36) dX0_codeOf_9 (by decide) (fun _ => ?_) (fun q => absurd (by decide +kernel) q)
  refine J_iload_n dX0_codeOf_36 rfl rfl ?_
  exact J_iret dX0_codeOf_37 rfl rfl (Nat.le_of_ble_eq_true rfl) (Nat.le_of_ble_eq_true rfl) ⟨rfl, rfl⟩
set_option maxHeartbeats 4000000 in
set_option maxRecDepth 100000 in
theorem c_X11_code_2 {l : Launch} {G : jG} {nh : Nat} {fh : Nat → Option va_E} (hk0 : fh 0 = some (.inr (11, [.ref 1, .ref 17, .ref 50, .ref 51, .ref 54, .ref 57, .ref 65, .ref 75, .ref 81, .ref 85, .ref 88, .ref 93, .ref 96, .int 0, .int (-1), .ref 97, .int 0]))) (hk51 : fh 51 = some (.inr (0, [.ref 52, .ref 53, .int 1, .int 0]))) : JM l G yX11_code MX11_code { frames := 1, cells := 0, slots := 0, locals := 23 } [.ref 0, .int 0] (nh, fh) (fun r h9 => r = some (.int 0) ∧ h9 = (nh, fh)) := by
  refine JM.of (by decide) rfl (fun h => by cases h) (Nat.le_of_ble_eq_true rfl) ⟨0, rfl⟩ ?_
  refine J_hc0 (J_ls (ls2 := [some (.ref 0), some (.int 0)]) rfl ?_)
  refine J_aload_n dX11_code_0 rfl rfl ?_
  refine J_get (v := .ref 51) dX11_code_1 fl_X11_27 hk0 rfl ?_
  refine J_iload_n dX11_code_4 rfl rfl ?_
  refine J_callV (st := []) dX11_code_5 cv_X11_135 (c_X0_has_2 hk51) hk51 rfl rfl (Nat.le_of_ble_eq_true rfl) ⟨(Nat.le_of_ble_eq_true rfl), (Nat.le_of_ble_eq_true rfl)⟩ ⟨(Nat.le_of_ble_eq_true rfl), (Nat.le_of_ble_eq_true rfl)⟩ (fun r h9 hp => ?_)
  obtain ⟨rfl, rfl⟩ := hp
  refine J_nf (nh2 := nh) (ck2 := 0) (sk2 := 0) (st2 := [.int 1]) rfl rfl rfl rfl ?_
  refine J_if_eq (tgt := 22) dX11_code_8 (by decide) (fun q => absurd q (by decide +kernel)) (fun _ => ?_)
  refine J_aload_n dX11_code_11 rfl rfl ?_
  refine J_get (v := .ref 51) dX11_code_12 fl_X11_27 hk0 rfl ?_
  refine J_iload_n dX11_code_15 rfl rfl ?_
  refine J_callV (st := []) dX11_code_16 cv_X11_139 (c_X0_codeOf_1 hk51) hk51 rfl rfl (Nat.le_of_ble_eq_true rfl) ⟨(Nat.le_of_ble_eq_true rfl), (Nat.le_of_ble_eq_true rfl)⟩ ⟨(Nat.le_of_ble_eq_true rfl), (Nat.le_of_ble_eq_true rfl)⟩ (fun r h9 hp => ?_)
  obtain ⟨rfl, rfl⟩ := hp
  refine J_nf (nh2 := nh) (ck2 := 0) (sk2 := 0) (st2 := [.int 0]) rfl rfl rfl rfl ?_
  refine J_goto (tgt := 23) dX11_code_19 (by decide) ?_
  exact J_iret dX11_code_23 rfl rfl (Nat.le_of_ble_eq_true rfl) (Nat.le_of_ble_eq_true rfl) ⟨rfl, rfl⟩
set_option maxHeartbeats 4000000 in
set_option maxRecDepth 100000 in
theorem c_X12_lies_20 {l : Launch} {G : jG} {nh : Nat} {fh : Nat → Option va_E}  : JM l G yX12_lies MX12_lies { frames := 0, cells := 0, slots := 0, locals := 0 } [.int 0, .int 0, .int 0] (nh, fh) (fun r h9 => r = some (.int 1) ∧ h9 = (nh, fh)) := by
  refine JM.of (by decide) rfl (fun h => by cases h) (Nat.le_of_ble_eq_true rfl) ⟨0, rfl⟩ ?_
  refine J_hc0 (J_ls (ls2 := [some (.int 0), some (.int 0), some (.int 0)]) rfl ?_)
  refine J_iload_n dX12_lies_0 rfl rfl ?_
  refine J_iload_n dX12_lies_1 rfl rfl ?_
  refine J_icmp_lt (tgt := 14) dX12_lies_2 (by decide) (fun q => absurd q (by decide +kernel)) (fun _ => ?_)
  refine J_iload_n dX12_lies_5 rfl rfl ?_
  refine J_iload_n dX12_lies_6 rfl rfl ?_
  refine J_icmp_gt (tgt := 14) dX12_lies_7 (by decide) (fun q => absurd q (by decide +kernel)) (fun _ => ?_)
  refine J_iconst (v := 1) dX12_lies_10 (by decide) ?_
  refine J_goto (tgt := 15) dX12_lies_11 (by decide) ?_
  exact J_iret dX12_lies_15 rfl (by decide +kernel) (Nat.le_of_ble_eq_true rfl) (Nat.le_of_ble_eq_true rfl) ⟨rfl, rfl⟩
set_option maxHeartbeats 4000000 in
set_option maxRecDepth 100000 in
theorem c_X12_isHouse_2 {l : Launch} {G : jG} {nh : Nat} {fh : Nat → Option va_E} (hk98 : fh 98 = some (.inr (12, [.int 0, .int 0, .ref 99, .ref 100, .ref 101, .ref 102, .ref 103, .ref 104, .ref 105, .int 0, .int (-1), .ref 106, .ref 107, .ref 108, .int 0, .int 0, .int 0, .int 0, .int 0, .int 0, .int 0, .ref 109, .int 0, .int 0, .ref 110, .ref 111, .ref 112, .ref 113, .ref 114, .ref 115, .ref 116, .ref 117, .int 0, .int 0, .int (-1), .int (-1), .ref 118, .ref 119, .ref 120, .ref 121, .ref 122, .ref 123, .ref 124, .ref 125, .ref 126, .ref 127, .ref 128, .ref 129, .int 0, .ref 130, .ref 131, .ref 132, .ref 133, .ref 134, .int 0, .int 0]))) (hk100 : fh 100 = some (.inl (0, 4870, .inl (upd (fun _ => 0) 63 (-1))))) (hk111 : fh 111 = some (.inl (0, 1260, .inl (fun _ => 0)))) : JM l G yX12_isHouse MX12_isHouse { frames := 2, cells := 0, slots := 0, locals := 48 } [.ref 98, .int 0] (nh, fh) (fun r h9 => r = some (.int 1) ∧ h9 = (nh, hc fh [(98, .inr (12, [.int 0, .int 0, .ref 99, .ref 100, .ref 101, .ref 102, .ref 103, .ref 104, .ref 105, .int 0, .int (-1), .ref 106, .ref 107, .ref 108, .int 0, .int 0, .int 0, .int 0, .int 0, .int 0, .int 0, .ref 109, .int 0, .int 0, .ref 110, .ref 111, .ref 112, .ref 113, .ref 114, .ref 115, .ref 116, .ref 117, .int 1, .int 0, .int 0, .int (-1), .ref 118, .ref 119, .ref 120, .ref 121, .ref 122, .ref 123, .ref 124, .ref 125, .ref 126, .ref 127, .ref 128, .ref 129, .int 0, .ref 130, .ref 131, .ref 132, .ref 133, .ref 134, .int 0, .int 0])), (111, .inl (0, 1260, .inl (upd (fun _ => 0) 0 0)))])) := by
  refine JM.of (by decide) rfl (fun h => by cases h) (Nat.le_of_ble_eq_true rfl) ⟨0, rfl⟩ ?_
  refine J_hc0 (J_ls (ls2 := [some (.ref 98), some (.int 0)]) rfl ?_)
  refine J_aload_n dX12_isHouse_0 rfl rfl ?_
  refine J_callV (st := []) dX12_isHouse_1 cv_X12_159 (c_X12_laysHouses_1 hk98 hk100 hk111) hk98 rfl rfl (Nat.le_of_ble_eq_true rfl) ⟨(Nat.le_of_ble_eq_true rfl), (Nat.le_of_ble_eq_true rfl)⟩ ⟨(Nat.le_of_ble_eq_true rfl), (Nat.le_of_ble_eq_true rfl)⟩ (fun r h9 hp => ?_)
  obtain ⟨rfl, rfl⟩ := hp
  refine J_nf (nh2 := nh) (ck2 := 0) (sk2 := 0) (st2 := []) rfl rfl rfl rfl ?_
  refine J_app (L3 := [(98, .inr (12, [.int 0, .int 0, .ref 99, .ref 100, .ref 101, .ref 102, .ref 103, .ref 104, .ref 105, .int 0, .int (-1), .ref 106, .ref 107, .ref 108, .int 0, .int 0, .int 0, .int 0, .int 0, .int 0, .int 0, .ref 109, .int 0, .int 0, .ref 110, .ref 111, .ref 112, .ref 113, .ref 114, .ref 115, .ref 116, .ref 117, .int 1, .int 0, .int 0, .int (-1), .ref 118, .ref 119, .ref 120, .ref 121, .ref 122, .ref 123, .ref 124, .ref 125, .ref 126, .ref 127, .ref 128, .ref 129, .int 0, .ref 130, .ref 131, .ref 132, .ref 133, .ref 134, .int 0, .int 0])), (111, .inl (0, 1260, .inl (upd (fun _ => 0) 0 0)))]) rfl ?_
  refine J_iload_n dX12_isHouse_4 rfl rfl ?_
  refine J_iconst (v := 0) dX12_isHouse_5 (by decide) ?_
  refine J_aload_n dX12_isHouse_6 rfl rfl ?_
  refine J_get (v := .int 1) dX12_isHouse_7 fl_X12_298 rfl rfl ?_
  refine J_iconst (v := 1) dX12_isHouse_10 (by decide) ?_
  refine J_isub (z := 0) dX12_isHouse_11 (by decide +kernel) ?_
  refine J_callS (st := []) dX12_isHouse_12 cs_X12_138 (c_X12_lies_20 ) rfl rfl (Nat.le_of_ble_eq_true rfl) ⟨(Nat.le_of_ble_eq_true rfl), (Nat.le_of_ble_eq_true rfl)⟩ ⟨(Nat.le_of_ble_eq_true rfl), (Nat.le_of_ble_eq_true rfl)⟩ (fun r h9 hp => ?_)
  obtain ⟨rfl, rfl⟩ := hp
  refine J_nf (nh2 := nh) (ck2 := 0) (sk2 := 0) (st2 := [.int 1]) rfl rfl rfl rfl ?_
  exact J_iret dX12_isHouse_15 rfl (by decide +kernel) (Nat.le_of_ble_eq_true rfl) (Nat.le_of_ble_eq_true rfl) ⟨rfl, rfl⟩
set_option maxHeartbeats 4000000 in
set_option maxRecDepth 100000 in
theorem c_X12_code_2 {l : Launch} {G : jG} {nh : Nat} {fh : Nat → Option va_E} (hk98 : fh 98 = some (.inr (12, [.int 0, .int 0, .ref 99, .ref 100, .ref 101, .ref 102, .ref 103, .ref 104, .ref 105, .int 0, .int (-1), .ref 106, .ref 107, .ref 108, .int 0, .int 0, .int 0, .int 0, .int 0, .int 0, .int 0, .ref 109, .int 0, .int 0, .ref 110, .ref 111, .ref 112, .ref 113, .ref 114, .ref 115, .ref 116, .ref 117, .int 0, .int 0, .int (-1), .int (-1), .ref 118, .ref 119, .ref 120, .ref 121, .ref 122, .ref 123, .ref 124, .ref 125, .ref 126, .ref 127, .ref 128, .ref 129, .int 0, .ref 130, .ref 131, .ref 132, .ref 133, .ref 134, .int 0, .int 0]))) (hk100 : fh 100 = some (.inl (0, 4870, .inl (upd (fun _ => 0) 63 (-1))))) (hk111 : fh 111 = some (.inl (0, 1260, .inl (fun _ => 0)))) : JM l G yX12_code MX12_code { frames := 3, cells := 0, slots := 0, locals := 69 } [.ref 98, .int 0] (nh, fh) (fun r h9 => r = some (.int 0) ∧ h9 = (nh, hc fh [(98, .inr (12, [.int 0, .int 0, .ref 99, .ref 100, .ref 101, .ref 102, .ref 103, .ref 104, .ref 105, .int 0, .int (-1), .ref 106, .ref 107, .ref 108, .int 0, .int 0, .int 0, .int 0, .int 0, .int 0, .int 0, .ref 109, .int 0, .int 0, .ref 110, .ref 111, .ref 112, .ref 113, .ref 114, .ref 115, .ref 116, .ref 117, .int 1, .int 0, .int 0, .int (-1), .ref 118, .ref 119, .ref 120, .ref 121, .ref 122, .ref 123, .ref 124, .ref 125, .ref 126, .ref 127, .ref 128, .ref 129, .int 0, .ref 130, .ref 131, .ref 132, .ref 133, .ref 134, .int 0, .int 0])), (111, .inl (0, 1260, .inl (upd (fun _ => 0) 0 0)))])) := by
  refine JM.of (by decide) rfl (fun h => by cases h) (Nat.le_of_ble_eq_true rfl) ⟨0, rfl⟩ ?_
  refine J_hc0 (J_ls (ls2 := [some (.ref 98), some (.int 0)]) rfl ?_)
  refine J_aload_n dX12_code_0 rfl rfl ?_
  refine J_iload_n dX12_code_1 rfl rfl ?_
  refine J_callV (st := []) dX12_code_2 cv_X12_325 (c_X12_isHouse_2 hk98 hk100 hk111) hk98 rfl rfl (Nat.le_of_ble_eq_true rfl) ⟨(Nat.le_of_ble_eq_true rfl), (Nat.le_of_ble_eq_true rfl)⟩ ⟨(Nat.le_of_ble_eq_true rfl), (Nat.le_of_ble_eq_true rfl)⟩ (fun r h9 hp => ?_)
  obtain ⟨rfl, rfl⟩ := hp
  refine J_nf (nh2 := nh) (ck2 := 0) (sk2 := 0) (st2 := [.int 1]) rfl rfl rfl rfl ?_
  refine J_app (L3 := [(98, .inr (12, [.int 0, .int 0, .ref 99, .ref 100, .ref 101, .ref 102, .ref 103, .ref 104, .ref 105, .int 0, .int (-1), .ref 106, .ref 107, .ref 108, .int 0, .int 0, .int 0, .int 0, .int 0, .int 0, .int 0, .ref 109, .int 0, .int 0, .ref 110, .ref 111, .ref 112, .ref 113, .ref 114, .ref 115, .ref 116, .ref 117, .int 1, .int 0, .int 0, .int (-1), .ref 118, .ref 119, .ref 120, .ref 121, .ref 122, .ref 123, .ref 124, .ref 125, .ref 126, .ref 127, .ref 128, .ref 129, .int 0, .ref 130, .ref 131, .ref 132, .ref 133, .ref 134, .int 0, .int 0])), (111, .inl (0, 1260, .inl (upd (fun _ => 0) 0 0)))]) rfl ?_
  refine J_if_eq (tgt := 17) dX12_code_5 (by decide) (fun q => absurd q (by decide +kernel)) (fun _ => ?_)
  refine J_aload_n dX12_code_8 rfl rfl ?_
  refine J_get (v := .ref 111) dX12_code_9 fl_X12_58 rfl rfl ?_
  refine J_iload_n dX12_code_12 rfl rfl ?_
  refine J_iald (i2 := 0) (v := 0) dX12_code_13 rfl rfl (jin (by decide +kernel)) (by decide +kernel) rfl ?_
  refine J_goto (tgt := 18) dX12_code_14 (by decide) ?_
  exact J_iret dX12_code_18 rfl rfl (Nat.le_of_ble_eq_true rfl) (Nat.le_of_ble_eq_true rfl) ⟨rfl, rfl⟩
set_option maxHeartbeats 4000000 in
set_option maxRecDepth 100000 in
theorem c_X0_has_3 {l : Launch} {G : jG} {nh : Nat} {fh : Nat → Option va_E} (a1 : Int32) (b_a1 : 1 ≤ a1.toInt ∧ a1.toInt ≤ 2147483647) (hk51 : fh 51 = some (.inr (0, [.ref 52, .ref 53, .int 1, .int 0]))) : JM l G yX0_has MX0_has { frames := 0, cells := 0, slots := 0, locals := 0 } [.ref 51, .int a1] (nh, fh) (fun r h9 => r = some (.int 0) ∧ h9 = (nh, fh)) := by
  refine JM.of (by decide) rfl (fun h => by cases h) (Nat.le_of_ble_eq_true rfl) ⟨0, rfl⟩ ?_
  refine J_hc0 (J_ls (ls2 := [some (.ref 51), some (.int a1)]) rfl ?_)
  refine J_iload_n dX0_has_0 rfl rfl ?_
  refine J_if_lt (tgt := 16) dX0_has_1 (by decide) (fun q => absurd q (by have hb0 := b_a1; simp only [fa_lt, fa_le, fa_eq, kc_0]; omega)) (fun _ => ?_)
  refine J_iload_n dX0_has_4 rfl rfl ?_
  refine J_aload_n dX0_has_5 rfl rfl ?_
  refine J_get (v := .int 1) dX0_has_6 fl_X0_18 hk51 rfl ?_
  refine J_icmp_ge (tgt := 16) dX0_has_9 (by decide) (fun _ => ?_) (fun q => absurd (by have hb0 := b_a1; simp only [fa_lt, fa_le, fa_eq, kc_1]; omega) q)
  refine J_iconst (v := 0) dX0_has_16 (by decide) ?_
  exact J_iret dX0_has_17 rfl (by decide +kernel) (Nat.le_of_ble_eq_true rfl) (Nat.le_of_ble_eq_true rfl) ⟨rfl, rfl⟩
set_option maxHeartbeats 4000000 in
set_option maxRecDepth 100000 in
theorem c_X11_code_3 {l : Launch} {G : jG} {nh : Nat} {fh : Nat → Option va_E} (a1 : Int32) (b_a1 : 1 ≤ a1.toInt ∧ a1.toInt ≤ 2147483647) (hk0 : fh 0 = some (.inr (11, [.ref 1, .ref 17, .ref 50, .ref 51, .ref 54, .ref 57, .ref 65, .ref 75, .ref 81, .ref 85, .ref 88, .ref 93, .ref 96, .int 0, .int (-1), .ref 97, .int 0]))) (hk51 : fh 51 = some (.inr (0, [.ref 52, .ref 53, .int 1, .int 0]))) : JM l G yX11_code MX11_code { frames := 1, cells := 0, slots := 0, locals := 21 } [.ref 0, .int a1] (nh, fh) (fun r h9 => r = some (.int (-1)) ∧ h9 = (nh, fh)) := by
  refine JM.of (by decide) rfl (fun h => by cases h) (Nat.le_of_ble_eq_true rfl) ⟨0, rfl⟩ ?_
  refine J_hc0 (J_ls (ls2 := [some (.ref 0), some (.int a1)]) rfl ?_)
  refine J_aload_n dX11_code_0 rfl rfl ?_
  refine J_get (v := .ref 51) dX11_code_1 fl_X11_27 hk0 rfl ?_
  refine J_iload_n dX11_code_4 rfl rfl ?_
  refine J_callV (st := []) dX11_code_5 cv_X11_135 (c_X0_has_3 (a1) b_a1 hk51) hk51 rfl rfl (Nat.le_of_ble_eq_true rfl) ⟨(Nat.le_of_ble_eq_true rfl), (Nat.le_of_ble_eq_true rfl)⟩ ⟨(Nat.le_of_ble_eq_true rfl), (Nat.le_of_ble_eq_true rfl)⟩ (fun r h9 hp => ?_)
  obtain ⟨rfl, rfl⟩ := hp
  refine J_nf (nh2 := nh) (ck2 := 0) (sk2 := 0) (st2 := [.int 0]) rfl rfl rfl rfl ?_
  refine J_if_eq (tgt := 22) dX11_code_8 (by decide) (fun _ => ?_) (fun q => absurd (by decide +kernel) q)
  refine J_iconst (v := (-1)) dX11_code_22 (by decide) ?_
  exact J_iret dX11_code_23 rfl rfl (Nat.le_of_ble_eq_true rfl) (Nat.le_of_ble_eq_true rfl) ⟨rfl, rfl⟩
set_option maxHeartbeats 4000000 in
set_option maxRecDepth 100000 in
theorem c_X12_lies_21 {l : Launch} {G : jG} {nh : Nat} {fh : Nat → Option va_E} (a0 : Int32) (b_a0 : 1 ≤ a0.toInt ∧ a0.toInt ≤ 2147483647) : JM l G yX12_lies MX12_lies { frames := 0, cells := 0, slots := 0, locals := 0 } [.int a0, .int 0, .int 0] (nh, fh) (fun r h9 => r = some (.int 0) ∧ h9 = (nh, fh)) := by
  refine JM.of (by decide) rfl (fun h => by cases h) (Nat.le_of_ble_eq_true rfl) ⟨0, rfl⟩ ?_
  refine J_hc0 (J_ls (ls2 := [some (.int a0), some (.int 0), some (.int 0)]) rfl ?_)
  refine J_iload_n dX12_lies_0 rfl rfl ?_
  refine J_iload_n dX12_lies_1 rfl rfl ?_
  refine J_icmp_lt (tgt := 14) dX12_lies_2 (by decide) (fun q => absurd q (by have hb0 := b_a0; simp only [fa_lt, fa_le, fa_eq, kc_0]; omega)) (fun _ => ?_)
  refine J_iload_n dX12_lies_5 rfl rfl ?_
  refine J_iload_n dX12_lies_6 rfl rfl ?_
  refine J_icmp_gt (tgt := 14) dX12_lies_7 (by decide) (fun _ => ?_) (fun q => absurd (by have hb0 := b_a0; simp only [fa_lt, fa_le, fa_eq, kc_0]; omega) q)
  refine J_iconst (v := 0) dX12_lies_14 (by decide) ?_
  exact J_iret dX12_lies_15 rfl (by decide +kernel) (Nat.le_of_ble_eq_true rfl) (Nat.le_of_ble_eq_true rfl) ⟨rfl, rfl⟩
set_option maxHeartbeats 4000000 in
set_option maxRecDepth 100000 in
theorem c_X12_isHouse_3 {l : Launch} {G : jG} {nh : Nat} {fh : Nat → Option va_E} (a1 : Int32) (b_a1 : 1 ≤ a1.toInt ∧ a1.toInt ≤ 2147483647) (hk98 : fh 98 = some (.inr (12, [.int 0, .int 0, .ref 99, .ref 100, .ref 101, .ref 102, .ref 103, .ref 104, .ref 105, .int 0, .int (-1), .ref 106, .ref 107, .ref 108, .int 0, .int 0, .int 0, .int 0, .int 0, .int 0, .int 0, .ref 109, .int 0, .int 0, .ref 110, .ref 111, .ref 112, .ref 113, .ref 114, .ref 115, .ref 116, .ref 117, .int 0, .int 0, .int (-1), .int (-1), .ref 118, .ref 119, .ref 120, .ref 121, .ref 122, .ref 123, .ref 124, .ref 125, .ref 126, .ref 127, .ref 128, .ref 129, .int 0, .ref 130, .ref 131, .ref 132, .ref 133, .ref 134, .int 0, .int 0]))) (hk100 : fh 100 = some (.inl (0, 4870, .inl (upd (fun _ => 0) 63 (-1))))) (hk111 : fh 111 = some (.inl (0, 1260, .inl (fun _ => 0)))) : JM l G yX12_isHouse MX12_isHouse { frames := 2, cells := 0, slots := 0, locals := 48 } [.ref 98, .int a1] (nh, fh) (fun r h9 => r = some (.int 0) ∧ h9 = (nh, hc fh [(98, .inr (12, [.int 0, .int 0, .ref 99, .ref 100, .ref 101, .ref 102, .ref 103, .ref 104, .ref 105, .int 0, .int (-1), .ref 106, .ref 107, .ref 108, .int 0, .int 0, .int 0, .int 0, .int 0, .int 0, .int 0, .ref 109, .int 0, .int 0, .ref 110, .ref 111, .ref 112, .ref 113, .ref 114, .ref 115, .ref 116, .ref 117, .int 1, .int 0, .int 0, .int (-1), .ref 118, .ref 119, .ref 120, .ref 121, .ref 122, .ref 123, .ref 124, .ref 125, .ref 126, .ref 127, .ref 128, .ref 129, .int 0, .ref 130, .ref 131, .ref 132, .ref 133, .ref 134, .int 0, .int 0])), (111, .inl (0, 1260, .inl (upd (fun _ => 0) 0 0)))])) := by
  refine JM.of (by decide) rfl (fun h => by cases h) (Nat.le_of_ble_eq_true rfl) ⟨0, rfl⟩ ?_
  refine J_hc0 (J_ls (ls2 := [some (.ref 98), some (.int a1)]) rfl ?_)
  refine J_aload_n dX12_isHouse_0 rfl rfl ?_
  refine J_callV (st := []) dX12_isHouse_1 cv_X12_159 (c_X12_laysHouses_1 hk98 hk100 hk111) hk98 rfl rfl (Nat.le_of_ble_eq_true rfl) ⟨(Nat.le_of_ble_eq_true rfl), (Nat.le_of_ble_eq_true rfl)⟩ ⟨(Nat.le_of_ble_eq_true rfl), (Nat.le_of_ble_eq_true rfl)⟩ (fun r h9 hp => ?_)
  obtain ⟨rfl, rfl⟩ := hp
  refine J_nf (nh2 := nh) (ck2 := 0) (sk2 := 0) (st2 := []) rfl rfl rfl rfl ?_
  refine J_app (L3 := [(98, .inr (12, [.int 0, .int 0, .ref 99, .ref 100, .ref 101, .ref 102, .ref 103, .ref 104, .ref 105, .int 0, .int (-1), .ref 106, .ref 107, .ref 108, .int 0, .int 0, .int 0, .int 0, .int 0, .int 0, .int 0, .ref 109, .int 0, .int 0, .ref 110, .ref 111, .ref 112, .ref 113, .ref 114, .ref 115, .ref 116, .ref 117, .int 1, .int 0, .int 0, .int (-1), .ref 118, .ref 119, .ref 120, .ref 121, .ref 122, .ref 123, .ref 124, .ref 125, .ref 126, .ref 127, .ref 128, .ref 129, .int 0, .ref 130, .ref 131, .ref 132, .ref 133, .ref 134, .int 0, .int 0])), (111, .inl (0, 1260, .inl (upd (fun _ => 0) 0 0)))]) rfl ?_
  refine J_iload_n dX12_isHouse_4 rfl rfl ?_
  refine J_iconst (v := 0) dX12_isHouse_5 (by decide) ?_
  refine J_aload_n dX12_isHouse_6 rfl rfl ?_
  refine J_get (v := .int 1) dX12_isHouse_7 fl_X12_298 rfl rfl ?_
  refine J_iconst (v := 1) dX12_isHouse_10 (by decide) ?_
  refine J_isub (z := 0) dX12_isHouse_11 (by decide +kernel) ?_
  refine J_callS (st := []) dX12_isHouse_12 cs_X12_138 (c_X12_lies_21 (a1) b_a1) rfl rfl (Nat.le_of_ble_eq_true rfl) ⟨(Nat.le_of_ble_eq_true rfl), (Nat.le_of_ble_eq_true rfl)⟩ ⟨(Nat.le_of_ble_eq_true rfl), (Nat.le_of_ble_eq_true rfl)⟩ (fun r h9 hp => ?_)
  obtain ⟨rfl, rfl⟩ := hp
  refine J_nf (nh2 := nh) (ck2 := 0) (sk2 := 0) (st2 := [.int 0]) rfl rfl rfl rfl ?_
  exact J_iret dX12_isHouse_15 rfl (by decide +kernel) (Nat.le_of_ble_eq_true rfl) (Nat.le_of_ble_eq_true rfl) ⟨rfl, rfl⟩
set_option maxHeartbeats 4000000 in
set_option maxRecDepth 100000 in
theorem c_X12_code_3 {l : Launch} {G : jG} {nh : Nat} {fh : Nat → Option va_E} (a1 : Int32) (b_a1 : 1 ≤ a1.toInt ∧ a1.toInt ≤ 2147483647) (hk98 : fh 98 = some (.inr (12, [.int 0, .int 0, .ref 99, .ref 100, .ref 101, .ref 102, .ref 103, .ref 104, .ref 105, .int 0, .int (-1), .ref 106, .ref 107, .ref 108, .int 0, .int 0, .int 0, .int 0, .int 0, .int 0, .int 0, .ref 109, .int 0, .int 0, .ref 110, .ref 111, .ref 112, .ref 113, .ref 114, .ref 115, .ref 116, .ref 117, .int 0, .int 0, .int (-1), .int (-1), .ref 118, .ref 119, .ref 120, .ref 121, .ref 122, .ref 123, .ref 124, .ref 125, .ref 126, .ref 127, .ref 128, .ref 129, .int 0, .ref 130, .ref 131, .ref 132, .ref 133, .ref 134, .int 0, .int 0]))) (hk100 : fh 100 = some (.inl (0, 4870, .inl (upd (fun _ => 0) 63 (-1))))) (hk111 : fh 111 = some (.inl (0, 1260, .inl (fun _ => 0)))) : JM l G yX12_code MX12_code { frames := 3, cells := 0, slots := 0, locals := 69 } [.ref 98, .int a1] (nh, fh) (fun r h9 => r = some (.int (-1)) ∧ h9 = (nh, hc fh [(98, .inr (12, [.int 0, .int 0, .ref 99, .ref 100, .ref 101, .ref 102, .ref 103, .ref 104, .ref 105, .int 0, .int (-1), .ref 106, .ref 107, .ref 108, .int 0, .int 0, .int 0, .int 0, .int 0, .int 0, .int 0, .ref 109, .int 0, .int 0, .ref 110, .ref 111, .ref 112, .ref 113, .ref 114, .ref 115, .ref 116, .ref 117, .int 1, .int 0, .int 0, .int (-1), .ref 118, .ref 119, .ref 120, .ref 121, .ref 122, .ref 123, .ref 124, .ref 125, .ref 126, .ref 127, .ref 128, .ref 129, .int 0, .ref 130, .ref 131, .ref 132, .ref 133, .ref 134, .int 0, .int 0])), (111, .inl (0, 1260, .inl (upd (fun _ => 0) 0 0)))])) := by
  refine JM.of (by decide) rfl (fun h => by cases h) (Nat.le_of_ble_eq_true rfl) ⟨0, rfl⟩ ?_
  refine J_hc0 (J_ls (ls2 := [some (.ref 98), some (.int a1)]) rfl ?_)
  refine J_aload_n dX12_code_0 rfl rfl ?_
  refine J_iload_n dX12_code_1 rfl rfl ?_
  refine J_callV (st := []) dX12_code_2 cv_X12_325 (c_X12_isHouse_3 (a1) b_a1 hk98 hk100 hk111) hk98 rfl rfl (Nat.le_of_ble_eq_true rfl) ⟨(Nat.le_of_ble_eq_true rfl), (Nat.le_of_ble_eq_true rfl)⟩ ⟨(Nat.le_of_ble_eq_true rfl), (Nat.le_of_ble_eq_true rfl)⟩ (fun r h9 hp => ?_)
  obtain ⟨rfl, rfl⟩ := hp
  refine J_nf (nh2 := nh) (ck2 := 0) (sk2 := 0) (st2 := [.int 0]) rfl rfl rfl rfl ?_
  refine J_app (L3 := [(98, .inr (12, [.int 0, .int 0, .ref 99, .ref 100, .ref 101, .ref 102, .ref 103, .ref 104, .ref 105, .int 0, .int (-1), .ref 106, .ref 107, .ref 108, .int 0, .int 0, .int 0, .int 0, .int 0, .int 0, .int 0, .ref 109, .int 0, .int 0, .ref 110, .ref 111, .ref 112, .ref 113, .ref 114, .ref 115, .ref 116, .ref 117, .int 1, .int 0, .int 0, .int (-1), .ref 118, .ref 119, .ref 120, .ref 121, .ref 122, .ref 123, .ref 124, .ref 125, .ref 126, .ref 127, .ref 128, .ref 129, .int 0, .ref 130, .ref 131, .ref 132, .ref 133, .ref 134, .int 0, .int 0])), (111, .inl (0, 1260, .inl (upd (fun _ => 0) 0 0)))]) rfl ?_
  refine J_if_eq (tgt := 17) dX12_code_5 (by decide) (fun _ => ?_) (fun q => absurd (by decide +kernel) q)
  refine J_iconst (v := (-1)) dX12_code_17 (by decide) ?_
  exact J_iret dX12_code_18 rfl rfl (Nat.le_of_ble_eq_true rfl) (Nat.le_of_ble_eq_true rfl) ⟨rfl, rfl⟩
set_option maxHeartbeats 4000000 in
set_option maxRecDepth 100000 in
theorem c_X0_withCode_1 {l : Launch} {G : jG} {nh : Nat} {fh : Nat → Option va_E} (a1 : Int32) (b_a1 : (-2147483648) ≤ a1.toInt ∧ a1.toInt ≤ (-1)) : JM l G yX0_withCode MX0_withCode { frames := 0, cells := 0, slots := 0, locals := 0 } [.ref 51, .int a1] (nh, fh) (fun r h9 => r = some (.int (-1)) ∧ h9 = (nh, fh)) := by
  refine JM.of (by decide) rfl (fun h => by cases h) (Nat.le_of_ble_eq_true rfl) ⟨3, rfl⟩ ?_
  refine J_hc0 (J_ls (ls2 := [some (.ref 51), some (.int a1), none, none, none]) rfl ?_)
  refine J_iload_n dX0_withCode_0 rfl rfl ?_
  refine J_if_ge (tgt := 6) dX0_withCode_1 (by decide) (fun q => absurd q (by have hb0 := b_a1; simp only [fa_lt, fa_le, fa_eq, kc_0]; omega)) (fun _ => ?_)
  refine J_iconst (v := (-1)) dX0_withCode_4 (by decide) ?_
  exact J_iret dX0_withCode_5 rfl rfl (Nat.le_of_ble_eq_true rfl) (Nat.le_of_ble_eq_true rfl) ⟨rfl, rfl⟩
set_option maxHeartbeats 4000000 in
set_option maxRecDepth 100000 in
theorem c_X11_house_1 {l : Launch} {G : jG} {nh : Nat} {fh : Nat → Option va_E} (a1 : Int32) (b_a1 : (-2147483648) ≤ a1.toInt ∧ a1.toInt ≤ (-1)) (hk0 : fh 0 = some (.inr (11, [.ref 1, .ref 17, .ref 50, .ref 51, .ref 54, .ref 57, .ref 65, .ref 75, .ref 81, .ref 85, .ref 88, .ref 93, .ref 96, .int 0, .int (-1), .ref 97, .int 0]))) (hk51 : fh 51 = some (.inr (0, [.ref 52, .ref 53, .int 1, .int 0]))) : JM l G yX11_house MX11_house { frames := 1, cells := 0, slots := 0, locals := 24 } [.ref 0, .int a1] (nh, fh) (fun r h9 => r = some (.int (-1)) ∧ h9 = (nh, fh)) := by
  refine JM.of (by decide) rfl (fun h => by cases h) (Nat.le_of_ble_eq_true rfl) ⟨0, rfl⟩ ?_
  refine J_hc0 (J_ls (ls2 := [some (.ref 0), some (.int a1)]) rfl ?_)
  refine J_aload_n dX11_house_0 rfl rfl ?_
  refine J_get (v := .ref 51) dX11_house_1 fl_X11_27 hk0 rfl ?_
  refine J_iload_n dX11_house_4 rfl rfl ?_
  refine J_callV (st := []) dX11_house_5 cv_X11_142 (c_X0_withCode_1 (a1) b_a1) hk51 rfl rfl (Nat.le_of_ble_eq_true rfl) ⟨(Nat.le_of_ble_eq_true rfl), (Nat.le_of_ble_eq_true rfl)⟩ ⟨(Nat.le_of_ble_eq_true rfl), (Nat.le_of_ble_eq_true rfl)⟩ (fun r h9 hp => ?_)
  obtain ⟨rfl, rfl⟩ := hp
  refine J_nf (nh2 := nh) (ck2 := 0) (sk2 := 0) (st2 := [.int (-1)]) rfl rfl rfl rfl ?_
  exact J_iret dX11_house_8 rfl rfl (Nat.le_of_ble_eq_true rfl) (Nat.le_of_ble_eq_true rfl) ⟨rfl, rfl⟩
set_option maxHeartbeats 4000000 in
set_option maxRecDepth 100000 in
theorem c_X12_houseOf_1 {l : Launch} {G : jG} {nh : Nat} {fh : Nat → Option va_E} (a1 : Int32) (b_a1 : (-2147483648) ≤ a1.toInt ∧ a1.toInt ≤ (-1)) (hk98 : fh 98 = some (.inr (12, [.int 0, .int 0, .ref 99, .ref 100, .ref 101, .ref 102, .ref 103, .ref 104, .ref 105, .int 0, .int (-1), .ref 106, .ref 107, .ref 108, .int 0, .int 0, .int 0, .int 0, .int 0, .int 0, .int 0, .ref 109, .int 0, .int 0, .ref 110, .ref 111, .ref 112, .ref 113, .ref 114, .ref 115, .ref 116, .ref 117, .int 1, .int 0, .int 0, .int (-1), .ref 118, .ref 119, .ref 120, .ref 121, .ref 122, .ref 123, .ref 124, .ref 125, .ref 126, .ref 127, .ref 128, .ref 129, .int 0, .ref 130, .ref 131, .ref 132, .ref 133, .ref 134, .int 0, .int 0]))) (hk111 : fh 111 = some (.inl (0, 1260, .inl (upd (fun _ => 0) 0 0)))) : JM l G yX12_houseOf MX12_houseOf { frames := 0, cells := 0, slots := 0, locals := 0 } [.ref 98, .int a1] (nh, fh) (fun r h9 => r = some (.int (-1)) ∧ h9 = (nh, fh)) := by
  refine JM.of (by decide) rfl (fun h => by cases h) (Nat.le_of_ble_eq_true rfl) ⟨3, rfl⟩ ?_
  refine J_hc0 (J_ls (ls2 := [some (.ref 98), some (.int a1), none, none, none]) rfl ?_)
  refine J_iconst (v := 0) dX12_houseOf_0 (by decide) ?_
  refine J_istore_n dX12_houseOf_1 rfl (Nat.le_of_ble_eq_true rfl) rfl ?_
  refine J_aload_n dX12_houseOf_2 rfl rfl ?_
  refine J_get (v := .int 1) dX12_houseOf_3 fl_X12_298 hk98 rfl ?_
  refine J_iconst (v := 1) dX12_houseOf_6 (by decide) ?_
  refine J_isub (z := 0) dX12_houseOf_7 (by decide +kernel) ?_
  refine J_istore_n dX12_houseOf_8 rfl (Nat.le_of_ble_eq_true rfl) rfl ?_
  refine J_iload_n dX12_houseOf_9 rfl rfl ?_
  refine J_iload_n dX12_houseOf_10 rfl rfl ?_
  refine J_icmp_ge (tgt := 46) dX12_houseOf_11 (by decide) (fun _ => ?_) (fun q => absurd (by decide +kernel) q)
  refine J_aload_n dX12_houseOf_46 rfl rfl ?_
  refine J_get (v := .ref 111) dX12_houseOf_47 fl_X12_58 hk98 rfl ?_
  refine J_iload_n dX12_houseOf_50 rfl rfl ?_
  refine J_iald (i2 := 0) (v := 0) dX12_houseOf_51 hk111 rfl (jin (by decide +kernel)) (by decide +kernel) rfl ?_
  refine J_iload_n dX12_houseOf_52 rfl rfl ?_
  refine J_icmp_ne (tgt := 60) dX12_houseOf_53 (by decide) (fun _ => ?_) (fun q => absurd q (by have hb0 := b_a1; simp only [fa_lt, fa_le, fa_eq, kc_0]; omega))
  refine J_iconst (v := (-1)) dX12_houseOf_60 (by decide) ?_
  exact J_iret dX12_houseOf_61 rfl rfl (Nat.le_of_ble_eq_true rfl) (Nat.le_of_ble_eq_true rfl) ⟨rfl, rfl⟩
set_option maxHeartbeats 4000000 in
set_option maxRecDepth 100000 in
theorem c_X12_house_1 {l : Launch} {G : jG} {nh : Nat} {fh : Nat → Option va_E} (a1 : Int32) (b_a1 : (-2147483648) ≤ a1.toInt ∧ a1.toInt ≤ (-1)) (hk98 : fh 98 = some (.inr (12, [.int 0, .int 0, .ref 99, .ref 100, .ref 101, .ref 102, .ref 103, .ref 104, .ref 105, .int 0, .int (-1), .ref 106, .ref 107, .ref 108, .int 0, .int 0, .int 0, .int 0, .int 0, .int 0, .int 0, .ref 109, .int 0, .int 0, .ref 110, .ref 111, .ref 112, .ref 113, .ref 114, .ref 115, .ref 116, .ref 117, .int 0, .int 0, .int (-1), .int (-1), .ref 118, .ref 119, .ref 120, .ref 121, .ref 122, .ref 123, .ref 124, .ref 125, .ref 126, .ref 127, .ref 128, .ref 129, .int 0, .ref 130, .ref 131, .ref 132, .ref 133, .ref 134, .int 0, .int 0]))) (hk100 : fh 100 = some (.inl (0, 4870, .inl (upd (fun _ => 0) 63 (-1))))) (hk111 : fh 111 = some (.inl (0, 1260, .inl (fun _ => 0)))) : JM l G yX12_house MX12_house { frames := 2, cells := 0, slots := 0, locals := 48 } [.ref 98, .int a1] (nh, fh) (fun r h9 => r = some (.int (-1)) ∧ h9 = (nh, hc fh [(98, .inr (12, [.int 0, .int 0, .ref 99, .ref 100, .ref 101, .ref 102, .ref 103, .ref 104, .ref 105, .int 0, .int (-1), .ref 106, .ref 107, .ref 108, .int 0, .int 0, .int 0, .int 0, .int 0, .int 0, .int 0, .ref 109, .int 0, .int 0, .ref 110, .ref 111, .ref 112, .ref 113, .ref 114, .ref 115, .ref 116, .ref 117, .int 1, .int 0, .int 0, .int (-1), .ref 118, .ref 119, .ref 120, .ref 121, .ref 122, .ref 123, .ref 124, .ref 125, .ref 126, .ref 127, .ref 128, .ref 129, .int 0, .ref 130, .ref 131, .ref 132, .ref 133, .ref 134, .int 0, .int 0])), (111, .inl (0, 1260, .inl (upd (fun _ => 0) 0 0)))])) := by
  refine JM.of (by decide) rfl (fun h => by cases h) (Nat.le_of_ble_eq_true rfl) ⟨0, rfl⟩ ?_
  refine J_hc0 (J_ls (ls2 := [some (.ref 98), some (.int a1)]) rfl ?_)
  refine J_aload_n dX12_house_0 rfl rfl ?_
  refine J_callV (st := []) dX12_house_1 cv_X12_159 (c_X12_laysHouses_1 hk98 hk100 hk111) hk98 rfl rfl (Nat.le_of_ble_eq_true rfl) ⟨(Nat.le_of_ble_eq_true rfl), (Nat.le_of_ble_eq_true rfl)⟩ ⟨(Nat.le_of_ble_eq_true rfl), (Nat.le_of_ble_eq_true rfl)⟩ (fun r h9 hp => ?_)
  obtain ⟨rfl, rfl⟩ := hp
  refine J_nf (nh2 := nh) (ck2 := 0) (sk2 := 0) (st2 := []) rfl rfl rfl rfl ?_
  refine J_app (L3 := [(98, .inr (12, [.int 0, .int 0, .ref 99, .ref 100, .ref 101, .ref 102, .ref 103, .ref 104, .ref 105, .int 0, .int (-1), .ref 106, .ref 107, .ref 108, .int 0, .int 0, .int 0, .int 0, .int 0, .int 0, .int 0, .ref 109, .int 0, .int 0, .ref 110, .ref 111, .ref 112, .ref 113, .ref 114, .ref 115, .ref 116, .ref 117, .int 1, .int 0, .int 0, .int (-1), .ref 118, .ref 119, .ref 120, .ref 121, .ref 122, .ref 123, .ref 124, .ref 125, .ref 126, .ref 127, .ref 128, .ref 129, .int 0, .ref 130, .ref 131, .ref 132, .ref 133, .ref 134, .int 0, .int 0])), (111, .inl (0, 1260, .inl (upd (fun _ => 0) 0 0)))]) rfl ?_
  refine J_aload_n dX12_house_4 rfl rfl ?_
  refine J_iload_n dX12_house_5 rfl rfl ?_
  refine J_callV (st := []) dX12_house_6 cv_X12_162 (c_X12_houseOf_1 (a1) b_a1 rfl rfl) rfl rfl rfl (Nat.le_of_ble_eq_true rfl) ⟨(Nat.le_of_ble_eq_true rfl), (Nat.le_of_ble_eq_true rfl)⟩ ⟨(Nat.le_of_ble_eq_true rfl), (Nat.le_of_ble_eq_true rfl)⟩ (fun r h9 hp => ?_)
  obtain ⟨rfl, rfl⟩ := hp
  refine J_nf (nh2 := nh) (ck2 := 0) (sk2 := 0) (st2 := [.int (-1)]) rfl rfl rfl rfl ?_
  exact J_iret dX12_house_9 rfl rfl (Nat.le_of_ble_eq_true rfl) (Nat.le_of_ble_eq_true rfl) ⟨rfl, rfl⟩
set_option maxHeartbeats 4000000 in
set_option maxRecDepth 100000 in
theorem c_X0_find_1 {l : Launch} {G : jG} {nh : Nat} {fh : Nat → Option va_E} (hk51 : fh 51 = some (.inr (0, [.ref 52, .ref 53, .int 1, .int 0]))) (hk52 : fh 52 = some (.inl (0, 1260, .inl (upd (fun _ => 0) 0 0)))) : JM l G yX0_find MX0_find { frames := 0, cells := 0, slots := 0, locals := 0 } [.ref 51, .int 0] (nh, fh) (fun r h9 => r = some (.int 0) ∧ h9 = (nh, fh)) := by
  refine JM.of (by decide) rfl (fun h => by cases h) (Nat.le_of_ble_eq_true rfl) ⟨3, rfl⟩ ?_
  refine J_hc0 (J_ls (ls2 := [some (.ref 51), some (.int 0), none, none, none]) rfl ?_)
  refine J_iconst (v := 0) dX0_find_0 (by decide) ?_
  refine J_istore_n dX0_find_1 rfl (Nat.le_of_ble_eq_true rfl) rfl ?_
  refine J_aload_n dX0_find_2 rfl rfl ?_
  refine J_get (v := .int 1) dX0_find_3 fl_X0_18 hk51 rfl ?_
  refine J_iconst (v := 1) dX0_find_6 (by decide) ?_
  refine J_isub (z := 0) dX0_find_7 (by decide +kernel) ?_
  refine J_istore_n dX0_find_8 rfl (Nat.le_of_ble_eq_true rfl) rfl ?_
  refine J_iload_n dX0_find_9 rfl rfl ?_
  refine J_iload_n dX0_find_10 rfl rfl ?_
  refine J_icmp_gt (tgt := 62) dX0_find_11 (by decide) (fun q => absurd q (by decide +kernel)) (fun _ => ?_)
  refine J_iload_n dX0_find_14 rfl rfl ?_
  refine J_iload_n dX0_find_15 rfl rfl ?_
  refine J_iadd (z := 0) dX0_find_16 (by decide +kernel) ?_
  refine J_iconst (v := 1) dX0_find_17 (by decide) ?_
  refine J_ishr (z := 0) dX0_find_18 (by decide +kernel) ?_
  refine J_istore dX0_find_19 (Nat.le_of_ble_eq_true rfl) rfl ?_
  refine J_aload_n dX0_find_21 rfl rfl ?_
  refine J_get (v := .ref 52) dX0_find_22 fl_X0_9 hk51 rfl ?_
  refine J_iload dX0_find_25 rfl ?_
  refine J_iald (i2 := 0) (v := 0) dX0_find_27 hk52 rfl (jin (by decide +kernel)) (by decide +kernel) rfl ?_
  refine J_iload_n dX0_find_28 rfl rfl ?_
  refine J_icmp_ne (tgt := 35) dX0_find_29 (by decide) (fun q => absurd (by decide +kernel) q) (fun _ => ?_)
  refine J_iload dX0_find_32 rfl ?_
  exact J_iret dX0_find_34 rfl rfl (Nat.le_of_ble_eq_true rfl) (Nat.le_of_ble_eq_true rfl) ⟨rfl, rfl⟩
set_option maxHeartbeats 4000000 in
set_option maxRecDepth 100000 in
theorem c_X0_withCode_2 {l : Launch} {G : jG} {nh : Nat} {fh : Nat → Option va_E} (hk51 : fh 51 = some (.inr (0, [.ref 52, .ref 53, .int 1, .int 0]))) (hk52 : fh 52 = some (.inl (0, 1260, .inl (upd (fun _ => 0) 0 0)))) : JM l G yX0_withCode MX0_withCode { frames := 1, cells := 0, slots := 0, locals := 24 } [.ref 51, .int 0] (nh, fh) (fun r h9 => r = some (.int 0) ∧ h9 = (nh, fh)) := by
  refine JM.of (by decide) rfl (fun h => by cases h) (Nat.le_of_ble_eq_true rfl) ⟨3, rfl⟩ ?_
  refine J_hc0 (J_ls (ls2 := [some (.ref 51), some (.int 0), none, none, none]) rfl ?_)
  refine J_iload_n dX0_withCode_0 rfl rfl ?_
  refine J_if_ge (tgt := 6) dX0_withCode_1 (by decide) (fun _ => ?_) (fun q => absurd (by decide +kernel) q)
  refine J_iload_n dX0_withCode_6 rfl rfl ?_
  refine J_istore_n dX0_withCode_7 rfl (Nat.le_of_ble_eq_true rfl) rfl ?_
  refine J_iconst (v := 0) dX0_withCode_8 (by decide) ?_
  refine J_istore_n dX0_withCode_9 rfl (Nat.le_of_ble_eq_true rfl) rfl ?_
  refine J_aload_n dX0_withCode_10 rfl rfl ?_
  refine J_get (v := .int 0) dX0_withCode_11 fl_X0_22 hk51 rfl ?_
  refine J_iconst (v := 1) dX0_withCode_14 (by decide) ?_
  refine J_isub (z := (-1)) dX0_withCode_15 (by decide +kernel) ?_
  refine J_istore dX0_withCode_16 (Nat.le_of_ble_eq_true rfl) rfl ?_
  refine J_iload dX0_withCode_18 rfl ?_
  refine J_if_lt (tgt := 46) dX0_withCode_20 (by decide) (fun _ => ?_) (fun q => absurd (by decide +kernel) q)
  refine J_iload_n dX0_withCode_46 rfl rfl ?_
  refine J_if_ne (tgt := 58) dX0_withCode_47 (by decide) (fun q => absurd (by decide +kernel) q) (fun _ => ?_)
  refine J_aload_n dX0_withCode_50 rfl rfl ?_
  refine J_iload_n dX0_withCode_51 rfl rfl ?_
  refine J_callV (st := []) dX0_withCode_52 cv_X0_55 (c_X0_find_1 hk51 hk52) hk51 rfl rfl (Nat.le_of_ble_eq_true rfl) ⟨(Nat.le_of_ble_eq_true rfl), (Nat.le_of_ble_eq_true rfl)⟩ ⟨(Nat.le_of_ble_eq_true rfl), (Nat.le_of_ble_eq_true rfl)⟩ (fun r h9 hp => ?_)
  obtain ⟨rfl, rfl⟩ := hp
  refine J_nf (nh2 := nh) (ck2 := 0) (sk2 := 0) (st2 := [.int 0]) rfl rfl rfl rfl ?_
  refine J_goto (tgt := 59) dX0_withCode_55 (by decide) ?_
  exact J_iret dX0_withCode_59 rfl rfl (Nat.le_of_ble_eq_true rfl) (Nat.le_of_ble_eq_true rfl) ⟨rfl, rfl⟩
set_option maxHeartbeats 4000000 in
set_option maxRecDepth 100000 in
theorem c_X11_house_2 {l : Launch} {G : jG} {nh : Nat} {fh : Nat → Option va_E} (hk0 : fh 0 = some (.inr (11, [.ref 1, .ref 17, .ref 50, .ref 51, .ref 54, .ref 57, .ref 65, .ref 75, .ref 81, .ref 85, .ref 88, .ref 93, .ref 96, .int 0, .int (-1), .ref 97, .int 0]))) (hk51 : fh 51 = some (.inr (0, [.ref 52, .ref 53, .int 1, .int 0]))) (hk52 : fh 52 = some (.inl (0, 1260, .inl (upd (fun _ => 0) 0 0)))) : JM l G yX11_house MX11_house { frames := 2, cells := 0, slots := 0, locals := 48 } [.ref 0, .int 0] (nh, fh) (fun r h9 => r = some (.int 0) ∧ h9 = (nh, fh)) := by
  refine JM.of (by decide) rfl (fun h => by cases h) (Nat.le_of_ble_eq_true rfl) ⟨0, rfl⟩ ?_
  refine J_hc0 (J_ls (ls2 := [some (.ref 0), some (.int 0)]) rfl ?_)
  refine J_aload_n dX11_house_0 rfl rfl ?_
  refine J_get (v := .ref 51) dX11_house_1 fl_X11_27 hk0 rfl ?_
  refine J_iload_n dX11_house_4 rfl rfl ?_
  refine J_callV (st := []) dX11_house_5 cv_X11_142 (c_X0_withCode_2 hk51 hk52) hk51 rfl rfl (Nat.le_of_ble_eq_true rfl) ⟨(Nat.le_of_ble_eq_true rfl), (Nat.le_of_ble_eq_true rfl)⟩ ⟨(Nat.le_of_ble_eq_true rfl), (Nat.le_of_ble_eq_true rfl)⟩ (fun r h9 hp => ?_)
  obtain ⟨rfl, rfl⟩ := hp
  refine J_nf (nh2 := nh) (ck2 := 0) (sk2 := 0) (st2 := [.int 0]) rfl rfl rfl rfl ?_
  exact J_iret dX11_house_8 rfl rfl (Nat.le_of_ble_eq_true rfl) (Nat.le_of_ble_eq_true rfl) ⟨rfl, rfl⟩
set_option maxHeartbeats 4000000 in
set_option maxRecDepth 100000 in
theorem c_X12_houseOf_2 {l : Launch} {G : jG} {nh : Nat} {fh : Nat → Option va_E} (hk98 : fh 98 = some (.inr (12, [.int 0, .int 0, .ref 99, .ref 100, .ref 101, .ref 102, .ref 103, .ref 104, .ref 105, .int 0, .int (-1), .ref 106, .ref 107, .ref 108, .int 0, .int 0, .int 0, .int 0, .int 0, .int 0, .int 0, .ref 109, .int 0, .int 0, .ref 110, .ref 111, .ref 112, .ref 113, .ref 114, .ref 115, .ref 116, .ref 117, .int 1, .int 0, .int 0, .int (-1), .ref 118, .ref 119, .ref 120, .ref 121, .ref 122, .ref 123, .ref 124, .ref 125, .ref 126, .ref 127, .ref 128, .ref 129, .int 0, .ref 130, .ref 131, .ref 132, .ref 133, .ref 134, .int 0, .int 0]))) (hk111 : fh 111 = some (.inl (0, 1260, .inl (upd (fun _ => 0) 0 0)))) : JM l G yX12_houseOf MX12_houseOf { frames := 0, cells := 0, slots := 0, locals := 0 } [.ref 98, .int 0] (nh, fh) (fun r h9 => r = some (.int 0) ∧ h9 = (nh, fh)) := by
  refine JM.of (by decide) rfl (fun h => by cases h) (Nat.le_of_ble_eq_true rfl) ⟨3, rfl⟩ ?_
  refine J_hc0 (J_ls (ls2 := [some (.ref 98), some (.int 0), none, none, none]) rfl ?_)
  refine J_iconst (v := 0) dX12_houseOf_0 (by decide) ?_
  refine J_istore_n dX12_houseOf_1 rfl (Nat.le_of_ble_eq_true rfl) rfl ?_
  refine J_aload_n dX12_houseOf_2 rfl rfl ?_
  refine J_get (v := .int 1) dX12_houseOf_3 fl_X12_298 hk98 rfl ?_
  refine J_iconst (v := 1) dX12_houseOf_6 (by decide) ?_
  refine J_isub (z := 0) dX12_houseOf_7 (by decide +kernel) ?_
  refine J_istore_n dX12_houseOf_8 rfl (Nat.le_of_ble_eq_true rfl) rfl ?_
  refine J_iload_n dX12_houseOf_9 rfl rfl ?_
  refine J_iload_n dX12_houseOf_10 rfl rfl ?_
  refine J_icmp_ge (tgt := 46) dX12_houseOf_11 (by decide) (fun _ => ?_) (fun q => absurd (by decide +kernel) q)
  refine J_aload_n dX12_houseOf_46 rfl rfl ?_
  refine J_get (v := .ref 111) dX12_houseOf_47 fl_X12_58 hk98 rfl ?_
  refine J_iload_n dX12_houseOf_50 rfl rfl ?_
  refine J_iald (i2 := 0) (v := 0) dX12_houseOf_51 hk111 rfl (jin (by decide +kernel)) (by decide +kernel) rfl ?_
  refine J_iload_n dX12_houseOf_52 rfl rfl ?_
  refine J_icmp_ne (tgt := 60) dX12_houseOf_53 (by decide) (fun q => absurd (by decide +kernel) q) (fun _ => ?_)
  refine J_iload_n dX12_houseOf_56 rfl rfl ?_
  refine J_goto (tgt := 61) dX12_houseOf_57 (by decide) ?_
  exact J_iret dX12_houseOf_61 rfl rfl (Nat.le_of_ble_eq_true rfl) (Nat.le_of_ble_eq_true rfl) ⟨rfl, rfl⟩
set_option maxHeartbeats 4000000 in
set_option maxRecDepth 100000 in
theorem c_X12_house_2 {l : Launch} {G : jG} {nh : Nat} {fh : Nat → Option va_E} (hk98 : fh 98 = some (.inr (12, [.int 0, .int 0, .ref 99, .ref 100, .ref 101, .ref 102, .ref 103, .ref 104, .ref 105, .int 0, .int (-1), .ref 106, .ref 107, .ref 108, .int 0, .int 0, .int 0, .int 0, .int 0, .int 0, .int 0, .ref 109, .int 0, .int 0, .ref 110, .ref 111, .ref 112, .ref 113, .ref 114, .ref 115, .ref 116, .ref 117, .int 0, .int 0, .int (-1), .int (-1), .ref 118, .ref 119, .ref 120, .ref 121, .ref 122, .ref 123, .ref 124, .ref 125, .ref 126, .ref 127, .ref 128, .ref 129, .int 0, .ref 130, .ref 131, .ref 132, .ref 133, .ref 134, .int 0, .int 0]))) (hk100 : fh 100 = some (.inl (0, 4870, .inl (upd (fun _ => 0) 63 (-1))))) (hk111 : fh 111 = some (.inl (0, 1260, .inl (fun _ => 0)))) : JM l G yX12_house MX12_house { frames := 2, cells := 0, slots := 0, locals := 48 } [.ref 98, .int 0] (nh, fh) (fun r h9 => r = some (.int 0) ∧ h9 = (nh, hc fh [(98, .inr (12, [.int 0, .int 0, .ref 99, .ref 100, .ref 101, .ref 102, .ref 103, .ref 104, .ref 105, .int 0, .int (-1), .ref 106, .ref 107, .ref 108, .int 0, .int 0, .int 0, .int 0, .int 0, .int 0, .int 0, .ref 109, .int 0, .int 0, .ref 110, .ref 111, .ref 112, .ref 113, .ref 114, .ref 115, .ref 116, .ref 117, .int 1, .int 0, .int 0, .int (-1), .ref 118, .ref 119, .ref 120, .ref 121, .ref 122, .ref 123, .ref 124, .ref 125, .ref 126, .ref 127, .ref 128, .ref 129, .int 0, .ref 130, .ref 131, .ref 132, .ref 133, .ref 134, .int 0, .int 0])), (111, .inl (0, 1260, .inl (upd (fun _ => 0) 0 0)))])) := by
  refine JM.of (by decide) rfl (fun h => by cases h) (Nat.le_of_ble_eq_true rfl) ⟨0, rfl⟩ ?_
  refine J_hc0 (J_ls (ls2 := [some (.ref 98), some (.int 0)]) rfl ?_)
  refine J_aload_n dX12_house_0 rfl rfl ?_
  refine J_callV (st := []) dX12_house_1 cv_X12_159 (c_X12_laysHouses_1 hk98 hk100 hk111) hk98 rfl rfl (Nat.le_of_ble_eq_true rfl) ⟨(Nat.le_of_ble_eq_true rfl), (Nat.le_of_ble_eq_true rfl)⟩ ⟨(Nat.le_of_ble_eq_true rfl), (Nat.le_of_ble_eq_true rfl)⟩ (fun r h9 hp => ?_)
  obtain ⟨rfl, rfl⟩ := hp
  refine J_nf (nh2 := nh) (ck2 := 0) (sk2 := 0) (st2 := []) rfl rfl rfl rfl ?_
  refine J_app (L3 := [(98, .inr (12, [.int 0, .int 0, .ref 99, .ref 100, .ref 101, .ref 102, .ref 103, .ref 104, .ref 105, .int 0, .int (-1), .ref 106, .ref 107, .ref 108, .int 0, .int 0, .int 0, .int 0, .int 0, .int 0, .int 0, .ref 109, .int 0, .int 0, .ref 110, .ref 111, .ref 112, .ref 113, .ref 114, .ref 115, .ref 116, .ref 117, .int 1, .int 0, .int 0, .int (-1), .ref 118, .ref 119, .ref 120, .ref 121, .ref 122, .ref 123, .ref 124, .ref 125, .ref 126, .ref 127, .ref 128, .ref 129, .int 0, .ref 130, .ref 131, .ref 132, .ref 133, .ref 134, .int 0, .int 0])), (111, .inl (0, 1260, .inl (upd (fun _ => 0) 0 0)))]) rfl ?_
  refine J_aload_n dX12_house_4 rfl rfl ?_
  refine J_iload_n dX12_house_5 rfl rfl ?_
  refine J_callV (st := []) dX12_house_6 cv_X12_162 (c_X12_houseOf_2 rfl rfl) rfl rfl rfl (Nat.le_of_ble_eq_true rfl) ⟨(Nat.le_of_ble_eq_true rfl), (Nat.le_of_ble_eq_true rfl)⟩ ⟨(Nat.le_of_ble_eq_true rfl), (Nat.le_of_ble_eq_true rfl)⟩ (fun r h9 hp => ?_)
  obtain ⟨rfl, rfl⟩ := hp
  refine J_nf (nh2 := nh) (ck2 := 0) (sk2 := 0) (st2 := [.int 0]) rfl rfl rfl rfl ?_
  exact J_iret dX12_house_9 rfl rfl (Nat.le_of_ble_eq_true rfl) (Nat.le_of_ble_eq_true rfl) ⟨rfl, rfl⟩
set_option maxHeartbeats 4000000 in
set_option maxRecDepth 100000 in
theorem c_X0_withCode_3 {l : Launch} {G : jG} {nh : Nat} {fh : Nat → Option va_E} (a1 : Int32) (b_a1 : 1 ≤ a1.toInt ∧ a1.toInt ≤ 2147483647) (hk51 : fh 51 = some (.inr (0, [.ref 52, .ref 53, .int 1, .int 0]))) : JM l G yX0_withCode MX0_withCode { frames := 0, cells := 0, slots := 0, locals := 0 } [.ref 51, .int a1] (nh, fh) (fun r h9 => r = some (.int (-1)) ∧ h9 = (nh, fh)) := by
  refine JM.of (by decide) rfl (fun h => by cases h) (Nat.le_of_ble_eq_true rfl) ⟨3, rfl⟩ ?_
  refine J_hc0 (J_ls (ls2 := [some (.ref 51), some (.int a1), none, none, none]) rfl ?_)
  refine J_iload_n dX0_withCode_0 rfl rfl ?_
  refine J_if_ge (tgt := 6) dX0_withCode_1 (by decide) (fun _ => ?_) (fun q => absurd (by have hb0 := b_a1; simp only [fa_lt, fa_le, fa_eq, kc_0]; omega) q)
  refine J_iload_n dX0_withCode_6 rfl rfl ?_
  refine J_istore_n dX0_withCode_7 rfl (Nat.le_of_ble_eq_true rfl) rfl ?_
  refine J_iconst (v := 0) dX0_withCode_8 (by decide) ?_
  refine J_istore_n dX0_withCode_9 rfl (Nat.le_of_ble_eq_true rfl) rfl ?_
  refine J_aload_n dX0_withCode_10 rfl rfl ?_
  refine J_get (v := .int 0) dX0_withCode_11 fl_X0_22 hk51 rfl ?_
  refine J_iconst (v := 1) dX0_withCode_14 (by decide) ?_
  refine J_isub (z := (-1)) dX0_withCode_15 (by decide +kernel) ?_
  refine J_istore dX0_withCode_16 (Nat.le_of_ble_eq_true rfl) rfl ?_
  refine J_iload dX0_withCode_18 rfl ?_
  refine J_if_lt (tgt := 46) dX0_withCode_20 (by decide) (fun _ => ?_) (fun q => absurd (by decide +kernel) q)
  refine J_iload_n dX0_withCode_46 rfl rfl ?_
  refine J_if_ne (tgt := 58) dX0_withCode_47 (by decide) (fun _ => ?_) (fun q => absurd q (by have hb0 := b_a1; simp only [fa_lt, fa_le, fa_eq, kc_0]; omega))
  refine J_iconst (v := (-1)) dX0_withCode_58 (by decide) ?_
  exact J_iret dX0_withCode_59 rfl rfl (Nat.le_of_ble_eq_true rfl) (Nat.le_of_ble_eq_true rfl) ⟨rfl, rfl⟩
set_option maxHeartbeats 4000000 in
set_option maxRecDepth 100000 in
theorem c_X11_house_3 {l : Launch} {G : jG} {nh : Nat} {fh : Nat → Option va_E} (a1 : Int32) (b_a1 : 1 ≤ a1.toInt ∧ a1.toInt ≤ 2147483647) (hk0 : fh 0 = some (.inr (11, [.ref 1, .ref 17, .ref 50, .ref 51, .ref 54, .ref 57, .ref 65, .ref 75, .ref 81, .ref 85, .ref 88, .ref 93, .ref 96, .int 0, .int (-1), .ref 97, .int 0]))) (hk51 : fh 51 = some (.inr (0, [.ref 52, .ref 53, .int 1, .int 0]))) : JM l G yX11_house MX11_house { frames := 1, cells := 0, slots := 0, locals := 24 } [.ref 0, .int a1] (nh, fh) (fun r h9 => r = some (.int (-1)) ∧ h9 = (nh, fh)) := by
  refine JM.of (by decide) rfl (fun h => by cases h) (Nat.le_of_ble_eq_true rfl) ⟨0, rfl⟩ ?_
  refine J_hc0 (J_ls (ls2 := [some (.ref 0), some (.int a1)]) rfl ?_)
  refine J_aload_n dX11_house_0 rfl rfl ?_
  refine J_get (v := .ref 51) dX11_house_1 fl_X11_27 hk0 rfl ?_
  refine J_iload_n dX11_house_4 rfl rfl ?_
  refine J_callV (st := []) dX11_house_5 cv_X11_142 (c_X0_withCode_3 (a1) b_a1 hk51) hk51 rfl rfl (Nat.le_of_ble_eq_true rfl) ⟨(Nat.le_of_ble_eq_true rfl), (Nat.le_of_ble_eq_true rfl)⟩ ⟨(Nat.le_of_ble_eq_true rfl), (Nat.le_of_ble_eq_true rfl)⟩ (fun r h9 hp => ?_)
  obtain ⟨rfl, rfl⟩ := hp
  refine J_nf (nh2 := nh) (ck2 := 0) (sk2 := 0) (st2 := [.int (-1)]) rfl rfl rfl rfl ?_
  exact J_iret dX11_house_8 rfl rfl (Nat.le_of_ble_eq_true rfl) (Nat.le_of_ble_eq_true rfl) ⟨rfl, rfl⟩
set_option maxHeartbeats 4000000 in
set_option maxRecDepth 100000 in
theorem c_X12_houseOf_3 {l : Launch} {G : jG} {nh : Nat} {fh : Nat → Option va_E} (a1 : Int32) (b_a1 : 1 ≤ a1.toInt ∧ a1.toInt ≤ 2147483647) (hk98 : fh 98 = some (.inr (12, [.int 0, .int 0, .ref 99, .ref 100, .ref 101, .ref 102, .ref 103, .ref 104, .ref 105, .int 0, .int (-1), .ref 106, .ref 107, .ref 108, .int 0, .int 0, .int 0, .int 0, .int 0, .int 0, .int 0, .ref 109, .int 0, .int 0, .ref 110, .ref 111, .ref 112, .ref 113, .ref 114, .ref 115, .ref 116, .ref 117, .int 1, .int 0, .int 0, .int (-1), .ref 118, .ref 119, .ref 120, .ref 121, .ref 122, .ref 123, .ref 124, .ref 125, .ref 126, .ref 127, .ref 128, .ref 129, .int 0, .ref 130, .ref 131, .ref 132, .ref 133, .ref 134, .int 0, .int 0]))) (hk111 : fh 111 = some (.inl (0, 1260, .inl (upd (fun _ => 0) 0 0)))) : JM l G yX12_houseOf MX12_houseOf { frames := 0, cells := 0, slots := 0, locals := 0 } [.ref 98, .int a1] (nh, fh) (fun r h9 => r = some (.int (-1)) ∧ h9 = (nh, fh)) := by
  refine JM.of (by decide) rfl (fun h => by cases h) (Nat.le_of_ble_eq_true rfl) ⟨3, rfl⟩ ?_
  refine J_hc0 (J_ls (ls2 := [some (.ref 98), some (.int a1), none, none, none]) rfl ?_)
  refine J_iconst (v := 0) dX12_houseOf_0 (by decide) ?_
  refine J_istore_n dX12_houseOf_1 rfl (Nat.le_of_ble_eq_true rfl) rfl ?_
  refine J_aload_n dX12_houseOf_2 rfl rfl ?_
  refine J_get (v := .int 1) dX12_houseOf_3 fl_X12_298 hk98 rfl ?_
  refine J_iconst (v := 1) dX12_houseOf_6 (by decide) ?_
  refine J_isub (z := 0) dX12_houseOf_7 (by decide +kernel) ?_
  refine J_istore_n dX12_houseOf_8 rfl (Nat.le_of_ble_eq_true rfl) rfl ?_
  refine J_iload_n dX12_houseOf_9 rfl rfl ?_
  refine J_iload_n dX12_houseOf_10 rfl rfl ?_
  refine J_icmp_ge (tgt := 46) dX12_houseOf_11 (by decide) (fun _ => ?_) (fun q => absurd (by decide +kernel) q)
  refine J_aload_n dX12_houseOf_46 rfl rfl ?_
  refine J_get (v := .ref 111) dX12_houseOf_47 fl_X12_58 hk98 rfl ?_
  refine J_iload_n dX12_houseOf_50 rfl rfl ?_
  refine J_iald (i2 := 0) (v := 0) dX12_houseOf_51 hk111 rfl (jin (by decide +kernel)) (by decide +kernel) rfl ?_
  refine J_iload_n dX12_houseOf_52 rfl rfl ?_
  refine J_icmp_ne (tgt := 60) dX12_houseOf_53 (by decide) (fun _ => ?_) (fun q => absurd q (by have hb0 := b_a1; simp only [fa_lt, fa_le, fa_eq, kc_0]; omega))
  refine J_iconst (v := (-1)) dX12_houseOf_60 (by decide) ?_
  exact J_iret dX12_houseOf_61 rfl rfl (Nat.le_of_ble_eq_true rfl) (Nat.le_of_ble_eq_true rfl) ⟨rfl, rfl⟩
set_option maxHeartbeats 4000000 in
set_option maxRecDepth 100000 in
theorem c_X12_house_3 {l : Launch} {G : jG} {nh : Nat} {fh : Nat → Option va_E} (a1 : Int32) (b_a1 : 1 ≤ a1.toInt ∧ a1.toInt ≤ 2147483647) (hk98 : fh 98 = some (.inr (12, [.int 0, .int 0, .ref 99, .ref 100, .ref 101, .ref 102, .ref 103, .ref 104, .ref 105, .int 0, .int (-1), .ref 106, .ref 107, .ref 108, .int 0, .int 0, .int 0, .int 0, .int 0, .int 0, .int 0, .ref 109, .int 0, .int 0, .ref 110, .ref 111, .ref 112, .ref 113, .ref 114, .ref 115, .ref 116, .ref 117, .int 0, .int 0, .int (-1), .int (-1), .ref 118, .ref 119, .ref 120, .ref 121, .ref 122, .ref 123, .ref 124, .ref 125, .ref 126, .ref 127, .ref 128, .ref 129, .int 0, .ref 130, .ref 131, .ref 132, .ref 133, .ref 134, .int 0, .int 0]))) (hk100 : fh 100 = some (.inl (0, 4870, .inl (upd (fun _ => 0) 63 (-1))))) (hk111 : fh 111 = some (.inl (0, 1260, .inl (fun _ => 0)))) : JM l G yX12_house MX12_house { frames := 2, cells := 0, slots := 0, locals := 48 } [.ref 98, .int a1] (nh, fh) (fun r h9 => r = some (.int (-1)) ∧ h9 = (nh, hc fh [(98, .inr (12, [.int 0, .int 0, .ref 99, .ref 100, .ref 101, .ref 102, .ref 103, .ref 104, .ref 105, .int 0, .int (-1), .ref 106, .ref 107, .ref 108, .int 0, .int 0, .int 0, .int 0, .int 0, .int 0, .int 0, .ref 109, .int 0, .int 0, .ref 110, .ref 111, .ref 112, .ref 113, .ref 114, .ref 115, .ref 116, .ref 117, .int 1, .int 0, .int 0, .int (-1), .ref 118, .ref 119, .ref 120, .ref 121, .ref 122, .ref 123, .ref 124, .ref 125, .ref 126, .ref 127, .ref 128, .ref 129, .int 0, .ref 130, .ref 131, .ref 132, .ref 133, .ref 134, .int 0, .int 0])), (111, .inl (0, 1260, .inl (upd (fun _ => 0) 0 0)))])) := by
  refine JM.of (by decide) rfl (fun h => by cases h) (Nat.le_of_ble_eq_true rfl) ⟨0, rfl⟩ ?_
  refine J_hc0 (J_ls (ls2 := [some (.ref 98), some (.int a1)]) rfl ?_)
  refine J_aload_n dX12_house_0 rfl rfl ?_
  refine J_callV (st := []) dX12_house_1 cv_X12_159 (c_X12_laysHouses_1 hk98 hk100 hk111) hk98 rfl rfl (Nat.le_of_ble_eq_true rfl) ⟨(Nat.le_of_ble_eq_true rfl), (Nat.le_of_ble_eq_true rfl)⟩ ⟨(Nat.le_of_ble_eq_true rfl), (Nat.le_of_ble_eq_true rfl)⟩ (fun r h9 hp => ?_)
  obtain ⟨rfl, rfl⟩ := hp
  refine J_nf (nh2 := nh) (ck2 := 0) (sk2 := 0) (st2 := []) rfl rfl rfl rfl ?_
  refine J_app (L3 := [(98, .inr (12, [.int 0, .int 0, .ref 99, .ref 100, .ref 101, .ref 102, .ref 103, .ref 104, .ref 105, .int 0, .int (-1), .ref 106, .ref 107, .ref 108, .int 0, .int 0, .int 0, .int 0, .int 0, .int 0, .int 0, .ref 109, .int 0, .int 0, .ref 110, .ref 111, .ref 112, .ref 113, .ref 114, .ref 115, .ref 116, .ref 117, .int 1, .int 0, .int 0, .int (-1), .ref 118, .ref 119, .ref 120, .ref 121, .ref 122, .ref 123, .ref 124, .ref 125, .ref 126, .ref 127, .ref 128, .ref 129, .int 0, .ref 130, .ref 131, .ref 132, .ref 133, .ref 134, .int 0, .int 0])), (111, .inl (0, 1260, .inl (upd (fun _ => 0) 0 0)))]) rfl ?_
  refine J_aload_n dX12_house_4 rfl rfl ?_
  refine J_iload_n dX12_house_5 rfl rfl ?_
  refine J_callV (st := []) dX12_house_6 cv_X12_162 (c_X12_houseOf_3 (a1) b_a1 rfl rfl) rfl rfl rfl (Nat.le_of_ble_eq_true rfl) ⟨(Nat.le_of_ble_eq_true rfl), (Nat.le_of_ble_eq_true rfl)⟩ ⟨(Nat.le_of_ble_eq_true rfl), (Nat.le_of_ble_eq_true rfl)⟩ (fun r h9 hp => ?_)
  obtain ⟨rfl, rfl⟩ := hp
  refine J_nf (nh2 := nh) (ck2 := 0) (sk2 := 0) (st2 := [.int (-1)]) rfl rfl rfl rfl ?_
  exact J_iret dX12_house_9 rfl rfl (Nat.le_of_ble_eq_true rfl) (Nat.le_of_ble_eq_true rfl) ⟨rfl, rfl⟩
set_option maxHeartbeats 4000000 in
set_option maxRecDepth 100000 in
theorem c_X11_terms_1 {l : Launch} {G : jG} {nh : Nat} {fh : Nat → Option va_E} (a1 : Int32) (b_a1 : (-2147483648) ≤ a1.toInt ∧ a1.toInt ≤ (-1)) (a2 : Int32) (b_a2 : (-2147483648) ≤ a2.toInt ∧ a2.toInt ≤ 2147483647) (hk0 : fh 0 = some (.inr (11, [.ref 1, .ref 17, .ref 50, .ref 51, .ref 54, .ref 57, .ref 65, .ref 75, .ref 81, .ref 85, .ref 88, .ref 93, .ref 96, .int 0, .int (-1), .ref 97, .int 0]))) (hk96 : fh 96 = some (.inl (0, 5, .inl (fun _ => 0)))) : JM l G yX11_terms MX11_terms { frames := 2, cells := 0, slots := 0, locals := 41 } [.ref 0, .int a1, .int a2] (nh, fh) (fun r h9 => r = some (.int (-1)) ∧ h9 = (nh, hc fh [(96, .inl (0, 5, .inl (upd (fun _ => 0) 0 1))), (0, .inr (11, [.ref 1, .ref 17, .ref 50, .ref 51, .ref 54, .ref 57, .ref 65, .ref 75, .ref 81, .ref 85, .ref 88, .ref 93, .ref 96, .int (-1), .int (-1), .ref 97, .int 0]))])) := by
  refine JM.of (by decide) rfl (fun h => by cases h) (Nat.le_of_ble_eq_true rfl) ⟨2, rfl⟩ ?_
  refine J_hc0 (J_ls (ls2 := [some (.ref 0), some (.int a1), some (.int a2), none, none]) rfl ?_)
  refine J_iload_n dX11_terms_0 rfl rfl ?_
  refine J_if_ne (tgt := 8) dX11_terms_1 (by decide) (fun _ => ?_) (fun q => absurd q (by have hb0 := b_a1; simp only [fa_lt, fa_le, fa_eq, kc_0]; omega))
  refine J_bipush (v := 99) dX11_terms_8 (by decide +kernel) ?_
  refine J_istore_n dX11_terms_10 rfl (Nat.le_of_ble_eq_true rfl) rfl ?_
  refine J_iload_n dX11_terms_11 rfl rfl ?_
  refine J_if_lt (tgt := 29) dX11_terms_12 (by decide) (fun _ => ?_) (fun q => absurd (by have hb0 := b_a1; simp only [fa_lt, fa_le, fa_eq, kc_0]; omega) q)
  refine J_aload_n dX11_terms_29 rfl rfl ?_
  refine J_iconst (v := (-1)) dX11_terms_30 (by decide) ?_
  refine J_callV (st := []) dX11_terms_31 cv_X11_118 (c_X11_refuse_1 hk0 hk96) hk0 rfl rfl (Nat.le_of_ble_eq_true rfl) ⟨(Nat.le_of_ble_eq_true rfl), (Nat.le_of_ble_eq_true rfl)⟩ ⟨(Nat.le_of_ble_eq_true rfl), (Nat.le_of_ble_eq_true rfl)⟩ (fun r h9 hp => ?_)
  obtain ⟨rfl, rfl⟩ := hp
  refine J_nf (nh2 := nh) (ck2 := 0) (sk2 := 0) (st2 := [.int (-1)]) rfl rfl rfl rfl ?_
  refine J_app (L3 := [(96, .inl (0, 5, .inl (upd (fun _ => 0) 0 1))), (0, .inr (11, [.ref 1, .ref 17, .ref 50, .ref 51, .ref 54, .ref 57, .ref 65, .ref 75, .ref 81, .ref 85, .ref 88, .ref 93, .ref 96, .int (-1), .int (-1), .ref 97, .int 0]))]) rfl ?_
  exact J_iret dX11_terms_34 rfl rfl (Nat.le_of_ble_eq_true rfl) (Nat.le_of_ble_eq_true rfl) ⟨rfl, rfl⟩
set_option maxHeartbeats 4000000 in
set_option maxRecDepth 100000 in
theorem c_X12_lies_22 {l : Launch} {G : jG} {nh : Nat} {fh : Nat → Option va_E} (a0 : Int32) (b_a0 : (-2147483648) ≤ a0.toInt ∧ a0.toInt ≤ (-1)) : JM l G yX12_lies MX12_lies { frames := 0, cells := 0, slots := 0, locals := 0 } [.int a0, .int 0, .int 1] (nh, fh) (fun r h9 => r = some (.int 0) ∧ h9 = (nh, fh)) := by
  refine JM.of (by decide) rfl (fun h => by cases h) (Nat.le_of_ble_eq_true rfl) ⟨0, rfl⟩ ?_
  refine J_hc0 (J_ls (ls2 := [some (.int a0), some (.int 0), some (.int 1)]) rfl ?_)
  refine J_iload_n dX12_lies_0 rfl rfl ?_
  refine J_iload_n dX12_lies_1 rfl rfl ?_
  refine J_icmp_lt (tgt := 14) dX12_lies_2 (by decide) (fun _ => ?_) (fun q => absurd (by have hb0 := b_a0; simp only [fa_lt, fa_le, fa_eq, kc_0]; omega) q)
  refine J_iconst (v := 0) dX12_lies_14 (by decide) ?_
  exact J_iret dX12_lies_15 rfl (by decide +kernel) (Nat.le_of_ble_eq_true rfl) (Nat.le_of_ble_eq_true rfl) ⟨rfl, rfl⟩
set_option maxHeartbeats 4000000 in
set_option maxRecDepth 100000 in
theorem c_X12_terms_1 {l : Launch} {G : jG} {nh : Nat} {fh : Nat → Option va_E} (a1 : Int32) (b_a1 : (-2147483648) ≤ a1.toInt ∧ a1.toInt ≤ (-1)) (a2 : Int32) (b_a2 : (-2147483648) ≤ a2.toInt ∧ a2.toInt ≤ 2147483647) (hk98 : fh 98 = some (.inr (12, [.int 0, .int 0, .ref 99, .ref 100, .ref 101, .ref 102, .ref 103, .ref 104, .ref 105, .int 0, .int (-1), .ref 106, .ref 107, .ref 108, .int 0, .int 0, .int 0, .int 0, .int 0, .int 0, .int 0, .ref 109, .int 0, .int 0, .ref 110, .ref 111, .ref 112, .ref 113, .ref 114, .ref 115, .ref 116, .ref 117, .int 0, .int 0, .int (-1), .int (-1), .ref 118, .ref 119, .ref 120, .ref 121, .ref 122, .ref 123, .ref 124, .ref 125, .ref 126, .ref 127, .ref 128, .ref 129, .int 0, .ref 130, .ref 131, .ref 132, .ref 133, .ref 134, .int 0, .int 0]))) (hk99 : fh 99 = some (.inl (0, 7, .inl (fun _ => 0)))) : JM l G yX12_terms MX12_terms { frames := 1, cells := 0, slots := 0, locals := 22 } [.ref 98, .int a1, .int a2] (nh, fh) (fun r h9 => r = some (.int (-1)) ∧ h9 = (nh, hc fh [(99, .inl (0, 7, .inl (upd (fun _ => 0) 1 1))), (98, .inr (12, [.int (-1), .int 0, .ref 99, .ref 100, .ref 101, .ref 102, .ref 103, .ref 104, .ref 105, .int 0, .int (-1), .ref 106, .ref 107, .ref 108, .int 0, .int 0, .int 0, .int 0, .int 0, .int 0, .int 0, .ref 109, .int 0, .int 0, .ref 110, .ref 111, .ref 112, .ref 113, .ref 114, .ref 115, .ref 116, .ref 117, .int 0, .int 0, .int (-1), .int (-1), .ref 118, .ref 119, .ref 120, .ref 121, .ref 122, .ref 123, .ref 124, .ref 125, .ref 126, .ref 127, .ref 128, .ref 129, .int 0, .ref 130, .ref 131, .ref 132, .ref 133, .ref 134, .int 0, .int 0]))])) := by
  refine JM.of (by decide) rfl (fun h => by cases h) (Nat.le_of_ble_eq_true rfl) ⟨1, rfl⟩ ?_
  refine J_hc0 (J_ls (ls2 := [some (.ref 98), some (.int a1), some (.int a2), none]) rfl ?_)
  refine J_iload_n dX12_terms_0 rfl rfl ?_
  refine J_iconst (v := 0) dX12_terms_1 (by decide) ?_
  refine J_iconst (v := 1) dX12_terms_2 (by decide) ?_
  refine J_callS (st := []) dX12_terms_3 cs_X12_138 (c_X12_lies_22 (a1) b_a1) rfl rfl (Nat.le_of_ble_eq_true rfl) ⟨(Nat.le_of_ble_eq_true rfl), (Nat.le_of_ble_eq_true rfl)⟩ ⟨(Nat.le_of_ble_eq_true rfl), (Nat.le_of_ble_eq_true rfl)⟩ (fun r h9 hp => ?_)
  obtain ⟨rfl, rfl⟩ := hp
  refine J_nf (nh2 := nh) (ck2 := 0) (sk2 := 0) (st2 := [.int 0]) rfl rfl rfl rfl ?_
  refine J_if_eq (tgt := 27) dX12_terms_6 (by decide) (fun _ => ?_) (fun q => absurd (by decide +kernel) q)
  refine J_aload_n dX12_terms_27 rfl rfl ?_
  refine J_iconst (v := (-1)) dX12_terms_28 (by decide) ?_
  refine J_callV (st := []) dX12_terms_29 cv_X12_142 (c_X12_refuses_1 hk98 hk99) hk98 rfl rfl (Nat.le_of_ble_eq_true rfl) ⟨(Nat.le_of_ble_eq_true rfl), (Nat.le_of_ble_eq_true rfl)⟩ ⟨(Nat.le_of_ble_eq_true rfl), (Nat.le_of_ble_eq_true rfl)⟩ (fun r h9 hp => ?_)
  obtain ⟨rfl, rfl⟩ := hp
  refine J_nf (nh2 := nh) (ck2 := 0) (sk2 := 0) (st2 := [.int (-1)]) rfl rfl rfl rfl ?_
  refine J_app (L3 := [(99, .inl (0, 7, .inl (upd (fun _ => 0) 1 1))), (98, .inr (12, [.int (-1), .int 0, .ref 99, .ref 100, .ref 101, .ref 102, .ref 103, .ref 104, .ref 105, .int 0, .int (-1), .ref 106, .ref 107, .ref 108, .int 0, .int 0, .int 0, .int 0, .int 0, .int 0, .int 0, .ref 109, .int 0, .int 0, .ref 110, .ref 111, .ref 112, .ref 113, .ref 114, .ref 115, .ref 116, .ref 117, .int 0, .int 0, .int (-1), .int (-1), .ref 118, .ref 119, .ref 120, .ref 121, .ref 122, .ref 123, .ref 124, .ref 125, .ref 126, .ref 127, .ref 128, .ref 129, .int 0, .ref 130, .ref 131, .ref 132, .ref 133, .ref 134, .int 0, .int 0]))]) rfl ?_
  exact J_iret dX12_terms_32 rfl rfl (Nat.le_of_ble_eq_true rfl) (Nat.le_of_ble_eq_true rfl) ⟨rfl, rfl⟩
set_option maxHeartbeats 4000000 in
set_option maxRecDepth 100000 in
theorem c_X11_terms_2 {l : Launch} {G : jG} {nh : Nat} {fh : Nat → Option va_E} (a2 : Int32) (b_a2 : (-2147483648) ≤ a2.toInt ∧ a2.toInt ≤ (-1)) (hk0 : fh 0 = some (.inr (11, [.ref 1, .ref 17, .ref 50, .ref 51, .ref 54, .ref 57, .ref 65, .ref 75, .ref 81, .ref 85, .ref 88, .ref 93, .ref 96, .int 0, .int (-1), .ref 97, .int 0]))) (hk96 : fh 96 = some (.inl (0, 5, .inl (fun _ => 0)))) : JM l G yX11_terms MX11_terms { frames := 2, cells := 0, slots := 0, locals := 41 } [.ref 0, .int 0, .int a2] (nh, fh) (fun r h9 => r = some (.int (-1)) ∧ h9 = (nh, hc fh [(96, .inl (0, 5, .inl (upd (fun _ => 0) 0 1))), (0, .inr (11, [.ref 1, .ref 17, .ref 50, .ref 51, .ref 54, .ref 57, .ref 65, .ref 75, .ref 81, .ref 85, .ref 88, .ref 93, .ref 96, .int (-1), .int (-1), .ref 97, .int 0]))])) := by
  refine JM.of (by decide) rfl (fun h => by cases h) (Nat.le_of_ble_eq_true rfl) ⟨2, rfl⟩ ?_
  refine J_hc0 (J_ls (ls2 := [some (.ref 0), some (.int 0), some (.int a2), none, none]) rfl ?_)
  refine J_iload_n dX11_terms_0 rfl rfl ?_
  refine J_if_ne (tgt := 8) dX11_terms_1 (by decide) (fun q => absurd (by decide +kernel) q) (fun _ => ?_)
  refine J_iconst (v := 1) dX11_terms_4 (by decide) ?_
  refine J_goto (tgt := 10) dX11_terms_5 (by decide) ?_
  refine J_istore_n dX11_terms_10 rfl (Nat.le_of_ble_eq_true rfl) rfl ?_
  refine J_iload_n dX11_terms_11 rfl rfl ?_
  refine J_if_lt (tgt := 29) dX11_terms_12 (by decide) (fun q => absurd q (by decide +kernel)) (fun _ => ?_)
  refine J_iload_n dX11_terms_15 rfl rfl ?_
  refine J_iconst (v := 1) dX11_terms_16 (by decide) ?_
  refine J_icmp_gt (tgt := 29) dX11_terms_17 (by decide) (fun q => absurd q (by decide +kernel)) (fun _ => ?_)
  refine J_iload_n dX11_terms_20 rfl rfl ?_
  refine J_if_lt (tgt := 29) dX11_terms_21 (by decide) (fun _ => ?_) (fun q => absurd (by have hb0 := b_a2; simp only [fa_lt, fa_le, fa_eq, kc_0]; omega) q)
  refine J_aload_n dX11_terms_29 rfl rfl ?_
  refine J_iconst (v := (-1)) dX11_terms_30 (by decide) ?_
  refine J_callV (st := []) dX11_terms_31 cv_X11_118 (c_X11_refuse_1 hk0 hk96) hk0 rfl rfl (Nat.le_of_ble_eq_true rfl) ⟨(Nat.le_of_ble_eq_true rfl), (Nat.le_of_ble_eq_true rfl)⟩ ⟨(Nat.le_of_ble_eq_true rfl), (Nat.le_of_ble_eq_true rfl)⟩ (fun r h9 hp => ?_)
  obtain ⟨rfl, rfl⟩ := hp
  refine J_nf (nh2 := nh) (ck2 := 0) (sk2 := 0) (st2 := [.int (-1)]) rfl rfl rfl rfl ?_
  refine J_app (L3 := [(96, .inl (0, 5, .inl (upd (fun _ => 0) 0 1))), (0, .inr (11, [.ref 1, .ref 17, .ref 50, .ref 51, .ref 54, .ref 57, .ref 65, .ref 75, .ref 81, .ref 85, .ref 88, .ref 93, .ref 96, .int (-1), .int (-1), .ref 97, .int 0]))]) rfl ?_
  exact J_iret dX11_terms_34 rfl rfl (Nat.le_of_ble_eq_true rfl) (Nat.le_of_ble_eq_true rfl) ⟨rfl, rfl⟩
set_option maxHeartbeats 4000000 in
set_option maxRecDepth 100000 in
theorem c_X12_lies_23 {l : Launch} {G : jG} {nh : Nat} {fh : Nat → Option va_E}  : JM l G yX12_lies MX12_lies { frames := 0, cells := 0, slots := 0, locals := 0 } [.int 0, .int 0, .int 1] (nh, fh) (fun r h9 => r = some (.int 1) ∧ h9 = (nh, fh)) := by
  refine JM.of (by decide) rfl (fun h => by cases h) (Nat.le_of_ble_eq_true rfl) ⟨0, rfl⟩ ?_
  refine J_hc0 (J_ls (ls2 := [some (.int 0), some (.int 0), some (.int 1)]) rfl ?_)
  refine J_iload_n dX12_lies_0 rfl rfl ?_
  refine J_iload_n dX12_lies_1 rfl rfl ?_
  refine J_icmp_lt (tgt := 14) dX12_lies_2 (by decide) (fun q => absurd q (by decide +kernel)) (fun _ => ?_)
  refine J_iload_n dX12_lies_5 rfl rfl ?_
  refine J_iload_n dX12_lies_6 rfl rfl ?_
  refine J_icmp_gt (tgt := 14) dX12_lies_7 (by decide) (fun q => absurd q (by decide +kernel)) (fun _ => ?_)
  refine J_iconst (v := 1) dX12_lies_10 (by decide) ?_
  refine J_goto (tgt := 15) dX12_lies_11 (by decide) ?_
  exact J_iret dX12_lies_15 rfl (by decide +kernel) (Nat.le_of_ble_eq_true rfl) (Nat.le_of_ble_eq_true rfl) ⟨rfl, rfl⟩
set_option maxHeartbeats 4000000 in
set_option maxRecDepth 100000 in
theorem c_X12_terms_2 {l : Launch} {G : jG} {nh : Nat} {fh : Nat → Option va_E} (a2 : Int32) (b_a2 : (-2147483648) ≤ a2.toInt ∧ a2.toInt ≤ (-1)) (hk98 : fh 98 = some (.inr (12, [.int 0, .int 0, .ref 99, .ref 100, .ref 101, .ref 102, .ref 103, .ref 104, .ref 105, .int 0, .int (-1), .ref 106, .ref 107, .ref 108, .int 0, .int 0, .int 0, .int 0, .int 0, .int 0, .int 0, .ref 109, .int 0, .int 0, .ref 110, .ref 111, .ref 112, .ref 113, .ref 114, .ref 115, .ref 116, .ref 117, .int 0, .int 0, .int (-1), .int (-1), .ref 118, .ref 119, .ref 120, .ref 121, .ref 122, .ref 123, .ref 124, .ref 125, .ref 126, .ref 127, .ref 128, .ref 129, .int 0, .ref 130, .ref 131, .ref 132, .ref 133, .ref 134, .int 0, .int 0]))) (hk99 : fh 99 = some (.inl (0, 7, .inl (fun _ => 0)))) : JM l G yX12_terms MX12_terms { frames := 1, cells := 0, slots := 0, locals := 22 } [.ref 98, .int 0, .int a2] (nh, fh) (fun r h9 => r = some (.int (-1)) ∧ h9 = (nh, hc fh [(99, .inl (0, 7, .inl (upd (fun _ => 0) 1 1))), (98, .inr (12, [.int (-1), .int 0, .ref 99, .ref 100, .ref 101, .ref 102, .ref 103, .ref 104, .ref 105, .int 0, .int (-1), .ref 106, .ref 107, .ref 108, .int 0, .int 0, .int 0, .int 0, .int 0, .int 0, .int 0, .ref 109, .int 0, .int 0, .ref 110, .ref 111, .ref 112, .ref 113, .ref 114, .ref 115, .ref 116, .ref 117, .int 0, .int 0, .int (-1), .int (-1), .ref 118, .ref 119, .ref 120, .ref 121, .ref 122, .ref 123, .ref 124, .ref 125, .ref 126, .ref 127, .ref 128, .ref 129, .int 0, .ref 130, .ref 131, .ref 132, .ref 133, .ref 134, .int 0, .int 0]))])) := by
  refine JM.of (by decide) rfl (fun h => by cases h) (Nat.le_of_ble_eq_true rfl) ⟨1, rfl⟩ ?_
  refine J_hc0 (J_ls (ls2 := [some (.ref 98), some (.int 0), some (.int a2), none]) rfl ?_)
  refine J_iload_n dX12_terms_0 rfl rfl ?_
  refine J_iconst (v := 0) dX12_terms_1 (by decide) ?_
  refine J_iconst (v := 1) dX12_terms_2 (by decide) ?_
  refine J_callS (st := []) dX12_terms_3 cs_X12_138 (c_X12_lies_23 ) rfl rfl (Nat.le_of_ble_eq_true rfl) ⟨(Nat.le_of_ble_eq_true rfl), (Nat.le_of_ble_eq_true rfl)⟩ ⟨(Nat.le_of_ble_eq_true rfl), (Nat.le_of_ble_eq_true rfl)⟩ (fun r h9 hp => ?_)
  obtain ⟨rfl, rfl⟩ := hp
  refine J_nf (nh2 := nh) (ck2 := 0) (sk2 := 0) (st2 := [.int 1]) rfl rfl rfl rfl ?_
  refine J_if_eq (tgt := 27) dX12_terms_6 (by decide) (fun q => absurd q (by decide +kernel)) (fun _ => ?_)
  refine J_iload_n dX12_terms_9 rfl rfl ?_
  refine J_iconst (v := 0) dX12_terms_10 (by decide) ?_
  refine J_iload_n dX12_terms_11 rfl rfl ?_
  refine J_if_ne (tgt := 19) dX12_terms_12 (by decide) (fun q => absurd (by decide +kernel) q) (fun _ => ?_)
  refine J_iconst (v := 1) dX12_terms_15 (by decide) ?_
  refine J_goto (tgt := 21) dX12_terms_16 (by decide) ?_
  refine J_callS (st := []) dX12_terms_21 cs_X12_138 (c_X12_lies_22 (a2) b_a2) rfl rfl (Nat.le_of_ble_eq_true rfl) ⟨(Nat.le_of_ble_eq_true rfl), (Nat.le_of_ble_eq_true rfl)⟩ ⟨(Nat.le_of_ble_eq_true rfl), (Nat.le_of_ble_eq_true rfl)⟩ (fun r h9 hp => ?_)
  obtain ⟨rfl, rfl⟩ := hp
  refine J_nf (nh2 := nh) (ck2 := 0) (sk2 := 0) (st2 := [.int 0]) rfl rfl rfl rfl ?_
  refine J_if_ne (tgt := 33) dX12_terms_24 (by decide) (fun q => absurd (by decide +kernel) q) (fun _ => ?_)
  refine J_aload_n dX12_terms_27 rfl rfl ?_
  refine J_iconst (v := (-1)) dX12_terms_28 (by decide) ?_
  refine J_callV (st := []) dX12_terms_29 cv_X12_142 (c_X12_refuses_1 hk98 hk99) hk98 rfl rfl (Nat.le_of_ble_eq_true rfl) ⟨(Nat.le_of_ble_eq_true rfl), (Nat.le_of_ble_eq_true rfl)⟩ ⟨(Nat.le_of_ble_eq_true rfl), (Nat.le_of_ble_eq_true rfl)⟩ (fun r h9 hp => ?_)
  obtain ⟨rfl, rfl⟩ := hp
  refine J_nf (nh2 := nh) (ck2 := 0) (sk2 := 0) (st2 := [.int (-1)]) rfl rfl rfl rfl ?_
  refine J_app (L3 := [(99, .inl (0, 7, .inl (upd (fun _ => 0) 1 1))), (98, .inr (12, [.int (-1), .int 0, .ref 99, .ref 100, .ref 101, .ref 102, .ref 103, .ref 104, .ref 105, .int 0, .int (-1), .ref 106, .ref 107, .ref 108, .int 0, .int 0, .int 0, .int 0, .int 0, .int 0, .int 0, .ref 109, .int 0, .int 0, .ref 110, .ref 111, .ref 112, .ref 113, .ref 114, .ref 115, .ref 116, .ref 117, .int 0, .int 0, .int (-1), .int (-1), .ref 118, .ref 119, .ref 120, .ref 121, .ref 122, .ref 123, .ref 124, .ref 125, .ref 126, .ref 127, .ref 128, .ref 129, .int 0, .ref 130, .ref 131, .ref 132, .ref 133, .ref 134, .int 0, .int 0]))]) rfl ?_
  exact J_iret dX12_terms_32 rfl rfl (Nat.le_of_ble_eq_true rfl) (Nat.le_of_ble_eq_true rfl) ⟨rfl, rfl⟩
set_option maxHeartbeats 4000000 in
set_option maxRecDepth 100000 in
theorem c_X11_terms_3 {l : Launch} {G : jG} {nh : Nat} {fh : Nat → Option va_E} (a2 : Int32) (b_a2 : 0 ≤ a2.toInt ∧ a2.toInt ≤ 1) (hk0 : fh 0 = some (.inr (11, [.ref 1, .ref 17, .ref 50, .ref 51, .ref 54, .ref 57, .ref 65, .ref 75, .ref 81, .ref 85, .ref 88, .ref 93, .ref 96, .int 0, .int (-1), .ref 97, .int 0]))) (hk1 : fh 1 = some (.inr (8, [.ref 2, .ref 3, .ref 4, .int 0, .int (-1), .ref 11, .ref 12, .int 0, .ref 13, .ref 14, .int 0, .ref 15, .ref 16, .int 0]))) (hk3 : fh 3 = some (.inl (0, 2, .inl (fun _ => 0)))) (hk57 : fh 57 = some (.inr (9, [.ref 1, .ref 51, .ref 58, .ref 61, .ref 62, .ref 63, .ref 64, .int 0, .int 1, .int 1]))) : JM l G yX11_terms MX11_terms { frames := 2, cells := 0, slots := 0, locals := 40 } [.ref 0, .int 0, .int a2] (nh, fh) (fun r h9 => r = some (.int 0) ∧ h9 = (nh, hc fh [(0, .inr (11, [.ref 1, .ref 17, .ref 50, .ref 51, .ref 54, .ref 57, .ref 65, .ref 75, .ref 81, .ref 85, .ref 88, .ref 93, .ref 96, .int 0, .int (-1), .ref 97, .int 0])), (57, .inr (9, [.ref 1, .ref 51, .ref 58, .ref 61, .ref 62, .ref 63, .ref 64, .int 1, .int 1, .int 1])), (3, .inl (0, 2, .inl (upd (fun _ => 0) 0 a2)))])) := by
  refine JM.of (by decide) rfl (fun h => by cases h) (Nat.le_of_ble_eq_true rfl) ⟨2, rfl⟩ ?_
  refine J_hc0 (J_ls (ls2 := [some (.ref 0), some (.int 0), some (.int a2), none, none]) rfl ?_)
  refine J_iload_n dX11_terms_0 rfl rfl ?_
  refine J_if_ne (tgt := 8) dX11_terms_1 (by decide) (fun q => absurd (by decide +kernel) q) (fun _ => ?_)
  refine J_iconst (v := 1) dX11_terms_4 (by decide) ?_
  refine J_goto (tgt := 10) dX11_terms_5 (by decide) ?_
  refine J_istore_n dX11_terms_10 rfl (Nat.le_of_ble_eq_true rfl) rfl ?_
  refine J_iload_n dX11_terms_11 rfl rfl ?_
  refine J_if_lt (tgt := 29) dX11_terms_12 (by decide) (fun q => absurd q (by decide +kernel)) (fun _ => ?_)
  refine J_iload_n dX11_terms_15 rfl rfl ?_
  refine J_iconst (v := 1) dX11_terms_16 (by decide) ?_
  refine J_icmp_gt (tgt := 29) dX11_terms_17 (by decide) (fun q => absurd q (by decide +kernel)) (fun _ => ?_)
  refine J_iload_n dX11_terms_20 rfl rfl ?_
  refine J_if_lt (tgt := 29) dX11_terms_21 (by decide) (fun q => absurd q (by have hb0 := b_a2; simp only [fa_lt, fa_le, fa_eq, kc_0]; omega)) (fun _ => ?_)
  refine J_iload_n dX11_terms_24 rfl rfl ?_
  refine J_iload_n dX11_terms_25 rfl rfl ?_
  refine J_icmp_le (tgt := 35) dX11_terms_26 (by decide) (fun _ => ?_) (fun q => absurd (by have hb0 := b_a2; simp only [fa_lt, fa_le, fa_eq, kc_1]; omega) q)
  refine J_aload_n dX11_terms_35 rfl rfl ?_
  refine J_get (v := .ref 1) dX11_terms_36 fl_X11_10 hk0 rfl ?_
  refine J_get (v := .ref 3) dX11_terms_39 fl_X11_145 hk1 rfl ?_
  refine J_iload_n dX11_terms_42 rfl rfl ?_
  refine J_iald (i2 := 0) (v := 0) dX11_terms_43 hk3 rfl (jin (by decide +kernel)) (by decide +kernel) rfl ?_
  refine J_istore dX11_terms_44 (Nat.le_of_ble_eq_true rfl) rfl ?_
  refine J_aload_n dX11_terms_46 rfl rfl ?_
  refine J_get (v := .ref 1) dX11_terms_47 fl_X11_10 hk0 rfl ?_
  refine J_get (v := .ref 3) dX11_terms_50 fl_X11_145 hk1 rfl ?_
  refine J_iload_n dX11_terms_53 rfl rfl ?_
  refine J_iload_n dX11_terms_54 rfl rfl ?_
  refine K_iast (i2 := 0) dX11_terms_55 hk3 rfl (jin (by decide +kernel)) (by decide +kernel) ?_
  refine J_aload_n dX11_terms_56 rfl rfl ?_
  refine J_get (v := .ref 57) dX11_terms_57 fl_X11_43 hk0 rfl ?_
  refine J_callV (st := []) dX11_terms_60 cv_X11_148 (c_X9_changeAll_1 hk57) hk57 rfl rfl (Nat.le_of_ble_eq_true rfl) ⟨(Nat.le_of_ble_eq_true rfl), (Nat.le_of_ble_eq_true rfl)⟩ ⟨(Nat.le_of_ble_eq_true rfl), (Nat.le_of_ble_eq_true rfl)⟩ (fun r h9 hp => ?_)
  obtain ⟨rfl, rfl⟩ := hp
  refine J_nf (nh2 := nh) (ck2 := 0) (sk2 := 0) (st2 := []) rfl rfl rfl rfl ?_
  refine J_app (L3 := [(57, .inr (9, [.ref 1, .ref 51, .ref 58, .ref 61, .ref 62, .ref 63, .ref 64, .int 1, .int 1, .int 1])), (3, .inl (0, 2, .inl (upd (fun _ => 0) 0 a2)))]) rfl ?_
  refine J_aload_n dX11_terms_63 rfl rfl ?_
  refine J_iload dX11_terms_64 rfl ?_
  refine J_callV (st := []) dX11_terms_66 cv_X11_129 (c_X11_accept_1 hk0) hk0 rfl rfl (Nat.le_of_ble_eq_true rfl) ⟨(Nat.le_of_ble_eq_true rfl), (Nat.le_of_ble_eq_true rfl)⟩ ⟨(Nat.le_of_ble_eq_true rfl), (Nat.le_of_ble_eq_true rfl)⟩ (fun r h9 hp => ?_)
  obtain ⟨rfl, rfl⟩ := hp
  refine J_nf (nh2 := nh) (ck2 := 0) (sk2 := 0) (st2 := [.int 0]) rfl rfl rfl rfl ?_
  refine J_app (L3 := [(0, .inr (11, [.ref 1, .ref 17, .ref 50, .ref 51, .ref 54, .ref 57, .ref 65, .ref 75, .ref 81, .ref 85, .ref 88, .ref 93, .ref 96, .int 0, .int (-1), .ref 97, .int 0])), (57, .inr (9, [.ref 1, .ref 51, .ref 58, .ref 61, .ref 62, .ref 63, .ref 64, .int 1, .int 1, .int 1])), (3, .inl (0, 2, .inl (upd (fun _ => 0) 0 a2)))]) rfl ?_
  exact J_iret dX11_terms_69 rfl rfl (Nat.le_of_ble_eq_true rfl) (Nat.le_of_ble_eq_true rfl) ⟨rfl, rfl⟩
set_option maxHeartbeats 4000000 in
set_option maxRecDepth 100000 in
theorem c_X12_lies_24 {l : Launch} {G : jG} {nh : Nat} {fh : Nat → Option va_E} (a0 : Int32) (b_a0 : 0 ≤ a0.toInt ∧ a0.toInt ≤ 1) : JM l G yX12_lies MX12_lies { frames := 0, cells := 0, slots := 0, locals := 0 } [.int a0, .int 0, .int 1] (nh, fh) (fun r h9 => r = some (.int 1) ∧ h9 = (nh, fh)) := by
  refine JM.of (by decide) rfl (fun h => by cases h) (Nat.le_of_ble_eq_true rfl) ⟨0, rfl⟩ ?_
  refine J_hc0 (J_ls (ls2 := [some (.int a0), some (.int 0), some (.int 1)]) rfl ?_)
  refine J_iload_n dX12_lies_0 rfl rfl ?_
  refine J_iload_n dX12_lies_1 rfl rfl ?_
  refine J_icmp_lt (tgt := 14) dX12_lies_2 (by decide) (fun q => absurd q (by have hb0 := b_a0; simp only [fa_lt, fa_le, fa_eq, kc_0]; omega)) (fun _ => ?_)
  refine J_iload_n dX12_lies_5 rfl rfl ?_
  refine J_iload_n dX12_lies_6 rfl rfl ?_
  refine J_icmp_gt (tgt := 14) dX12_lies_7 (by decide) (fun q => absurd q (by have hb0 := b_a0; simp only [fa_lt, fa_le, fa_eq, kc_1]; omega)) (fun _ => ?_)
  refine J_iconst (v := 1) dX12_lies_10 (by decide) ?_
  refine J_goto (tgt := 15) dX12_lies_11 (by decide) ?_
  exact J_iret dX12_lies_15 rfl (by decide +kernel) (Nat.le_of_ble_eq_true rfl) (Nat.le_of_ble_eq_true rfl) ⟨rfl, rfl⟩
set_option maxHeartbeats 4000000 in
set_option maxRecDepth 100000 in
theorem c_X12_terms_3 {l : Launch} {G : jG} {nh : Nat} {fh : Nat → Option va_E} (a2 : Int32) (b_a2 : 0 ≤ a2.toInt ∧ a2.toInt ≤ 1) (hk98 : fh 98 = some (.inr (12, [.int 0, .int 0, .ref 99, .ref 100, .ref 101, .ref 102, .ref 103, .ref 104, .ref 105, .int 0, .int (-1), .ref 106, .ref 107, .ref 108, .int 0, .int 0, .int 0, .int 0, .int 0, .int 0, .int 0, .ref 109, .int 0, .int 0, .ref 110, .ref 111, .ref 112, .ref 113, .ref 114, .ref 115, .ref 116, .ref 117, .int 0, .int 0, .int (-1), .int (-1), .ref 118, .ref 119, .ref 120, .ref 121, .ref 122, .ref 123, .ref 124, .ref 125, .ref 126, .ref 127, .ref 128, .ref 129, .int 0, .ref 130, .ref 131, .ref 132, .ref 133, .ref 134, .int 0, .int 0]))) (hk100 : fh 100 = some (.inl (0, 4870, .inl (upd (fun _ => 0) 63 (-1))))) : JM l G yX12_terms MX12_terms { frames := 1, cells := 0, slots := 0, locals := 22 } [.ref 98, .int 0, .int a2] (nh, fh) (fun r h9 => r = some (.int 0) ∧ h9 = (nh, hc fh [(98, .inr (12, [.int 0, .int 1, .ref 99, .ref 100, .ref 101, .ref 102, .ref 103, .ref 104, .ref 105, .int 0, .int (-1), .ref 106, .ref 107, .ref 108, .int 0, .int 0, .int 0, .int 0, .int 0, .int 0, .int 0, .ref 109, .int 0, .int 0, .ref 110, .ref 111, .ref 112, .ref 113, .ref 114, .ref 115, .ref 116, .ref 117, .int 0, .int 0, .int (-1), .int (-1), .ref 118, .ref 119, .ref 120, .ref 121, .ref 122, .ref 123, .ref 124, .ref 125, .ref 126, .ref 127, .ref 128, .ref 129, .int 0, .ref 130, .ref 131, .ref 132, .ref 133, .ref 134, .int 0, .int 0])), (100, .inl (0, 4870, .inl (upd (upd (fun _ => 0) 63 (-1)) 5 a2)))])) := by
  refine JM.of (by decide) rfl (fun h => by cases h) (Nat.le_of_ble_eq_true rfl) ⟨1, rfl⟩ ?_
  refine J_hc0 (J_ls (ls2 := [some (.ref 98), some (.int 0), some (.int a2), none]) rfl ?_)
  refine J_iload_n dX12_terms_0 rfl rfl ?_
  refine J_iconst (v := 0) dX12_terms_1 (by decide) ?_
  refine J_iconst (v := 1) dX12_terms_2 (by decide) ?_
  refine J_callS (st := []) dX12_terms_3 cs_X12_138 (c_X12_lies_23 ) rfl rfl (Nat.le_of_ble_eq_true rfl) ⟨(Nat.le_of_ble_eq_true rfl), (Nat.le_of_ble_eq_true rfl)⟩ ⟨(Nat.le_of_ble_eq_true rfl), (Nat.le_of_ble_eq_true rfl)⟩ (fun r h9 hp => ?_)
  obtain ⟨rfl, rfl⟩ := hp
  refine J_nf (nh2 := nh) (ck2 := 0) (sk2 := 0) (st2 := [.int 1]) rfl rfl rfl rfl ?_
  refine J_if_eq (tgt := 27) dX12_terms_6 (by decide) (fun q => absurd q (by decide +kernel)) (fun _ => ?_)
  refine J_iload_n dX12_terms_9 rfl rfl ?_
  refine J_iconst (v := 0) dX12_terms_10 (by decide) ?_
  refine J_iload_n dX12_terms_11 rfl rfl ?_
  refine J_if_ne (tgt := 19) dX12_terms_12 (by decide) (fun q => absurd (by decide +kernel) q) (fun _ => ?_)
  refine J_iconst (v := 1) dX12_terms_15 (by decide) ?_
  refine J_goto (tgt := 21) dX12_terms_16 (by decide) ?_
  refine J_callS (st := []) dX12_terms_21 cs_X12_138 (c_X12_lies_24 (a2) b_a2) rfl rfl (Nat.le_of_ble_eq_true rfl) ⟨(Nat.le_of_ble_eq_true rfl), (Nat.le_of_ble_eq_true rfl)⟩ ⟨(Nat.le_of_ble_eq_true rfl), (Nat.le_of_ble_eq_true rfl)⟩ (fun r h9 hp => ?_)
  obtain ⟨rfl, rfl⟩ := hp
  refine J_nf (nh2 := nh) (ck2 := 0) (sk2 := 0) (st2 := [.int 1]) rfl rfl rfl rfl ?_
  refine J_if_ne (tgt := 33) dX12_terms_24 (by decide) (fun _ => ?_) (fun q => absurd q (by decide +kernel))
  refine J_aload_n dX12_terms_33 rfl rfl ?_
  refine J_get (v := .ref 100) dX12_terms_34 fl_X12_20 hk98 rfl ?_
  refine J_iconst (v := 5) dX12_terms_37 (by decide) ?_
  refine J_iload_n dX12_terms_38 rfl rfl ?_
  refine J_iadd (z := 5) dX12_terms_39 (by decide +kernel) ?_
  refine J_iald (i2 := 5) (v := 0) dX12_terms_40 hk100 rfl (jin (by decide +kernel)) (by decide +kernel) rfl ?_
  refine J_istore_n dX12_terms_41 rfl (Nat.le_of_ble_eq_true rfl) rfl ?_
  refine J_aload_n dX12_terms_42 rfl rfl ?_
  refine J_get (v := .ref 100) dX12_terms_43 fl_X12_20 hk98 rfl ?_
  refine J_iconst (v := 5) dX12_terms_46 (by decide) ?_
  refine J_iload_n dX12_terms_47 rfl rfl ?_
  refine J_iadd (z := 5) dX12_terms_48 (by decide +kernel) ?_
  refine J_iload_n dX12_terms_49 rfl rfl ?_
  refine K_iast (i2 := 5) dX12_terms_50 hk100 rfl (jin (by decide +kernel)) (by decide +kernel) ?_
  refine J_aload_n dX12_terms_51 rfl rfl ?_
  refine J_iload_n dX12_terms_52 rfl rfl ?_
  refine J_callV (st := []) dX12_terms_53 cv_X12_146 (c_X12_good_1 hk98) hk98 rfl rfl (Nat.le_of_ble_eq_true rfl) ⟨(Nat.le_of_ble_eq_true rfl), (Nat.le_of_ble_eq_true rfl)⟩ ⟨(Nat.le_of_ble_eq_true rfl), (Nat.le_of_ble_eq_true rfl)⟩ (fun r h9 hp => ?_)
  obtain ⟨rfl, rfl⟩ := hp
  refine J_nf (nh2 := nh) (ck2 := 0) (sk2 := 0) (st2 := [.int 0]) rfl rfl rfl rfl ?_
  refine J_app (L3 := [(98, .inr (12, [.int 0, .int 1, .ref 99, .ref 100, .ref 101, .ref 102, .ref 103, .ref 104, .ref 105, .int 0, .int (-1), .ref 106, .ref 107, .ref 108, .int 0, .int 0, .int 0, .int 0, .int 0, .int 0, .int 0, .ref 109, .int 0, .int 0, .ref 110, .ref 111, .ref 112, .ref 113, .ref 114, .ref 115, .ref 116, .ref 117, .int 0, .int 0, .int (-1), .int (-1), .ref 118, .ref 119, .ref 120, .ref 121, .ref 122, .ref 123, .ref 124, .ref 125, .ref 126, .ref 127, .ref 128, .ref 129, .int 0, .ref 130, .ref 131, .ref 132, .ref 133, .ref 134, .int 0, .int 0])), (100, .inl (0, 4870, .inl (upd (upd (fun _ => 0) 63 (-1)) 5 a2)))]) rfl ?_
  exact J_iret dX12_terms_56 rfl rfl (Nat.le_of_ble_eq_true rfl) (Nat.le_of_ble_eq_true rfl) ⟨rfl, rfl⟩
set_option maxHeartbeats 4000000 in
set_option maxRecDepth 100000 in
theorem c_X11_terms_4 {l : Launch} {G : jG} {nh : Nat} {fh : Nat → Option va_E} (a2 : Int32) (b_a2 : 2 ≤ a2.toInt ∧ a2.toInt ≤ 2147483647) (hk0 : fh 0 = some (.inr (11, [.ref 1, .ref 17, .ref 50, .ref 51, .ref 54, .ref 57, .ref 65, .ref 75, .ref 81, .ref 85, .ref 88, .ref 93, .ref 96, .int 0, .int (-1), .ref 97, .int 0]))) (hk96 : fh 96 = some (.inl (0, 5, .inl (fun _ => 0)))) : JM l G yX11_terms MX11_terms { frames := 2, cells := 0, slots := 0, locals := 41 } [.ref 0, .int 0, .int a2] (nh, fh) (fun r h9 => r = some (.int (-1)) ∧ h9 = (nh, hc fh [(96, .inl (0, 5, .inl (upd (fun _ => 0) 0 1))), (0, .inr (11, [.ref 1, .ref 17, .ref 50, .ref 51, .ref 54, .ref 57, .ref 65, .ref 75, .ref 81, .ref 85, .ref 88, .ref 93, .ref 96, .int (-1), .int (-1), .ref 97, .int 0]))])) := by
  refine JM.of (by decide) rfl (fun h => by cases h) (Nat.le_of_ble_eq_true rfl) ⟨2, rfl⟩ ?_
  refine J_hc0 (J_ls (ls2 := [some (.ref 0), some (.int 0), some (.int a2), none, none]) rfl ?_)
  refine J_iload_n dX11_terms_0 rfl rfl ?_
  refine J_if_ne (tgt := 8) dX11_terms_1 (by decide) (fun q => absurd (by decide +kernel) q) (fun _ => ?_)
  refine J_iconst (v := 1) dX11_terms_4 (by decide) ?_
  refine J_goto (tgt := 10) dX11_terms_5 (by decide) ?_
  refine J_istore_n dX11_terms_10 rfl (Nat.le_of_ble_eq_true rfl) rfl ?_
  refine J_iload_n dX11_terms_11 rfl rfl ?_
  refine J_if_lt (tgt := 29) dX11_terms_12 (by decide) (fun q => absurd q (by decide +kernel)) (fun _ => ?_)
  refine J_iload_n dX11_terms_15 rfl rfl ?_
  refine J_iconst (v := 1) dX11_terms_16 (by decide) ?_
  refine J_icmp_gt (tgt := 29) dX11_terms_17 (by decide) (fun q => absurd q (by decide +kernel)) (fun _ => ?_)
  refine J_iload_n dX11_terms_20 rfl rfl ?_
  refine J_if_lt (tgt := 29) dX11_terms_21 (by decide) (fun q => absurd q (by have hb0 := b_a2; simp only [fa_lt, fa_le, fa_eq, kc_0]; omega)) (fun _ => ?_)
  refine J_iload_n dX11_terms_24 rfl rfl ?_
  refine J_iload_n dX11_terms_25 rfl rfl ?_
  refine J_icmp_le (tgt := 35) dX11_terms_26 (by decide) (fun q => absurd q (by have hb0 := b_a2; simp only [fa_lt, fa_le, fa_eq, kc_1]; omega)) (fun _ => ?_)
  refine J_aload_n dX11_terms_29 rfl rfl ?_
  refine J_iconst (v := (-1)) dX11_terms_30 (by decide) ?_
  refine J_callV (st := []) dX11_terms_31 cv_X11_118 (c_X11_refuse_1 hk0 hk96) hk0 rfl rfl (Nat.le_of_ble_eq_true rfl) ⟨(Nat.le_of_ble_eq_true rfl), (Nat.le_of_ble_eq_true rfl)⟩ ⟨(Nat.le_of_ble_eq_true rfl), (Nat.le_of_ble_eq_true rfl)⟩ (fun r h9 hp => ?_)
  obtain ⟨rfl, rfl⟩ := hp
  refine J_nf (nh2 := nh) (ck2 := 0) (sk2 := 0) (st2 := [.int (-1)]) rfl rfl rfl rfl ?_
  refine J_app (L3 := [(96, .inl (0, 5, .inl (upd (fun _ => 0) 0 1))), (0, .inr (11, [.ref 1, .ref 17, .ref 50, .ref 51, .ref 54, .ref 57, .ref 65, .ref 75, .ref 81, .ref 85, .ref 88, .ref 93, .ref 96, .int (-1), .int (-1), .ref 97, .int 0]))]) rfl ?_
  exact J_iret dX11_terms_34 rfl rfl (Nat.le_of_ble_eq_true rfl) (Nat.le_of_ble_eq_true rfl) ⟨rfl, rfl⟩
set_option maxHeartbeats 4000000 in
set_option maxRecDepth 100000 in
theorem c_X12_lies_25 {l : Launch} {G : jG} {nh : Nat} {fh : Nat → Option va_E} (a0 : Int32) (b_a0 : 2 ≤ a0.toInt ∧ a0.toInt ≤ 2147483647) : JM l G yX12_lies MX12_lies { frames := 0, cells := 0, slots := 0, locals := 0 } [.int a0, .int 0, .int 1] (nh, fh) (fun r h9 => r = some (.int 0) ∧ h9 = (nh, fh)) := by
  refine JM.of (by decide) rfl (fun h => by cases h) (Nat.le_of_ble_eq_true rfl) ⟨0, rfl⟩ ?_
  refine J_hc0 (J_ls (ls2 := [some (.int a0), some (.int 0), some (.int 1)]) rfl ?_)
  refine J_iload_n dX12_lies_0 rfl rfl ?_
  refine J_iload_n dX12_lies_1 rfl rfl ?_
  refine J_icmp_lt (tgt := 14) dX12_lies_2 (by decide) (fun q => absurd q (by have hb0 := b_a0; simp only [fa_lt, fa_le, fa_eq, kc_0]; omega)) (fun _ => ?_)
  refine J_iload_n dX12_lies_5 rfl rfl ?_
  refine J_iload_n dX12_lies_6 rfl rfl ?_
  refine J_icmp_gt (tgt := 14) dX12_lies_7 (by decide) (fun _ => ?_) (fun q => absurd (by have hb0 := b_a0; simp only [fa_lt, fa_le, fa_eq, kc_1]; omega) q)
  refine J_iconst (v := 0) dX12_lies_14 (by decide) ?_
  exact J_iret dX12_lies_15 rfl (by decide +kernel) (Nat.le_of_ble_eq_true rfl) (Nat.le_of_ble_eq_true rfl) ⟨rfl, rfl⟩
set_option maxHeartbeats 4000000 in
set_option maxRecDepth 100000 in
theorem c_X12_terms_4 {l : Launch} {G : jG} {nh : Nat} {fh : Nat → Option va_E} (a2 : Int32) (b_a2 : 2 ≤ a2.toInt ∧ a2.toInt ≤ 2147483647) (hk98 : fh 98 = some (.inr (12, [.int 0, .int 0, .ref 99, .ref 100, .ref 101, .ref 102, .ref 103, .ref 104, .ref 105, .int 0, .int (-1), .ref 106, .ref 107, .ref 108, .int 0, .int 0, .int 0, .int 0, .int 0, .int 0, .int 0, .ref 109, .int 0, .int 0, .ref 110, .ref 111, .ref 112, .ref 113, .ref 114, .ref 115, .ref 116, .ref 117, .int 0, .int 0, .int (-1), .int (-1), .ref 118, .ref 119, .ref 120, .ref 121, .ref 122, .ref 123, .ref 124, .ref 125, .ref 126, .ref 127, .ref 128, .ref 129, .int 0, .ref 130, .ref 131, .ref 132, .ref 133, .ref 134, .int 0, .int 0]))) (hk99 : fh 99 = some (.inl (0, 7, .inl (fun _ => 0)))) : JM l G yX12_terms MX12_terms { frames := 1, cells := 0, slots := 0, locals := 22 } [.ref 98, .int 0, .int a2] (nh, fh) (fun r h9 => r = some (.int (-1)) ∧ h9 = (nh, hc fh [(99, .inl (0, 7, .inl (upd (fun _ => 0) 1 1))), (98, .inr (12, [.int (-1), .int 0, .ref 99, .ref 100, .ref 101, .ref 102, .ref 103, .ref 104, .ref 105, .int 0, .int (-1), .ref 106, .ref 107, .ref 108, .int 0, .int 0, .int 0, .int 0, .int 0, .int 0, .int 0, .ref 109, .int 0, .int 0, .ref 110, .ref 111, .ref 112, .ref 113, .ref 114, .ref 115, .ref 116, .ref 117, .int 0, .int 0, .int (-1), .int (-1), .ref 118, .ref 119, .ref 120, .ref 121, .ref 122, .ref 123, .ref 124, .ref 125, .ref 126, .ref 127, .ref 128, .ref 129, .int 0, .ref 130, .ref 131, .ref 132, .ref 133, .ref 134, .int 0, .int 0]))])) := by
  refine JM.of (by decide) rfl (fun h => by cases h) (Nat.le_of_ble_eq_true rfl) ⟨1, rfl⟩ ?_
  refine J_hc0 (J_ls (ls2 := [some (.ref 98), some (.int 0), some (.int a2), none]) rfl ?_)
  refine J_iload_n dX12_terms_0 rfl rfl ?_
  refine J_iconst (v := 0) dX12_terms_1 (by decide) ?_
  refine J_iconst (v := 1) dX12_terms_2 (by decide) ?_
  refine J_callS (st := []) dX12_terms_3 cs_X12_138 (c_X12_lies_23 ) rfl rfl (Nat.le_of_ble_eq_true rfl) ⟨(Nat.le_of_ble_eq_true rfl), (Nat.le_of_ble_eq_true rfl)⟩ ⟨(Nat.le_of_ble_eq_true rfl), (Nat.le_of_ble_eq_true rfl)⟩ (fun r h9 hp => ?_)
  obtain ⟨rfl, rfl⟩ := hp
  refine J_nf (nh2 := nh) (ck2 := 0) (sk2 := 0) (st2 := [.int 1]) rfl rfl rfl rfl ?_
  refine J_if_eq (tgt := 27) dX12_terms_6 (by decide) (fun q => absurd q (by decide +kernel)) (fun _ => ?_)
  refine J_iload_n dX12_terms_9 rfl rfl ?_
  refine J_iconst (v := 0) dX12_terms_10 (by decide) ?_
  refine J_iload_n dX12_terms_11 rfl rfl ?_
  refine J_if_ne (tgt := 19) dX12_terms_12 (by decide) (fun q => absurd (by decide +kernel) q) (fun _ => ?_)
  refine J_iconst (v := 1) dX12_terms_15 (by decide) ?_
  refine J_goto (tgt := 21) dX12_terms_16 (by decide) ?_
  refine J_callS (st := []) dX12_terms_21 cs_X12_138 (c_X12_lies_25 (a2) b_a2) rfl rfl (Nat.le_of_ble_eq_true rfl) ⟨(Nat.le_of_ble_eq_true rfl), (Nat.le_of_ble_eq_true rfl)⟩ ⟨(Nat.le_of_ble_eq_true rfl), (Nat.le_of_ble_eq_true rfl)⟩ (fun r h9 hp => ?_)
  obtain ⟨rfl, rfl⟩ := hp
  refine J_nf (nh2 := nh) (ck2 := 0) (sk2 := 0) (st2 := [.int 0]) rfl rfl rfl rfl ?_
  refine J_if_ne (tgt := 33) dX12_terms_24 (by decide) (fun q => absurd (by decide +kernel) q) (fun _ => ?_)
  refine J_aload_n dX12_terms_27 rfl rfl ?_
  refine J_iconst (v := (-1)) dX12_terms_28 (by decide) ?_
  refine J_callV (st := []) dX12_terms_29 cv_X12_142 (c_X12_refuses_1 hk98 hk99) hk98 rfl rfl (Nat.le_of_ble_eq_true rfl) ⟨(Nat.le_of_ble_eq_true rfl), (Nat.le_of_ble_eq_true rfl)⟩ ⟨(Nat.le_of_ble_eq_true rfl), (Nat.le_of_ble_eq_true rfl)⟩ (fun r h9 hp => ?_)
  obtain ⟨rfl, rfl⟩ := hp
  refine J_nf (nh2 := nh) (ck2 := 0) (sk2 := 0) (st2 := [.int (-1)]) rfl rfl rfl rfl ?_
  refine J_app (L3 := [(99, .inl (0, 7, .inl (upd (fun _ => 0) 1 1))), (98, .inr (12, [.int (-1), .int 0, .ref 99, .ref 100, .ref 101, .ref 102, .ref 103, .ref 104, .ref 105, .int 0, .int (-1), .ref 106, .ref 107, .ref 108, .int 0, .int 0, .int 0, .int 0, .int 0, .int 0, .int 0, .ref 109, .int 0, .int 0, .ref 110, .ref 111, .ref 112, .ref 113, .ref 114, .ref 115, .ref 116, .ref 117, .int 0, .int 0, .int (-1), .int (-1), .ref 118, .ref 119, .ref 120, .ref 121, .ref 122, .ref 123, .ref 124, .ref 125, .ref 126, .ref 127, .ref 128, .ref 129, .int 0, .ref 130, .ref 131, .ref 132, .ref 133, .ref 134, .int 0, .int 0]))]) rfl ?_
  exact J_iret dX12_terms_32 rfl rfl (Nat.le_of_ble_eq_true rfl) (Nat.le_of_ble_eq_true rfl) ⟨rfl, rfl⟩
set_option maxHeartbeats 4000000 in
set_option maxRecDepth 100000 in
theorem c_X11_terms_5 {l : Launch} {G : jG} {nh : Nat} {fh : Nat → Option va_E} (a2 : Int32) (b_a2 : (-2147483648) ≤ a2.toInt ∧ a2.toInt ≤ (-1)) (hk0 : fh 0 = some (.inr (11, [.ref 1, .ref 17, .ref 50, .ref 51, .ref 54, .ref 57, .ref 65, .ref 75, .ref 81, .ref 85, .ref 88, .ref 93, .ref 96, .int 0, .int (-1), .ref 97, .int 0]))) (hk96 : fh 96 = some (.inl (0, 5, .inl (fun _ => 0)))) : JM l G yX11_terms MX11_terms { frames := 2, cells := 0, slots := 0, locals := 41 } [.ref 0, .int 1, .int a2] (nh, fh) (fun r h9 => r = some (.int (-1)) ∧ h9 = (nh, hc fh [(96, .inl (0, 5, .inl (upd (fun _ => 0) 0 1))), (0, .inr (11, [.ref 1, .ref 17, .ref 50, .ref 51, .ref 54, .ref 57, .ref 65, .ref 75, .ref 81, .ref 85, .ref 88, .ref 93, .ref 96, .int (-1), .int (-1), .ref 97, .int 0]))])) := by
  refine JM.of (by decide) rfl (fun h => by cases h) (Nat.le_of_ble_eq_true rfl) ⟨2, rfl⟩ ?_
  refine J_hc0 (J_ls (ls2 := [some (.ref 0), some (.int 1), some (.int a2), none, none]) rfl ?_)
  refine J_iload_n dX11_terms_0 rfl rfl ?_
  refine J_if_ne (tgt := 8) dX11_terms_1 (by decide) (fun _ => ?_) (fun q => absurd q (by decide +kernel))
  refine J_bipush (v := 99) dX11_terms_8 (by decide +kernel) ?_
  refine J_istore_n dX11_terms_10 rfl (Nat.le_of_ble_eq_true rfl) rfl ?_
  refine J_iload_n dX11_terms_11 rfl rfl ?_
  refine J_if_lt (tgt := 29) dX11_terms_12 (by decide) (fun q => absurd q (by decide +kernel)) (fun _ => ?_)
  refine J_iload_n dX11_terms_15 rfl rfl ?_
  refine J_iconst (v := 1) dX11_terms_16 (by decide) ?_
  refine J_icmp_gt (tgt := 29) dX11_terms_17 (by decide) (fun q => absurd q (by decide +kernel)) (fun _ => ?_)
  refine J_iload_n dX11_terms_20 rfl rfl ?_
  refine J_if_lt (tgt := 29) dX11_terms_21 (by decide) (fun _ => ?_) (fun q => absurd (by have hb0 := b_a2; simp only [fa_lt, fa_le, fa_eq, kc_0]; omega) q)
  refine J_aload_n dX11_terms_29 rfl rfl ?_
  refine J_iconst (v := (-1)) dX11_terms_30 (by decide) ?_
  refine J_callV (st := []) dX11_terms_31 cv_X11_118 (c_X11_refuse_1 hk0 hk96) hk0 rfl rfl (Nat.le_of_ble_eq_true rfl) ⟨(Nat.le_of_ble_eq_true rfl), (Nat.le_of_ble_eq_true rfl)⟩ ⟨(Nat.le_of_ble_eq_true rfl), (Nat.le_of_ble_eq_true rfl)⟩ (fun r h9 hp => ?_)
  obtain ⟨rfl, rfl⟩ := hp
  refine J_nf (nh2 := nh) (ck2 := 0) (sk2 := 0) (st2 := [.int (-1)]) rfl rfl rfl rfl ?_
  refine J_app (L3 := [(96, .inl (0, 5, .inl (upd (fun _ => 0) 0 1))), (0, .inr (11, [.ref 1, .ref 17, .ref 50, .ref 51, .ref 54, .ref 57, .ref 65, .ref 75, .ref 81, .ref 85, .ref 88, .ref 93, .ref 96, .int (-1), .int (-1), .ref 97, .int 0]))]) rfl ?_
  exact J_iret dX11_terms_34 rfl rfl (Nat.le_of_ble_eq_true rfl) (Nat.le_of_ble_eq_true rfl) ⟨rfl, rfl⟩
set_option maxHeartbeats 4000000 in
set_option maxRecDepth 100000 in
theorem c_X12_lies_26 {l : Launch} {G : jG} {nh : Nat} {fh : Nat → Option va_E}  : JM l G yX12_lies MX12_lies { frames := 0, cells := 0, slots := 0, locals := 0 } [.int 1, .int 0, .int 1] (nh, fh) (fun r h9 => r = some (.int 1) ∧ h9 = (nh, fh)) := by
  refine JM.of (by decide) rfl (fun h => by cases h) (Nat.le_of_ble_eq_true rfl) ⟨0, rfl⟩ ?_
  refine J_hc0 (J_ls (ls2 := [some (.int 1), some (.int 0), some (.int 1)]) rfl ?_)
  refine J_iload_n dX12_lies_0 rfl rfl ?_
  refine J_iload_n dX12_lies_1 rfl rfl ?_
  refine J_icmp_lt (tgt := 14) dX12_lies_2 (by decide) (fun q => absurd q (by decide +kernel)) (fun _ => ?_)
  refine J_iload_n dX12_lies_5 rfl rfl ?_
  refine J_iload_n dX12_lies_6 rfl rfl ?_
  refine J_icmp_gt (tgt := 14) dX12_lies_7 (by decide) (fun q => absurd q (by decide +kernel)) (fun _ => ?_)
  refine J_iconst (v := 1) dX12_lies_10 (by decide) ?_
  refine J_goto (tgt := 15) dX12_lies_11 (by decide) ?_
  exact J_iret dX12_lies_15 rfl (by decide +kernel) (Nat.le_of_ble_eq_true rfl) (Nat.le_of_ble_eq_true rfl) ⟨rfl, rfl⟩
set_option maxHeartbeats 4000000 in
set_option maxRecDepth 100000 in
theorem c_X12_lies_27 {l : Launch} {G : jG} {nh : Nat} {fh : Nat → Option va_E} (a0 : Int32) (b_a0 : (-2147483648) ≤ a0.toInt ∧ a0.toInt ≤ (-1)) : JM l G yX12_lies MX12_lies { frames := 0, cells := 0, slots := 0, locals := 0 } [.int a0, .int 0, .int 99] (nh, fh) (fun r h9 => r = some (.int 0) ∧ h9 = (nh, fh)) := by
  refine JM.of (by decide) rfl (fun h => by cases h) (Nat.le_of_ble_eq_true rfl) ⟨0, rfl⟩ ?_
  refine J_hc0 (J_ls (ls2 := [some (.int a0), some (.int 0), some (.int 99)]) rfl ?_)
  refine J_iload_n dX12_lies_0 rfl rfl ?_
  refine J_iload_n dX12_lies_1 rfl rfl ?_
  refine J_icmp_lt (tgt := 14) dX12_lies_2 (by decide) (fun _ => ?_) (fun q => absurd (by have hb0 := b_a0; simp only [fa_lt, fa_le, fa_eq, kc_0]; omega) q)
  refine J_iconst (v := 0) dX12_lies_14 (by decide) ?_
  exact J_iret dX12_lies_15 rfl (by decide +kernel) (Nat.le_of_ble_eq_true rfl) (Nat.le_of_ble_eq_true rfl) ⟨rfl, rfl⟩
set_option maxHeartbeats 4000000 in
set_option maxRecDepth 100000 in
theorem c_X12_terms_5 {l : Launch} {G : jG} {nh : Nat} {fh : Nat → Option va_E} (a2 : Int32) (b_a2 : (-2147483648) ≤ a2.toInt ∧ a2.toInt ≤ (-1)) (hk98 : fh 98 = some (.inr (12, [.int 0, .int 0, .ref 99, .ref 100, .ref 101, .ref 102, .ref 103, .ref 104, .ref 105, .int 0, .int (-1), .ref 106, .ref 107, .ref 108, .int 0, .int 0, .int 0, .int 0, .int 0, .int 0, .int 0, .ref 109, .int 0, .int 0, .ref 110, .ref 111, .ref 112, .ref 113, .ref 114, .ref 115, .ref 116, .ref 117, .int 0, .int 0, .int (-1), .int (-1), .ref 118, .ref 119, .ref 120, .ref 121, .ref 122, .ref 123, .ref 124, .ref 125, .ref 126, .ref 127, .ref 128, .ref 129, .int 0, .ref 130, .ref 131, .ref 132, .ref 133, .ref 134, .int 0, .int 0]))) (hk99 : fh 99 = some (.inl (0, 7, .inl (fun _ => 0)))) : JM l G yX12_terms MX12_terms { frames := 1, cells := 0, slots := 0, locals := 22 } [.ref 98, .int 1, .int a2] (nh, fh) (fun r h9 => r = some (.int (-1)) ∧ h9 = (nh, hc fh [(99, .inl (0, 7, .inl (upd (fun _ => 0) 1 1))), (98, .inr (12, [.int (-1), .int 0, .ref 99, .ref 100, .ref 101, .ref 102, .ref 103, .ref 104, .ref 105, .int 0, .int (-1), .ref 106, .ref 107, .ref 108, .int 0, .int 0, .int 0, .int 0, .int 0, .int 0, .int 0, .ref 109, .int 0, .int 0, .ref 110, .ref 111, .ref 112, .ref 113, .ref 114, .ref 115, .ref 116, .ref 117, .int 0, .int 0, .int (-1), .int (-1), .ref 118, .ref 119, .ref 120, .ref 121, .ref 122, .ref 123, .ref 124, .ref 125, .ref 126, .ref 127, .ref 128, .ref 129, .int 0, .ref 130, .ref 131, .ref 132, .ref 133, .ref 134, .int 0, .int 0]))])) := by
  refine JM.of (by decide) rfl (fun h => by cases h) (Nat.le_of_ble_eq_true rfl) ⟨1, rfl⟩ ?_
  refine J_hc0 (J_ls (ls2 := [some (.ref 98), some (.int 1), some (.int a2), none]) rfl ?_)
  refine J_iload_n dX12_terms_0 rfl rfl ?_
  refine J_iconst (v := 0) dX12_terms_1 (by decide) ?_
  refine J_iconst (v := 1) dX12_terms_2 (by decide) ?_
  refine J_callS (st := []) dX12_terms_3 cs_X12_138 (c_X12_lies_26 ) rfl rfl (Nat.le_of_ble_eq_true rfl) ⟨(Nat.le_of_ble_eq_true rfl), (Nat.le_of_ble_eq_true rfl)⟩ ⟨(Nat.le_of_ble_eq_true rfl), (Nat.le_of_ble_eq_true rfl)⟩ (fun r h9 hp => ?_)
  obtain ⟨rfl, rfl⟩ := hp
  refine J_nf (nh2 := nh) (ck2 := 0) (sk2 := 0) (st2 := [.int 1]) rfl rfl rfl rfl ?_
  refine J_if_eq (tgt := 27) dX12_terms_6 (by decide) (fun q => absurd q (by decide +kernel)) (fun _ => ?_)
  refine J_iload_n dX12_terms_9 rfl rfl ?_
  refine J_iconst (v := 0) dX12_terms_10 (by decide) ?_
  refine J_iload_n dX12_terms_11 rfl rfl ?_
  refine J_if_ne (tgt := 19) dX12_terms_12 (by decide) (fun _ => ?_) (fun q => absurd q (by decide +kernel))
  refine J_bipush (v := 99) dX12_terms_19 (by decide +kernel) ?_
  refine J_callS (st := []) dX12_terms_21 cs_X12_138 (c_X12_lies_27 (a2) b_a2) rfl rfl (Nat.le_of_ble_eq_true rfl) ⟨(Nat.le_of_ble_eq_true rfl), (Nat.le_of_ble_eq_true rfl)⟩ ⟨(Nat.le_of_ble_eq_true rfl), (Nat.le_of_ble_eq_true rfl)⟩ (fun r h9 hp => ?_)
  obtain ⟨rfl, rfl⟩ := hp
  refine J_nf (nh2 := nh) (ck2 := 0) (sk2 := 0) (st2 := [.int 0]) rfl rfl rfl rfl ?_
  refine J_if_ne (tgt := 33) dX12_terms_24 (by decide) (fun q => absurd (by decide +kernel) q) (fun _ => ?_)
  refine J_aload_n dX12_terms_27 rfl rfl ?_
  refine J_iconst (v := (-1)) dX12_terms_28 (by decide) ?_
  refine J_callV (st := []) dX12_terms_29 cv_X12_142 (c_X12_refuses_1 hk98 hk99) hk98 rfl rfl (Nat.le_of_ble_eq_true rfl) ⟨(Nat.le_of_ble_eq_true rfl), (Nat.le_of_ble_eq_true rfl)⟩ ⟨(Nat.le_of_ble_eq_true rfl), (Nat.le_of_ble_eq_true rfl)⟩ (fun r h9 hp => ?_)
  obtain ⟨rfl, rfl⟩ := hp
  refine J_nf (nh2 := nh) (ck2 := 0) (sk2 := 0) (st2 := [.int (-1)]) rfl rfl rfl rfl ?_
  refine J_app (L3 := [(99, .inl (0, 7, .inl (upd (fun _ => 0) 1 1))), (98, .inr (12, [.int (-1), .int 0, .ref 99, .ref 100, .ref 101, .ref 102, .ref 103, .ref 104, .ref 105, .int 0, .int (-1), .ref 106, .ref 107, .ref 108, .int 0, .int 0, .int 0, .int 0, .int 0, .int 0, .int 0, .ref 109, .int 0, .int 0, .ref 110, .ref 111, .ref 112, .ref 113, .ref 114, .ref 115, .ref 116, .ref 117, .int 0, .int 0, .int (-1), .int (-1), .ref 118, .ref 119, .ref 120, .ref 121, .ref 122, .ref 123, .ref 124, .ref 125, .ref 126, .ref 127, .ref 128, .ref 129, .int 0, .ref 130, .ref 131, .ref 132, .ref 133, .ref 134, .int 0, .int 0]))]) rfl ?_
  exact J_iret dX12_terms_32 rfl rfl (Nat.le_of_ble_eq_true rfl) (Nat.le_of_ble_eq_true rfl) ⟨rfl, rfl⟩
set_option maxHeartbeats 4000000 in
set_option maxRecDepth 100000 in
theorem c_X11_terms_6 {l : Launch} {G : jG} {nh : Nat} {fh : Nat → Option va_E} (a2 : Int32) (b_a2 : 0 ≤ a2.toInt ∧ a2.toInt ≤ 99) (hk0 : fh 0 = some (.inr (11, [.ref 1, .ref 17, .ref 50, .ref 51, .ref 54, .ref 57, .ref 65, .ref 75, .ref 81, .ref 85, .ref 88, .ref 93, .ref 96, .int 0, .int (-1), .ref 97, .int 0]))) (hk1 : fh 1 = some (.inr (8, [.ref 2, .ref 3, .ref 4, .int 0, .int (-1), .ref 11, .ref 12, .int 0, .ref 13, .ref 14, .int 0, .ref 15, .ref 16, .int 0]))) (hk3 : fh 3 = some (.inl (0, 2, .inl (fun _ => 0)))) (hk57 : fh 57 = some (.inr (9, [.ref 1, .ref 51, .ref 58, .ref 61, .ref 62, .ref 63, .ref 64, .int 0, .int 1, .int 1]))) : JM l G yX11_terms MX11_terms { frames := 2, cells := 0, slots := 0, locals := 40 } [.ref 0, .int 1, .int a2] (nh, fh) (fun r h9 => r = some (.int 0) ∧ h9 = (nh, hc fh [(0, .inr (11, [.ref 1, .ref 17, .ref 50, .ref 51, .ref 54, .ref 57, .ref 65, .ref 75, .ref 81, .ref 85, .ref 88, .ref 93, .ref 96, .int 0, .int (-1), .ref 97, .int 0])), (57, .inr (9, [.ref 1, .ref 51, .ref 58, .ref 61, .ref 62, .ref 63, .ref 64, .int 1, .int 1, .int 1])), (3, .inl (0, 2, .inl (upd (fun _ => 0) 1 a2)))])) := by
  refine JM.of (by decide) rfl (fun h => by cases h) (Nat.le_of_ble_eq_true rfl) ⟨2, rfl⟩ ?_
  refine J_hc0 (J_ls (ls2 := [some (.ref 0), some (.int 1), some (.int a2), none, none]) rfl ?_)
  refine J_iload_n dX11_terms_0 rfl rfl ?_
  refine J_if_ne (tgt := 8) dX11_terms_1 (by decide) (fun _ => ?_) (fun q => absurd q (by decide +kernel))
  refine J_bipush (v := 99) dX11_terms_8 (by decide +kernel) ?_
  refine J_istore_n dX11_terms_10 rfl (Nat.le_of_ble_eq_true rfl) rfl ?_
  refine J_iload_n dX11_terms_11 rfl rfl ?_
  refine J_if_lt (tgt := 29) dX11_terms_12 (by decide) (fun q => absurd q (by decide +kernel)) (fun _ => ?_)
  refine J_iload_n dX11_terms_15 rfl rfl ?_
  refine J_iconst (v := 1) dX11_terms_16 (by decide) ?_
  refine J_icmp_gt (tgt := 29) dX11_terms_17 (by decide) (fun q => absurd q (by decide +kernel)) (fun _ => ?_)
  refine J_iload_n dX11_terms_20 rfl rfl ?_
  refine J_if_lt (tgt := 29) dX11_terms_21 (by decide) (fun q => absurd q (by have hb0 := b_a2; simp only [fa_lt, fa_le, fa_eq, kc_0]; omega)) (fun _ => ?_)
  refine J_iload_n dX11_terms_24 rfl rfl ?_
  refine J_iload_n dX11_terms_25 rfl rfl ?_
  refine J_icmp_le (tgt := 35) dX11_terms_26 (by decide) (fun _ => ?_) (fun q => absurd (by have hb0 := b_a2; simp only [fa_lt, fa_le, fa_eq, kc_99]; omega) q)
  refine J_aload_n dX11_terms_35 rfl rfl ?_
  refine J_get (v := .ref 1) dX11_terms_36 fl_X11_10 hk0 rfl ?_
  refine J_get (v := .ref 3) dX11_terms_39 fl_X11_145 hk1 rfl ?_
  refine J_iload_n dX11_terms_42 rfl rfl ?_
  refine J_iald (i2 := 1) (v := 0) dX11_terms_43 hk3 rfl (jin (by decide +kernel)) (by decide +kernel) rfl ?_
  refine J_istore dX11_terms_44 (Nat.le_of_ble_eq_true rfl) rfl ?_
  refine J_aload_n dX11_terms_46 rfl rfl ?_
  refine J_get (v := .ref 1) dX11_terms_47 fl_X11_10 hk0 rfl ?_
  refine J_get (v := .ref 3) dX11_terms_50 fl_X11_145 hk1 rfl ?_
  refine J_iload_n dX11_terms_53 rfl rfl ?_
  refine J_iload_n dX11_terms_54 rfl rfl ?_
  refine K_iast (i2 := 1) dX11_terms_55 hk3 rfl (jin (by decide +kernel)) (by decide +kernel) ?_
  refine J_aload_n dX11_terms_56 rfl rfl ?_
  refine J_get (v := .ref 57) dX11_terms_57 fl_X11_43 hk0 rfl ?_
  refine J_callV (st := []) dX11_terms_60 cv_X11_148 (c_X9_changeAll_1 hk57) hk57 rfl rfl (Nat.le_of_ble_eq_true rfl) ⟨(Nat.le_of_ble_eq_true rfl), (Nat.le_of_ble_eq_true rfl)⟩ ⟨(Nat.le_of_ble_eq_true rfl), (Nat.le_of_ble_eq_true rfl)⟩ (fun r h9 hp => ?_)
  obtain ⟨rfl, rfl⟩ := hp
  refine J_nf (nh2 := nh) (ck2 := 0) (sk2 := 0) (st2 := []) rfl rfl rfl rfl ?_
  refine J_app (L3 := [(57, .inr (9, [.ref 1, .ref 51, .ref 58, .ref 61, .ref 62, .ref 63, .ref 64, .int 1, .int 1, .int 1])), (3, .inl (0, 2, .inl (upd (fun _ => 0) 1 a2)))]) rfl ?_
  refine J_aload_n dX11_terms_63 rfl rfl ?_
  refine J_iload dX11_terms_64 rfl ?_
  refine J_callV (st := []) dX11_terms_66 cv_X11_129 (c_X11_accept_1 hk0) hk0 rfl rfl (Nat.le_of_ble_eq_true rfl) ⟨(Nat.le_of_ble_eq_true rfl), (Nat.le_of_ble_eq_true rfl)⟩ ⟨(Nat.le_of_ble_eq_true rfl), (Nat.le_of_ble_eq_true rfl)⟩ (fun r h9 hp => ?_)
  obtain ⟨rfl, rfl⟩ := hp
  refine J_nf (nh2 := nh) (ck2 := 0) (sk2 := 0) (st2 := [.int 0]) rfl rfl rfl rfl ?_
  refine J_app (L3 := [(0, .inr (11, [.ref 1, .ref 17, .ref 50, .ref 51, .ref 54, .ref 57, .ref 65, .ref 75, .ref 81, .ref 85, .ref 88, .ref 93, .ref 96, .int 0, .int (-1), .ref 97, .int 0])), (57, .inr (9, [.ref 1, .ref 51, .ref 58, .ref 61, .ref 62, .ref 63, .ref 64, .int 1, .int 1, .int 1])), (3, .inl (0, 2, .inl (upd (fun _ => 0) 1 a2)))]) rfl ?_
  exact J_iret dX11_terms_69 rfl rfl (Nat.le_of_ble_eq_true rfl) (Nat.le_of_ble_eq_true rfl) ⟨rfl, rfl⟩
set_option maxHeartbeats 4000000 in
set_option maxRecDepth 100000 in
theorem c_X12_lies_28 {l : Launch} {G : jG} {nh : Nat} {fh : Nat → Option va_E} (a0 : Int32) (b_a0 : 0 ≤ a0.toInt ∧ a0.toInt ≤ 99) : JM l G yX12_lies MX12_lies { frames := 0, cells := 0, slots := 0, locals := 0 } [.int a0, .int 0, .int 99] (nh, fh) (fun r h9 => r = some (.int 1) ∧ h9 = (nh, fh)) := by
  refine JM.of (by decide) rfl (fun h => by cases h) (Nat.le_of_ble_eq_true rfl) ⟨0, rfl⟩ ?_
  refine J_hc0 (J_ls (ls2 := [some (.int a0), some (.int 0), some (.int 99)]) rfl ?_)
  refine J_iload_n dX12_lies_0 rfl rfl ?_
  refine J_iload_n dX12_lies_1 rfl rfl ?_
  refine J_icmp_lt (tgt := 14) dX12_lies_2 (by decide) (fun q => absurd q (by have hb0 := b_a0; simp only [fa_lt, fa_le, fa_eq, kc_0]; omega)) (fun _ => ?_)
  refine J_iload_n dX12_lies_5 rfl rfl ?_
  refine J_iload_n dX12_lies_6 rfl rfl ?_
  refine J_icmp_gt (tgt := 14) dX12_lies_7 (by decide) (fun q => absurd q (by have hb0 := b_a0; simp only [fa_lt, fa_le, fa_eq, kc_99]; omega)) (fun _ => ?_)
  refine J_iconst (v := 1) dX12_lies_10 (by decide) ?_
  refine J_goto (tgt := 15) dX12_lies_11 (by decide) ?_
  exact J_iret dX12_lies_15 rfl (by decide +kernel) (Nat.le_of_ble_eq_true rfl) (Nat.le_of_ble_eq_true rfl) ⟨rfl, rfl⟩
set_option maxHeartbeats 4000000 in
set_option maxRecDepth 100000 in
theorem c_X12_terms_6 {l : Launch} {G : jG} {nh : Nat} {fh : Nat → Option va_E} (a2 : Int32) (b_a2 : 0 ≤ a2.toInt ∧ a2.toInt ≤ 99) (hk98 : fh 98 = some (.inr (12, [.int 0, .int 0, .ref 99, .ref 100, .ref 101, .ref 102, .ref 103, .ref 104, .ref 105, .int 0, .int (-1), .ref 106, .ref 107, .ref 108, .int 0, .int 0, .int 0, .int 0, .int 0, .int 0, .int 0, .ref 109, .int 0, .int 0, .ref 110, .ref 111, .ref 112, .ref 113, .ref 114, .ref 115, .ref 116, .ref 117, .int 0, .int 0, .int (-1), .int (-1), .ref 118, .ref 119, .ref 120, .ref 121, .ref 122, .ref 123, .ref 124, .ref 125, .ref 126, .ref 127, .ref 128, .ref 129, .int 0, .ref 130, .ref 131, .ref 132, .ref 133, .ref 134, .int 0, .int 0]))) (hk100 : fh 100 = some (.inl (0, 4870, .inl (upd (fun _ => 0) 63 (-1))))) : JM l G yX12_terms MX12_terms { frames := 1, cells := 0, slots := 0, locals := 22 } [.ref 98, .int 1, .int a2] (nh, fh) (fun r h9 => r = some (.int 0) ∧ h9 = (nh, hc fh [(98, .inr (12, [.int 0, .int 1, .ref 99, .ref 100, .ref 101, .ref 102, .ref 103, .ref 104, .ref 105, .int 0, .int (-1), .ref 106, .ref 107, .ref 108, .int 0, .int 0, .int 0, .int 0, .int 0, .int 0, .int 0, .ref 109, .int 0, .int 0, .ref 110, .ref 111, .ref 112, .ref 113, .ref 114, .ref 115, .ref 116, .ref 117, .int 0, .int 0, .int (-1), .int (-1), .ref 118, .ref 119, .ref 120, .ref 121, .ref 122, .ref 123, .ref 124, .ref 125, .ref 126, .ref 127, .ref 128, .ref 129, .int 0, .ref 130, .ref 131, .ref 132, .ref 133, .ref 134, .int 0, .int 0])), (100, .inl (0, 4870, .inl (upd (upd (fun _ => 0) 63 (-1)) 6 a2)))])) := by
  refine JM.of (by decide) rfl (fun h => by cases h) (Nat.le_of_ble_eq_true rfl) ⟨1, rfl⟩ ?_
  refine J_hc0 (J_ls (ls2 := [some (.ref 98), some (.int 1), some (.int a2), none]) rfl ?_)
  refine J_iload_n dX12_terms_0 rfl rfl ?_
  refine J_iconst (v := 0) dX12_terms_1 (by decide) ?_
  refine J_iconst (v := 1) dX12_terms_2 (by decide) ?_
  refine J_callS (st := []) dX12_terms_3 cs_X12_138 (c_X12_lies_26 ) rfl rfl (Nat.le_of_ble_eq_true rfl) ⟨(Nat.le_of_ble_eq_true rfl), (Nat.le_of_ble_eq_true rfl)⟩ ⟨(Nat.le_of_ble_eq_true rfl), (Nat.le_of_ble_eq_true rfl)⟩ (fun r h9 hp => ?_)
  obtain ⟨rfl, rfl⟩ := hp
  refine J_nf (nh2 := nh) (ck2 := 0) (sk2 := 0) (st2 := [.int 1]) rfl rfl rfl rfl ?_
  refine J_if_eq (tgt := 27) dX12_terms_6 (by decide) (fun q => absurd q (by decide +kernel)) (fun _ => ?_)
  refine J_iload_n dX12_terms_9 rfl rfl ?_
  refine J_iconst (v := 0) dX12_terms_10 (by decide) ?_
  refine J_iload_n dX12_terms_11 rfl rfl ?_
  refine J_if_ne (tgt := 19) dX12_terms_12 (by decide) (fun _ => ?_) (fun q => absurd q (by decide +kernel))
  refine J_bipush (v := 99) dX12_terms_19 (by decide +kernel) ?_
  refine J_callS (st := []) dX12_terms_21 cs_X12_138 (c_X12_lies_28 (a2) b_a2) rfl rfl (Nat.le_of_ble_eq_true rfl) ⟨(Nat.le_of_ble_eq_true rfl), (Nat.le_of_ble_eq_true rfl)⟩ ⟨(Nat.le_of_ble_eq_true rfl), (Nat.le_of_ble_eq_true rfl)⟩ (fun r h9 hp => ?_)
  obtain ⟨rfl, rfl⟩ := hp
  refine J_nf (nh2 := nh) (ck2 := 0) (sk2 := 0) (st2 := [.int 1]) rfl rfl rfl rfl ?_
  refine J_if_ne (tgt := 33) dX12_terms_24 (by decide) (fun _ => ?_) (fun q => absurd q (by decide +kernel))
  refine J_aload_n dX12_terms_33 rfl rfl ?_
  refine J_get (v := .ref 100) dX12_terms_34 fl_X12_20 hk98 rfl ?_
  refine J_iconst (v := 5) dX12_terms_37 (by decide) ?_
  refine J_iload_n dX12_terms_38 rfl rfl ?_
  refine J_iadd (z := 6) dX12_terms_39 (by decide +kernel) ?_
  refine J_iald (i2 := 6) (v := 0) dX12_terms_40 hk100 rfl (jin (by decide +kernel)) (by decide +kernel) rfl ?_
  refine J_istore_n dX12_terms_41 rfl (Nat.le_of_ble_eq_true rfl) rfl ?_
  refine J_aload_n dX12_terms_42 rfl rfl ?_
  refine J_get (v := .ref 100) dX12_terms_43 fl_X12_20 hk98 rfl ?_
  refine J_iconst (v := 5) dX12_terms_46 (by decide) ?_
  refine J_iload_n dX12_terms_47 rfl rfl ?_
  refine J_iadd (z := 6) dX12_terms_48 (by decide +kernel) ?_
  refine J_iload_n dX12_terms_49 rfl rfl ?_
  refine K_iast (i2 := 6) dX12_terms_50 hk100 rfl (jin (by decide +kernel)) (by decide +kernel) ?_
  refine J_aload_n dX12_terms_51 rfl rfl ?_
  refine J_iload_n dX12_terms_52 rfl rfl ?_
  refine J_callV (st := []) dX12_terms_53 cv_X12_146 (c_X12_good_1 hk98) hk98 rfl rfl (Nat.le_of_ble_eq_true rfl) ⟨(Nat.le_of_ble_eq_true rfl), (Nat.le_of_ble_eq_true rfl)⟩ ⟨(Nat.le_of_ble_eq_true rfl), (Nat.le_of_ble_eq_true rfl)⟩ (fun r h9 hp => ?_)
  obtain ⟨rfl, rfl⟩ := hp
  refine J_nf (nh2 := nh) (ck2 := 0) (sk2 := 0) (st2 := [.int 0]) rfl rfl rfl rfl ?_
  refine J_app (L3 := [(98, .inr (12, [.int 0, .int 1, .ref 99, .ref 100, .ref 101, .ref 102, .ref 103, .ref 104, .ref 105, .int 0, .int (-1), .ref 106, .ref 107, .ref 108, .int 0, .int 0, .int 0, .int 0, .int 0, .int 0, .int 0, .ref 109, .int 0, .int 0, .ref 110, .ref 111, .ref 112, .ref 113, .ref 114, .ref 115, .ref 116, .ref 117, .int 0, .int 0, .int (-1), .int (-1), .ref 118, .ref 119, .ref 120, .ref 121, .ref 122, .ref 123, .ref 124, .ref 125, .ref 126, .ref 127, .ref 128, .ref 129, .int 0, .ref 130, .ref 131, .ref 132, .ref 133, .ref 134, .int 0, .int 0])), (100, .inl (0, 4870, .inl (upd (upd (fun _ => 0) 63 (-1)) 6 a2)))]) rfl ?_
  exact J_iret dX12_terms_56 rfl rfl (Nat.le_of_ble_eq_true rfl) (Nat.le_of_ble_eq_true rfl) ⟨rfl, rfl⟩
set_option maxHeartbeats 4000000 in
set_option maxRecDepth 100000 in
theorem c_X11_terms_7 {l : Launch} {G : jG} {nh : Nat} {fh : Nat → Option va_E} (a2 : Int32) (b_a2 : 100 ≤ a2.toInt ∧ a2.toInt ≤ 2147483647) (hk0 : fh 0 = some (.inr (11, [.ref 1, .ref 17, .ref 50, .ref 51, .ref 54, .ref 57, .ref 65, .ref 75, .ref 81, .ref 85, .ref 88, .ref 93, .ref 96, .int 0, .int (-1), .ref 97, .int 0]))) (hk96 : fh 96 = some (.inl (0, 5, .inl (fun _ => 0)))) : JM l G yX11_terms MX11_terms { frames := 2, cells := 0, slots := 0, locals := 41 } [.ref 0, .int 1, .int a2] (nh, fh) (fun r h9 => r = some (.int (-1)) ∧ h9 = (nh, hc fh [(96, .inl (0, 5, .inl (upd (fun _ => 0) 0 1))), (0, .inr (11, [.ref 1, .ref 17, .ref 50, .ref 51, .ref 54, .ref 57, .ref 65, .ref 75, .ref 81, .ref 85, .ref 88, .ref 93, .ref 96, .int (-1), .int (-1), .ref 97, .int 0]))])) := by
  refine JM.of (by decide) rfl (fun h => by cases h) (Nat.le_of_ble_eq_true rfl) ⟨2, rfl⟩ ?_
  refine J_hc0 (J_ls (ls2 := [some (.ref 0), some (.int 1), some (.int a2), none, none]) rfl ?_)
  refine J_iload_n dX11_terms_0 rfl rfl ?_
  refine J_if_ne (tgt := 8) dX11_terms_1 (by decide) (fun _ => ?_) (fun q => absurd q (by decide +kernel))
  refine J_bipush (v := 99) dX11_terms_8 (by decide +kernel) ?_
  refine J_istore_n dX11_terms_10 rfl (Nat.le_of_ble_eq_true rfl) rfl ?_
  refine J_iload_n dX11_terms_11 rfl rfl ?_
  refine J_if_lt (tgt := 29) dX11_terms_12 (by decide) (fun q => absurd q (by decide +kernel)) (fun _ => ?_)
  refine J_iload_n dX11_terms_15 rfl rfl ?_
  refine J_iconst (v := 1) dX11_terms_16 (by decide) ?_
  refine J_icmp_gt (tgt := 29) dX11_terms_17 (by decide) (fun q => absurd q (by decide +kernel)) (fun _ => ?_)
  refine J_iload_n dX11_terms_20 rfl rfl ?_
  refine J_if_lt (tgt := 29) dX11_terms_21 (by decide) (fun q => absurd q (by have hb0 := b_a2; simp only [fa_lt, fa_le, fa_eq, kc_0]; omega)) (fun _ => ?_)
  refine J_iload_n dX11_terms_24 rfl rfl ?_
  refine J_iload_n dX11_terms_25 rfl rfl ?_
  refine J_icmp_le (tgt := 35) dX11_terms_26 (by decide) (fun q => absurd q (by have hb0 := b_a2; simp only [fa_lt, fa_le, fa_eq, kc_99]; omega)) (fun _ => ?_)
  refine J_aload_n dX11_terms_29 rfl rfl ?_
  refine J_iconst (v := (-1)) dX11_terms_30 (by decide) ?_
  refine J_callV (st := []) dX11_terms_31 cv_X11_118 (c_X11_refuse_1 hk0 hk96) hk0 rfl rfl (Nat.le_of_ble_eq_true rfl) ⟨(Nat.le_of_ble_eq_true rfl), (Nat.le_of_ble_eq_true rfl)⟩ ⟨(Nat.le_of_ble_eq_true rfl), (Nat.le_of_ble_eq_true rfl)⟩ (fun r h9 hp => ?_)
  obtain ⟨rfl, rfl⟩ := hp
  refine J_nf (nh2 := nh) (ck2 := 0) (sk2 := 0) (st2 := [.int (-1)]) rfl rfl rfl rfl ?_
  refine J_app (L3 := [(96, .inl (0, 5, .inl (upd (fun _ => 0) 0 1))), (0, .inr (11, [.ref 1, .ref 17, .ref 50, .ref 51, .ref 54, .ref 57, .ref 65, .ref 75, .ref 81, .ref 85, .ref 88, .ref 93, .ref 96, .int (-1), .int (-1), .ref 97, .int 0]))]) rfl ?_
  exact J_iret dX11_terms_34 rfl rfl (Nat.le_of_ble_eq_true rfl) (Nat.le_of_ble_eq_true rfl) ⟨rfl, rfl⟩
set_option maxHeartbeats 4000000 in
set_option maxRecDepth 100000 in
theorem c_X12_lies_29 {l : Launch} {G : jG} {nh : Nat} {fh : Nat → Option va_E} (a0 : Int32) (b_a0 : 100 ≤ a0.toInt ∧ a0.toInt ≤ 2147483647) : JM l G yX12_lies MX12_lies { frames := 0, cells := 0, slots := 0, locals := 0 } [.int a0, .int 0, .int 99] (nh, fh) (fun r h9 => r = some (.int 0) ∧ h9 = (nh, fh)) := by
  refine JM.of (by decide) rfl (fun h => by cases h) (Nat.le_of_ble_eq_true rfl) ⟨0, rfl⟩ ?_
  refine J_hc0 (J_ls (ls2 := [some (.int a0), some (.int 0), some (.int 99)]) rfl ?_)
  refine J_iload_n dX12_lies_0 rfl rfl ?_
  refine J_iload_n dX12_lies_1 rfl rfl ?_
  refine J_icmp_lt (tgt := 14) dX12_lies_2 (by decide) (fun q => absurd q (by have hb0 := b_a0; simp only [fa_lt, fa_le, fa_eq, kc_0]; omega)) (fun _ => ?_)
  refine J_iload_n dX12_lies_5 rfl rfl ?_
  refine J_iload_n dX12_lies_6 rfl rfl ?_
  refine J_icmp_gt (tgt := 14) dX12_lies_7 (by decide) (fun _ => ?_) (fun q => absurd (by have hb0 := b_a0; simp only [fa_lt, fa_le, fa_eq, kc_99]; omega) q)
  refine J_iconst (v := 0) dX12_lies_14 (by decide) ?_
  exact J_iret dX12_lies_15 rfl (by decide +kernel) (Nat.le_of_ble_eq_true rfl) (Nat.le_of_ble_eq_true rfl) ⟨rfl, rfl⟩
set_option maxHeartbeats 4000000 in
set_option maxRecDepth 100000 in
theorem c_X12_terms_7 {l : Launch} {G : jG} {nh : Nat} {fh : Nat → Option va_E} (a2 : Int32) (b_a2 : 100 ≤ a2.toInt ∧ a2.toInt ≤ 2147483647) (hk98 : fh 98 = some (.inr (12, [.int 0, .int 0, .ref 99, .ref 100, .ref 101, .ref 102, .ref 103, .ref 104, .ref 105, .int 0, .int (-1), .ref 106, .ref 107, .ref 108, .int 0, .int 0, .int 0, .int 0, .int 0, .int 0, .int 0, .ref 109, .int 0, .int 0, .ref 110, .ref 111, .ref 112, .ref 113, .ref 114, .ref 115, .ref 116, .ref 117, .int 0, .int 0, .int (-1), .int (-1), .ref 118, .ref 119, .ref 120, .ref 121, .ref 122, .ref 123, .ref 124, .ref 125, .ref 126, .ref 127, .ref 128, .ref 129, .int 0, .ref 130, .ref 131, .ref 132, .ref 133, .ref 134, .int 0, .int 0]))) (hk99 : fh 99 = some (.inl (0, 7, .inl (fun _ => 0)))) : JM l G yX12_terms MX12_terms { frames := 1, cells := 0, slots := 0, locals := 22 } [.ref 98, .int 1, .int a2] (nh, fh) (fun r h9 => r = some (.int (-1)) ∧ h9 = (nh, hc fh [(99, .inl (0, 7, .inl (upd (fun _ => 0) 1 1))), (98, .inr (12, [.int (-1), .int 0, .ref 99, .ref 100, .ref 101, .ref 102, .ref 103, .ref 104, .ref 105, .int 0, .int (-1), .ref 106, .ref 107, .ref 108, .int 0, .int 0, .int 0, .int 0, .int 0, .int 0, .int 0, .ref 109, .int 0, .int 0, .ref 110, .ref 111, .ref 112, .ref 113, .ref 114, .ref 115, .ref 116, .ref 117, .int 0, .int 0, .int (-1), .int (-1), .ref 118, .ref 119, .ref 120, .ref 121, .ref 122, .ref 123, .ref 124, .ref 125, .ref 126, .ref 127, .ref 128, .ref 129, .int 0, .ref 130, .ref 131, .ref 132, .ref 133, .ref 134, .int 0, .int 0]))])) := by
  refine JM.of (by decide) rfl (fun h => by cases h) (Nat.le_of_ble_eq_true rfl) ⟨1, rfl⟩ ?_
  refine J_hc0 (J_ls (ls2 := [some (.ref 98), some (.int 1), some (.int a2), none]) rfl ?_)
  refine J_iload_n dX12_terms_0 rfl rfl ?_
  refine J_iconst (v := 0) dX12_terms_1 (by decide) ?_
  refine J_iconst (v := 1) dX12_terms_2 (by decide) ?_
  refine J_callS (st := []) dX12_terms_3 cs_X12_138 (c_X12_lies_26 ) rfl rfl (Nat.le_of_ble_eq_true rfl) ⟨(Nat.le_of_ble_eq_true rfl), (Nat.le_of_ble_eq_true rfl)⟩ ⟨(Nat.le_of_ble_eq_true rfl), (Nat.le_of_ble_eq_true rfl)⟩ (fun r h9 hp => ?_)
  obtain ⟨rfl, rfl⟩ := hp
  refine J_nf (nh2 := nh) (ck2 := 0) (sk2 := 0) (st2 := [.int 1]) rfl rfl rfl rfl ?_
  refine J_if_eq (tgt := 27) dX12_terms_6 (by decide) (fun q => absurd q (by decide +kernel)) (fun _ => ?_)
  refine J_iload_n dX12_terms_9 rfl rfl ?_
  refine J_iconst (v := 0) dX12_terms_10 (by decide) ?_
  refine J_iload_n dX12_terms_11 rfl rfl ?_
  refine J_if_ne (tgt := 19) dX12_terms_12 (by decide) (fun _ => ?_) (fun q => absurd q (by decide +kernel))
  refine J_bipush (v := 99) dX12_terms_19 (by decide +kernel) ?_
  refine J_callS (st := []) dX12_terms_21 cs_X12_138 (c_X12_lies_29 (a2) b_a2) rfl rfl (Nat.le_of_ble_eq_true rfl) ⟨(Nat.le_of_ble_eq_true rfl), (Nat.le_of_ble_eq_true rfl)⟩ ⟨(Nat.le_of_ble_eq_true rfl), (Nat.le_of_ble_eq_true rfl)⟩ (fun r h9 hp => ?_)
  obtain ⟨rfl, rfl⟩ := hp
  refine J_nf (nh2 := nh) (ck2 := 0) (sk2 := 0) (st2 := [.int 0]) rfl rfl rfl rfl ?_
  refine J_if_ne (tgt := 33) dX12_terms_24 (by decide) (fun q => absurd (by decide +kernel) q) (fun _ => ?_)
  refine J_aload_n dX12_terms_27 rfl rfl ?_
  refine J_iconst (v := (-1)) dX12_terms_28 (by decide) ?_
  refine J_callV (st := []) dX12_terms_29 cv_X12_142 (c_X12_refuses_1 hk98 hk99) hk98 rfl rfl (Nat.le_of_ble_eq_true rfl) ⟨(Nat.le_of_ble_eq_true rfl), (Nat.le_of_ble_eq_true rfl)⟩ ⟨(Nat.le_of_ble_eq_true rfl), (Nat.le_of_ble_eq_true rfl)⟩ (fun r h9 hp => ?_)
  obtain ⟨rfl, rfl⟩ := hp
  refine J_nf (nh2 := nh) (ck2 := 0) (sk2 := 0) (st2 := [.int (-1)]) rfl rfl rfl rfl ?_
  refine J_app (L3 := [(99, .inl (0, 7, .inl (upd (fun _ => 0) 1 1))), (98, .inr (12, [.int (-1), .int 0, .ref 99, .ref 100, .ref 101, .ref 102, .ref 103, .ref 104, .ref 105, .int 0, .int (-1), .ref 106, .ref 107, .ref 108, .int 0, .int 0, .int 0, .int 0, .int 0, .int 0, .int 0, .ref 109, .int 0, .int 0, .ref 110, .ref 111, .ref 112, .ref 113, .ref 114, .ref 115, .ref 116, .ref 117, .int 0, .int 0, .int (-1), .int (-1), .ref 118, .ref 119, .ref 120, .ref 121, .ref 122, .ref 123, .ref 124, .ref 125, .ref 126, .ref 127, .ref 128, .ref 129, .int 0, .ref 130, .ref 131, .ref 132, .ref 133, .ref 134, .int 0, .int 0]))]) rfl ?_
  exact J_iret dX12_terms_32 rfl rfl (Nat.le_of_ble_eq_true rfl) (Nat.le_of_ble_eq_true rfl) ⟨rfl, rfl⟩
set_option maxHeartbeats 4000000 in
set_option maxRecDepth 100000 in
theorem c_X11_terms_8 {l : Launch} {G : jG} {nh : Nat} {fh : Nat → Option va_E} (a1 : Int32) (b_a1 : 2 ≤ a1.toInt ∧ a1.toInt ≤ 2147483647) (a2 : Int32) (b_a2 : (-2147483648) ≤ a2.toInt ∧ a2.toInt ≤ 2147483647) (hk0 : fh 0 = some (.inr (11, [.ref 1, .ref 17, .ref 50, .ref 51, .ref 54, .ref 57, .ref 65, .ref 75, .ref 81, .ref 85, .ref 88, .ref 93, .ref 96, .int 0, .int (-1), .ref 97, .int 0]))) (hk96 : fh 96 = some (.inl (0, 5, .inl (fun _ => 0)))) : JM l G yX11_terms MX11_terms { frames := 2, cells := 0, slots := 0, locals := 41 } [.ref 0, .int a1, .int a2] (nh, fh) (fun r h9 => r = some (.int (-1)) ∧ h9 = (nh, hc fh [(96, .inl (0, 5, .inl (upd (fun _ => 0) 0 1))), (0, .inr (11, [.ref 1, .ref 17, .ref 50, .ref 51, .ref 54, .ref 57, .ref 65, .ref 75, .ref 81, .ref 85, .ref 88, .ref 93, .ref 96, .int (-1), .int (-1), .ref 97, .int 0]))])) := by
  refine JM.of (by decide) rfl (fun h => by cases h) (Nat.le_of_ble_eq_true rfl) ⟨2, rfl⟩ ?_
  refine J_hc0 (J_ls (ls2 := [some (.ref 0), some (.int a1), some (.int a2), none, none]) rfl ?_)
  refine J_iload_n dX11_terms_0 rfl rfl ?_
  refine J_if_ne (tgt := 8) dX11_terms_1 (by decide) (fun _ => ?_) (fun q => absurd q (by have hb0 := b_a1; simp only [fa_lt, fa_le, fa_eq, kc_0]; omega))
  refine J_bipush (v := 99) dX11_terms_8 (by decide +kernel) ?_
  refine J_istore_n dX11_terms_10 rfl (Nat.le_of_ble_eq_true rfl) rfl ?_
  refine J_iload_n dX11_terms_11 rfl rfl ?_
  refine J_if_lt (tgt := 29) dX11_terms_12 (by decide) (fun q => absurd q (by have hb0 := b_a1; simp only [fa_lt, fa_le, fa_eq, kc_0]; omega)) (fun _ => ?_)
  refine J_iload_n dX11_terms_15 rfl rfl ?_
  refine J_iconst (v := 1) dX11_terms_16 (by decide) ?_
  refine J_icmp_gt (tgt := 29) dX11_terms_17 (by decide) (fun _ => ?_) (fun q => absurd (by have hb0 := b_a1; simp only [fa_lt, fa_le, fa_eq, kc_1]; omega) q)
  refine J_aload_n dX11_terms_29 rfl rfl ?_
  refine J_iconst (v := (-1)) dX11_terms_30 (by decide) ?_
  refine J_callV (st := []) dX11_terms_31 cv_X11_118 (c_X11_refuse_1 hk0 hk96) hk0 rfl rfl (Nat.le_of_ble_eq_true rfl) ⟨(Nat.le_of_ble_eq_true rfl), (Nat.le_of_ble_eq_true rfl)⟩ ⟨(Nat.le_of_ble_eq_true rfl), (Nat.le_of_ble_eq_true rfl)⟩ (fun r h9 hp => ?_)
  obtain ⟨rfl, rfl⟩ := hp
  refine J_nf (nh2 := nh) (ck2 := 0) (sk2 := 0) (st2 := [.int (-1)]) rfl rfl rfl rfl ?_
  refine J_app (L3 := [(96, .inl (0, 5, .inl (upd (fun _ => 0) 0 1))), (0, .inr (11, [.ref 1, .ref 17, .ref 50, .ref 51, .ref 54, .ref 57, .ref 65, .ref 75, .ref 81, .ref 85, .ref 88, .ref 93, .ref 96, .int (-1), .int (-1), .ref 97, .int 0]))]) rfl ?_
  exact J_iret dX11_terms_34 rfl rfl (Nat.le_of_ble_eq_true rfl) (Nat.le_of_ble_eq_true rfl) ⟨rfl, rfl⟩
set_option maxHeartbeats 4000000 in
set_option maxRecDepth 100000 in
theorem c_X12_terms_8 {l : Launch} {G : jG} {nh : Nat} {fh : Nat → Option va_E} (a1 : Int32) (b_a1 : 2 ≤ a1.toInt ∧ a1.toInt ≤ 2147483647) (a2 : Int32) (b_a2 : (-2147483648) ≤ a2.toInt ∧ a2.toInt ≤ 2147483647) (hk98 : fh 98 = some (.inr (12, [.int 0, .int 0, .ref 99, .ref 100, .ref 101, .ref 102, .ref 103, .ref 104, .ref 105, .int 0, .int (-1), .ref 106, .ref 107, .ref 108, .int 0, .int 0, .int 0, .int 0, .int 0, .int 0, .int 0, .ref 109, .int 0, .int 0, .ref 110, .ref 111, .ref 112, .ref 113, .ref 114, .ref 115, .ref 116, .ref 117, .int 0, .int 0, .int (-1), .int (-1), .ref 118, .ref 119, .ref 120, .ref 121, .ref 122, .ref 123, .ref 124, .ref 125, .ref 126, .ref 127, .ref 128, .ref 129, .int 0, .ref 130, .ref 131, .ref 132, .ref 133, .ref 134, .int 0, .int 0]))) (hk99 : fh 99 = some (.inl (0, 7, .inl (fun _ => 0)))) : JM l G yX12_terms MX12_terms { frames := 1, cells := 0, slots := 0, locals := 22 } [.ref 98, .int a1, .int a2] (nh, fh) (fun r h9 => r = some (.int (-1)) ∧ h9 = (nh, hc fh [(99, .inl (0, 7, .inl (upd (fun _ => 0) 1 1))), (98, .inr (12, [.int (-1), .int 0, .ref 99, .ref 100, .ref 101, .ref 102, .ref 103, .ref 104, .ref 105, .int 0, .int (-1), .ref 106, .ref 107, .ref 108, .int 0, .int 0, .int 0, .int 0, .int 0, .int 0, .int 0, .ref 109, .int 0, .int 0, .ref 110, .ref 111, .ref 112, .ref 113, .ref 114, .ref 115, .ref 116, .ref 117, .int 0, .int 0, .int (-1), .int (-1), .ref 118, .ref 119, .ref 120, .ref 121, .ref 122, .ref 123, .ref 124, .ref 125, .ref 126, .ref 127, .ref 128, .ref 129, .int 0, .ref 130, .ref 131, .ref 132, .ref 133, .ref 134, .int 0, .int 0]))])) := by
  refine JM.of (by decide) rfl (fun h => by cases h) (Nat.le_of_ble_eq_true rfl) ⟨1, rfl⟩ ?_
  refine J_hc0 (J_ls (ls2 := [some (.ref 98), some (.int a1), some (.int a2), none]) rfl ?_)
  refine J_iload_n dX12_terms_0 rfl rfl ?_
  refine J_iconst (v := 0) dX12_terms_1 (by decide) ?_
  refine J_iconst (v := 1) dX12_terms_2 (by decide) ?_
  refine J_callS (st := []) dX12_terms_3 cs_X12_138 (c_X12_lies_25 (a1) b_a1) rfl rfl (Nat.le_of_ble_eq_true rfl) ⟨(Nat.le_of_ble_eq_true rfl), (Nat.le_of_ble_eq_true rfl)⟩ ⟨(Nat.le_of_ble_eq_true rfl), (Nat.le_of_ble_eq_true rfl)⟩ (fun r h9 hp => ?_)
  obtain ⟨rfl, rfl⟩ := hp
  refine J_nf (nh2 := nh) (ck2 := 0) (sk2 := 0) (st2 := [.int 0]) rfl rfl rfl rfl ?_
  refine J_if_eq (tgt := 27) dX12_terms_6 (by decide) (fun _ => ?_) (fun q => absurd (by decide +kernel) q)
  refine J_aload_n dX12_terms_27 rfl rfl ?_
  refine J_iconst (v := (-1)) dX12_terms_28 (by decide) ?_
  refine J_callV (st := []) dX12_terms_29 cv_X12_142 (c_X12_refuses_1 hk98 hk99) hk98 rfl rfl (Nat.le_of_ble_eq_true rfl) ⟨(Nat.le_of_ble_eq_true rfl), (Nat.le_of_ble_eq_true rfl)⟩ ⟨(Nat.le_of_ble_eq_true rfl), (Nat.le_of_ble_eq_true rfl)⟩ (fun r h9 hp => ?_)
  obtain ⟨rfl, rfl⟩ := hp
  refine J_nf (nh2 := nh) (ck2 := 0) (sk2 := 0) (st2 := [.int (-1)]) rfl rfl rfl rfl ?_
  refine J_app (L3 := [(99, .inl (0, 7, .inl (upd (fun _ => 0) 1 1))), (98, .inr (12, [.int (-1), .int 0, .ref 99, .ref 100, .ref 101, .ref 102, .ref 103, .ref 104, .ref 105, .int 0, .int (-1), .ref 106, .ref 107, .ref 108, .int 0, .int 0, .int 0, .int 0, .int 0, .int 0, .int 0, .ref 109, .int 0, .int 0, .ref 110, .ref 111, .ref 112, .ref 113, .ref 114, .ref 115, .ref 116, .ref 117, .int 0, .int 0, .int (-1), .int (-1), .ref 118, .ref 119, .ref 120, .ref 121, .ref 122, .ref 123, .ref 124, .ref 125, .ref 126, .ref 127, .ref 128, .ref 129, .int 0, .ref 130, .ref 131, .ref 132, .ref 133, .ref 134, .int 0, .int 0]))]) rfl ?_
  exact J_iret dX12_terms_32 rfl rfl (Nat.le_of_ble_eq_true rfl) (Nat.le_of_ble_eq_true rfl) ⟨rfl, rfl⟩
set_option maxHeartbeats 4000000 in
set_option maxRecDepth 100000 in
theorem c_X5_hasRoom_1 {l : Launch} {G : jG} {nh : Nat} {fh : Nat → Option va_E} (hk54 : fh 54 = some (.inr (5, [.ref 55, .int 0, .int 17, .int 0, .int 0, .int 0, .int 0, .int (-1), .ref 56, .int 0]))) : JM l G yX5_hasRoom MX5_hasRoom { frames := 0, cells := 0, slots := 0, locals := 0 } [.ref 54, .int 20] (nh, fh) (fun r h9 => r = some (.int 1) ∧ h9 = (nh, fh)) := by
  refine JM.of (by decide) rfl (fun h => by cases h) (Nat.le_of_ble_eq_true rfl) ⟨0, rfl⟩ ?_
  refine J_hc0 (J_ls (ls2 := [some (.ref 54), some (.int 20)]) rfl ?_)
  refine J_aload_n dX5_hasRoom_0 rfl rfl ?_
  refine J_get (v := .int 0) dX5_hasRoom_1 fl_X5_15 hk54 rfl ?_
  refine J_iload_n dX5_hasRoom_4 rfl rfl ?_
  refine J_iadd (z := 20) dX5_hasRoom_5 (by decide +kernel) ?_
  refine J_sipush (v := 400) dX5_hasRoom_6 (by decide +kernel) ?_
  refine J_icmp_gt (tgt := 16) dX5_hasRoom_9 (by decide) (fun q => absurd q (by decide +kernel)) (fun _ => ?_)
  refine J_iconst (v := 1) dX5_hasRoom_12 (by decide) ?_
  refine J_goto (tgt := 17) dX5_hasRoom_13 (by decide) ?_
  exact J_iret dX5_hasRoom_17 rfl (by decide +kernel) (Nat.le_of_ble_eq_true rfl) (Nat.le_of_ble_eq_true rfl) ⟨rfl, rfl⟩
set_option maxHeartbeats 4000000 in
set_option maxRecDepth 100000 in
theorem c_X5_take_1 {l : Launch} {G : jG} {nh : Nat} {fh : Nat → Option va_E} (a1 : Int32) (b_a1 : (-2147483648) ≤ a1.toInt ∧ a1.toInt ≤ 2147483647) (hk54 : fh 54 = some (.inr (5, [.ref 55, .int 0, .int 17, .int 0, .int 0, .int 0, .int 0, .int (-1), .ref 56, .int 0]))) (hk55 : fh 55 = some (.inl (0, 400, .inl (fun _ => 0)))) : JM l G yX5_take MX5_take { frames := 0, cells := 0, slots := 0, locals := 0 } [.ref 54, .int a1] (nh, fh) (fun r h9 => r = none ∧ h9 = (nh, hc fh [(54, .inr (5, [.ref 55, .int 4, .int 17, .int 0, .int 0, .int 0, .int 0, .int (-1), .ref 56, .int 0])), (55, .inl (0, 400, .inl (upd (upd (upd (upd (fun _ => 0) 0 ((a1 >>> (24 &&& 31)) &&& 255)) 1 ((a1 >>> (16 &&& 31)) &&& 255)) 2 ((a1 >>> (8 &&& 31)) &&& 255)) 3 ((a1 >>> (0 &&& 31)) &&& 255))))])) := by
  refine JM.of (by decide) rfl (fun h => by cases h) (Nat.le_of_ble_eq_true rfl) ⟨1, rfl⟩ ?_
  refine J_hc0 (J_ls (ls2 := [some (.ref 54), some (.int a1), none]) rfl ?_)
  refine J_bipush (v := 24) dX5_take_0 (by decide +kernel) ?_
  refine J_istore_n dX5_take_2 rfl (Nat.le_of_ble_eq_true rfl) rfl ?_
  refine J_iload_n dX5_take_3 rfl rfl ?_
  refine J_if_lt (tgt := 49) dX5_take_4 (by decide) (fun q => absurd q (by decide +kernel)) (fun _ => ?_)
  refine J_aload_n dX5_take_7 rfl rfl ?_
  refine J_get (v := .int 0) dX5_take_8 fl_X5_15 hk54 rfl ?_
  refine J_sipush (v := 400) dX5_take_11 (by decide +kernel) ?_
  refine J_icmp_ge (tgt := 49) dX5_take_14 (by decide) (fun q => absurd q (by decide +kernel)) (fun _ => ?_)
  refine J_aload_n dX5_take_17 rfl rfl ?_
  refine J_get (v := .ref 55) dX5_take_18 fl_X5_11 hk54 rfl ?_
  refine J_aload_n dX5_take_21 rfl rfl ?_
  refine J_get (v := .int 0) dX5_take_22 fl_X5_15 hk54 rfl ?_
  refine J_iload_n dX5_take_25 rfl rfl ?_
  refine J_iload_n dX5_take_26 rfl rfl ?_
  refine J_ishr (z := (a1 >>> (24 &&& 31))) dX5_take_27 rfl ?_
  refine J_sipush (v := 255) dX5_take_28 (by decide +kernel) ?_
  refine J_iand (z := ((a1 >>> (24 &&& 31)) &&& 255)) dX5_take_31 rfl ?_
  refine K_iast (i2 := 0) dX5_take_32 hk55 rfl (jin (by decide +kernel)) (by decide +kernel) ?_
  refine J_aload_n dX5_take_33 rfl rfl ?_
  refine J_dup dX5_take_34 rfl ?_
  refine J_get (v := .int 0) dX5_take_35 fl_X5_15 hk54 rfl ?_
  refine J_iconst (v := 1) dX5_take_38 (by decide) ?_
  refine J_iadd (z := 1) dX5_take_39 (by decide +kernel) ?_
  refine K_put (fs2 := [.ref 55, .int 1, .int 17, .int 0, .int 0, .int 0, .int 0, .int (-1), .ref 56, .int 0]) dX5_take_40 fw_X5_15 hk54 (Nat.le_of_ble_eq_true rfl) (fun _ => ⟨rfl, rfl⟩) rfl ?_
  refine J_iinc (v := 16) dX5_take_43 rfl (by decide +kernel) (Nat.le_of_ble_eq_true rfl) rfl ?_
  refine J_ls (ls2 := [some (.ref 54), some (.int a1), some (.int 16)]) rfl ?_
  refine J_goto (tgt := 3) dX5_take_46 (by decide) ?_
  refine J_iload_n dX5_take_3 rfl rfl ?_
  refine J_if_lt (tgt := 49) dX5_take_4 (by decide) (fun q => absurd q (by decide +kernel)) (fun _ => ?_)
  refine J_aload_n dX5_take_7 rfl rfl ?_
  refine J_get (v := .int 1) dX5_take_8 fl_X5_15 rfl rfl ?_
  refine J_sipush (v := 400) dX5_take_11 (by decide +kernel) ?_
  refine J_icmp_ge (tgt := 49) dX5_take_14 (by decide) (fun q => absurd q (by decide +kernel)) (fun _ => ?_)
  refine J_aload_n dX5_take_17 rfl rfl ?_
  refine J_get (v := .ref 55) dX5_take_18 fl_X5_11 rfl rfl ?_
  refine J_aload_n dX5_take_21 rfl rfl ?_
  refine J_get (v := .int 1) dX5_take_22 fl_X5_15 rfl rfl ?_
  refine J_iload_n dX5_take_25 rfl rfl ?_
  refine J_iload_n dX5_take_26 rfl rfl ?_
  refine J_ishr (z := (a1 >>> (16 &&& 31))) dX5_take_27 rfl ?_
  refine J_sipush (v := 255) dX5_take_28 (by decide +kernel) ?_
  refine J_iand (z := ((a1 >>> (16 &&& 31)) &&& 255)) dX5_take_31 rfl ?_
  refine K_iast (i2 := 1) dX5_take_32 rfl rfl (jin (by decide +kernel)) (by decide +kernel) ?_
  refine J_aload_n dX5_take_33 rfl rfl ?_
  refine J_dup dX5_take_34 rfl ?_
  refine J_get (v := .int 1) dX5_take_35 fl_X5_15 rfl rfl ?_
  refine J_iconst (v := 1) dX5_take_38 (by decide) ?_
  refine J_iadd (z := 2) dX5_take_39 (by decide +kernel) ?_
  refine K_put (fs2 := [.ref 55, .int 2, .int 17, .int 0, .int 0, .int 0, .int 0, .int (-1), .ref 56, .int 0]) dX5_take_40 fw_X5_15 rfl (Nat.le_of_ble_eq_true rfl) (fun _ => ⟨rfl, rfl⟩) rfl ?_
  refine J_iinc (v := 8) dX5_take_43 rfl (by decide +kernel) (Nat.le_of_ble_eq_true rfl) rfl ?_
  refine J_ls (ls2 := [some (.ref 54), some (.int a1), some (.int 8)]) rfl ?_
  refine J_goto (tgt := 3) dX5_take_46 (by decide) ?_
  refine J_iload_n dX5_take_3 rfl rfl ?_
  refine J_if_lt (tgt := 49) dX5_take_4 (by decide) (fun q => absurd q (by decide +kernel)) (fun _ => ?_)
  refine J_aload_n dX5_take_7 rfl rfl ?_
  refine J_get (v := .int 2) dX5_take_8 fl_X5_15 rfl rfl ?_
  refine J_sipush (v := 400) dX5_take_11 (by decide +kernel) ?_
  refine J_icmp_ge (tgt := 49) dX5_take_14 (by decide) (fun q => absurd q (by decide +kernel)) (fun _ => ?_)
  refine J_aload_n dX5_take_17 rfl rfl ?_
  refine J_get (v := .ref 55) dX5_take_18 fl_X5_11 rfl rfl ?_
  refine J_aload_n dX5_take_21 rfl rfl ?_
  refine J_get (v := .int 2) dX5_take_22 fl_X5_15 rfl rfl ?_
  refine J_iload_n dX5_take_25 rfl rfl ?_
  refine J_iload_n dX5_take_26 rfl rfl ?_
  refine J_ishr (z := (a1 >>> (8 &&& 31))) dX5_take_27 rfl ?_
  refine J_sipush (v := 255) dX5_take_28 (by decide +kernel) ?_
  refine J_iand (z := ((a1 >>> (8 &&& 31)) &&& 255)) dX5_take_31 rfl ?_
  refine K_iast (i2 := 2) dX5_take_32 rfl rfl (jin (by decide +kernel)) (by decide +kernel) ?_
  refine J_aload_n dX5_take_33 rfl rfl ?_
  refine J_dup dX5_take_34 rfl ?_
  refine J_get (v := .int 2) dX5_take_35 fl_X5_15 rfl rfl ?_
  refine J_iconst (v := 1) dX5_take_38 (by decide) ?_
  refine J_iadd (z := 3) dX5_take_39 (by decide +kernel) ?_
  refine K_put (fs2 := [.ref 55, .int 3, .int 17, .int 0, .int 0, .int 0, .int 0, .int (-1), .ref 56, .int 0]) dX5_take_40 fw_X5_15 rfl (Nat.le_of_ble_eq_true rfl) (fun _ => ⟨rfl, rfl⟩) rfl ?_
  refine J_iinc (v := 0) dX5_take_43 rfl (by decide +kernel) (Nat.le_of_ble_eq_true rfl) rfl ?_
  refine J_ls (ls2 := [some (.ref 54), some (.int a1), some (.int 0)]) rfl ?_
  refine J_goto (tgt := 3) dX5_take_46 (by decide) ?_
  refine J_iload_n dX5_take_3 rfl rfl ?_
  refine J_if_lt (tgt := 49) dX5_take_4 (by decide) (fun q => absurd q (by decide +kernel)) (fun _ => ?_)
  refine J_aload_n dX5_take_7 rfl rfl ?_
  refine J_get (v := .int 3) dX5_take_8 fl_X5_15 rfl rfl ?_
  refine J_sipush (v := 400) dX5_take_11 (by decide +kernel) ?_
  refine J_icmp_ge (tgt := 49) dX5_take_14 (by decide) (fun q => absurd q (by decide +kernel)) (fun _ => ?_)
  refine J_aload_n dX5_take_17 rfl rfl ?_
  refine J_get (v := .ref 55) dX5_take_18 fl_X5_11 rfl rfl ?_
  refine J_aload_n dX5_take_21 rfl rfl ?_
  refine J_get (v := .int 3) dX5_take_22 fl_X5_15 rfl rfl ?_
  refine J_iload_n dX5_take_25 rfl rfl ?_
  refine J_iload_n dX5_take_26 rfl rfl ?_
  refine J_ishr (z := (a1 >>> (0 &&& 31))) dX5_take_27 rfl ?_
  refine J_sipush (v := 255) dX5_take_28 (by decide +kernel) ?_
  refine J_iand (z := ((a1 >>> (0 &&& 31)) &&& 255)) dX5_take_31 rfl ?_
  refine K_iast (i2 := 3) dX5_take_32 rfl rfl (jin (by decide +kernel)) (by decide +kernel) ?_
  refine J_aload_n dX5_take_33 rfl rfl ?_
  refine J_dup dX5_take_34 rfl ?_
  refine J_get (v := .int 3) dX5_take_35 fl_X5_15 rfl rfl ?_
  refine J_iconst (v := 1) dX5_take_38 (by decide) ?_
  refine J_iadd (z := 4) dX5_take_39 (by decide +kernel) ?_
  refine K_put (fs2 := [.ref 55, .int 4, .int 17, .int 0, .int 0, .int 0, .int 0, .int (-1), .ref 56, .int 0]) dX5_take_40 fw_X5_15 rfl (Nat.le_of_ble_eq_true rfl) (fun _ => ⟨rfl, rfl⟩) rfl ?_
  refine J_iinc (v := (-8)) dX5_take_43 rfl (by decide +kernel) (Nat.le_of_ble_eq_true rfl) rfl ?_
  refine J_ls (ls2 := [some (.ref 54), some (.int a1), some (.int (-8))]) rfl ?_
  refine J_goto (tgt := 3) dX5_take_46 (by decide) ?_
  refine J_iload_n dX5_take_3 rfl rfl ?_
  refine J_if_lt (tgt := 49) dX5_take_4 (by decide) (fun _ => ?_) (fun q => absurd (by decide +kernel) q)
  refine J_mask (L2 := [(54, .inr (5, [.ref 55, .int 4, .int 17, .int 0, .int 0, .int 0, .int 0, .int (-1), .ref 56, .int 0])), (55, .inl (0, 400, .inl (upd (upd (upd (upd (fun _ => 0) 0 ((a1 >>> (24 &&& 31)) &&& 255)) 1 ((a1 >>> (16 &&& 31)) &&& 255)) 2 ((a1 >>> (8 &&& 31)) &&& 255)) 3 ((a1 >>> (0 &&& 31)) &&& 255))))]) (ks := [54, 55, 54, 55, 54, 55, 54, 55]) [true, true, false, false, false, false, false, false] rfl (by decide +kernel) rfl ?_
  exact J_vret dX5_take_49 rfl (Nat.le_of_ble_eq_true rfl) (Nat.le_of_ble_eq_true rfl) ⟨rfl, rfl⟩
set_option maxHeartbeats 4000000 in
set_option maxRecDepth 100000 in
theorem c_X5_take_2 {l : Launch} {G : jG} {nh : Nat} {fh : Nat → Option va_E} (a1 : Int32) (b_a1 : (-2147483648) ≤ a1.toInt ∧ a1.toInt ≤ 2147483647) (s1 : Int32) (s2 : Int32) (s3 : Int32) (s4 : Int32) (hk54 : fh 54 = some (.inr (5, [.ref 55, .int 4, .int 17, .int 0, .int 0, .int 0, .int 0, .int (-1), .ref 56, .int 0]))) (hk55 : fh 55 = some (.inl (0, 400, .inl (upd (upd (upd (upd (fun _ => 0) 0 s4) 1 s3) 2 s2) 3 s1)))) : JM l G yX5_take MX5_take { frames := 0, cells := 0, slots := 0, locals := 0 } [.ref 54, .int a1] (nh, fh) (fun r h9 => r = none ∧ h9 = (nh, hc fh [(54, .inr (5, [.ref 55, .int 8, .int 17, .int 0, .int 0, .int 0, .int 0, .int (-1), .ref 56, .int 0])), (55, .inl (0, 400, .inl (upd (upd (upd (upd (upd (upd (upd (upd (fun _ => 0) 0 s4) 1 s3) 2 s2) 3 s1) 4 ((a1 >>> (24 &&& 31)) &&& 255)) 5 ((a1 >>> (16 &&& 31)) &&& 255)) 6 ((a1 >>> (8 &&& 31)) &&& 255)) 7 ((a1 >>> (0 &&& 31)) &&& 255))))])) := by
  refine JM.of (by decide) rfl (fun h => by cases h) (Nat.le_of_ble_eq_true rfl) ⟨1, rfl⟩ ?_
  refine J_hc0 (J_ls (ls2 := [some (.ref 54), some (.int a1), none]) rfl ?_)
  refine J_bipush (v := 24) dX5_take_0 (by decide +kernel) ?_
  refine J_istore_n dX5_take_2 rfl (Nat.le_of_ble_eq_true rfl) rfl ?_
  refine J_iload_n dX5_take_3 rfl rfl ?_
  refine J_if_lt (tgt := 49) dX5_take_4 (by decide) (fun q => absurd q (by decide +kernel)) (fun _ => ?_)
  refine J_aload_n dX5_take_7 rfl rfl ?_
  refine J_get (v := .int 4) dX5_take_8 fl_X5_15 hk54 rfl ?_
  refine J_sipush (v := 400) dX5_take_11 (by decide +kernel) ?_
  refine J_icmp_ge (tgt := 49) dX5_take_14 (by decide) (fun q => absurd q (by decide +kernel)) (fun _ => ?_)
  refine J_aload_n dX5_take_17 rfl rfl ?_
  refine J_get (v := .ref 55) dX5_take_18 fl_X5_11 hk54 rfl ?_
  refine J_aload_n dX5_take_21 rfl rfl ?_
  refine J_get (v := .int 4) dX5_take_22 fl_X5_15 hk54 rfl ?_
  refine J_iload_n dX5_take_25 rfl rfl ?_
  refine J_iload_n dX5_take_26 rfl rfl ?_
  refine J_ishr (z := (a1 >>> (24 &&& 31))) dX5_take_27 rfl ?_
  refine J_sipush (v := 255) dX5_take_28 (by decide +kernel) ?_
  refine J_iand (z := ((a1 >>> (24 &&& 31)) &&& 255)) dX5_take_31 rfl ?_
  refine K_iast (i2 := 4) dX5_take_32 hk55 rfl (jin (by decide +kernel)) (by decide +kernel) ?_
  refine J_aload_n dX5_take_33 rfl rfl ?_
  refine J_dup dX5_take_34 rfl ?_
  refine J_get (v := .int 4) dX5_take_35 fl_X5_15 hk54 rfl ?_
  refine J_iconst (v := 1) dX5_take_38 (by decide) ?_
  refine J_iadd (z := 5) dX5_take_39 (by decide +kernel) ?_
  refine K_put (fs2 := [.ref 55, .int 5, .int 17, .int 0, .int 0, .int 0, .int 0, .int (-1), .ref 56, .int 0]) dX5_take_40 fw_X5_15 hk54 (Nat.le_of_ble_eq_true rfl) (fun _ => ⟨rfl, rfl⟩) rfl ?_
  refine J_iinc (v := 16) dX5_take_43 rfl (by decide +kernel) (Nat.le_of_ble_eq_true rfl) rfl ?_
  refine J_ls (ls2 := [some (.ref 54), some (.int a1), some (.int 16)]) rfl ?_
  refine J_goto (tgt := 3) dX5_take_46 (by decide) ?_
  refine J_iload_n dX5_take_3 rfl rfl ?_
  refine J_if_lt (tgt := 49) dX5_take_4 (by decide) (fun q => absurd q (by decide +kernel)) (fun _ => ?_)
  refine J_aload_n dX5_take_7 rfl rfl ?_
  refine J_get (v := .int 5) dX5_take_8 fl_X5_15 rfl rfl ?_
  refine J_sipush (v := 400) dX5_take_11 (by decide +kernel) ?_
  refine J_icmp_ge (tgt := 49) dX5_take_14 (by decide) (fun q => absurd q (by decide +kernel)) (fun _ => ?_)
  refine J_aload_n dX5_take_17 rfl rfl ?_
  refine J_get (v := .ref 55) dX5_take_18 fl_X5_11 rfl rfl ?_
  refine J_aload_n dX5_take_21 rfl rfl ?_
  refine J_get (v := .int 5) dX5_take_22 fl_X5_15 rfl rfl ?_
  refine J_iload_n dX5_take_25 rfl rfl ?_
  refine J_iload_n dX5_take_26 rfl rfl ?_
  refine J_ishr (z := (a1 >>> (16 &&& 31))) dX5_take_27 rfl ?_
  refine J_sipush (v := 255) dX5_take_28 (by decide +kernel) ?_
  refine J_iand (z := ((a1 >>> (16 &&& 31)) &&& 255)) dX5_take_31 rfl ?_
  refine K_iast (i2 := 5) dX5_take_32 rfl rfl (jin (by decide +kernel)) (by decide +kernel) ?_
  refine J_aload_n dX5_take_33 rfl rfl ?_
  refine J_dup dX5_take_34 rfl ?_
  refine J_get (v := .int 5) dX5_take_35 fl_X5_15 rfl rfl ?_
  refine J_iconst (v := 1) dX5_take_38 (by decide) ?_
  refine J_iadd (z := 6) dX5_take_39 (by decide +kernel) ?_
  refine K_put (fs2 := [.ref 55, .int 6, .int 17, .int 0, .int 0, .int 0, .int 0, .int (-1), .ref 56, .int 0]) dX5_take_40 fw_X5_15 rfl (Nat.le_of_ble_eq_true rfl) (fun _ => ⟨rfl, rfl⟩) rfl ?_
  refine J_iinc (v := 8) dX5_take_43 rfl (by decide +kernel) (Nat.le_of_ble_eq_true rfl) rfl ?_
  refine J_ls (ls2 := [some (.ref 54), some (.int a1), some (.int 8)]) rfl ?_
  refine J_goto (tgt := 3) dX5_take_46 (by decide) ?_
  refine J_iload_n dX5_take_3 rfl rfl ?_
  refine J_if_lt (tgt := 49) dX5_take_4 (by decide) (fun q => absurd q (by decide +kernel)) (fun _ => ?_)
  refine J_aload_n dX5_take_7 rfl rfl ?_
  refine J_get (v := .int 6) dX5_take_8 fl_X5_15 rfl rfl ?_
  refine J_sipush (v := 400) dX5_take_11 (by decide +kernel) ?_
  refine J_icmp_ge (tgt := 49) dX5_take_14 (by decide) (fun q => absurd q (by decide +kernel)) (fun _ => ?_)
  refine J_aload_n dX5_take_17 rfl rfl ?_
  refine J_get (v := .ref 55) dX5_take_18 fl_X5_11 rfl rfl ?_
  refine J_aload_n dX5_take_21 rfl rfl ?_
  refine J_get (v := .int 6) dX5_take_22 fl_X5_15 rfl rfl ?_
  refine J_iload_n dX5_take_25 rfl rfl ?_
  refine J_iload_n dX5_take_26 rfl rfl ?_
  refine J_ishr (z := (a1 >>> (8 &&& 31))) dX5_take_27 rfl ?_
  refine J_sipush (v := 255) dX5_take_28 (by decide +kernel) ?_
  refine J_iand (z := ((a1 >>> (8 &&& 31)) &&& 255)) dX5_take_31 rfl ?_
  refine K_iast (i2 := 6) dX5_take_32 rfl rfl (jin (by decide +kernel)) (by decide +kernel) ?_
  refine J_aload_n dX5_take_33 rfl rfl ?_
  refine J_dup dX5_take_34 rfl ?_
  refine J_get (v := .int 6) dX5_take_35 fl_X5_15 rfl rfl ?_
  refine J_iconst (v := 1) dX5_take_38 (by decide) ?_
  refine J_iadd (z := 7) dX5_take_39 (by decide +kernel) ?_
  refine K_put (fs2 := [.ref 55, .int 7, .int 17, .int 0, .int 0, .int 0, .int 0, .int (-1), .ref 56, .int 0]) dX5_take_40 fw_X5_15 rfl (Nat.le_of_ble_eq_true rfl) (fun _ => ⟨rfl, rfl⟩) rfl ?_
  refine J_iinc (v := 0) dX5_take_43 rfl (by decide +kernel) (Nat.le_of_ble_eq_true rfl) rfl ?_
  refine J_ls (ls2 := [some (.ref 54), some (.int a1), some (.int 0)]) rfl ?_
  refine J_goto (tgt := 3) dX5_take_46 (by decide) ?_
  refine J_iload_n dX5_take_3 rfl rfl ?_
  refine J_if_lt (tgt := 49) dX5_take_4 (by decide) (fun q => absurd q (by decide +kernel)) (fun _ => ?_)
  refine J_aload_n dX5_take_7 rfl rfl ?_
  refine J_get (v := .int 7) dX5_take_8 fl_X5_15 rfl rfl ?_
  refine J_sipush (v := 400) dX5_take_11 (by decide +kernel) ?_
  refine J_icmp_ge (tgt := 49) dX5_take_14 (by decide) (fun q => absurd q (by decide +kernel)) (fun _ => ?_)
  refine J_aload_n dX5_take_17 rfl rfl ?_
  refine J_get (v := .ref 55) dX5_take_18 fl_X5_11 rfl rfl ?_
  refine J_aload_n dX5_take_21 rfl rfl ?_
  refine J_get (v := .int 7) dX5_take_22 fl_X5_15 rfl rfl ?_
  refine J_iload_n dX5_take_25 rfl rfl ?_
  refine J_iload_n dX5_take_26 rfl rfl ?_
  refine J_ishr (z := (a1 >>> (0 &&& 31))) dX5_take_27 rfl ?_
  refine J_sipush (v := 255) dX5_take_28 (by decide +kernel) ?_
  refine J_iand (z := ((a1 >>> (0 &&& 31)) &&& 255)) dX5_take_31 rfl ?_
  refine K_iast (i2 := 7) dX5_take_32 rfl rfl (jin (by decide +kernel)) (by decide +kernel) ?_
  refine J_aload_n dX5_take_33 rfl rfl ?_
  refine J_dup dX5_take_34 rfl ?_
  refine J_get (v := .int 7) dX5_take_35 fl_X5_15 rfl rfl ?_
  refine J_iconst (v := 1) dX5_take_38 (by decide) ?_
  refine J_iadd (z := 8) dX5_take_39 (by decide +kernel) ?_
  refine K_put (fs2 := [.ref 55, .int 8, .int 17, .int 0, .int 0, .int 0, .int 0, .int (-1), .ref 56, .int 0]) dX5_take_40 fw_X5_15 rfl (Nat.le_of_ble_eq_true rfl) (fun _ => ⟨rfl, rfl⟩) rfl ?_
  refine J_iinc (v := (-8)) dX5_take_43 rfl (by decide +kernel) (Nat.le_of_ble_eq_true rfl) rfl ?_
  refine J_ls (ls2 := [some (.ref 54), some (.int a1), some (.int (-8))]) rfl ?_
  refine J_goto (tgt := 3) dX5_take_46 (by decide) ?_
  refine J_iload_n dX5_take_3 rfl rfl ?_
  refine J_if_lt (tgt := 49) dX5_take_4 (by decide) (fun _ => ?_) (fun q => absurd (by decide +kernel) q)
  refine J_mask (L2 := [(54, .inr (5, [.ref 55, .int 8, .int 17, .int 0, .int 0, .int 0, .int 0, .int (-1), .ref 56, .int 0])), (55, .inl (0, 400, .inl (upd (upd (upd (upd (upd (upd (upd (upd (fun _ => 0) 0 s4) 1 s3) 2 s2) 3 s1) 4 ((a1 >>> (24 &&& 31)) &&& 255)) 5 ((a1 >>> (16 &&& 31)) &&& 255)) 6 ((a1 >>> (8 &&& 31)) &&& 255)) 7 ((a1 >>> (0 &&& 31)) &&& 255))))]) (ks := [54, 55, 54, 55, 54, 55, 54, 55]) [true, true, false, false, false, false, false, false] rfl (by decide +kernel) rfl ?_
  exact J_vret dX5_take_49 rfl (Nat.le_of_ble_eq_true rfl) (Nat.le_of_ble_eq_true rfl) ⟨rfl, rfl⟩
set_option maxHeartbeats 4000000 in
set_option maxRecDepth 100000 in
theorem c_X5_take_3 {l : Launch} {G : jG} {nh : Nat} {fh : Nat → Option va_E} (a1 : Int32) (b_a1 : (-2147483648) ≤ a1.toInt ∧ a1.toInt ≤ 2147483647) (s1 : Int32) (s2 : Int32) (s3 : Int32) (s4 : Int32) (s5 : Int32) (s6 : Int32) (s7 : Int32) (s8 : Int32) (hk54 : fh 54 = some (.inr (5, [.ref 55, .int 8, .int 17, .int 0, .int 0, .int 0, .int 0, .int (-1), .ref 56, .int 0]))) (hk55 : fh 55 = some (.inl (0, 400, .inl (upd (upd (upd (upd (upd (upd (upd (upd (fun _ => 0) 0 s8) 1 s7) 2 s6) 3 s5) 4 s4) 5 s3) 6 s2) 7 s1)))) : JM l G yX5_take MX5_take { frames := 0, cells := 0, slots := 0, locals := 0 } [.ref 54, .int a1] (nh, fh) (fun r h9 => r = none ∧ h9 = (nh, hc fh [(54, .inr (5, [.ref 55, .int 12, .int 17, .int 0, .int 0, .int 0, .int 0, .int (-1), .ref 56, .int 0])), (55, .inl (0, 400, .inl (upd (upd (upd (upd (upd (upd (upd (upd (upd (upd (upd (upd (fun _ => 0) 0 s8) 1 s7) 2 s6) 3 s5) 4 s4) 5 s3) 6 s2) 7 s1) 8 ((a1 >>> (24 &&& 31)) &&& 255)) 9 ((a1 >>> (16 &&& 31)) &&& 255)) 10 ((a1 >>> (8 &&& 31)) &&& 255)) 11 ((a1 >>> (0 &&& 31)) &&& 255))))])) := by
  refine JM.of (by decide) rfl (fun h => by cases h) (Nat.le_of_ble_eq_true rfl) ⟨1, rfl⟩ ?_
  refine J_hc0 (J_ls (ls2 := [some (.ref 54), some (.int a1), none]) rfl ?_)
  refine J_bipush (v := 24) dX5_take_0 (by decide +kernel) ?_
  refine J_istore_n dX5_take_2 rfl (Nat.le_of_ble_eq_true rfl) rfl ?_
  refine J_iload_n dX5_take_3 rfl rfl ?_
  refine J_if_lt (tgt := 49) dX5_take_4 (by decide) (fun q => absurd q (by decide +kernel)) (fun _ => ?_)
  refine J_aload_n dX5_take_7 rfl rfl ?_
  refine J_get (v := .int 8) dX5_take_8 fl_X5_15 hk54 rfl ?_
  refine J_sipush (v := 400) dX5_take_11 (by decide +kernel) ?_
  refine J_icmp_ge (tgt := 49) dX5_take_14 (by decide) (fun q => absurd q (by decide +kernel)) (fun _ => ?_)
  refine J_aload_n dX5_take_17 rfl rfl ?_
  refine J_get (v := .ref 55) dX5_take_18 fl_X5_11 hk54 rfl ?_
  refine J_aload_n dX5_take_21 rfl rfl ?_
  refine J_get (v := .int 8) dX5_take_22 fl_X5_15 hk54 rfl ?_
  refine J_iload_n dX5_take_25 rfl rfl ?_
  refine J_iload_n dX5_take_26 rfl rfl ?_
  refine J_ishr (z := (a1 >>> (24 &&& 31))) dX5_take_27 rfl ?_
  refine J_sipush (v := 255) dX5_take_28 (by decide +kernel) ?_
  refine J_iand (z := ((a1 >>> (24 &&& 31)) &&& 255)) dX5_take_31 rfl ?_
  refine K_iast (i2 := 8) dX5_take_32 hk55 rfl (jin (by decide +kernel)) (by decide +kernel) ?_
  refine J_aload_n dX5_take_33 rfl rfl ?_
  refine J_dup dX5_take_34 rfl ?_
  refine J_get (v := .int 8) dX5_take_35 fl_X5_15 hk54 rfl ?_
  refine J_iconst (v := 1) dX5_take_38 (by decide) ?_
  refine J_iadd (z := 9) dX5_take_39 (by decide +kernel) ?_
  refine K_put (fs2 := [.ref 55, .int 9, .int 17, .int 0, .int 0, .int 0, .int 0, .int (-1), .ref 56, .int 0]) dX5_take_40 fw_X5_15 hk54 (Nat.le_of_ble_eq_true rfl) (fun _ => ⟨rfl, rfl⟩) rfl ?_
  refine J_iinc (v := 16) dX5_take_43 rfl (by decide +kernel) (Nat.le_of_ble_eq_true rfl) rfl ?_
  refine J_ls (ls2 := [some (.ref 54), some (.int a1), some (.int 16)]) rfl ?_
  refine J_goto (tgt := 3) dX5_take_46 (by decide) ?_
  refine J_iload_n dX5_take_3 rfl rfl ?_
  refine J_if_lt (tgt := 49) dX5_take_4 (by decide) (fun q => absurd q (by decide +kernel)) (fun _ => ?_)
  refine J_aload_n dX5_take_7 rfl rfl ?_
  refine J_get (v := .int 9) dX5_take_8 fl_X5_15 rfl rfl ?_
  refine J_sipush (v := 400) dX5_take_11 (by decide +kernel) ?_
  refine J_icmp_ge (tgt := 49) dX5_take_14 (by decide) (fun q => absurd q (by decide +kernel)) (fun _ => ?_)
  refine J_aload_n dX5_take_17 rfl rfl ?_
  refine J_get (v := .ref 55) dX5_take_18 fl_X5_11 rfl rfl ?_
  refine J_aload_n dX5_take_21 rfl rfl ?_
  refine J_get (v := .int 9) dX5_take_22 fl_X5_15 rfl rfl ?_
  refine J_iload_n dX5_take_25 rfl rfl ?_
  refine J_iload_n dX5_take_26 rfl rfl ?_
  refine J_ishr (z := (a1 >>> (16 &&& 31))) dX5_take_27 rfl ?_
  refine J_sipush (v := 255) dX5_take_28 (by decide +kernel) ?_
  refine J_iand (z := ((a1 >>> (16 &&& 31)) &&& 255)) dX5_take_31 rfl ?_
  refine K_iast (i2 := 9) dX5_take_32 rfl rfl (jin (by decide +kernel)) (by decide +kernel) ?_
  refine J_aload_n dX5_take_33 rfl rfl ?_
  refine J_dup dX5_take_34 rfl ?_
  refine J_get (v := .int 9) dX5_take_35 fl_X5_15 rfl rfl ?_
  refine J_iconst (v := 1) dX5_take_38 (by decide) ?_
  refine J_iadd (z := 10) dX5_take_39 (by decide +kernel) ?_
  refine K_put (fs2 := [.ref 55, .int 10, .int 17, .int 0, .int 0, .int 0, .int 0, .int (-1), .ref 56, .int 0]) dX5_take_40 fw_X5_15 rfl (Nat.le_of_ble_eq_true rfl) (fun _ => ⟨rfl, rfl⟩) rfl ?_
  refine J_iinc (v := 8) dX5_take_43 rfl (by decide +kernel) (Nat.le_of_ble_eq_true rfl) rfl ?_
  refine J_ls (ls2 := [some (.ref 54), some (.int a1), some (.int 8)]) rfl ?_
  refine J_goto (tgt := 3) dX5_take_46 (by decide) ?_
  refine J_iload_n dX5_take_3 rfl rfl ?_
  refine J_if_lt (tgt := 49) dX5_take_4 (by decide) (fun q => absurd q (by decide +kernel)) (fun _ => ?_)
  refine J_aload_n dX5_take_7 rfl rfl ?_
  refine J_get (v := .int 10) dX5_take_8 fl_X5_15 rfl rfl ?_
  refine J_sipush (v := 400) dX5_take_11 (by decide +kernel) ?_
  refine J_icmp_ge (tgt := 49) dX5_take_14 (by decide) (fun q => absurd q (by decide +kernel)) (fun _ => ?_)
  refine J_aload_n dX5_take_17 rfl rfl ?_
  refine J_get (v := .ref 55) dX5_take_18 fl_X5_11 rfl rfl ?_
  refine J_aload_n dX5_take_21 rfl rfl ?_
  refine J_get (v := .int 10) dX5_take_22 fl_X5_15 rfl rfl ?_
  refine J_iload_n dX5_take_25 rfl rfl ?_
  refine J_iload_n dX5_take_26 rfl rfl ?_
  refine J_ishr (z := (a1 >>> (8 &&& 31))) dX5_take_27 rfl ?_
  refine J_sipush (v := 255) dX5_take_28 (by decide +kernel) ?_
  refine J_iand (z := ((a1 >>> (8 &&& 31)) &&& 255)) dX5_take_31 rfl ?_
  refine K_iast (i2 := 10) dX5_take_32 rfl rfl (jin (by decide +kernel)) (by decide +kernel) ?_
  refine J_aload_n dX5_take_33 rfl rfl ?_
  refine J_dup dX5_take_34 rfl ?_
  refine J_get (v := .int 10) dX5_take_35 fl_X5_15 rfl rfl ?_
  refine J_iconst (v := 1) dX5_take_38 (by decide) ?_
  refine J_iadd (z := 11) dX5_take_39 (by decide +kernel) ?_
  refine K_put (fs2 := [.ref 55, .int 11, .int 17, .int 0, .int 0, .int 0, .int 0, .int (-1), .ref 56, .int 0]) dX5_take_40 fw_X5_15 rfl (Nat.le_of_ble_eq_true rfl) (fun _ => ⟨rfl, rfl⟩) rfl ?_
  refine J_iinc (v := 0) dX5_take_43 rfl (by decide +kernel) (Nat.le_of_ble_eq_true rfl) rfl ?_
  refine J_ls (ls2 := [some (.ref 54), some (.int a1), some (.int 0)]) rfl ?_
  refine J_goto (tgt := 3) dX5_take_46 (by decide) ?_
  refine J_iload_n dX5_take_3 rfl rfl ?_
  refine J_if_lt (tgt := 49) dX5_take_4 (by decide) (fun q => absurd q (by decide +kernel)) (fun _ => ?_)
  refine J_aload_n dX5_take_7 rfl rfl ?_
  refine J_get (v := .int 11) dX5_take_8 fl_X5_15 rfl rfl ?_
  refine J_sipush (v := 400) dX5_take_11 (by decide +kernel) ?_
  refine J_icmp_ge (tgt := 49) dX5_take_14 (by decide) (fun q => absurd q (by decide +kernel)) (fun _ => ?_)
  refine J_aload_n dX5_take_17 rfl rfl ?_
  refine J_get (v := .ref 55) dX5_take_18 fl_X5_11 rfl rfl ?_
  refine J_aload_n dX5_take_21 rfl rfl ?_
  refine J_get (v := .int 11) dX5_take_22 fl_X5_15 rfl rfl ?_
  refine J_iload_n dX5_take_25 rfl rfl ?_
  refine J_iload_n dX5_take_26 rfl rfl ?_
  refine J_ishr (z := (a1 >>> (0 &&& 31))) dX5_take_27 rfl ?_
  refine J_sipush (v := 255) dX5_take_28 (by decide +kernel) ?_
  refine J_iand (z := ((a1 >>> (0 &&& 31)) &&& 255)) dX5_take_31 rfl ?_
  refine K_iast (i2 := 11) dX5_take_32 rfl rfl (jin (by decide +kernel)) (by decide +kernel) ?_
  refine J_aload_n dX5_take_33 rfl rfl ?_
  refine J_dup dX5_take_34 rfl ?_
  refine J_get (v := .int 11) dX5_take_35 fl_X5_15 rfl rfl ?_
  refine J_iconst (v := 1) dX5_take_38 (by decide) ?_
  refine J_iadd (z := 12) dX5_take_39 (by decide +kernel) ?_
  refine K_put (fs2 := [.ref 55, .int 12, .int 17, .int 0, .int 0, .int 0, .int 0, .int (-1), .ref 56, .int 0]) dX5_take_40 fw_X5_15 rfl (Nat.le_of_ble_eq_true rfl) (fun _ => ⟨rfl, rfl⟩) rfl ?_
  refine J_iinc (v := (-8)) dX5_take_43 rfl (by decide +kernel) (Nat.le_of_ble_eq_true rfl) rfl ?_
  refine J_ls (ls2 := [some (.ref 54), some (.int a1), some (.int (-8))]) rfl ?_
  refine J_goto (tgt := 3) dX5_take_46 (by decide) ?_
  refine J_iload_n dX5_take_3 rfl rfl ?_
  refine J_if_lt (tgt := 49) dX5_take_4 (by decide) (fun _ => ?_) (fun q => absurd (by decide +kernel) q)
  refine J_mask (L2 := [(54, .inr (5, [.ref 55, .int 12, .int 17, .int 0, .int 0, .int 0, .int 0, .int (-1), .ref 56, .int 0])), (55, .inl (0, 400, .inl (upd (upd (upd (upd (upd (upd (upd (upd (upd (upd (upd (upd (fun _ => 0) 0 s8) 1 s7) 2 s6) 3 s5) 4 s4) 5 s3) 6 s2) 7 s1) 8 ((a1 >>> (24 &&& 31)) &&& 255)) 9 ((a1 >>> (16 &&& 31)) &&& 255)) 10 ((a1 >>> (8 &&& 31)) &&& 255)) 11 ((a1 >>> (0 &&& 31)) &&& 255))))]) (ks := [54, 55, 54, 55, 54, 55, 54, 55]) [true, true, false, false, false, false, false, false] rfl (by decide +kernel) rfl ?_
  exact J_vret dX5_take_49 rfl (Nat.le_of_ble_eq_true rfl) (Nat.le_of_ble_eq_true rfl) ⟨rfl, rfl⟩
set_option maxHeartbeats 4000000 in
set_option maxRecDepth 100000 in
theorem c_X5_take_4 {l : Launch} {G : jG} {nh : Nat} {fh : Nat → Option va_E} (a1 : Int32) (b_a1 : (-2147483648) ≤ a1.toInt ∧ a1.toInt ≤ 2147483647) (s1 : Int32) (s2 : Int32) (s3 : Int32) (s4 : Int32) (s5 : Int32) (s6 : Int32) (s7 : Int32) (s8 : Int32) (s9 : Int32) (s10 : Int32) (s11 : Int32) (s12 : Int32) (hk54 : fh 54 = some (.inr (5, [.ref 55, .int 12, .int 17, .int 0, .int 0, .int 0, .int 0, .int (-1), .ref 56, .int 0]))) (hk55 : fh 55 = some (.inl (0, 400, .inl (upd (upd (upd (upd (upd (upd (upd (upd (upd (upd (upd (upd (fun _ => 0) 0 s12) 1 s11) 2 s10) 3 s9) 4 s8) 5 s7) 6 s6) 7 s5) 8 s4) 9 s3) 10 s2) 11 s1)))) : JM l G yX5_take MX5_take { frames := 0, cells := 0, slots := 0, locals := 0 } [.ref 54, .int a1] (nh, fh) (fun r h9 => r = none ∧ h9 = (nh, hc fh [(54, .inr (5, [.ref 55, .int 16, .int 17, .int 0, .int 0, .int 0, .int 0, .int (-1), .ref 56, .int 0])), (55, .inl (0, 400, .inl (upd (upd (upd (upd (upd (upd (upd (upd (upd (upd (upd (upd (upd (upd (upd (upd (fun _ => 0) 0 s12) 1 s11) 2 s10) 3 s9) 4 s8) 5 s7) 6 s6) 7 s5) 8 s4) 9 s3) 10 s2) 11 s1) 12 ((a1 >>> (24 &&& 31)) &&& 255)) 13 ((a1 >>> (16 &&& 31)) &&& 255)) 14 ((a1 >>> (8 &&& 31)) &&& 255)) 15 ((a1 >>> (0 &&& 31)) &&& 255))))])) := by
  refine JM.of (by decide) rfl (fun h => by cases h) (Nat.le_of_ble_eq_true rfl) ⟨1, rfl⟩ ?_
  refine J_hc0 (J_ls (ls2 := [some (.ref 54), some (.int a1), none]) rfl ?_)
  refine J_bipush (v := 24) dX5_take_0 (by decide +kernel) ?_
  refine J_istore_n dX5_take_2 rfl (Nat.le_of_ble_eq_true rfl) rfl ?_
  refine J_iload_n dX5_take_3 rfl rfl ?_
  refine J_if_lt (tgt := 49) dX5_take_4 (by decide) (fun q => absurd q (by decide +kernel)) (fun _ => ?_)
  refine J_aload_n dX5_take_7 rfl rfl ?_
  refine J_get (v := .int 12) dX5_take_8 fl_X5_15 hk54 rfl ?_
  refine J_sipush (v := 400) dX5_take_11 (by decide +kernel) ?_
  refine J_icmp_ge (tgt := 49) dX5_take_14 (by decide) (fun q => absurd q (by decide +kernel)) (fun _ => ?_)
  refine J_aload_n dX5_take_17 rfl rfl ?_
  refine J_get (v := .ref 55) dX5_take_18 fl_X5_11 hk54 rfl ?_
  refine J_aload_n dX5_take_21 rfl rfl ?_
  refine J_get (v := .int 12) dX5_take_22 fl_X5_15 hk54 rfl ?_
  refine J_iload_n dX5_take_25 rfl rfl ?_
  refine J_iload_n dX5_take_26 rfl rfl ?_
  refine J_ishr (z := (a1 >>> (24 &&& 31))) dX5_take_27 rfl ?_
  refine J_sipush (v := 255) dX5_take_28 (by decide +kernel) ?_
  refine J_iand (z := ((a1 >>> (24 &&& 31)) &&& 255)) dX5_take_31 rfl ?_
  refine K_iast (i2 := 12) dX5_take_32 hk55 rfl (jin (by decide +kernel)) (by decide +kernel) ?_
  refine J_aload_n dX5_take_33 rfl rfl ?_
  refine J_dup dX5_take_34 rfl ?_
  refine J_get (v := .int 12) dX5_take_35 fl_X5_15 hk54 rfl ?_
  refine J_iconst (v := 1) dX5_take_38 (by decide) ?_
  refine J_iadd (z := 13) dX5_take_39 (by decide +kernel) ?_
  refine K_put (fs2 := [.ref 55, .int 13, .int 17, .int 0, .int 0, .int 0, .int 0, .int (-1), .ref 56, .int 0]) dX5_take_40 fw_X5_15 hk54 (Nat.le_of_ble_eq_true rfl) (fun _ => ⟨rfl, rfl⟩) rfl ?_
  refine J_iinc (v := 16) dX5_take_43 rfl (by decide +kernel) (Nat.le_of_ble_eq_true rfl) rfl ?_
  refine J_ls (ls2 := [some (.ref 54), some (.int a1), some (.int 16)]) rfl ?_
  refine J_goto (tgt := 3) dX5_take_46 (by decide) ?_
  refine J_iload_n dX5_take_3 rfl rfl ?_
  refine J_if_lt (tgt := 49) dX5_take_4 (by decide) (fun q => absurd q (by decide +kernel)) (fun _ => ?_)
  refine J_aload_n dX5_take_7 rfl rfl ?_
  refine J_get (v := .int 13) dX5_take_8 fl_X5_15 rfl rfl ?_
  refine J_sipush (v := 400) dX5_take_11 (by decide +kernel) ?_
  refine J_icmp_ge (tgt := 49) dX5_take_14 (by decide) (fun q => absurd q (by decide +kernel)) (fun _ => ?_)
  refine J_aload_n dX5_take_17 rfl rfl ?_
  refine J_get (v := .ref 55) dX5_take_18 fl_X5_11 rfl rfl ?_
  refine J_aload_n dX5_take_21 rfl rfl ?_
  refine J_get (v := .int 13) dX5_take_22 fl_X5_15 rfl rfl ?_
  refine J_iload_n dX5_take_25 rfl rfl ?_
  refine J_iload_n dX5_take_26 rfl rfl ?_
  refine J_ishr (z := (a1 >>> (16 &&& 31))) dX5_take_27 rfl ?_
  refine J_sipush (v := 255) dX5_take_28 (by decide +kernel) ?_
  refine J_iand (z := ((a1 >>> (16 &&& 31)) &&& 255)) dX5_take_31 rfl ?_
  refine K_iast (i2 := 13) dX5_take_32 rfl rfl (jin (by decide +kernel)) (by decide +kernel) ?_
  refine J_aload_n dX5_take_33 rfl rfl ?_
  refine J_dup dX5_take_34 rfl ?_
  refine J_get (v := .int 13) dX5_take_35 fl_X5_15 rfl rfl ?_
  refine J_iconst (v := 1) dX5_take_38 (by decide) ?_
  refine J_iadd (z := 14) dX5_take_39 (by decide +kernel) ?_
  refine K_put (fs2 := [.ref 55, .int 14, .int 17, .int 0, .int 0, .int 0, .int 0, .int (-1), .ref 56, .int 0]) dX5_take_40 fw_X5_15 rfl (Nat.le_of_ble_eq_true rfl) (fun _ => ⟨rfl, rfl⟩) rfl ?_
  refine J_iinc (v := 8) dX5_take_43 rfl (by decide +kernel) (Nat.le_of_ble_eq_true rfl) rfl ?_
  refine J_ls (ls2 := [some (.ref 54), some (.int a1), some (.int 8)]) rfl ?_
  refine J_goto (tgt := 3) dX5_take_46 (by decide) ?_
  refine J_iload_n dX5_take_3 rfl rfl ?_
  refine J_if_lt (tgt := 49) dX5_take_4 (by decide) (fun q => absurd q (by decide +kernel)) (fun _ => ?_)
  refine J_aload_n dX5_take_7 rfl rfl ?_
  refine J_get (v := .int 14) dX5_take_8 fl_X5_15 rfl rfl ?_
  refine J_sipush (v := 400) dX5_take_11 (by decide +kernel) ?_
  refine J_icmp_ge (tgt := 49) dX5_take_14 (by decide) (fun q => absurd q (by decide +kernel)) (fun _ => ?_)
  refine J_aload_n dX5_take_17 rfl rfl ?_
  refine J_get (v := .ref 55) dX5_take_18 fl_X5_11 rfl rfl ?_
  refine J_aload_n dX5_take_21 rfl rfl ?_
  refine J_get (v := .int 14) dX5_take_22 fl_X5_15 rfl rfl ?_
  refine J_iload_n dX5_take_25 rfl rfl ?_
  refine J_iload_n dX5_take_26 rfl rfl ?_
  refine J_ishr (z := (a1 >>> (8 &&& 31))) dX5_take_27 rfl ?_
  refine J_sipush (v := 255) dX5_take_28 (by decide +kernel) ?_
  refine J_iand (z := ((a1 >>> (8 &&& 31)) &&& 255)) dX5_take_31 rfl ?_
  refine K_iast (i2 := 14) dX5_take_32 rfl rfl (jin (by decide +kernel)) (by decide +kernel) ?_
  refine J_aload_n dX5_take_33 rfl rfl ?_
  refine J_dup dX5_take_34 rfl ?_
  refine J_get (v := .int 14) dX5_take_35 fl_X5_15 rfl rfl ?_
  refine J_iconst (v := 1) dX5_take_38 (by decide) ?_
  refine J_iadd (z := 15) dX5_take_39 (by decide +kernel) ?_
  refine K_put (fs2 := [.ref 55, .int 15, .int 17, .int 0, .int 0, .int 0, .int 0, .int (-1), .ref 56, .int 0]) dX5_take_40 fw_X5_15 rfl (Nat.le_of_ble_eq_true rfl) (fun _ => ⟨rfl, rfl⟩) rfl ?_
  refine J_iinc (v := 0) dX5_take_43 rfl (by decide +kernel) (Nat.le_of_ble_eq_true rfl) rfl ?_
  refine J_ls (ls2 := [some (.ref 54), some (.int a1), some (.int 0)]) rfl ?_
  refine J_goto (tgt := 3) dX5_take_46 (by decide) ?_
  refine J_iload_n dX5_take_3 rfl rfl ?_
  refine J_if_lt (tgt := 49) dX5_take_4 (by decide) (fun q => absurd q (by decide +kernel)) (fun _ => ?_)
  refine J_aload_n dX5_take_7 rfl rfl ?_
  refine J_get (v := .int 15) dX5_take_8 fl_X5_15 rfl rfl ?_
  refine J_sipush (v := 400) dX5_take_11 (by decide +kernel) ?_
  refine J_icmp_ge (tgt := 49) dX5_take_14 (by decide) (fun q => absurd q (by decide +kernel)) (fun _ => ?_)
  refine J_aload_n dX5_take_17 rfl rfl ?_
  refine J_get (v := .ref 55) dX5_take_18 fl_X5_11 rfl rfl ?_
  refine J_aload_n dX5_take_21 rfl rfl ?_
  refine J_get (v := .int 15) dX5_take_22 fl_X5_15 rfl rfl ?_
  refine J_iload_n dX5_take_25 rfl rfl ?_
  refine J_iload_n dX5_take_26 rfl rfl ?_
  refine J_ishr (z := (a1 >>> (0 &&& 31))) dX5_take_27 rfl ?_
  refine J_sipush (v := 255) dX5_take_28 (by decide +kernel) ?_
  refine J_iand (z := ((a1 >>> (0 &&& 31)) &&& 255)) dX5_take_31 rfl ?_
  refine K_iast (i2 := 15) dX5_take_32 rfl rfl (jin (by decide +kernel)) (by decide +kernel) ?_
  refine J_aload_n dX5_take_33 rfl rfl ?_
  refine J_dup dX5_take_34 rfl ?_
  refine J_get (v := .int 15) dX5_take_35 fl_X5_15 rfl rfl ?_
  refine J_iconst (v := 1) dX5_take_38 (by decide) ?_
  refine J_iadd (z := 16) dX5_take_39 (by decide +kernel) ?_
  refine K_put (fs2 := [.ref 55, .int 16, .int 17, .int 0, .int 0, .int 0, .int 0, .int (-1), .ref 56, .int 0]) dX5_take_40 fw_X5_15 rfl (Nat.le_of_ble_eq_true rfl) (fun _ => ⟨rfl, rfl⟩) rfl ?_
  refine J_iinc (v := (-8)) dX5_take_43 rfl (by decide +kernel) (Nat.le_of_ble_eq_true rfl) rfl ?_
  refine J_ls (ls2 := [some (.ref 54), some (.int a1), some (.int (-8))]) rfl ?_
  refine J_goto (tgt := 3) dX5_take_46 (by decide) ?_
  refine J_iload_n dX5_take_3 rfl rfl ?_
  refine J_if_lt (tgt := 49) dX5_take_4 (by decide) (fun _ => ?_) (fun q => absurd (by decide +kernel) q)
  refine J_mask (L2 := [(54, .inr (5, [.ref 55, .int 16, .int 17, .int 0, .int 0, .int 0, .int 0, .int (-1), .ref 56, .int 0])), (55, .inl (0, 400, .inl (upd (upd (upd (upd (upd (upd (upd (upd (upd (upd (upd (upd (upd (upd (upd (upd (fun _ => 0) 0 s12) 1 s11) 2 s10) 3 s9) 4 s8) 5 s7) 6 s6) 7 s5) 8 s4) 9 s3) 10 s2) 11 s1) 12 ((a1 >>> (24 &&& 31)) &&& 255)) 13 ((a1 >>> (16 &&& 31)) &&& 255)) 14 ((a1 >>> (8 &&& 31)) &&& 255)) 15 ((a1 >>> (0 &&& 31)) &&& 255))))]) (ks := [54, 55, 54, 55, 54, 55, 54, 55]) [true, true, false, false, false, false, false, false] rfl (by decide +kernel) rfl ?_
  exact J_vret dX5_take_49 rfl (Nat.le_of_ble_eq_true rfl) (Nat.le_of_ble_eq_true rfl) ⟨rfl, rfl⟩
set_option maxHeartbeats 4000000 in
set_option maxRecDepth 100000 in
theorem c_X5_take_5 {l : Launch} {G : jG} {nh : Nat} {fh : Nat → Option va_E} (a1 : Int32) (b_a1 : (-2147483648) ≤ a1.toInt ∧ a1.toInt ≤ 2147483647) (s1 : Int32) (s2 : Int32) (s3 : Int32) (s4 : Int32) (s5 : Int32) (s6 : Int32) (s7 : Int32) (s8 : Int32) (s9 : Int32) (s10 : Int32) (s11 : Int32) (s12 : Int32) (s13 : Int32) (s14 : Int32) (s15 : Int32) (s16 : Int32) (hk54 : fh 54 = some (.inr (5, [.ref 55, .int 16, .int 17, .int 0, .int 0, .int 0, .int 0, .int (-1), .ref 56, .int 0]))) (hk55 : fh 55 = some (.inl (0, 400, .inl (upd (upd (upd (upd (upd (upd (upd (upd (upd (upd (upd (upd (upd (upd (upd (upd (fun _ => 0) 0 s16) 1 s15) 2 s14) 3 s13) 4 s12) 5 s11) 6 s10) 7 s9) 8 s8) 9 s7) 10 s6) 11 s5) 12 s4) 13 s3) 14 s2) 15 s1)))) : JM l G yX5_take MX5_take { frames := 0, cells := 0, slots := 0, locals := 0 } [.ref 54, .int a1] (nh, fh) (fun r h9 => r = none ∧ h9 = (nh, hc fh [(54, .inr (5, [.ref 55, .int 20, .int 17, .int 0, .int 0, .int 0, .int 0, .int (-1), .ref 56, .int 0])), (55, .inl (0, 400, .inl (upd (upd (upd (upd (upd (upd (upd (upd (upd (upd (upd (upd (upd (upd (upd (upd (upd (upd (upd (upd (fun _ => 0) 0 s16) 1 s15) 2 s14) 3 s13) 4 s12) 5 s11) 6 s10) 7 s9) 8 s8) 9 s7) 10 s6) 11 s5) 12 s4) 13 s3) 14 s2) 15 s1) 16 ((a1 >>> (24 &&& 31)) &&& 255)) 17 ((a1 >>> (16 &&& 31)) &&& 255)) 18 ((a1 >>> (8 &&& 31)) &&& 255)) 19 ((a1 >>> (0 &&& 31)) &&& 255))))])) := by
  refine JM.of (by decide) rfl (fun h => by cases h) (Nat.le_of_ble_eq_true rfl) ⟨1, rfl⟩ ?_
  refine J_hc0 (J_ls (ls2 := [some (.ref 54), some (.int a1), none]) rfl ?_)
  refine J_bipush (v := 24) dX5_take_0 (by decide +kernel) ?_
  refine J_istore_n dX5_take_2 rfl (Nat.le_of_ble_eq_true rfl) rfl ?_
  refine J_iload_n dX5_take_3 rfl rfl ?_
  refine J_if_lt (tgt := 49) dX5_take_4 (by decide) (fun q => absurd q (by decide +kernel)) (fun _ => ?_)
  refine J_aload_n dX5_take_7 rfl rfl ?_
  refine J_get (v := .int 16) dX5_take_8 fl_X5_15 hk54 rfl ?_
  refine J_sipush (v := 400) dX5_take_11 (by decide +kernel) ?_
  refine J_icmp_ge (tgt := 49) dX5_take_14 (by decide) (fun q => absurd q (by decide +kernel)) (fun _ => ?_)
  refine J_aload_n dX5_take_17 rfl rfl ?_
  refine J_get (v := .ref 55) dX5_take_18 fl_X5_11 hk54 rfl ?_
  refine J_aload_n dX5_take_21 rfl rfl ?_
  refine J_get (v := .int 16) dX5_take_22 fl_X5_15 hk54 rfl ?_
  refine J_iload_n dX5_take_25 rfl rfl ?_
  refine J_iload_n dX5_take_26 rfl rfl ?_
  refine J_ishr (z := (a1 >>> (24 &&& 31))) dX5_take_27 rfl ?_
  refine J_sipush (v := 255) dX5_take_28 (by decide +kernel) ?_
  refine J_iand (z := ((a1 >>> (24 &&& 31)) &&& 255)) dX5_take_31 rfl ?_
  refine K_iast (i2 := 16) dX5_take_32 hk55 rfl (jin (by decide +kernel)) (by decide +kernel) ?_
  refine J_aload_n dX5_take_33 rfl rfl ?_
  refine J_dup dX5_take_34 rfl ?_
  refine J_get (v := .int 16) dX5_take_35 fl_X5_15 hk54 rfl ?_
  refine J_iconst (v := 1) dX5_take_38 (by decide) ?_
  refine J_iadd (z := 17) dX5_take_39 (by decide +kernel) ?_
  refine K_put (fs2 := [.ref 55, .int 17, .int 17, .int 0, .int 0, .int 0, .int 0, .int (-1), .ref 56, .int 0]) dX5_take_40 fw_X5_15 hk54 (Nat.le_of_ble_eq_true rfl) (fun _ => ⟨rfl, rfl⟩) rfl ?_
  refine J_iinc (v := 16) dX5_take_43 rfl (by decide +kernel) (Nat.le_of_ble_eq_true rfl) rfl ?_
  refine J_ls (ls2 := [some (.ref 54), some (.int a1), some (.int 16)]) rfl ?_
  refine J_goto (tgt := 3) dX5_take_46 (by decide) ?_
  refine J_iload_n dX5_take_3 rfl rfl ?_
  refine J_if_lt (tgt := 49) dX5_take_4 (by decide) (fun q => absurd q (by decide +kernel)) (fun _ => ?_)
  refine J_aload_n dX5_take_7 rfl rfl ?_
  refine J_get (v := .int 17) dX5_take_8 fl_X5_15 rfl rfl ?_
  refine J_sipush (v := 400) dX5_take_11 (by decide +kernel) ?_
  refine J_icmp_ge (tgt := 49) dX5_take_14 (by decide) (fun q => absurd q (by decide +kernel)) (fun _ => ?_)
  refine J_aload_n dX5_take_17 rfl rfl ?_
  refine J_get (v := .ref 55) dX5_take_18 fl_X5_11 rfl rfl ?_
  refine J_aload_n dX5_take_21 rfl rfl ?_
  refine J_get (v := .int 17) dX5_take_22 fl_X5_15 rfl rfl ?_
  refine J_iload_n dX5_take_25 rfl rfl ?_
  refine J_iload_n dX5_take_26 rfl rfl ?_
  refine J_ishr (z := (a1 >>> (16 &&& 31))) dX5_take_27 rfl ?_
  refine J_sipush (v := 255) dX5_take_28 (by decide +kernel) ?_
  refine J_iand (z := ((a1 >>> (16 &&& 31)) &&& 255)) dX5_take_31 rfl ?_
  refine K_iast (i2 := 17) dX5_take_32 rfl rfl (jin (by decide +kernel)) (by decide +kernel) ?_
  refine J_aload_n dX5_take_33 rfl rfl ?_
  refine J_dup dX5_take_34 rfl ?_
  refine J_get (v := .int 17) dX5_take_35 fl_X5_15 rfl rfl ?_
  refine J_iconst (v := 1) dX5_take_38 (by decide) ?_
  refine J_iadd (z := 18) dX5_take_39 (by decide +kernel) ?_
  refine K_put (fs2 := [.ref 55, .int 18, .int 17, .int 0, .int 0, .int 0, .int 0, .int (-1), .ref 56, .int 0]) dX5_take_40 fw_X5_15 rfl (Nat.le_of_ble_eq_true rfl) (fun _ => ⟨rfl, rfl⟩) rfl ?_
  refine J_iinc (v := 8) dX5_take_43 rfl (by decide +kernel) (Nat.le_of_ble_eq_true rfl) rfl ?_
  refine J_ls (ls2 := [some (.ref 54), some (.int a1), some (.int 8)]) rfl ?_
  refine J_goto (tgt := 3) dX5_take_46 (by decide) ?_
  refine J_iload_n dX5_take_3 rfl rfl ?_
  refine J_if_lt (tgt := 49) dX5_take_4 (by decide) (fun q => absurd q (by decide +kernel)) (fun _ => ?_)
  refine J_aload_n dX5_take_7 rfl rfl ?_
  refine J_get (v := .int 18) dX5_take_8 fl_X5_15 rfl rfl ?_
  refine J_sipush (v := 400) dX5_take_11 (by decide +kernel) ?_
  refine J_icmp_ge (tgt := 49) dX5_take_14 (by decide) (fun q => absurd q (by decide +kernel)) (fun _ => ?_)
  refine J_aload_n dX5_take_17 rfl rfl ?_
  refine J_get (v := .ref 55) dX5_take_18 fl_X5_11 rfl rfl ?_
  refine J_aload_n dX5_take_21 rfl rfl ?_
  refine J_get (v := .int 18) dX5_take_22 fl_X5_15 rfl rfl ?_
  refine J_iload_n dX5_take_25 rfl rfl ?_
  refine J_iload_n dX5_take_26 rfl rfl ?_
  refine J_ishr (z := (a1 >>> (8 &&& 31))) dX5_take_27 rfl ?_
  refine J_sipush (v := 255) dX5_take_28 (by decide +kernel) ?_
  refine J_iand (z := ((a1 >>> (8 &&& 31)) &&& 255)) dX5_take_31 rfl ?_
  refine K_iast (i2 := 18) dX5_take_32 rfl rfl (jin (by decide +kernel)) (by decide +kernel) ?_
  refine J_aload_n dX5_take_33 rfl rfl ?_
  refine J_dup dX5_take_34 rfl ?_
  refine J_get (v := .int 18) dX5_take_35 fl_X5_15 rfl rfl ?_
  refine J_iconst (v := 1) dX5_take_38 (by decide) ?_
  refine J_iadd (z := 19) dX5_take_39 (by decide +kernel) ?_
  refine K_put (fs2 := [.ref 55, .int 19, .int 17, .int 0, .int 0, .int 0, .int 0, .int (-1), .ref 56, .int 0]) dX5_take_40 fw_X5_15 rfl (Nat.le_of_ble_eq_true rfl) (fun _ => ⟨rfl, rfl⟩) rfl ?_
  refine J_iinc (v := 0) dX5_take_43 rfl (by decide +kernel) (Nat.le_of_ble_eq_true rfl) rfl ?_
  refine J_ls (ls2 := [some (.ref 54), some (.int a1), some (.int 0)]) rfl ?_
  refine J_goto (tgt := 3) dX5_take_46 (by decide) ?_
  refine J_iload_n dX5_take_3 rfl rfl ?_
  refine J_if_lt (tgt := 49) dX5_take_4 (by decide) (fun q => absurd q (by decide +kernel)) (fun _ => ?_)
  refine J_aload_n dX5_take_7 rfl rfl ?_
  refine J_get (v := .int 19) dX5_take_8 fl_X5_15 rfl rfl ?_
  refine J_sipush (v := 400) dX5_take_11 (by decide +kernel) ?_
  refine J_icmp_ge (tgt := 49) dX5_take_14 (by decide) (fun q => absurd q (by decide +kernel)) (fun _ => ?_)
  refine J_aload_n dX5_take_17 rfl rfl ?_
  refine J_get (v := .ref 55) dX5_take_18 fl_X5_11 rfl rfl ?_
  refine J_aload_n dX5_take_21 rfl rfl ?_
  refine J_get (v := .int 19) dX5_take_22 fl_X5_15 rfl rfl ?_
  refine J_iload_n dX5_take_25 rfl rfl ?_
  refine J_iload_n dX5_take_26 rfl rfl ?_
  refine J_ishr (z := (a1 >>> (0 &&& 31))) dX5_take_27 rfl ?_
  refine J_sipush (v := 255) dX5_take_28 (by decide +kernel) ?_
  refine J_iand (z := ((a1 >>> (0 &&& 31)) &&& 255)) dX5_take_31 rfl ?_
  refine K_iast (i2 := 19) dX5_take_32 rfl rfl (jin (by decide +kernel)) (by decide +kernel) ?_
  refine J_aload_n dX5_take_33 rfl rfl ?_
  refine J_dup dX5_take_34 rfl ?_
  refine J_get (v := .int 19) dX5_take_35 fl_X5_15 rfl rfl ?_
  refine J_iconst (v := 1) dX5_take_38 (by decide) ?_
  refine J_iadd (z := 20) dX5_take_39 (by decide +kernel) ?_
  refine K_put (fs2 := [.ref 55, .int 20, .int 17, .int 0, .int 0, .int 0, .int 0, .int (-1), .ref 56, .int 0]) dX5_take_40 fw_X5_15 rfl (Nat.le_of_ble_eq_true rfl) (fun _ => ⟨rfl, rfl⟩) rfl ?_
  refine J_iinc (v := (-8)) dX5_take_43 rfl (by decide +kernel) (Nat.le_of_ble_eq_true rfl) rfl ?_
  refine J_ls (ls2 := [some (.ref 54), some (.int a1), some (.int (-8))]) rfl ?_
  refine J_goto (tgt := 3) dX5_take_46 (by decide) ?_
  refine J_iload_n dX5_take_3 rfl rfl ?_
  refine J_if_lt (tgt := 49) dX5_take_4 (by decide) (fun _ => ?_) (fun q => absurd (by decide +kernel) q)
  refine J_mask (L2 := [(54, .inr (5, [.ref 55, .int 20, .int 17, .int 0, .int 0, .int 0, .int 0, .int (-1), .ref 56, .int 0])), (55, .inl (0, 400, .inl (upd (upd (upd (upd (upd (upd (upd (upd (upd (upd (upd (upd (upd (upd (upd (upd (upd (upd (upd (upd (fun _ => 0) 0 s16) 1 s15) 2 s14) 3 s13) 4 s12) 5 s11) 6 s10) 7 s9) 8 s8) 9 s7) 10 s6) 11 s5) 12 s4) 13 s3) 14 s2) 15 s1) 16 ((a1 >>> (24 &&& 31)) &&& 255)) 17 ((a1 >>> (16 &&& 31)) &&& 255)) 18 ((a1 >>> (8 &&& 31)) &&& 255)) 19 ((a1 >>> (0 &&& 31)) &&& 255))))]) (ks := [54, 55, 54, 55, 54, 55, 54, 55]) [true, true, false, false, false, false, false, false] rfl (by decide +kernel) rfl ?_
  exact J_vret dX5_take_49 rfl (Nat.le_of_ble_eq_true rfl) (Nat.le_of_ble_eq_true rfl) ⟨rfl, rfl⟩
set_option maxHeartbeats 4000000 in
set_option maxRecDepth 100000 in
theorem c_X5_length_1 {l : Launch} {G : jG} {nh : Nat} {fh : Nat → Option va_E} (hk54 : fh 54 = some (.inr (5, [.ref 55, .int 20, .int 17, .int 0, .int 0, .int 0, .int 0, .int (-1), .ref 56, .int 0]))) : JM l G yX5_length MX5_length { frames := 0, cells := 0, slots := 0, locals := 0 } [.ref 54] (nh, fh) (fun r h9 => r = some (.int 20) ∧ h9 = (nh, fh)) := by
  refine JM.of (by decide) rfl (fun h => by cases h) (Nat.le_of_ble_eq_true rfl) ⟨0, rfl⟩ ?_
  refine J_hc0 (J_ls (ls2 := [some (.ref 54)]) rfl ?_)
  refine J_aload_n dX5_length_0 rfl rfl ?_
  refine J_get (v := .int 20) dX5_length_1 fl_X5_15 hk54 rfl ?_
  exact J_iret dX5_length_4 rfl rfl (Nat.le_of_ble_eq_true rfl) (Nat.le_of_ble_eq_true rfl) ⟨rfl, rfl⟩
set_option maxHeartbeats 4000000 in
set_option maxRecDepth 100000 in
theorem c_X11_feed_1 {l : Launch} {G : jG} {nh : Nat} {fh : Nat → Option va_E} (a1 : Int32) (b_a1 : (-2147483648) ≤ a1.toInt ∧ a1.toInt ≤ 2147483647) (a2 : Int32) (b_a2 : (-2147483648) ≤ a2.toInt ∧ a2.toInt ≤ 2147483647) (a3 : Int32) (b_a3 : (-2147483648) ≤ a3.toInt ∧ a3.toInt ≤ 2147483647) (a4 : Int32) (b_a4 : (-2147483648) ≤ a4.toInt ∧ a4.toInt ≤ 2147483647) (a5 : Int32) (b_a5 : (-2147483648) ≤ a5.toInt ∧ a5.toInt ≤ 2147483647) (hk0 : fh 0 = some (.inr (11, [.ref 1, .ref 17, .ref 50, .ref 51, .ref 54, .ref 57, .ref 65, .ref 75, .ref 81, .ref 85, .ref 88, .ref 93, .ref 96, .int 0, .int (-1), .ref 97, .int 0]))) (hk54 : fh 54 = some (.inr (5, [.ref 55, .int 0, .int 17, .int 0, .int 0, .int 0, .int 0, .int (-1), .ref 56, .int 0]))) (hk55 : fh 55 = some (.inl (0, 400, .inl (fun _ => 0)))) : JM l G yX11_feed MX11_feed { frames := 1, cells := 0, slots := 0, locals := 22 } [.ref 0, .int a1, .int a2, .int a3, .int a4, .int a5] (nh, fh) (fun r h9 => r = some (.int 20) ∧ h9 = (nh, hc fh [(54, .inr (5, [.ref 55, .int 20, .int 17, .int 0, .int 0, .int 0, .int 0, .int (-1), .ref 56, .int 0])), (55, .inl (0, 400, .inl (upd (upd (upd (upd (upd (upd (upd (upd (upd (upd (upd (upd (upd (upd (upd (upd (upd (upd (upd (upd (fun _ => 0) 0 ((a1 >>> (24 &&& 31)) &&& 255)) 1 ((a1 >>> (16 &&& 31)) &&& 255)) 2 ((a1 >>> (8 &&& 31)) &&& 255)) 3 ((a1 >>> (0 &&& 31)) &&& 255)) 4 ((a2 >>> (24 &&& 31)) &&& 255)) 5 ((a2 >>> (16 &&& 31)) &&& 255)) 6 ((a2 >>> (8 &&& 31)) &&& 255)) 7 ((a2 >>> (0 &&& 31)) &&& 255)) 8 ((a3 >>> (24 &&& 31)) &&& 255)) 9 ((a3 >>> (16 &&& 31)) &&& 255)) 10 ((a3 >>> (8 &&& 31)) &&& 255)) 11 ((a3 >>> (0 &&& 31)) &&& 255)) 12 ((a4 >>> (24 &&& 31)) &&& 255)) 13 ((a4 >>> (16 &&& 31)) &&& 255)) 14 ((a4 >>> (8 &&& 31)) &&& 255)) 15 ((a4 >>> (0 &&& 31)) &&& 255)) 16 ((a5 >>> (24 &&& 31)) &&& 255)) 17 ((a5 >>> (16 &&& 31)) &&& 255)) 18 ((a5 >>> (8 &&& 31)) &&& 255)) 19 ((a5 >>> (0 &&& 31)) &&& 255))))])) := by
  refine JM.of (by decide) rfl (fun h => by cases h) (Nat.le_of_ble_eq_true rfl) ⟨0, rfl⟩ ?_
  refine J_hc0 (J_ls (ls2 := [some (.ref 0), some (.int a1), some (.int a2), some (.int a3), some (.int a4), some (.int a5)]) rfl ?_)
  refine J_aload_n dX11_feed_0 rfl rfl ?_
  refine J_get (v := .ref 54) dX11_feed_1 fl_X11_34 hk0 rfl ?_
  refine J_bipush (v := 20) dX11_feed_4 (by decide +kernel) ?_
  refine J_callV (st := []) dX11_feed_6 cv_X11_151 (c_X5_hasRoom_1 hk54) hk54 rfl rfl (Nat.le_of_ble_eq_true rfl) ⟨(Nat.le_of_ble_eq_true rfl), (Nat.le_of_ble_eq_true rfl)⟩ ⟨(Nat.le_of_ble_eq_true rfl), (Nat.le_of_ble_eq_true rfl)⟩ (fun r h9 hp => ?_)
  obtain ⟨rfl, rfl⟩ := hp
  refine J_nf (nh2 := nh) (ck2 := 0) (sk2 := 0) (st2 := [.int 1]) rfl rfl rfl rfl ?_
  refine J_if_ne (tgt := 14) dX11_feed_9 (by decide) (fun _ => ?_) (fun q => absurd q (by decide +kernel))
  refine J_aload_n dX11_feed_14 rfl rfl ?_
  refine J_get (v := .ref 54) dX11_feed_15 fl_X11_34 hk0 rfl ?_
  refine J_iload_n dX11_feed_18 rfl rfl ?_
  refine J_callV (st := []) dX11_feed_19 cv_X11_154 (c_X5_take_1 (a1) b_a1 hk54 hk55) hk54 rfl rfl (Nat.le_of_ble_eq_true rfl) ⟨(Nat.le_of_ble_eq_true rfl), (Nat.le_of_ble_eq_true rfl)⟩ ⟨(Nat.le_of_ble_eq_true rfl), (Nat.le_of_ble_eq_true rfl)⟩ (fun r h9 hp => ?_)
  obtain ⟨rfl, rfl⟩ := hp
  refine J_nf (nh2 := nh) (ck2 := 0) (sk2 := 0) (st2 := []) rfl rfl rfl rfl ?_
  refine J_app (L3 := [(54, .inr (5, [.ref 55, .int 4, .int 17, .int 0, .int 0, .int 0, .int 0, .int (-1), .ref 56, .int 0])), (55, .inl (0, 400, .inl (upd (upd (upd (upd (fun _ => 0) 0 ((a1 >>> (24 &&& 31)) &&& 255)) 1 ((a1 >>> (16 &&& 31)) &&& 255)) 2 ((a1 >>> (8 &&& 31)) &&& 255)) 3 ((a1 >>> (0 &&& 31)) &&& 255))))]) rfl ?_
  refine J_aload_n dX11_feed_22 rfl rfl ?_
  refine J_get (v := .ref 54) dX11_feed_23 fl_X11_34 hk0 rfl ?_
  refine J_iload_n dX11_feed_26 rfl rfl ?_
  refine J_callV (st := []) dX11_feed_27 cv_X11_154 (c_X5_take_2 (a2) b_a2 (((a1 >>> (0 &&& 31)) &&& 255)) (((a1 >>> (8 &&& 31)) &&& 255)) (((a1 >>> (16 &&& 31)) &&& 255)) (((a1 >>> (24 &&& 31)) &&& 255)) rfl rfl) rfl rfl rfl (Nat.le_of_ble_eq_true rfl) ⟨(Nat.le_of_ble_eq_true rfl), (Nat.le_of_ble_eq_true rfl)⟩ ⟨(Nat.le_of_ble_eq_true rfl), (Nat.le_of_ble_eq_true rfl)⟩ (fun r h9 hp => ?_)
  obtain ⟨rfl, rfl⟩ := hp
  refine J_nf (nh2 := nh) (ck2 := 0) (sk2 := 0) (st2 := []) rfl rfl rfl rfl ?_
  refine J_app (L3 := [(54, .inr (5, [.ref 55, .int 8, .int 17, .int 0, .int 0, .int 0, .int 0, .int (-1), .ref 56, .int 0])), (55, .inl (0, 400, .inl (upd (upd (upd (upd (upd (upd (upd (upd (fun _ => 0) 0 ((a1 >>> (24 &&& 31)) &&& 255)) 1 ((a1 >>> (16 &&& 31)) &&& 255)) 2 ((a1 >>> (8 &&& 31)) &&& 255)) 3 ((a1 >>> (0 &&& 31)) &&& 255)) 4 ((a2 >>> (24 &&& 31)) &&& 255)) 5 ((a2 >>> (16 &&& 31)) &&& 255)) 6 ((a2 >>> (8 &&& 31)) &&& 255)) 7 ((a2 >>> (0 &&& 31)) &&& 255)))), (54, .inr (5, [.ref 55, .int 4, .int 17, .int 0, .int 0, .int 0, .int 0, .int (-1), .ref 56, .int 0])), (55, .inl (0, 400, .inl (upd (upd (upd (upd (fun _ => 0) 0 ((a1 >>> (24 &&& 31)) &&& 255)) 1 ((a1 >>> (16 &&& 31)) &&& 255)) 2 ((a1 >>> (8 &&& 31)) &&& 255)) 3 ((a1 >>> (0 &&& 31)) &&& 255))))]) rfl ?_
  refine J_aload_n dX11_feed_30 rfl rfl ?_
  refine J_get (v := .ref 54) dX11_feed_31 fl_X11_34 hk0 rfl ?_
  refine J_iload_n dX11_feed_34 rfl rfl ?_
  refine J_callV (st := []) dX11_feed_35 cv_X11_154 (c_X5_take_3 (a3) b_a3 (((a2 >>> (0 &&& 31)) &&& 255)) (((a2 >>> (8 &&& 31)) &&& 255)) (((a2 >>> (16 &&& 31)) &&& 255)) (((a2 >>> (24 &&& 31)) &&& 255)) (((a1 >>> (0 &&& 31)) &&& 255)) (((a1 >>> (8 &&& 31)) &&& 255)) (((a1 >>> (16 &&& 31)) &&& 255)) (((a1 >>> (24 &&& 31)) &&& 255)) rfl rfl) rfl rfl rfl (Nat.le_of_ble_eq_true rfl) ⟨(Nat.le_of_ble_eq_true rfl), (Nat.le_of_ble_eq_true rfl)⟩ ⟨(Nat.le_of_ble_eq_true rfl), (Nat.le_of_ble_eq_true rfl)⟩ (fun r h9 hp => ?_)
  obtain ⟨rfl, rfl⟩ := hp
  refine J_nf (nh2 := nh) (ck2 := 0) (sk2 := 0) (st2 := []) rfl rfl rfl rfl ?_
  refine J_app (L3 := [(54, .inr (5, [.ref 55, .int 12, .int 17, .int 0, .int 0, .int 0, .int 0, .int (-1), .ref 56, .int 0])), (55, .inl (0, 400, .inl (upd (upd (upd (upd (upd (upd (upd (upd (upd (upd (upd (upd (fun _ => 0) 0 ((a1 >>> (24 &&& 31)) &&& 255)) 1 ((a1 >>> (16 &&& 31)) &&& 255)) 2 ((a1 >>> (8 &&& 31)) &&& 255)) 3 ((a1 >>> (0 &&& 31)) &&& 255)) 4 ((a2 >>> (24 &&& 31)) &&& 255)) 5 ((a2 >>> (16 &&& 31)) &&& 255)) 6 ((a2 >>> (8 &&& 31)) &&& 255)) 7 ((a2 >>> (0 &&& 31)) &&& 255)) 8 ((a3 >>> (24 &&& 31)) &&& 255)) 9 ((a3 >>> (16 &&& 31)) &&& 255)) 10 ((a3 >>> (8 &&& 31)) &&& 255)) 11 ((a3 >>> (0 &&& 31)) &&& 255)))), (54, .inr (5, [.ref 55, .int 8, .int 17, .int 0, .int 0, .int 0, .int 0, .int (-1), .ref 56, .int 0])), (55, .inl (0, 400, .inl (upd (upd (upd (upd (upd (upd (upd (upd (fun _ => 0) 0 ((a1 >>> (24 &&& 31)) &&& 255)) 1 ((a1 >>> (16 &&& 31)) &&& 255)) 2 ((a1 >>> (8 &&& 31)) &&& 255)) 3 ((a1 >>> (0 &&& 31)) &&& 255)) 4 ((a2 >>> (24 &&& 31)) &&& 255)) 5 ((a2 >>> (16 &&& 31)) &&& 255)) 6 ((a2 >>> (8 &&& 31)) &&& 255)) 7 ((a2 >>> (0 &&& 31)) &&& 255)))), (54, .inr (5, [.ref 55, .int 4, .int 17, .int 0, .int 0, .int 0, .int 0, .int (-1), .ref 56, .int 0])), (55, .inl (0, 400, .inl (upd (upd (upd (upd (fun _ => 0) 0 ((a1 >>> (24 &&& 31)) &&& 255)) 1 ((a1 >>> (16 &&& 31)) &&& 255)) 2 ((a1 >>> (8 &&& 31)) &&& 255)) 3 ((a1 >>> (0 &&& 31)) &&& 255))))]) rfl ?_
  refine J_aload_n dX11_feed_38 rfl rfl ?_
  refine J_get (v := .ref 54) dX11_feed_39 fl_X11_34 hk0 rfl ?_
  refine J_iload dX11_feed_42 rfl ?_
  refine J_callV (st := []) dX11_feed_44 cv_X11_154 (c_X5_take_4 (a4) b_a4 (((a3 >>> (0 &&& 31)) &&& 255)) (((a3 >>> (8 &&& 31)) &&& 255)) (((a3 >>> (16 &&& 31)) &&& 255)) (((a3 >>> (24 &&& 31)) &&& 255)) (((a2 >>> (0 &&& 31)) &&& 255)) (((a2 >>> (8 &&& 31)) &&& 255)) (((a2 >>> (16 &&& 31)) &&& 255)) (((a2 >>> (24 &&& 31)) &&& 255)) (((a1 >>> (0 &&& 31)) &&& 255)) (((a1 >>> (8 &&& 31)) &&& 255)) (((a1 >>> (16 &&& 31)) &&& 255)) (((a1 >>> (24 &&& 31)) &&& 255)) rfl rfl) rfl rfl rfl (Nat.le_of_ble_eq_true rfl) ⟨(Nat.le_of_ble_eq_true rfl), (Nat.le_of_ble_eq_true rfl)⟩ ⟨(Nat.le_of_ble_eq_true rfl), (Nat.le_of_ble_eq_true rfl)⟩ (fun r h9 hp => ?_)
  obtain ⟨rfl, rfl⟩ := hp
  refine J_nf (nh2 := nh) (ck2 := 0) (sk2 := 0) (st2 := []) rfl rfl rfl rfl ?_
  refine J_app (L3 := [(54, .inr (5, [.ref 55, .int 16, .int 17, .int 0, .int 0, .int 0, .int 0, .int (-1), .ref 56, .int 0])), (55, .inl (0, 400, .inl (upd (upd (upd (upd (upd (upd (upd (upd (upd (upd (upd (upd (upd (upd (upd (upd (fun _ => 0) 0 ((a1 >>> (24 &&& 31)) &&& 255)) 1 ((a1 >>> (16 &&& 31)) &&& 255)) 2 ((a1 >>> (8 &&& 31)) &&& 255)) 3 ((a1 >>> (0 &&& 31)) &&& 255)) 4 ((a2 >>> (24 &&& 31)) &&& 255)) 5 ((a2 >>> (16 &&& 31)) &&& 255)) 6 ((a2 >>> (8 &&& 31)) &&& 255)) 7 ((a2 >>> (0 &&& 31)) &&& 255)) 8 ((a3 >>> (24 &&& 31)) &&& 255)) 9 ((a3 >>> (16 &&& 31)) &&& 255)) 10 ((a3 >>> (8 &&& 31)) &&& 255)) 11 ((a3 >>> (0 &&& 31)) &&& 255)) 12 ((a4 >>> (24 &&& 31)) &&& 255)) 13 ((a4 >>> (16 &&& 31)) &&& 255)) 14 ((a4 >>> (8 &&& 31)) &&& 255)) 15 ((a4 >>> (0 &&& 31)) &&& 255)))), (54, .inr (5, [.ref 55, .int 12, .int 17, .int 0, .int 0, .int 0, .int 0, .int (-1), .ref 56, .int 0])), (55, .inl (0, 400, .inl (upd (upd (upd (upd (upd (upd (upd (upd (upd (upd (upd (upd (fun _ => 0) 0 ((a1 >>> (24 &&& 31)) &&& 255)) 1 ((a1 >>> (16 &&& 31)) &&& 255)) 2 ((a1 >>> (8 &&& 31)) &&& 255)) 3 ((a1 >>> (0 &&& 31)) &&& 255)) 4 ((a2 >>> (24 &&& 31)) &&& 255)) 5 ((a2 >>> (16 &&& 31)) &&& 255)) 6 ((a2 >>> (8 &&& 31)) &&& 255)) 7 ((a2 >>> (0 &&& 31)) &&& 255)) 8 ((a3 >>> (24 &&& 31)) &&& 255)) 9 ((a3 >>> (16 &&& 31)) &&& 255)) 10 ((a3 >>> (8 &&& 31)) &&& 255)) 11 ((a3 >>> (0 &&& 31)) &&& 255)))), (54, .inr (5, [.ref 55, .int 8, .int 17, .int 0, .int 0, .int 0, .int 0, .int (-1), .ref 56, .int 0])), (55, .inl (0, 400, .inl (upd (upd (upd (upd (upd (upd (upd (upd (fun _ => 0) 0 ((a1 >>> (24 &&& 31)) &&& 255)) 1 ((a1 >>> (16 &&& 31)) &&& 255)) 2 ((a1 >>> (8 &&& 31)) &&& 255)) 3 ((a1 >>> (0 &&& 31)) &&& 255)) 4 ((a2 >>> (24 &&& 31)) &&& 255)) 5 ((a2 >>> (16 &&& 31)) &&& 255)) 6 ((a2 >>> (8 &&& 31)) &&& 255)) 7 ((a2 >>> (0 &&& 31)) &&& 255)))), (54, .inr (5, [.ref 55, .int 4, .int 17, .int 0, .int 0, .int 0, .int 0, .int (-1), .ref 56, .int 0])), (55, .inl (0, 400, .inl (upd (upd (upd (upd (fun _ => 0) 0 ((a1 >>> (24 &&& 31)) &&& 255)) 1 ((a1 >>> (16 &&& 31)) &&& 255)) 2 ((a1 >>> (8 &&& 31)) &&& 255)) 3 ((a1 >>> (0 &&& 31)) &&& 255))))]) rfl ?_
  refine J_aload_n dX11_feed_47 rfl rfl ?_
  refine J_get (v := .ref 54) dX11_feed_48 fl_X11_34 hk0 rfl ?_
  refine J_iload dX11_feed_51 rfl ?_
  refine J_callV (st := []) dX11_feed_53 cv_X11_154 (c_X5_take_5 (a5) b_a5 (((a4 >>> (0 &&& 31)) &&& 255)) (((a4 >>> (8 &&& 31)) &&& 255)) (((a4 >>> (16 &&& 31)) &&& 255)) (((a4 >>> (24 &&& 31)) &&& 255)) (((a3 >>> (0 &&& 31)) &&& 255)) (((a3 >>> (8 &&& 31)) &&& 255)) (((a3 >>> (16 &&& 31)) &&& 255)) (((a3 >>> (24 &&& 31)) &&& 255)) (((a2 >>> (0 &&& 31)) &&& 255)) (((a2 >>> (8 &&& 31)) &&& 255)) (((a2 >>> (16 &&& 31)) &&& 255)) (((a2 >>> (24 &&& 31)) &&& 255)) (((a1 >>> (0 &&& 31)) &&& 255)) (((a1 >>> (8 &&& 31)) &&& 255)) (((a1 >>> (16 &&& 31)) &&& 255)) (((a1 >>> (24 &&& 31)) &&& 255)) rfl rfl) rfl rfl rfl (Nat.le_of_ble_eq_true rfl) ⟨(Nat.le_of_ble_eq_true rfl), (Nat.le_of_ble_eq_true rfl)⟩ ⟨(Nat.le_of_ble_eq_true rfl), (Nat.le_of_ble_eq_true rfl)⟩ (fun r h9 hp => ?_)
  obtain ⟨rfl, rfl⟩ := hp
  refine J_nf (nh2 := nh) (ck2 := 0) (sk2 := 0) (st2 := []) rfl rfl rfl rfl ?_
  refine J_app (L3 := [(54, .inr (5, [.ref 55, .int 20, .int 17, .int 0, .int 0, .int 0, .int 0, .int (-1), .ref 56, .int 0])), (55, .inl (0, 400, .inl (upd (upd (upd (upd (upd (upd (upd (upd (upd (upd (upd (upd (upd (upd (upd (upd (upd (upd (upd (upd (fun _ => 0) 0 ((a1 >>> (24 &&& 31)) &&& 255)) 1 ((a1 >>> (16 &&& 31)) &&& 255)) 2 ((a1 >>> (8 &&& 31)) &&& 255)) 3 ((a1 >>> (0 &&& 31)) &&& 255)) 4 ((a2 >>> (24 &&& 31)) &&& 255)) 5 ((a2 >>> (16 &&& 31)) &&& 255)) 6 ((a2 >>> (8 &&& 31)) &&& 255)) 7 ((a2 >>> (0 &&& 31)) &&& 255)) 8 ((a3 >>> (24 &&& 31)) &&& 255)) 9 ((a3 >>> (16 &&& 31)) &&& 255)) 10 ((a3 >>> (8 &&& 31)) &&& 255)) 11 ((a3 >>> (0 &&& 31)) &&& 255)) 12 ((a4 >>> (24 &&& 31)) &&& 255)) 13 ((a4 >>> (16 &&& 31)) &&& 255)) 14 ((a4 >>> (8 &&& 31)) &&& 255)) 15 ((a4 >>> (0 &&& 31)) &&& 255)) 16 ((a5 >>> (24 &&& 31)) &&& 255)) 17 ((a5 >>> (16 &&& 31)) &&& 255)) 18 ((a5 >>> (8 &&& 31)) &&& 255)) 19 ((a5 >>> (0 &&& 31)) &&& 255)))), (54, .inr (5, [.ref 55, .int 16, .int 17, .int 0, .int 0, .int 0, .int 0, .int (-1), .ref 56, .int 0])), (55, .inl (0, 400, .inl (upd (upd (upd (upd (upd (upd (upd (upd (upd (upd (upd (upd (upd (upd (upd (upd (fun _ => 0) 0 ((a1 >>> (24 &&& 31)) &&& 255)) 1 ((a1 >>> (16 &&& 31)) &&& 255)) 2 ((a1 >>> (8 &&& 31)) &&& 255)) 3 ((a1 >>> (0 &&& 31)) &&& 255)) 4 ((a2 >>> (24 &&& 31)) &&& 255)) 5 ((a2 >>> (16 &&& 31)) &&& 255)) 6 ((a2 >>> (8 &&& 31)) &&& 255)) 7 ((a2 >>> (0 &&& 31)) &&& 255)) 8 ((a3 >>> (24 &&& 31)) &&& 255)) 9 ((a3 >>> (16 &&& 31)) &&& 255)) 10 ((a3 >>> (8 &&& 31)) &&& 255)) 11 ((a3 >>> (0 &&& 31)) &&& 255)) 12 ((a4 >>> (24 &&& 31)) &&& 255)) 13 ((a4 >>> (16 &&& 31)) &&& 255)) 14 ((a4 >>> (8 &&& 31)) &&& 255)) 15 ((a4 >>> (0 &&& 31)) &&& 255)))), (54, .inr (5, [.ref 55, .int 12, .int 17, .int 0, .int 0, .int 0, .int 0, .int (-1), .ref 56, .int 0])), (55, .inl (0, 400, .inl (upd (upd (upd (upd (upd (upd (upd (upd (upd (upd (upd (upd (fun _ => 0) 0 ((a1 >>> (24 &&& 31)) &&& 255)) 1 ((a1 >>> (16 &&& 31)) &&& 255)) 2 ((a1 >>> (8 &&& 31)) &&& 255)) 3 ((a1 >>> (0 &&& 31)) &&& 255)) 4 ((a2 >>> (24 &&& 31)) &&& 255)) 5 ((a2 >>> (16 &&& 31)) &&& 255)) 6 ((a2 >>> (8 &&& 31)) &&& 255)) 7 ((a2 >>> (0 &&& 31)) &&& 255)) 8 ((a3 >>> (24 &&& 31)) &&& 255)) 9 ((a3 >>> (16 &&& 31)) &&& 255)) 10 ((a3 >>> (8 &&& 31)) &&& 255)) 11 ((a3 >>> (0 &&& 31)) &&& 255)))), (54, .inr (5, [.ref 55, .int 8, .int 17, .int 0, .int 0, .int 0, .int 0, .int (-1), .ref 56, .int 0])), (55, .inl (0, 400, .inl (upd (upd (upd (upd (upd (upd (upd (upd (fun _ => 0) 0 ((a1 >>> (24 &&& 31)) &&& 255)) 1 ((a1 >>> (16 &&& 31)) &&& 255)) 2 ((a1 >>> (8 &&& 31)) &&& 255)) 3 ((a1 >>> (0 &&& 31)) &&& 255)) 4 ((a2 >>> (24 &&& 31)) &&& 255)) 5 ((a2 >>> (16 &&& 31)) &&& 255)) 6 ((a2 >>> (8 &&& 31)) &&& 255)) 7 ((a2 >>> (0 &&& 31)) &&& 255)))), (54, .inr (5, [.ref 55, .int 4, .int 17, .int 0, .int 0, .int 0, .int 0, .int (-1), .ref 56, .int 0])), (55, .inl (0, 400, .inl (upd (upd (upd (upd (fun _ => 0) 0 ((a1 >>> (24 &&& 31)) &&& 255)) 1 ((a1 >>> (16 &&& 31)) &&& 255)) 2 ((a1 >>> (8 &&& 31)) &&& 255)) 3 ((a1 >>> (0 &&& 31)) &&& 255))))]) rfl ?_
  refine J_aload_n dX11_feed_56 rfl rfl ?_
  refine J_get (v := .ref 54) dX11_feed_57 fl_X11_34 hk0 rfl ?_
  refine J_callV (st := []) dX11_feed_60 cv_X11_158 (c_X5_length_1 rfl) rfl rfl rfl (Nat.le_of_ble_eq_true rfl) ⟨(Nat.le_of_ble_eq_true rfl), (Nat.le_of_ble_eq_true rfl)⟩ ⟨(Nat.le_of_ble_eq_true rfl), (Nat.le_of_ble_eq_true rfl)⟩ (fun r h9 hp => ?_)
  obtain ⟨rfl, rfl⟩ := hp
  refine J_nf (nh2 := nh) (ck2 := 0) (sk2 := 0) (st2 := [.int 20]) rfl rfl rfl rfl ?_
  refine J_mask (L2 := [(54, .inr (5, [.ref 55, .int 20, .int 17, .int 0, .int 0, .int 0, .int 0, .int (-1), .ref 56, .int 0])), (55, .inl (0, 400, .inl (upd (upd (upd (upd (upd (upd (upd (upd (upd (upd (upd (upd (upd (upd (upd (upd (upd (upd (upd (upd (fun _ => 0) 0 ((a1 >>> (24 &&& 31)) &&& 255)) 1 ((a1 >>> (16 &&& 31)) &&& 255)) 2 ((a1 >>> (8 &&& 31)) &&& 255)) 3 ((a1 >>> (0 &&& 31)) &&& 255)) 4 ((a2 >>> (24 &&& 31)) &&& 255)) 5 ((a2 >>> (16 &&& 31)) &&& 255)) 6 ((a2 >>> (8 &&& 31)) &&& 255)) 7 ((a2 >>> (0 &&& 31)) &&& 255)) 8 ((a3 >>> (24 &&& 31)) &&& 255)) 9 ((a3 >>> (16 &&& 31)) &&& 255)) 10 ((a3 >>> (8 &&& 31)) &&& 255)) 11 ((a3 >>> (0 &&& 31)) &&& 255)) 12 ((a4 >>> (24 &&& 31)) &&& 255)) 13 ((a4 >>> (16 &&& 31)) &&& 255)) 14 ((a4 >>> (8 &&& 31)) &&& 255)) 15 ((a4 >>> (0 &&& 31)) &&& 255)) 16 ((a5 >>> (24 &&& 31)) &&& 255)) 17 ((a5 >>> (16 &&& 31)) &&& 255)) 18 ((a5 >>> (8 &&& 31)) &&& 255)) 19 ((a5 >>> (0 &&& 31)) &&& 255))))]) (ks := [54, 55, 54, 55, 54, 55, 54, 55, 54, 55]) [true, true, false, false, false, false, false, false, false, false] rfl (by decide +kernel) rfl ?_
  exact J_iret dX11_feed_63 rfl rfl (Nat.le_of_ble_eq_true rfl) (Nat.le_of_ble_eq_true rfl) ⟨rfl, rfl⟩
set_option maxHeartbeats 4000000 in
set_option maxRecDepth 100000 in
theorem c_X12_feed_1 {l : Launch} {G : jG} {nh : Nat} {fh : Nat → Option va_E} (a1 : Int32) (b_a1 : (-2147483648) ≤ a1.toInt ∧ a1.toInt ≤ 2147483647) (a2 : Int32) (b_a2 : (-2147483648) ≤ a2.toInt ∧ a2.toInt ≤ 2147483647) (a3 : Int32) (b_a3 : (-2147483648) ≤ a3.toInt ∧ a3.toInt ≤ 2147483647) (a4 : Int32) (b_a4 : (-2147483648) ≤ a4.toInt ∧ a4.toInt ≤ 2147483647) (a5 : Int32) (b_a5 : (-2147483648) ≤ a5.toInt ∧ a5.toInt ≤ 2147483647) (hk98 : fh 98 = some (.inr (12, [.int 0, .int 0, .ref 99, .ref 100, .ref 101, .ref 102, .ref 103, .ref 104, .ref 105, .int 0, .int (-1), .ref 106, .ref 107, .ref 108, .int 0, .int 0, .int 0, .int 0, .int 0, .int 0, .int 0, .ref 109, .int 0, .int 0, .ref 110, .ref 111, .ref 112, .ref 113, .ref 114, .ref 115, .ref 116, .ref 117, .int 0, .int 0, .int (-1), .int (-1), .ref 118, .ref 119, .ref 120, .ref 121, .ref 122, .ref 123, .ref 124, .ref 125, .ref 126, .ref 127, .ref 128, .ref 129, .int 0, .ref 130, .ref 131, .ref 132, .ref 133, .ref 134, .int 0, .int 0]))) (hk104 : fh 104 = some (.inl (3, 400, .inl (fun _ => 0)))) (hk105 : fh 105 = some (.inl (0, 5, .inl (fun _ => 0)))) : JM l G yX12_feed MX12_feed { frames := 0, cells := 0, slots := 0, locals := 0 } [.ref 98, .int a1, .int a2, .int a3, .int a4, .int a5] (nh, fh) (fun r h9 => r = some (.int 20) ∧ h9 = (nh, hc fh [(98, .inr (12, [.int 0, .int 0, .ref 99, .ref 100, .ref 101, .ref 102, .ref 103, .ref 104, .ref 105, .int 20, .int (-1), .ref 106, .ref 107, .ref 108, .int 0, .int 0, .int 0, .int 0, .int 0, .int 0, .int 0, .ref 109, .int 0, .int 0, .ref 110, .ref 111, .ref 112, .ref 113, .ref 114, .ref 115, .ref 116, .ref 117, .int 0, .int 0, .int (-1), .int (-1), .ref 118, .ref 119, .ref 120, .ref 121, .ref 122, .ref 123, .ref 124, .ref 125, .ref 126, .ref 127, .ref 128, .ref 129, .int 0, .ref 130, .ref 131, .ref 132, .ref 133, .ref 134, .int 0, .int 0])), (104, .inl (3, 400, .inl (upd (upd (upd (upd (upd (upd (upd (upd (upd (upd (upd (upd (upd (upd (upd (upd (upd (upd (upd (upd (fun _ => 0) 0 (a1 >>> (24 &&& 31)).toInt8.toInt32.toInt8.toInt32) 1 (a1 >>> (16 &&& 31)).toInt8.toInt32.toInt8.toInt32) 2 (a1 >>> (8 &&& 31)).toInt8.toInt32.toInt8.toInt32) 3 (a1 >>> (0 &&& 31)).toInt8.toInt32.toInt8.toInt32) 4 (a2 >>> (24 &&& 31)).toInt8.toInt32.toInt8.toInt32) 5 (a2 >>> (16 &&& 31)).toInt8.toInt32.toInt8.toInt32) 6 (a2 >>> (8 &&& 31)).toInt8.toInt32.toInt8.toInt32) 7 (a2 >>> (0 &&& 31)).toInt8.toInt32.toInt8.toInt32) 8 (a3 >>> (24 &&& 31)).toInt8.toInt32.toInt8.toInt32) 9 (a3 >>> (16 &&& 31)).toInt8.toInt32.toInt8.toInt32) 10 (a3 >>> (8 &&& 31)).toInt8.toInt32.toInt8.toInt32) 11 (a3 >>> (0 &&& 31)).toInt8.toInt32.toInt8.toInt32) 12 (a4 >>> (24 &&& 31)).toInt8.toInt32.toInt8.toInt32) 13 (a4 >>> (16 &&& 31)).toInt8.toInt32.toInt8.toInt32) 14 (a4 >>> (8 &&& 31)).toInt8.toInt32.toInt8.toInt32) 15 (a4 >>> (0 &&& 31)).toInt8.toInt32.toInt8.toInt32) 16 (a5 >>> (24 &&& 31)).toInt8.toInt32.toInt8.toInt32) 17 (a5 >>> (16 &&& 31)).toInt8.toInt32.toInt8.toInt32) 18 (a5 >>> (8 &&& 31)).toInt8.toInt32.toInt8.toInt32) 19 (a5 >>> (0 &&& 31)).toInt8.toInt32.toInt8.toInt32))), (105, .inl (0, 5, .inl (upd (upd (upd (upd (upd (fun _ => 0) 0 a1) 1 a2) 2 a3) 3 a4) 4 a5)))])) := by
  refine JM.of (by decide) rfl (fun h => by cases h) (Nat.le_of_ble_eq_true rfl) ⟨1, rfl⟩ ?_
  refine J_hc0 (J_ls (ls2 := [some (.ref 98), some (.int a1), some (.int a2), some (.int a3), some (.int a4), some (.int a5), none]) rfl ?_)
  refine J_aload_n dX12_feed_0 rfl rfl ?_
  refine J_get (v := .int 0) dX12_feed_1 fl_X12_156 hk98 rfl ?_
  refine J_bipush (v := 20) dX12_feed_4 (by decide +kernel) ?_
  refine J_iadd (z := 20) dX12_feed_6 (by decide +kernel) ?_
  refine J_sipush (v := 400) dX12_feed_7 (by decide +kernel) ?_
  refine J_icmp_le (tgt := 15) dX12_feed_10 (by decide) (fun _ => ?_) (fun q => absurd (by decide +kernel) q)
  refine J_aload_n dX12_feed_15 rfl rfl ?_
  refine J_get (v := .ref 105) dX12_feed_16 fl_X12_37 hk98 rfl ?_
  refine J_iconst (v := 0) dX12_feed_19 (by decide) ?_
  refine J_iload_n dX12_feed_20 rfl rfl ?_
  refine K_iast (i2 := 0) dX12_feed_21 hk105 rfl (jin (by decide +kernel)) (by decide +kernel) ?_
  refine J_aload_n dX12_feed_22 rfl rfl ?_
  refine J_get (v := .ref 105) dX12_feed_23 fl_X12_37 hk98 rfl ?_
  refine J_iconst (v := 1) dX12_feed_26 (by decide) ?_
  refine J_iload_n dX12_feed_27 rfl rfl ?_
  refine K_iast (i2 := 1) dX12_feed_28 rfl rfl (jin (by decide +kernel)) (by decide +kernel) ?_
  refine J_aload_n dX12_feed_29 rfl rfl ?_
  refine J_get (v := .ref 105) dX12_feed_30 fl_X12_37 hk98 rfl ?_
  refine J_iconst (v := 2) dX12_feed_33 (by decide) ?_
  refine J_iload_n dX12_feed_34 rfl rfl ?_
  refine K_iast (i2 := 2) dX12_feed_35 rfl rfl (jin (by decide +kernel)) (by decide +kernel) ?_
  refine J_aload_n dX12_feed_36 rfl rfl ?_
  refine J_get (v := .ref 105) dX12_feed_37 fl_X12_37 hk98 rfl ?_
  refine J_iconst (v := 3) dX12_feed_40 (by decide) ?_
  refine J_iload dX12_feed_41 rfl ?_
  refine K_iast (i2 := 3) dX12_feed_43 rfl rfl (jin (by decide +kernel)) (by decide +kernel) ?_
  refine J_aload_n dX12_feed_44 rfl rfl ?_
  refine J_get (v := .ref 105) dX12_feed_45 fl_X12_37 hk98 rfl ?_
  refine J_iconst (v := 4) dX12_feed_48 (by decide) ?_
  refine J_iload dX12_feed_49 rfl ?_
  refine K_iast (i2 := 4) dX12_feed_51 rfl rfl (jin (by decide +kernel)) (by decide +kernel) ?_
  refine J_iconst (v := 0) dX12_feed_52 (by decide) ?_
  refine J_istore dX12_feed_53 (Nat.le_of_ble_eq_true rfl) rfl ?_
  refine J_iload dX12_feed_55 rfl ?_
  refine J_bipush (v := 20) dX12_feed_57 (by decide +kernel) ?_
  refine J_icmp_ge (tgt := 101) dX12_feed_59 (by decide) (fun q => absurd q (by decide +kernel)) (fun _ => ?_)
  refine J_aload_n dX12_feed_62 rfl rfl ?_
  refine J_get (v := .ref 104) dX12_feed_63 fl_X12_34 hk98 rfl ?_
  refine J_aload_n dX12_feed_66 rfl rfl ?_
  refine J_get (v := .int 0) dX12_feed_67 fl_X12_156 hk98 rfl ?_
  refine J_iload dX12_feed_70 rfl ?_
  refine J_iadd (z := 0) dX12_feed_72 (by decide +kernel) ?_
  refine J_aload_n dX12_feed_73 rfl rfl ?_
  refine J_get (v := .ref 105) dX12_feed_74 fl_X12_37 hk98 rfl ?_
  refine J_iload dX12_feed_77 rfl ?_
  refine J_iconst (v := 4) dX12_feed_79 (by decide) ?_
  refine J_idiv (z := 0) dX12_feed_80 (by decide) (by decide +kernel) ?_
  refine J_iald (i2 := 0) (v := a1) dX12_feed_81 rfl rfl (jin (by decide +kernel)) (by decide +kernel) rfl ?_
  refine J_bipush (v := 24) dX12_feed_82 (by decide +kernel) ?_
  refine J_bipush (v := 8) dX12_feed_84 (by decide +kernel) ?_
  refine J_iload dX12_feed_86 rfl ?_
  refine J_iconst (v := 4) dX12_feed_88 (by decide) ?_
  refine J_irem (z := 0) dX12_feed_89 (by decide) (by decide +kernel) ?_
  refine J_imul (z := 0) dX12_feed_90 (by decide +kernel) ?_
  refine J_isub (z := 24) dX12_feed_91 (by decide +kernel) ?_
  refine J_ishr (z := (a1 >>> (24 &&& 31))) dX12_feed_92 rfl ?_
  refine J_i2b (z := (a1 >>> (24 &&& 31)).toInt8.toInt32) dX12_feed_93 rfl ?_
  refine K_bast (i2 := 0) (y := (a1 >>> (24 &&& 31)).toInt8.toInt32.toInt8.toInt32) dX12_feed_94 hk104 rfl (jin (by decide +kernel)) (by decide +kernel) rfl ?_
  refine J_iinc (v := 1) dX12_feed_95 rfl (by decide +kernel) (Nat.le_of_ble_eq_true rfl) rfl ?_
  refine J_ls (ls2 := [some (.ref 98), some (.int a1), some (.int a2), some (.int a3), some (.int a4), some (.int a5), some (.int 1)]) rfl ?_
  refine J_goto (tgt := 55) dX12_feed_98 (by decide) ?_
  refine J_iload dX12_feed_55 rfl ?_
  refine J_bipush (v := 20) dX12_feed_57 (by decide +kernel) ?_
  refine J_icmp_ge (tgt := 101) dX12_feed_59 (by decide) (fun q => absurd q (by decide +kernel)) (fun _ => ?_)
  refine J_aload_n dX12_feed_62 rfl rfl ?_
  refine J_get (v := .ref 104) dX12_feed_63 fl_X12_34 hk98 rfl ?_
  refine J_aload_n dX12_feed_66 rfl rfl ?_
  refine J_get (v := .int 0) dX12_feed_67 fl_X12_156 hk98 rfl ?_
  refine J_iload dX12_feed_70 rfl ?_
  refine J_iadd (z := 1) dX12_feed_72 (by decide +kernel) ?_
  refine J_aload_n dX12_feed_73 rfl rfl ?_
  refine J_get (v := .ref 105) dX12_feed_74 fl_X12_37 hk98 rfl ?_
  refine J_iload dX12_feed_77 rfl ?_
  refine J_iconst (v := 4) dX12_feed_79 (by decide) ?_
  refine J_idiv (z := 0) dX12_feed_80 (by decide) (by decide +kernel) ?_
  refine J_iald (i2 := 0) (v := a1) dX12_feed_81 rfl rfl (jin (by decide +kernel)) (by decide +kernel) rfl ?_
  refine J_bipush (v := 24) dX12_feed_82 (by decide +kernel) ?_
  refine J_bipush (v := 8) dX12_feed_84 (by decide +kernel) ?_
  refine J_iload dX12_feed_86 rfl ?_
  refine J_iconst (v := 4) dX12_feed_88 (by decide) ?_
  refine J_irem (z := 1) dX12_feed_89 (by decide) (by decide +kernel) ?_
  refine J_imul (z := 8) dX12_feed_90 (by decide +kernel) ?_
  refine J_isub (z := 16) dX12_feed_91 (by decide +kernel) ?_
  refine J_ishr (z := (a1 >>> (16 &&& 31))) dX12_feed_92 rfl ?_
  refine J_i2b (z := (a1 >>> (16 &&& 31)).toInt8.toInt32) dX12_feed_93 rfl ?_
  refine K_bast (i2 := 1) (y := (a1 >>> (16 &&& 31)).toInt8.toInt32.toInt8.toInt32) dX12_feed_94 rfl rfl (jin (by decide +kernel)) (by decide +kernel) rfl ?_
  refine J_iinc (v := 2) dX12_feed_95 rfl (by decide +kernel) (Nat.le_of_ble_eq_true rfl) rfl ?_
  refine J_ls (ls2 := [some (.ref 98), some (.int a1), some (.int a2), some (.int a3), some (.int a4), some (.int a5), some (.int 2)]) rfl ?_
  refine J_goto (tgt := 55) dX12_feed_98 (by decide) ?_
  refine J_iload dX12_feed_55 rfl ?_
  refine J_bipush (v := 20) dX12_feed_57 (by decide +kernel) ?_
  refine J_icmp_ge (tgt := 101) dX12_feed_59 (by decide) (fun q => absurd q (by decide +kernel)) (fun _ => ?_)
  refine J_aload_n dX12_feed_62 rfl rfl ?_
  refine J_get (v := .ref 104) dX12_feed_63 fl_X12_34 hk98 rfl ?_
  refine J_aload_n dX12_feed_66 rfl rfl ?_
  refine J_get (v := .int 0) dX12_feed_67 fl_X12_156 hk98 rfl ?_
  refine J_iload dX12_feed_70 rfl ?_
  refine J_iadd (z := 2) dX12_feed_72 (by decide +kernel) ?_
  refine J_aload_n dX12_feed_73 rfl rfl ?_
  refine J_get (v := .ref 105) dX12_feed_74 fl_X12_37 hk98 rfl ?_
  refine J_iload dX12_feed_77 rfl ?_
  refine J_iconst (v := 4) dX12_feed_79 (by decide) ?_
  refine J_idiv (z := 0) dX12_feed_80 (by decide) (by decide +kernel) ?_
  refine J_iald (i2 := 0) (v := a1) dX12_feed_81 rfl rfl (jin (by decide +kernel)) (by decide +kernel) rfl ?_
  refine J_bipush (v := 24) dX12_feed_82 (by decide +kernel) ?_
  refine J_bipush (v := 8) dX12_feed_84 (by decide +kernel) ?_
  refine J_iload dX12_feed_86 rfl ?_
  refine J_iconst (v := 4) dX12_feed_88 (by decide) ?_
  refine J_irem (z := 2) dX12_feed_89 (by decide) (by decide +kernel) ?_
  refine J_imul (z := 16) dX12_feed_90 (by decide +kernel) ?_
  refine J_isub (z := 8) dX12_feed_91 (by decide +kernel) ?_
  refine J_ishr (z := (a1 >>> (8 &&& 31))) dX12_feed_92 rfl ?_
  refine J_i2b (z := (a1 >>> (8 &&& 31)).toInt8.toInt32) dX12_feed_93 rfl ?_
  refine K_bast (i2 := 2) (y := (a1 >>> (8 &&& 31)).toInt8.toInt32.toInt8.toInt32) dX12_feed_94 rfl rfl (jin (by decide +kernel)) (by decide +kernel) rfl ?_
  refine J_iinc (v := 3) dX12_feed_95 rfl (by decide +kernel) (Nat.le_of_ble_eq_true rfl) rfl ?_
  refine J_ls (ls2 := [some (.ref 98), some (.int a1), some (.int a2), some (.int a3), some (.int a4), some (.int a5), some (.int 3)]) rfl ?_
  refine J_goto (tgt := 55) dX12_feed_98 (by decide) ?_
  refine J_iload dX12_feed_55 rfl ?_
  refine J_bipush (v := 20) dX12_feed_57 (by decide +kernel) ?_
  refine J_icmp_ge (tgt := 101) dX12_feed_59 (by decide) (fun q => absurd q (by decide +kernel)) (fun _ => ?_)
  refine J_aload_n dX12_feed_62 rfl rfl ?_
  refine J_get (v := .ref 104) dX12_feed_63 fl_X12_34 hk98 rfl ?_
  refine J_aload_n dX12_feed_66 rfl rfl ?_
  refine J_get (v := .int 0) dX12_feed_67 fl_X12_156 hk98 rfl ?_
  refine J_iload dX12_feed_70 rfl ?_
  refine J_iadd (z := 3) dX12_feed_72 (by decide +kernel) ?_
  refine J_aload_n dX12_feed_73 rfl rfl ?_
  refine J_get (v := .ref 105) dX12_feed_74 fl_X12_37 hk98 rfl ?_
  refine J_iload dX12_feed_77 rfl ?_
  refine J_iconst (v := 4) dX12_feed_79 (by decide) ?_
  refine J_idiv (z := 0) dX12_feed_80 (by decide) (by decide +kernel) ?_
  refine J_iald (i2 := 0) (v := a1) dX12_feed_81 rfl rfl (jin (by decide +kernel)) (by decide +kernel) rfl ?_
  refine J_bipush (v := 24) dX12_feed_82 (by decide +kernel) ?_
  refine J_bipush (v := 8) dX12_feed_84 (by decide +kernel) ?_
  refine J_iload dX12_feed_86 rfl ?_
  refine J_iconst (v := 4) dX12_feed_88 (by decide) ?_
  refine J_irem (z := 3) dX12_feed_89 (by decide) (by decide +kernel) ?_
  refine J_imul (z := 24) dX12_feed_90 (by decide +kernel) ?_
  refine J_isub (z := 0) dX12_feed_91 (by decide +kernel) ?_
  refine J_ishr (z := (a1 >>> (0 &&& 31))) dX12_feed_92 rfl ?_
  refine J_i2b (z := (a1 >>> (0 &&& 31)).toInt8.toInt32) dX12_feed_93 rfl ?_
  refine K_bast (i2 := 3) (y := (a1 >>> (0 &&& 31)).toInt8.toInt32.toInt8.toInt32) dX12_feed_94 rfl rfl (jin (by decide +kernel)) (by decide +kernel) rfl ?_
  refine J_iinc (v := 4) dX12_feed_95 rfl (by decide +kernel) (Nat.le_of_ble_eq_true rfl) rfl ?_
  refine J_ls (ls2 := [some (.ref 98), some (.int a1), some (.int a2), some (.int a3), some (.int a4), some (.int a5), some (.int 4)]) rfl ?_
  refine J_goto (tgt := 55) dX12_feed_98 (by decide) ?_
  refine J_iload dX12_feed_55 rfl ?_
  refine J_bipush (v := 20) dX12_feed_57 (by decide +kernel) ?_
  refine J_icmp_ge (tgt := 101) dX12_feed_59 (by decide) (fun q => absurd q (by decide +kernel)) (fun _ => ?_)
  refine J_aload_n dX12_feed_62 rfl rfl ?_
  refine J_get (v := .ref 104) dX12_feed_63 fl_X12_34 hk98 rfl ?_
  refine J_aload_n dX12_feed_66 rfl rfl ?_
  refine J_get (v := .int 0) dX12_feed_67 fl_X12_156 hk98 rfl ?_
  refine J_iload dX12_feed_70 rfl ?_
  refine J_iadd (z := 4) dX12_feed_72 (by decide +kernel) ?_
  refine J_aload_n dX12_feed_73 rfl rfl ?_
  refine J_get (v := .ref 105) dX12_feed_74 fl_X12_37 hk98 rfl ?_
  refine J_iload dX12_feed_77 rfl ?_
  refine J_iconst (v := 4) dX12_feed_79 (by decide) ?_
  refine J_idiv (z := 1) dX12_feed_80 (by decide) (by decide +kernel) ?_
  refine J_iald (i2 := 1) (v := a2) dX12_feed_81 rfl rfl (jin (by decide +kernel)) (by decide +kernel) rfl ?_
  refine J_bipush (v := 24) dX12_feed_82 (by decide +kernel) ?_
  refine J_bipush (v := 8) dX12_feed_84 (by decide +kernel) ?_
  refine J_iload dX12_feed_86 rfl ?_
  refine J_iconst (v := 4) dX12_feed_88 (by decide) ?_
  refine J_irem (z := 0) dX12_feed_89 (by decide) (by decide +kernel) ?_
  refine J_imul (z := 0) dX12_feed_90 (by decide +kernel) ?_
  refine J_isub (z := 24) dX12_feed_91 (by decide +kernel) ?_
  refine J_ishr (z := (a2 >>> (24 &&& 31))) dX12_feed_92 rfl ?_
  refine J_i2b (z := (a2 >>> (24 &&& 31)).toInt8.toInt32) dX12_feed_93 rfl ?_
  refine K_bast (i2 := 4) (y := (a2 >>> (24 &&& 31)).toInt8.toInt32.toInt8.toInt32) dX12_feed_94 rfl rfl (jin (by decide +kernel)) (by decide +kernel) rfl ?_
  refine J_iinc (v := 5) dX12_feed_95 rfl (by decide +kernel) (Nat.le_of_ble_eq_true rfl) rfl ?_
  refine J_ls (ls2 := [some (.ref 98), some (.int a1), some (.int a2), some (.int a3), some (.int a4), some (.int a5), some (.int 5)]) rfl ?_
  refine J_goto (tgt := 55) dX12_feed_98 (by decide) ?_
  refine J_iload dX12_feed_55 rfl ?_
  refine J_bipush (v := 20) dX12_feed_57 (by decide +kernel) ?_
  refine J_icmp_ge (tgt := 101) dX12_feed_59 (by decide) (fun q => absurd q (by decide +kernel)) (fun _ => ?_)
  refine J_aload_n dX12_feed_62 rfl rfl ?_
  refine J_get (v := .ref 104) dX12_feed_63 fl_X12_34 hk98 rfl ?_
  refine J_aload_n dX12_feed_66 rfl rfl ?_
  refine J_get (v := .int 0) dX12_feed_67 fl_X12_156 hk98 rfl ?_
  refine J_iload dX12_feed_70 rfl ?_
  refine J_iadd (z := 5) dX12_feed_72 (by decide +kernel) ?_
  refine J_aload_n dX12_feed_73 rfl rfl ?_
  refine J_get (v := .ref 105) dX12_feed_74 fl_X12_37 hk98 rfl ?_
  refine J_iload dX12_feed_77 rfl ?_
  refine J_iconst (v := 4) dX12_feed_79 (by decide) ?_
  refine J_idiv (z := 1) dX12_feed_80 (by decide) (by decide +kernel) ?_
  refine J_iald (i2 := 1) (v := a2) dX12_feed_81 rfl rfl (jin (by decide +kernel)) (by decide +kernel) rfl ?_
  refine J_bipush (v := 24) dX12_feed_82 (by decide +kernel) ?_
  refine J_bipush (v := 8) dX12_feed_84 (by decide +kernel) ?_
  refine J_iload dX12_feed_86 rfl ?_
  refine J_iconst (v := 4) dX12_feed_88 (by decide) ?_
  refine J_irem (z := 1) dX12_feed_89 (by decide) (by decide +kernel) ?_
  refine J_imul (z := 8) dX12_feed_90 (by decide +kernel) ?_
  refine J_isub (z := 16) dX12_feed_91 (by decide +kernel) ?_
  refine J_ishr (z := (a2 >>> (16 &&& 31))) dX12_feed_92 rfl ?_
  refine J_i2b (z := (a2 >>> (16 &&& 31)).toInt8.toInt32) dX12_feed_93 rfl ?_
  refine K_bast (i2 := 5) (y := (a2 >>> (16 &&& 31)).toInt8.toInt32.toInt8.toInt32) dX12_feed_94 rfl rfl (jin (by decide +kernel)) (by decide +kernel) rfl ?_
  refine J_iinc (v := 6) dX12_feed_95 rfl (by decide +kernel) (Nat.le_of_ble_eq_true rfl) rfl ?_
  refine J_ls (ls2 := [some (.ref 98), some (.int a1), some (.int a2), some (.int a3), some (.int a4), some (.int a5), some (.int 6)]) rfl ?_
  refine J_goto (tgt := 55) dX12_feed_98 (by decide) ?_
  refine J_iload dX12_feed_55 rfl ?_
  refine J_bipush (v := 20) dX12_feed_57 (by decide +kernel) ?_
  refine J_icmp_ge (tgt := 101) dX12_feed_59 (by decide) (fun q => absurd q (by decide +kernel)) (fun _ => ?_)
  refine J_aload_n dX12_feed_62 rfl rfl ?_
  refine J_get (v := .ref 104) dX12_feed_63 fl_X12_34 hk98 rfl ?_
  refine J_aload_n dX12_feed_66 rfl rfl ?_
  refine J_get (v := .int 0) dX12_feed_67 fl_X12_156 hk98 rfl ?_
  refine J_iload dX12_feed_70 rfl ?_
  refine J_iadd (z := 6) dX12_feed_72 (by decide +kernel) ?_
  refine J_aload_n dX12_feed_73 rfl rfl ?_
  refine J_get (v := .ref 105) dX12_feed_74 fl_X12_37 hk98 rfl ?_
  refine J_iload dX12_feed_77 rfl ?_
  refine J_iconst (v := 4) dX12_feed_79 (by decide) ?_
  refine J_idiv (z := 1) dX12_feed_80 (by decide) (by decide +kernel) ?_
  refine J_iald (i2 := 1) (v := a2) dX12_feed_81 rfl rfl (jin (by decide +kernel)) (by decide +kernel) rfl ?_
  refine J_bipush (v := 24) dX12_feed_82 (by decide +kernel) ?_
  refine J_bipush (v := 8) dX12_feed_84 (by decide +kernel) ?_
  refine J_iload dX12_feed_86 rfl ?_
  refine J_iconst (v := 4) dX12_feed_88 (by decide) ?_
  refine J_irem (z := 2) dX12_feed_89 (by decide) (by decide +kernel) ?_
  refine J_imul (z := 16) dX12_feed_90 (by decide +kernel) ?_
  refine J_isub (z := 8) dX12_feed_91 (by decide +kernel) ?_
  refine J_ishr (z := (a2 >>> (8 &&& 31))) dX12_feed_92 rfl ?_
  refine J_i2b (z := (a2 >>> (8 &&& 31)).toInt8.toInt32) dX12_feed_93 rfl ?_
  refine K_bast (i2 := 6) (y := (a2 >>> (8 &&& 31)).toInt8.toInt32.toInt8.toInt32) dX12_feed_94 rfl rfl (jin (by decide +kernel)) (by decide +kernel) rfl ?_
  refine J_iinc (v := 7) dX12_feed_95 rfl (by decide +kernel) (Nat.le_of_ble_eq_true rfl) rfl ?_
  refine J_ls (ls2 := [some (.ref 98), some (.int a1), some (.int a2), some (.int a3), some (.int a4), some (.int a5), some (.int 7)]) rfl ?_
  refine J_goto (tgt := 55) dX12_feed_98 (by decide) ?_
  refine J_iload dX12_feed_55 rfl ?_
  refine J_bipush (v := 20) dX12_feed_57 (by decide +kernel) ?_
  refine J_icmp_ge (tgt := 101) dX12_feed_59 (by decide) (fun q => absurd q (by decide +kernel)) (fun _ => ?_)
  refine J_aload_n dX12_feed_62 rfl rfl ?_
  refine J_get (v := .ref 104) dX12_feed_63 fl_X12_34 hk98 rfl ?_
  refine J_aload_n dX12_feed_66 rfl rfl ?_
  refine J_get (v := .int 0) dX12_feed_67 fl_X12_156 hk98 rfl ?_
  refine J_iload dX12_feed_70 rfl ?_
  refine J_iadd (z := 7) dX12_feed_72 (by decide +kernel) ?_
  refine J_aload_n dX12_feed_73 rfl rfl ?_
  refine J_get (v := .ref 105) dX12_feed_74 fl_X12_37 hk98 rfl ?_
  refine J_iload dX12_feed_77 rfl ?_
  refine J_iconst (v := 4) dX12_feed_79 (by decide) ?_
  refine J_idiv (z := 1) dX12_feed_80 (by decide) (by decide +kernel) ?_
  refine J_iald (i2 := 1) (v := a2) dX12_feed_81 rfl rfl (jin (by decide +kernel)) (by decide +kernel) rfl ?_
  refine J_bipush (v := 24) dX12_feed_82 (by decide +kernel) ?_
  refine J_bipush (v := 8) dX12_feed_84 (by decide +kernel) ?_
  refine J_iload dX12_feed_86 rfl ?_
  refine J_iconst (v := 4) dX12_feed_88 (by decide) ?_
  refine J_irem (z := 3) dX12_feed_89 (by decide) (by decide +kernel) ?_
  refine J_imul (z := 24) dX12_feed_90 (by decide +kernel) ?_
  refine J_isub (z := 0) dX12_feed_91 (by decide +kernel) ?_
  refine J_ishr (z := (a2 >>> (0 &&& 31))) dX12_feed_92 rfl ?_
  refine J_i2b (z := (a2 >>> (0 &&& 31)).toInt8.toInt32) dX12_feed_93 rfl ?_
  refine K_bast (i2 := 7) (y := (a2 >>> (0 &&& 31)).toInt8.toInt32.toInt8.toInt32) dX12_feed_94 rfl rfl (jin (by decide +kernel)) (by decide +kernel) rfl ?_
  refine J_iinc (v := 8) dX12_feed_95 rfl (by decide +kernel) (Nat.le_of_ble_eq_true rfl) rfl ?_
  refine J_ls (ls2 := [some (.ref 98), some (.int a1), some (.int a2), some (.int a3), some (.int a4), some (.int a5), some (.int 8)]) rfl ?_
  refine J_goto (tgt := 55) dX12_feed_98 (by decide) ?_
  refine J_iload dX12_feed_55 rfl ?_
  refine J_bipush (v := 20) dX12_feed_57 (by decide +kernel) ?_
  refine J_icmp_ge (tgt := 101) dX12_feed_59 (by decide) (fun q => absurd q (by decide +kernel)) (fun _ => ?_)
  refine J_aload_n dX12_feed_62 rfl rfl ?_
  refine J_get (v := .ref 104) dX12_feed_63 fl_X12_34 hk98 rfl ?_
  refine J_aload_n dX12_feed_66 rfl rfl ?_
  refine J_get (v := .int 0) dX12_feed_67 fl_X12_156 hk98 rfl ?_
  refine J_iload dX12_feed_70 rfl ?_
  refine J_iadd (z := 8) dX12_feed_72 (by decide +kernel) ?_
  refine J_aload_n dX12_feed_73 rfl rfl ?_
  refine J_get (v := .ref 105) dX12_feed_74 fl_X12_37 hk98 rfl ?_
  refine J_iload dX12_feed_77 rfl ?_
  refine J_iconst (v := 4) dX12_feed_79 (by decide) ?_
  refine J_idiv (z := 2) dX12_feed_80 (by decide) (by decide +kernel) ?_
  refine J_iald (i2 := 2) (v := a3) dX12_feed_81 rfl rfl (jin (by decide +kernel)) (by decide +kernel) rfl ?_
  refine J_bipush (v := 24) dX12_feed_82 (by decide +kernel) ?_
  refine J_bipush (v := 8) dX12_feed_84 (by decide +kernel) ?_
  refine J_iload dX12_feed_86 rfl ?_
  refine J_iconst (v := 4) dX12_feed_88 (by decide) ?_
  refine J_irem (z := 0) dX12_feed_89 (by decide) (by decide +kernel) ?_
  refine J_imul (z := 0) dX12_feed_90 (by decide +kernel) ?_
  refine J_isub (z := 24) dX12_feed_91 (by decide +kernel) ?_
  refine J_ishr (z := (a3 >>> (24 &&& 31))) dX12_feed_92 rfl ?_
  refine J_i2b (z := (a3 >>> (24 &&& 31)).toInt8.toInt32) dX12_feed_93 rfl ?_
  refine K_bast (i2 := 8) (y := (a3 >>> (24 &&& 31)).toInt8.toInt32.toInt8.toInt32) dX12_feed_94 rfl rfl (jin (by decide +kernel)) (by decide +kernel) rfl ?_
  refine J_iinc (v := 9) dX12_feed_95 rfl (by decide +kernel) (Nat.le_of_ble_eq_true rfl) rfl ?_
  refine J_ls (ls2 := [some (.ref 98), some (.int a1), some (.int a2), some (.int a3), some (.int a4), some (.int a5), some (.int 9)]) rfl ?_
  refine J_goto (tgt := 55) dX12_feed_98 (by decide) ?_
  refine J_iload dX12_feed_55 rfl ?_
  refine J_bipush (v := 20) dX12_feed_57 (by decide +kernel) ?_
  refine J_icmp_ge (tgt := 101) dX12_feed_59 (by decide) (fun q => absurd q (by decide +kernel)) (fun _ => ?_)
  refine J_aload_n dX12_feed_62 rfl rfl ?_
  refine J_get (v := .ref 104) dX12_feed_63 fl_X12_34 hk98 rfl ?_
  refine J_aload_n dX12_feed_66 rfl rfl ?_
  refine J_get (v := .int 0) dX12_feed_67 fl_X12_156 hk98 rfl ?_
  refine J_iload dX12_feed_70 rfl ?_
  refine J_iadd (z := 9) dX12_feed_72 (by decide +kernel) ?_
  refine J_aload_n dX12_feed_73 rfl rfl ?_
  refine J_get (v := .ref 105) dX12_feed_74 fl_X12_37 hk98 rfl ?_
  refine J_iload dX12_feed_77 rfl ?_
  refine J_iconst (v := 4) dX12_feed_79 (by decide) ?_
  refine J_idiv (z := 2) dX12_feed_80 (by decide) (by decide +kernel) ?_
  refine J_iald (i2 := 2) (v := a3) dX12_feed_81 rfl rfl (jin (by decide +kernel)) (by decide +kernel) rfl ?_
  refine J_bipush (v := 24) dX12_feed_82 (by decide +kernel) ?_
  refine J_bipush (v := 8) dX12_feed_84 (by decide +kernel) ?_
  refine J_iload dX12_feed_86 rfl ?_
  refine J_iconst (v := 4) dX12_feed_88 (by decide) ?_
  refine J_irem (z := 1) dX12_feed_89 (by decide) (by decide +kernel) ?_
  refine J_imul (z := 8) dX12_feed_90 (by decide +kernel) ?_
  refine J_isub (z := 16) dX12_feed_91 (by decide +kernel) ?_
  refine J_ishr (z := (a3 >>> (16 &&& 31))) dX12_feed_92 rfl ?_
  refine J_i2b (z := (a3 >>> (16 &&& 31)).toInt8.toInt32) dX12_feed_93 rfl ?_
  refine K_bast (i2 := 9) (y := (a3 >>> (16 &&& 31)).toInt8.toInt32.toInt8.toInt32) dX12_feed_94 rfl rfl (jin (by decide +kernel)) (by decide +kernel) rfl ?_
  refine J_iinc (v := 10) dX12_feed_95 rfl (by decide +kernel) (Nat.le_of_ble_eq_true rfl) rfl ?_
  refine J_ls (ls2 := [some (.ref 98), some (.int a1), some (.int a2), some (.int a3), some (.int a4), some (.int a5), some (.int 10)]) rfl ?_
  refine J_goto (tgt := 55) dX12_feed_98 (by decide) ?_
  refine J_iload dX12_feed_55 rfl ?_
  refine J_bipush (v := 20) dX12_feed_57 (by decide +kernel) ?_
  refine J_icmp_ge (tgt := 101) dX12_feed_59 (by decide) (fun q => absurd q (by decide +kernel)) (fun _ => ?_)
  refine J_aload_n dX12_feed_62 rfl rfl ?_
  refine J_get (v := .ref 104) dX12_feed_63 fl_X12_34 hk98 rfl ?_
  refine J_aload_n dX12_feed_66 rfl rfl ?_
  refine J_get (v := .int 0) dX12_feed_67 fl_X12_156 hk98 rfl ?_
  refine J_iload dX12_feed_70 rfl ?_
  refine J_iadd (z := 10) dX12_feed_72 (by decide +kernel) ?_
  refine J_aload_n dX12_feed_73 rfl rfl ?_
  refine J_get (v := .ref 105) dX12_feed_74 fl_X12_37 hk98 rfl ?_
  refine J_iload dX12_feed_77 rfl ?_
  refine J_iconst (v := 4) dX12_feed_79 (by decide) ?_
  refine J_idiv (z := 2) dX12_feed_80 (by decide) (by decide +kernel) ?_
  refine J_iald (i2 := 2) (v := a3) dX12_feed_81 rfl rfl (jin (by decide +kernel)) (by decide +kernel) rfl ?_
  refine J_bipush (v := 24) dX12_feed_82 (by decide +kernel) ?_
  refine J_bipush (v := 8) dX12_feed_84 (by decide +kernel) ?_
  refine J_iload dX12_feed_86 rfl ?_
  refine J_iconst (v := 4) dX12_feed_88 (by decide) ?_
  refine J_irem (z := 2) dX12_feed_89 (by decide) (by decide +kernel) ?_
  refine J_imul (z := 16) dX12_feed_90 (by decide +kernel) ?_
  refine J_isub (z := 8) dX12_feed_91 (by decide +kernel) ?_
  refine J_ishr (z := (a3 >>> (8 &&& 31))) dX12_feed_92 rfl ?_
  refine J_i2b (z := (a3 >>> (8 &&& 31)).toInt8.toInt32) dX12_feed_93 rfl ?_
  refine K_bast (i2 := 10) (y := (a3 >>> (8 &&& 31)).toInt8.toInt32.toInt8.toInt32) dX12_feed_94 rfl rfl (jin (by decide +kernel)) (by decide +kernel) rfl ?_
  refine J_iinc (v := 11) dX12_feed_95 rfl (by decide +kernel) (Nat.le_of_ble_eq_true rfl) rfl ?_
  refine J_ls (ls2 := [some (.ref 98), some (.int a1), some (.int a2), some (.int a3), some (.int a4), some (.int a5), some (.int 11)]) rfl ?_
  refine J_goto (tgt := 55) dX12_feed_98 (by decide) ?_
  refine J_iload dX12_feed_55 rfl ?_
  refine J_bipush (v := 20) dX12_feed_57 (by decide +kernel) ?_
  refine J_icmp_ge (tgt := 101) dX12_feed_59 (by decide) (fun q => absurd q (by decide +kernel)) (fun _ => ?_)
  refine J_aload_n dX12_feed_62 rfl rfl ?_
  refine J_get (v := .ref 104) dX12_feed_63 fl_X12_34 hk98 rfl ?_
  refine J_aload_n dX12_feed_66 rfl rfl ?_
  refine J_get (v := .int 0) dX12_feed_67 fl_X12_156 hk98 rfl ?_
  refine J_iload dX12_feed_70 rfl ?_
  refine J_iadd (z := 11) dX12_feed_72 (by decide +kernel) ?_
  refine J_aload_n dX12_feed_73 rfl rfl ?_
  refine J_get (v := .ref 105) dX12_feed_74 fl_X12_37 hk98 rfl ?_
  refine J_iload dX12_feed_77 rfl ?_
  refine J_iconst (v := 4) dX12_feed_79 (by decide) ?_
  refine J_idiv (z := 2) dX12_feed_80 (by decide) (by decide +kernel) ?_
  refine J_iald (i2 := 2) (v := a3) dX12_feed_81 rfl rfl (jin (by decide +kernel)) (by decide +kernel) rfl ?_
  refine J_bipush (v := 24) dX12_feed_82 (by decide +kernel) ?_
  refine J_bipush (v := 8) dX12_feed_84 (by decide +kernel) ?_
  refine J_iload dX12_feed_86 rfl ?_
  refine J_iconst (v := 4) dX12_feed_88 (by decide) ?_
  refine J_irem (z := 3) dX12_feed_89 (by decide) (by decide +kernel) ?_
  refine J_imul (z := 24) dX12_feed_90 (by decide +kernel) ?_
  refine J_isub (z := 0) dX12_feed_91 (by decide +kernel) ?_
  refine J_ishr (z := (a3 >>> (0 &&& 31))) dX12_feed_92 rfl ?_
  refine J_i2b (z := (a3 >>> (0 &&& 31)).toInt8.toInt32) dX12_feed_93 rfl ?_
  refine K_bast (i2 := 11) (y := (a3 >>> (0 &&& 31)).toInt8.toInt32.toInt8.toInt32) dX12_feed_94 rfl rfl (jin (by decide +kernel)) (by decide +kernel) rfl ?_
  refine J_iinc (v := 12) dX12_feed_95 rfl (by decide +kernel) (Nat.le_of_ble_eq_true rfl) rfl ?_
  refine J_ls (ls2 := [some (.ref 98), some (.int a1), some (.int a2), some (.int a3), some (.int a4), some (.int a5), some (.int 12)]) rfl ?_
  refine J_goto (tgt := 55) dX12_feed_98 (by decide) ?_
  refine J_iload dX12_feed_55 rfl ?_
  refine J_bipush (v := 20) dX12_feed_57 (by decide +kernel) ?_
  refine J_icmp_ge (tgt := 101) dX12_feed_59 (by decide) (fun q => absurd q (by decide +kernel)) (fun _ => ?_)
  refine J_aload_n dX12_feed_62 rfl rfl ?_
  refine J_get (v := .ref 104) dX12_feed_63 fl_X12_34 hk98 rfl ?_
  refine J_aload_n dX12_feed_66 rfl rfl ?_
  refine J_get (v := .int 0) dX12_feed_67 fl_X12_156 hk98 rfl ?_
  refine J_iload dX12_feed_70 rfl ?_
  refine J_iadd (z := 12) dX12_feed_72 (by decide +kernel) ?_
  refine J_aload_n dX12_feed_73 rfl rfl ?_
  refine J_get (v := .ref 105) dX12_feed_74 fl_X12_37 hk98 rfl ?_
  refine J_iload dX12_feed_77 rfl ?_
  refine J_iconst (v := 4) dX12_feed_79 (by decide) ?_
  refine J_idiv (z := 3) dX12_feed_80 (by decide) (by decide +kernel) ?_
  refine J_iald (i2 := 3) (v := a4) dX12_feed_81 rfl rfl (jin (by decide +kernel)) (by decide +kernel) rfl ?_
  refine J_bipush (v := 24) dX12_feed_82 (by decide +kernel) ?_
  refine J_bipush (v := 8) dX12_feed_84 (by decide +kernel) ?_
  refine J_iload dX12_feed_86 rfl ?_
  refine J_iconst (v := 4) dX12_feed_88 (by decide) ?_
  refine J_irem (z := 0) dX12_feed_89 (by decide) (by decide +kernel) ?_
  refine J_imul (z := 0) dX12_feed_90 (by decide +kernel) ?_
  refine J_isub (z := 24) dX12_feed_91 (by decide +kernel) ?_
  refine J_ishr (z := (a4 >>> (24 &&& 31))) dX12_feed_92 rfl ?_
  refine J_i2b (z := (a4 >>> (24 &&& 31)).toInt8.toInt32) dX12_feed_93 rfl ?_
  refine K_bast (i2 := 12) (y := (a4 >>> (24 &&& 31)).toInt8.toInt32.toInt8.toInt32) dX12_feed_94 rfl rfl (jin (by decide +kernel)) (by decide +kernel) rfl ?_
  refine J_iinc (v := 13) dX12_feed_95 rfl (by decide +kernel) (Nat.le_of_ble_eq_true rfl) rfl ?_
  refine J_ls (ls2 := [some (.ref 98), some (.int a1), some (.int a2), some (.int a3), some (.int a4), some (.int a5), some (.int 13)]) rfl ?_
  refine J_goto (tgt := 55) dX12_feed_98 (by decide) ?_
  refine J_iload dX12_feed_55 rfl ?_
  refine J_bipush (v := 20) dX12_feed_57 (by decide +kernel) ?_
  refine J_icmp_ge (tgt := 101) dX12_feed_59 (by decide) (fun q => absurd q (by decide +kernel)) (fun _ => ?_)
  refine J_aload_n dX12_feed_62 rfl rfl ?_
  refine J_get (v := .ref 104) dX12_feed_63 fl_X12_34 hk98 rfl ?_
  refine J_aload_n dX12_feed_66 rfl rfl ?_
  refine J_get (v := .int 0) dX12_feed_67 fl_X12_156 hk98 rfl ?_
  refine J_iload dX12_feed_70 rfl ?_
  refine J_iadd (z := 13) dX12_feed_72 (by decide +kernel) ?_
  refine J_aload_n dX12_feed_73 rfl rfl ?_
  refine J_get (v := .ref 105) dX12_feed_74 fl_X12_37 hk98 rfl ?_
  refine J_iload dX12_feed_77 rfl ?_
  refine J_iconst (v := 4) dX12_feed_79 (by decide) ?_
  refine J_idiv (z := 3) dX12_feed_80 (by decide) (by decide +kernel) ?_
  refine J_iald (i2 := 3) (v := a4) dX12_feed_81 rfl rfl (jin (by decide +kernel)) (by decide +kernel) rfl ?_
  refine J_bipush (v := 24) dX12_feed_82 (by decide +kernel) ?_
  refine J_bipush (v := 8) dX12_feed_84 (by decide +kernel) ?_
  refine J_iload dX12_feed_86 rfl ?_
  refine J_iconst (v := 4) dX12_feed_88 (by decide) ?_
  refine J_irem (z := 1) dX12_feed_89 (by decide) (by decide +kernel) ?_
  refine J_imul (z := 8) dX12_feed_90 (by decide +kernel) ?_
  refine J_isub (z := 16) dX12_feed_91 (by decide +kernel) ?_
  refine J_ishr (z := (a4 >>> (16 &&& 31))) dX12_feed_92 rfl ?_
  refine J_i2b (z := (a4 >>> (16 &&& 31)).toInt8.toInt32) dX12_feed_93 rfl ?_
  refine K_bast (i2 := 13) (y := (a4 >>> (16 &&& 31)).toInt8.toInt32.toInt8.toInt32) dX12_feed_94 rfl rfl (jin (by decide +kernel)) (by decide +kernel) rfl ?_
  refine J_iinc (v := 14) dX12_feed_95 rfl (by decide +kernel) (Nat.le_of_ble_eq_true rfl) rfl ?_
  refine J_ls (ls2 := [some (.ref 98), some (.int a1), some (.int a2), some (.int a3), some (.int a4), some (.int a5), some (.int 14)]) rfl ?_
  refine J_goto (tgt := 55) dX12_feed_98 (by decide) ?_
  refine J_iload dX12_feed_55 rfl ?_
  refine J_bipush (v := 20) dX12_feed_57 (by decide +kernel) ?_
  refine J_icmp_ge (tgt := 101) dX12_feed_59 (by decide) (fun q => absurd q (by decide +kernel)) (fun _ => ?_)
  refine J_aload_n dX12_feed_62 rfl rfl ?_
  refine J_get (v := .ref 104) dX12_feed_63 fl_X12_34 hk98 rfl ?_
  refine J_aload_n dX12_feed_66 rfl rfl ?_
  refine J_get (v := .int 0) dX12_feed_67 fl_X12_156 hk98 rfl ?_
  refine J_iload dX12_feed_70 rfl ?_
  refine J_iadd (z := 14) dX12_feed_72 (by decide +kernel) ?_
  refine J_aload_n dX12_feed_73 rfl rfl ?_
  refine J_get (v := .ref 105) dX12_feed_74 fl_X12_37 hk98 rfl ?_
  refine J_iload dX12_feed_77 rfl ?_
  refine J_iconst (v := 4) dX12_feed_79 (by decide) ?_
  refine J_idiv (z := 3) dX12_feed_80 (by decide) (by decide +kernel) ?_
  refine J_iald (i2 := 3) (v := a4) dX12_feed_81 rfl rfl (jin (by decide +kernel)) (by decide +kernel) rfl ?_
  refine J_bipush (v := 24) dX12_feed_82 (by decide +kernel) ?_
  refine J_bipush (v := 8) dX12_feed_84 (by decide +kernel) ?_
  refine J_iload dX12_feed_86 rfl ?_
  refine J_iconst (v := 4) dX12_feed_88 (by decide) ?_
  refine J_irem (z := 2) dX12_feed_89 (by decide) (by decide +kernel) ?_
  refine J_imul (z := 16) dX12_feed_90 (by decide +kernel) ?_
  refine J_isub (z := 8) dX12_feed_91 (by decide +kernel) ?_
  refine J_ishr (z := (a4 >>> (8 &&& 31))) dX12_feed_92 rfl ?_
  refine J_i2b (z := (a4 >>> (8 &&& 31)).toInt8.toInt32) dX12_feed_93 rfl ?_
  refine K_bast (i2 := 14) (y := (a4 >>> (8 &&& 31)).toInt8.toInt32.toInt8.toInt32) dX12_feed_94 rfl rfl (jin (by decide +kernel)) (by decide +kernel) rfl ?_
  refine J_iinc (v := 15) dX12_feed_95 rfl (by decide +kernel) (Nat.le_of_ble_eq_true rfl) rfl ?_
  refine J_ls (ls2 := [some (.ref 98), some (.int a1), some (.int a2), some (.int a3), some (.int a4), some (.int a5), some (.int 15)]) rfl ?_
  refine J_goto (tgt := 55) dX12_feed_98 (by decide) ?_
  refine J_iload dX12_feed_55 rfl ?_
  refine J_bipush (v := 20) dX12_feed_57 (by decide +kernel) ?_
  refine J_icmp_ge (tgt := 101) dX12_feed_59 (by decide) (fun q => absurd q (by decide +kernel)) (fun _ => ?_)
  refine J_aload_n dX12_feed_62 rfl rfl ?_
  refine J_get (v := .ref 104) dX12_feed_63 fl_X12_34 hk98 rfl ?_
  refine J_aload_n dX12_feed_66 rfl rfl ?_
  refine J_get (v := .int 0) dX12_feed_67 fl_X12_156 hk98 rfl ?_
  refine J_iload dX12_feed_70 rfl ?_
  refine J_iadd (z := 15) dX12_feed_72 (by decide +kernel) ?_
  refine J_aload_n dX12_feed_73 rfl rfl ?_
  refine J_get (v := .ref 105) dX12_feed_74 fl_X12_37 hk98 rfl ?_
  refine J_iload dX12_feed_77 rfl ?_
  refine J_iconst (v := 4) dX12_feed_79 (by decide) ?_
  refine J_idiv (z := 3) dX12_feed_80 (by decide) (by decide +kernel) ?_
  refine J_iald (i2 := 3) (v := a4) dX12_feed_81 rfl rfl (jin (by decide +kernel)) (by decide +kernel) rfl ?_
  refine J_bipush (v := 24) dX12_feed_82 (by decide +kernel) ?_
  refine J_bipush (v := 8) dX12_feed_84 (by decide +kernel) ?_
  refine J_iload dX12_feed_86 rfl ?_
  refine J_iconst (v := 4) dX12_feed_88 (by decide) ?_
  refine J_irem (z := 3) dX12_feed_89 (by decide) (by decide +kernel) ?_
  refine J_imul (z := 24) dX12_feed_90 (by decide +kernel) ?_
  refine J_isub (z := 0) dX12_feed_91 (by decide +kernel) ?_
  refine J_ishr (z := (a4 >>> (0 &&& 31))) dX12_feed_92 rfl ?_
  refine J_i2b (z := (a4 >>> (0 &&& 31)).toInt8.toInt32) dX12_feed_93 rfl ?_
  refine K_bast (i2 := 15) (y := (a4 >>> (0 &&& 31)).toInt8.toInt32.toInt8.toInt32) dX12_feed_94 rfl rfl (jin (by decide +kernel)) (by decide +kernel) rfl ?_
  refine J_iinc (v := 16) dX12_feed_95 rfl (by decide +kernel) (Nat.le_of_ble_eq_true rfl) rfl ?_
  refine J_ls (ls2 := [some (.ref 98), some (.int a1), some (.int a2), some (.int a3), some (.int a4), some (.int a5), some (.int 16)]) rfl ?_
  refine J_goto (tgt := 55) dX12_feed_98 (by decide) ?_
  refine J_iload dX12_feed_55 rfl ?_
  refine J_bipush (v := 20) dX12_feed_57 (by decide +kernel) ?_
  refine J_icmp_ge (tgt := 101) dX12_feed_59 (by decide) (fun q => absurd q (by decide +kernel)) (fun _ => ?_)
  refine J_aload_n dX12_feed_62 rfl rfl ?_
  refine J_get (v := .ref 104) dX12_feed_63 fl_X12_34 hk98 rfl ?_
  refine J_aload_n dX12_feed_66 rfl rfl ?_
  refine J_get (v := .int 0) dX12_feed_67 fl_X12_156 hk98 rfl ?_
  refine J_iload dX12_feed_70 rfl ?_
  refine J_iadd (z := 16) dX12_feed_72 (by decide +kernel) ?_
  refine J_aload_n dX12_feed_73 rfl rfl ?_
  refine J_get (v := .ref 105) dX12_feed_74 fl_X12_37 hk98 rfl ?_
  refine J_iload dX12_feed_77 rfl ?_
  refine J_iconst (v := 4) dX12_feed_79 (by decide) ?_
  refine J_idiv (z := 4) dX12_feed_80 (by decide) (by decide +kernel) ?_
  refine J_iald (i2 := 4) (v := a5) dX12_feed_81 rfl rfl (jin (by decide +kernel)) (by decide +kernel) rfl ?_
  refine J_bipush (v := 24) dX12_feed_82 (by decide +kernel) ?_
  refine J_bipush (v := 8) dX12_feed_84 (by decide +kernel) ?_
  refine J_iload dX12_feed_86 rfl ?_
  refine J_iconst (v := 4) dX12_feed_88 (by decide) ?_
  refine J_irem (z := 0) dX12_feed_89 (by decide) (by decide +kernel) ?_
  refine J_imul (z := 0) dX12_feed_90 (by decide +kernel) ?_
  refine J_isub (z := 24) dX12_feed_91 (by decide +kernel) ?_
  refine J_ishr (z := (a5 >>> (24 &&& 31))) dX12_feed_92 rfl ?_
  refine J_i2b (z := (a5 >>> (24 &&& 31)).toInt8.toInt32) dX12_feed_93 rfl ?_
  refine K_bast (i2 := 16) (y := (a5 >>> (24 &&& 31)).toInt8.toInt32.toInt8.toInt32) dX12_feed_94 rfl rfl (jin (by decide +kernel)) (by decide +kernel) rfl ?_
  refine J_iinc (v := 17) dX12_feed_95 rfl (by decide +kernel) (Nat.le_of_ble_eq_true rfl) rfl ?_
  refine J_ls (ls2 := [some (.ref 98), some (.int a1), some (.int a2), some (.int a3), some (.int a4), some (.int a5), some (.int 17)]) rfl ?_
  refine J_goto (tgt := 55) dX12_feed_98 (by decide) ?_
  refine J_iload dX12_feed_55 rfl ?_
  refine J_bipush (v := 20) dX12_feed_57 (by decide +kernel) ?_
  refine J_icmp_ge (tgt := 101) dX12_feed_59 (by decide) (fun q => absurd q (by decide +kernel)) (fun _ => ?_)
  refine J_aload_n dX12_feed_62 rfl rfl ?_
  refine J_get (v := .ref 104) dX12_feed_63 fl_X12_34 hk98 rfl ?_
  refine J_aload_n dX12_feed_66 rfl rfl ?_
  refine J_get (v := .int 0) dX12_feed_67 fl_X12_156 hk98 rfl ?_
  refine J_iload dX12_feed_70 rfl ?_
  refine J_iadd (z := 17) dX12_feed_72 (by decide +kernel) ?_
  refine J_aload_n dX12_feed_73 rfl rfl ?_
  refine J_get (v := .ref 105) dX12_feed_74 fl_X12_37 hk98 rfl ?_
  refine J_iload dX12_feed_77 rfl ?_
  refine J_iconst (v := 4) dX12_feed_79 (by decide) ?_
  refine J_idiv (z := 4) dX12_feed_80 (by decide) (by decide +kernel) ?_
  refine J_iald (i2 := 4) (v := a5) dX12_feed_81 rfl rfl (jin (by decide +kernel)) (by decide +kernel) rfl ?_
  refine J_bipush (v := 24) dX12_feed_82 (by decide +kernel) ?_
  refine J_bipush (v := 8) dX12_feed_84 (by decide +kernel) ?_
  refine J_iload dX12_feed_86 rfl ?_
  refine J_iconst (v := 4) dX12_feed_88 (by decide) ?_
  refine J_irem (z := 1) dX12_feed_89 (by decide) (by decide +kernel) ?_
  refine J_imul (z := 8) dX12_feed_90 (by decide +kernel) ?_
  refine J_isub (z := 16) dX12_feed_91 (by decide +kernel) ?_
  refine J_ishr (z := (a5 >>> (16 &&& 31))) dX12_feed_92 rfl ?_
  refine J_i2b (z := (a5 >>> (16 &&& 31)).toInt8.toInt32) dX12_feed_93 rfl ?_
  refine K_bast (i2 := 17) (y := (a5 >>> (16 &&& 31)).toInt8.toInt32.toInt8.toInt32) dX12_feed_94 rfl rfl (jin (by decide +kernel)) (by decide +kernel) rfl ?_
  refine J_iinc (v := 18) dX12_feed_95 rfl (by decide +kernel) (Nat.le_of_ble_eq_true rfl) rfl ?_
  refine J_ls (ls2 := [some (.ref 98), some (.int a1), some (.int a2), some (.int a3), some (.int a4), some (.int a5), some (.int 18)]) rfl ?_
  refine J_goto (tgt := 55) dX12_feed_98 (by decide) ?_
  refine J_iload dX12_feed_55 rfl ?_
  refine J_bipush (v := 20) dX12_feed_57 (by decide +kernel) ?_
  refine J_icmp_ge (tgt := 101) dX12_feed_59 (by decide) (fun q => absurd q (by decide +kernel)) (fun _ => ?_)
  refine J_aload_n dX12_feed_62 rfl rfl ?_
  refine J_get (v := .ref 104) dX12_feed_63 fl_X12_34 hk98 rfl ?_
  refine J_aload_n dX12_feed_66 rfl rfl ?_
  refine J_get (v := .int 0) dX12_feed_67 fl_X12_156 hk98 rfl ?_
  refine J_iload dX12_feed_70 rfl ?_
  refine J_iadd (z := 18) dX12_feed_72 (by decide +kernel) ?_
  refine J_aload_n dX12_feed_73 rfl rfl ?_
  refine J_get (v := .ref 105) dX12_feed_74 fl_X12_37 hk98 rfl ?_
  refine J_iload dX12_feed_77 rfl ?_
  refine J_iconst (v := 4) dX12_feed_79 (by decide) ?_
  refine J_idiv (z := 4) dX12_feed_80 (by decide) (by decide +kernel) ?_
  refine J_iald (i2 := 4) (v := a5) dX12_feed_81 rfl rfl (jin (by decide +kernel)) (by decide +kernel) rfl ?_
  refine J_bipush (v := 24) dX12_feed_82 (by decide +kernel) ?_
  refine J_bipush (v := 8) dX12_feed_84 (by decide +kernel) ?_
  refine J_iload dX12_feed_86 rfl ?_
  refine J_iconst (v := 4) dX12_feed_88 (by decide) ?_
  refine J_irem (z := 2) dX12_feed_89 (by decide) (by decide +kernel) ?_
  refine J_imul (z := 16) dX12_feed_90 (by decide +kernel) ?_
  refine J_isub (z := 8) dX12_feed_91 (by decide +kernel) ?_
  refine J_ishr (z := (a5 >>> (8 &&& 31))) dX12_feed_92 rfl ?_
  refine J_i2b (z := (a5 >>> (8 &&& 31)).toInt8.toInt32) dX12_feed_93 rfl ?_
  refine K_bast (i2 := 18) (y := (a5 >>> (8 &&& 31)).toInt8.toInt32.toInt8.toInt32) dX12_feed_94 rfl rfl (jin (by decide +kernel)) (by decide +kernel) rfl ?_
  refine J_iinc (v := 19) dX12_feed_95 rfl (by decide +kernel) (Nat.le_of_ble_eq_true rfl) rfl ?_
  refine J_ls (ls2 := [some (.ref 98), some (.int a1), some (.int a2), some (.int a3), some (.int a4), some (.int a5), some (.int 19)]) rfl ?_
  refine J_goto (tgt := 55) dX12_feed_98 (by decide) ?_
  refine J_iload dX12_feed_55 rfl ?_
  refine J_bipush (v := 20) dX12_feed_57 (by decide +kernel) ?_
  refine J_icmp_ge (tgt := 101) dX12_feed_59 (by decide) (fun q => absurd q (by decide +kernel)) (fun _ => ?_)
  refine J_aload_n dX12_feed_62 rfl rfl ?_
  refine J_get (v := .ref 104) dX12_feed_63 fl_X12_34 hk98 rfl ?_
  refine J_aload_n dX12_feed_66 rfl rfl ?_
  refine J_get (v := .int 0) dX12_feed_67 fl_X12_156 hk98 rfl ?_
  refine J_iload dX12_feed_70 rfl ?_
  refine J_iadd (z := 19) dX12_feed_72 (by decide +kernel) ?_
  refine J_aload_n dX12_feed_73 rfl rfl ?_
  refine J_get (v := .ref 105) dX12_feed_74 fl_X12_37 hk98 rfl ?_
  refine J_iload dX12_feed_77 rfl ?_
  refine J_iconst (v := 4) dX12_feed_79 (by decide) ?_
  refine J_idiv (z := 4) dX12_feed_80 (by decide) (by decide +kernel) ?_
  refine J_iald (i2 := 4) (v := a5) dX12_feed_81 rfl rfl (jin (by decide +kernel)) (by decide +kernel) rfl ?_
  refine J_bipush (v := 24) dX12_feed_82 (by decide +kernel) ?_
  refine J_bipush (v := 8) dX12_feed_84 (by decide +kernel) ?_
  refine J_iload dX12_feed_86 rfl ?_
  refine J_iconst (v := 4) dX12_feed_88 (by decide) ?_
  refine J_irem (z := 3) dX12_feed_89 (by decide) (by decide +kernel) ?_
  refine J_imul (z := 24) dX12_feed_90 (by decide +kernel) ?_
  refine J_isub (z := 0) dX12_feed_91 (by decide +kernel) ?_
  refine J_ishr (z := (a5 >>> (0 &&& 31))) dX12_feed_92 rfl ?_
  refine J_i2b (z := (a5 >>> (0 &&& 31)).toInt8.toInt32) dX12_feed_93 rfl ?_
  refine K_bast (i2 := 19) (y := (a5 >>> (0 &&& 31)).toInt8.toInt32.toInt8.toInt32) dX12_feed_94 rfl rfl (jin (by decide +kernel)) (by decide +kernel) rfl ?_
  refine J_iinc (v := 20) dX12_feed_95 rfl (by decide +kernel) (Nat.le_of_ble_eq_true rfl) rfl ?_
  refine J_ls (ls2 := [some (.ref 98), some (.int a1), some (.int a2), some (.int a3), some (.int a4), some (.int a5), some (.int 20)]) rfl ?_
  refine J_goto (tgt := 55) dX12_feed_98 (by decide) ?_
  refine J_iload dX12_feed_55 rfl ?_
  refine J_bipush (v := 20) dX12_feed_57 (by decide +kernel) ?_
  refine J_icmp_ge (tgt := 101) dX12_feed_59 (by decide) (fun _ => ?_) (fun q => absurd (by decide +kernel) q)
  refine J_aload_n dX12_feed_101 rfl rfl ?_
  refine J_dup dX12_feed_102 rfl ?_
  refine J_get (v := .int 0) dX12_feed_103 fl_X12_156 hk98 rfl ?_
  refine J_bipush (v := 20) dX12_feed_106 (by decide +kernel) ?_
  refine J_iadd (z := 20) dX12_feed_108 (by decide +kernel) ?_
  refine K_put (fs2 := [.int 0, .int 0, .ref 99, .ref 100, .ref 101, .ref 102, .ref 103, .ref 104, .ref 105, .int 20, .int (-1), .ref 106, .ref 107, .ref 108, .int 0, .int 0, .int 0, .int 0, .int 0, .int 0, .int 0, .ref 109, .int 0, .int 0, .ref 110, .ref 111, .ref 112, .ref 113, .ref 114, .ref 115, .ref 116, .ref 117, .int 0, .int 0, .int (-1), .int (-1), .ref 118, .ref 119, .ref 120, .ref 121, .ref 122, .ref 123, .ref 124, .ref 125, .ref 126, .ref 127, .ref 128, .ref 129, .int 0, .ref 130, .ref 131, .ref 132, .ref 133, .ref 134, .int 0, .int 0]) dX12_feed_109 fw_X12_156 hk98 (Nat.le_of_ble_eq_true rfl) (fun _ => ⟨rfl, rfl⟩) rfl ?_
  refine J_aload_n dX12_feed_112 rfl rfl ?_
  refine J_get (v := .int 20) dX12_feed_113 fl_X12_156 rfl rfl ?_
  refine J_mask (L2 := [(98, .inr (12, [.int 0, .int 0, .ref 99, .ref 100, .ref 101, .ref 102, .ref 103, .ref 104, .ref 105, .int 20, .int (-1), .ref 106, .ref 107, .ref 108, .int 0, .int 0, .int 0, .int 0, .int 0, .int 0, .int 0, .ref 109, .int 0, .int 0, .ref 110, .ref 111, .ref 112, .ref 113, .ref 114, .ref 115, .ref 116, .ref 117, .int 0, .int 0, .int (-1), .int (-1), .ref 118, .ref 119, .ref 120, .ref 121, .ref 122, .ref 123, .ref 124, .ref 125, .ref 126, .ref 127, .ref 128, .ref 129, .int 0, .ref 130, .ref 131, .ref 132, .ref 133, .ref 134, .int 0, .int 0])), (104, .inl (3, 400, .inl (upd (upd (upd (upd (upd (upd (upd (upd (upd (upd (upd (upd (upd (upd (upd (upd (upd (upd (upd (upd (fun _ => 0) 0 (a1 >>> (24 &&& 31)).toInt8.toInt32.toInt8.toInt32) 1 (a1 >>> (16 &&& 31)).toInt8.toInt32.toInt8.toInt32) 2 (a1 >>> (8 &&& 31)).toInt8.toInt32.toInt8.toInt32) 3 (a1 >>> (0 &&& 31)).toInt8.toInt32.toInt8.toInt32) 4 (a2 >>> (24 &&& 31)).toInt8.toInt32.toInt8.toInt32) 5 (a2 >>> (16 &&& 31)).toInt8.toInt32.toInt8.toInt32) 6 (a2 >>> (8 &&& 31)).toInt8.toInt32.toInt8.toInt32) 7 (a2 >>> (0 &&& 31)).toInt8.toInt32.toInt8.toInt32) 8 (a3 >>> (24 &&& 31)).toInt8.toInt32.toInt8.toInt32) 9 (a3 >>> (16 &&& 31)).toInt8.toInt32.toInt8.toInt32) 10 (a3 >>> (8 &&& 31)).toInt8.toInt32.toInt8.toInt32) 11 (a3 >>> (0 &&& 31)).toInt8.toInt32.toInt8.toInt32) 12 (a4 >>> (24 &&& 31)).toInt8.toInt32.toInt8.toInt32) 13 (a4 >>> (16 &&& 31)).toInt8.toInt32.toInt8.toInt32) 14 (a4 >>> (8 &&& 31)).toInt8.toInt32.toInt8.toInt32) 15 (a4 >>> (0 &&& 31)).toInt8.toInt32.toInt8.toInt32) 16 (a5 >>> (24 &&& 31)).toInt8.toInt32.toInt8.toInt32) 17 (a5 >>> (16 &&& 31)).toInt8.toInt32.toInt8.toInt32) 18 (a5 >>> (8 &&& 31)).toInt8.toInt32.toInt8.toInt32) 19 (a5 >>> (0 &&& 31)).toInt8.toInt32.toInt8.toInt32))), (105, .inl (0, 5, .inl (upd (upd (upd (upd (upd (fun _ => 0) 0 a1) 1 a2) 2 a3) 3 a4) 4 a5)))]) (ks := [98, 104, 104, 104, 104, 104, 104, 104, 104, 104, 104, 104, 104, 104, 104, 104, 104, 104, 104, 104, 104, 105, 105, 105, 105, 105]) [true, true, false, false, false, false, false, false, false, false, false, false, false, false, false, false, false, false, false, false, false, true, false, false, false, false] rfl (by decide +kernel) rfl ?_
  exact J_iret dX12_feed_116 rfl rfl (Nat.le_of_ble_eq_true rfl) (Nat.le_of_ble_eq_true rfl) ⟨rfl, rfl⟩
