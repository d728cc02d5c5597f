/-! contracts at fresh objects: written by wip/tools/law.py -/
set_option maxHeartbeats 4000000 in
set_option maxRecDepth 100000 in
theorem c_X12_sorted_2 {l : Launch} {G : jG} {nh : Nat} {fh : Nat → Option va_E} (hk98 : fh 98 = some (.inr (12, [.int 0, .int 0, .ref 99, .ref 100, .ref 101, .ref 102, .ref 103, .ref 104, .ref 105, .int 0, .int (-1), .ref 106, .ref 107, .ref 108, .int 0, .int 0, .int 0, .int 0, .int 0, .int 0, .int 0, .ref 109, .int 0, .int 0, .ref 110, .ref 111, .ref 112, .ref 113, .ref 114, .ref 115, .ref 116, .ref 117, .int 0, .int 0, .int (-1), .int (-1), .ref 118, .ref 119, .ref 120, .ref 121, .ref 122, .ref 123, .ref 124, .ref 125, .ref 126, .ref 127, .ref 128, .ref 129, .int 0, .ref 130, .ref 131, .ref 132, .ref 133, .ref 134, .int 0, .int 0]))) (hk100 : fh 100 = some (.inl (0, 4870, .inl (upd (fun _ => 0) 63 (-1))))) (hk111 : fh 111 = some (.inl (0, 1260, .inl (fun _ => 0)))) : JM l G yX12_sorted MX12_sorted { frames := 3, cells := 0, slots := 0, locals := 69 } [.ref 98, .int 0] (nh, fh) (fun r h9 => r = some (.int 0) ∧ h9 = (nh, hc fh [(98, .inr (12, [.int 0, .int 0, .ref 99, .ref 100, .ref 101, .ref 102, .ref 103, .ref 104, .ref 105, .int 0, .int (-1), .ref 106, .ref 107, .ref 108, .int 0, .int 0, .int 0, .int 0, .int 0, .int 0, .int 0, .ref 109, .int 0, .int 0, .ref 110, .ref 111, .ref 112, .ref 113, .ref 114, .ref 115, .ref 116, .ref 117, .int 1, .int 0, .int 0, .int (-1), .ref 118, .ref 119, .ref 120, .ref 121, .ref 122, .ref 123, .ref 124, .ref 125, .ref 126, .ref 127, .ref 128, .ref 129, .int 0, .ref 130, .ref 131, .ref 132, .ref 133, .ref 134, .int 0, .int 0])), (111, .inl (0, 1260, .inl (upd (fun _ => 0) 0 0)))])) := by
  refine JM.of (by decide) rfl (fun h => by cases h) (Nat.le_of_ble_eq_true rfl) ⟨0, rfl⟩ ?_
  refine J_hc0 (J_ls (ls2 := [some (.ref 98), some (.int 0)]) rfl ?_)
  refine J_aload_n dX12_sorted_0 rfl rfl ?_
  refine J_iload_n dX12_sorted_1 rfl rfl ?_
  refine J_callV (st := []) dX12_sorted_2 cv_X12_325 (c_X12_isHouse_2 hk98 hk100 hk111) hk98 rfl rfl (Nat.le_of_ble_eq_true rfl) ⟨(Nat.le_of_ble_eq_true rfl), (Nat.le_of_ble_eq_true rfl)⟩ ⟨(Nat.le_of_ble_eq_true rfl), (Nat.le_of_ble_eq_true rfl)⟩ (fun r h9 hp => ?_)
  obtain ⟨rfl, rfl⟩ := hp
  refine J_nf (nh2 := nh) (ck2 := 0) (sk2 := 0) (st2 := [.int 1]) rfl rfl rfl rfl ?_
  refine J_app (L3 := [(98, .inr (12, [.int 0, .int 0, .ref 99, .ref 100, .ref 101, .ref 102, .ref 103, .ref 104, .ref 105, .int 0, .int (-1), .ref 106, .ref 107, .ref 108, .int 0, .int 0, .int 0, .int 0, .int 0, .int 0, .int 0, .ref 109, .int 0, .int 0, .ref 110, .ref 111, .ref 112, .ref 113, .ref 114, .ref 115, .ref 116, .ref 117, .int 1, .int 0, .int 0, .int (-1), .ref 118, .ref 119, .ref 120, .ref 121, .ref 122, .ref 123, .ref 124, .ref 125, .ref 126, .ref 127, .ref 128, .ref 129, .int 0, .ref 130, .ref 131, .ref 132, .ref 133, .ref 134, .int 0, .int 0])), (111, .inl (0, 1260, .inl (upd (fun _ => 0) 0 0)))]) rfl ?_
  refine J_if_ne (tgt := 10) dX12_sorted_5 (by decide) (fun _ => ?_) (fun q => absurd q (by decide +kernel))
  refine J_aload_n dX12_sorted_10 rfl rfl ?_
  refine J_iload_n dX12_sorted_11 rfl rfl ?_
  refine J_aload_n dX12_sorted_12 rfl rfl ?_
  refine J_get (v := .ref 100) dX12_sorted_13 fl_X12_20 rfl rfl ?_
  refine J_bipush (v := 60) dX12_sorted_16 (by decide +kernel) ?_
  refine J_iald (i2 := 60) (v := 0) dX12_sorted_18 hk100 rfl (jin (by decide +kernel)) (by decide +kernel) rfl ?_
  refine J_iconst (v := (-1)) dX12_sorted_19 (by decide) ?_
  refine J_callV (st := []) dX12_sorted_20 cv_X12_357 (c_X12_goesThrough_2 rfl) rfl rfl rfl (Nat.le_of_ble_eq_true rfl) ⟨(Nat.le_of_ble_eq_true rfl), (Nat.le_of_ble_eq_true rfl)⟩ ⟨(Nat.le_of_ble_eq_true rfl), (Nat.le_of_ble_eq_true rfl)⟩ (fun r h9 hp => ?_)
  obtain ⟨rfl, rfl⟩ := hp
  refine J_nf (nh2 := nh) (ck2 := 0) (sk2 := 0) (st2 := []) rfl rfl rfl rfl ?_
  refine J_aload_n dX12_sorted_23 rfl rfl ?_
  refine J_aload_n dX12_sorted_24 rfl rfl ?_
  refine J_callV (st := [.ref 98]) dX12_sorted_25 cv_X12_319 (c_X12_orderCode_1 rfl) rfl rfl rfl (Nat.le_of_ble_eq_true rfl) ⟨(Nat.le_of_ble_eq_true rfl), (Nat.le_of_ble_eq_true rfl)⟩ ⟨(Nat.le_of_ble_eq_true rfl), (Nat.le_of_ble_eq_true rfl)⟩ (fun r h9 hp => ?_)
  obtain ⟨rfl, rfl⟩ := hp
  refine J_nf (nh2 := nh) (ck2 := 0) (sk2 := 0) (st2 := [.int 0, .ref 98]) rfl rfl rfl rfl ?_
  refine J_callV (st := []) dX12_sorted_28 cv_X12_162 (c_X12_houseOf_2 rfl rfl) rfl rfl rfl (Nat.le_of_ble_eq_true rfl) ⟨(Nat.le_of_ble_eq_true rfl), (Nat.le_of_ble_eq_true rfl)⟩ ⟨(Nat.le_of_ble_eq_true rfl), (Nat.le_of_ble_eq_true rfl)⟩ (fun r h9 hp => ?_)
  obtain ⟨rfl, rfl⟩ := hp
  refine J_nf (nh2 := nh) (ck2 := 0) (sk2 := 0) (st2 := [.int 0]) rfl rfl rfl rfl ?_
  exact J_iret dX12_sorted_31 rfl rfl (Nat.le_of_ble_eq_true rfl) (Nat.le_of_ble_eq_true rfl) ⟨rfl, rfl⟩
set_option maxHeartbeats 4000000 in
set_option maxRecDepth 100000 in
theorem c_X11_sorted_3 {l : Launch} {G : jG} {nh : Nat} {fh : Nat → Option va_E} (a1 : Int32) (b_a1 : 1 ≤ a1.toInt ∧ a1.toInt ≤ 2147483647) (hk0 : fh 0 = some (.inr (11, [.ref 1, .ref 17, .ref 50, .ref 51, .ref 54, .ref 57, .ref 65, .ref 75, .ref 81, .ref 85, .ref 88, .ref 93, .ref 96, .int 0, .int (-1), .ref 97, .int 0]))) (hk51 : fh 51 = some (.inr (0, [.ref 52, .ref 53, .int 1, .int 0]))) : JM l G yX11_sorted MX11_sorted { frames := 1, cells := 0, slots := 0, locals := 21 } [.ref 0, .int a1] (nh, fh) (fun r h9 => r = some (.int (-1)) ∧ h9 = (nh, fh)) := by
  refine JM.of (by decide) rfl (fun h => by cases h) (Nat.le_of_ble_eq_true rfl) ⟨0, rfl⟩ ?_
  refine J_hc0 (J_ls (ls2 := [some (.ref 0), some (.int a1)]) rfl ?_)
  refine J_aload_n dX11_sorted_0 rfl rfl ?_
  refine J_get (v := .ref 51) dX11_sorted_1 fl_X11_27 hk0 rfl ?_
  refine J_iload_n dX11_sorted_4 rfl rfl ?_
  refine J_callV (st := []) dX11_sorted_5 cv_X11_135 (c_X0_has_3 (a1) b_a1 hk51) hk51 rfl rfl (Nat.le_of_ble_eq_true rfl) ⟨(Nat.le_of_ble_eq_true rfl), (Nat.le_of_ble_eq_true rfl)⟩ ⟨(Nat.le_of_ble_eq_true rfl), (Nat.le_of_ble_eq_true rfl)⟩ (fun r h9 hp => ?_)
  obtain ⟨rfl, rfl⟩ := hp
  refine J_nf (nh2 := nh) (ck2 := 0) (sk2 := 0) (st2 := [.int 0]) rfl rfl rfl rfl ?_
  refine J_if_ne (tgt := 13) dX11_sorted_8 (by decide) (fun q => absurd (by decide +kernel) q) (fun _ => ?_)
  refine J_iconst (v := (-1)) dX11_sorted_11 (by decide) ?_
  exact J_iret dX11_sorted_12 rfl rfl (Nat.le_of_ble_eq_true rfl) (Nat.le_of_ble_eq_true rfl) ⟨rfl, rfl⟩
set_option maxHeartbeats 4000000 in
set_option maxRecDepth 100000 in
theorem c_X12_sorted_3 {l : Launch} {G : jG} {nh : Nat} {fh : Nat → Option va_E} (a1 : Int32) (b_a1 : 1 ≤ a1.toInt ∧ a1.toInt ≤ 2147483647) (hk98 : fh 98 = some (.inr (12, [.int 0, .int 0, .ref 99, .ref 100, .ref 101, .ref 102, .ref 103, .ref 104, .ref 105, .int 0, .int (-1), .ref 106, .ref 107, .ref 108, .int 0, .int 0, .int 0, .int 0, .int 0, .int 0, .int 0, .ref 109, .int 0, .int 0, .ref 110, .ref 111, .ref 112, .ref 113, .ref 114, .ref 115, .ref 116, .ref 117, .int 0, .int 0, .int (-1), .int (-1), .ref 118, .ref 119, .ref 120, .ref 121, .ref 122, .ref 123, .ref 124, .ref 125, .ref 126, .ref 127, .ref 128, .ref 129, .int 0, .ref 130, .ref 131, .ref 132, .ref 133, .ref 134, .int 0, .int 0]))) (hk100 : fh 100 = some (.inl (0, 4870, .inl (upd (fun _ => 0) 63 (-1))))) (hk111 : fh 111 = some (.inl (0, 1260, .inl (fun _ => 0)))) : JM l G yX12_sorted MX12_sorted { frames := 3, cells := 0, slots := 0, locals := 69 } [.ref 98, .int a1] (nh, fh) (fun r h9 => r = some (.int (-1)) ∧ h9 = (nh, hc fh [(98, .inr (12, [.int 0, .int 0, .ref 99, .ref 100, .ref 101, .ref 102, .ref 103, .ref 104, .ref 105, .int 0, .int (-1), .ref 106, .ref 107, .ref 108, .int 0, .int 0, .int 0, .int 0, .int 0, .int 0, .int 0, .ref 109, .int 0, .int 0, .ref 110, .ref 111, .ref 112, .ref 113, .ref 114, .ref 115, .ref 116, .ref 117, .int 1, .int 0, .int 0, .int (-1), .ref 118, .ref 119, .ref 120, .ref 121, .ref 122, .ref 123, .ref 124, .ref 125, .ref 126, .ref 127, .ref 128, .ref 129, .int 0, .ref 130, .ref 131, .ref 132, .ref 133, .ref 134, .int 0, .int 0])), (111, .inl (0, 1260, .inl (upd (fun _ => 0) 0 0)))])) := by
  refine JM.of (by decide) rfl (fun h => by cases h) (Nat.le_of_ble_eq_true rfl) ⟨0, rfl⟩ ?_
  refine J_hc0 (J_ls (ls2 := [some (.ref 98), some (.int a1)]) rfl ?_)
  refine J_aload_n dX12_sorted_0 rfl rfl ?_
  refine J_iload_n dX12_sorted_1 rfl rfl ?_
  refine J_callV (st := []) dX12_sorted_2 cv_X12_325 (c_X12_isHouse_3 (a1) b_a1 hk98 hk100 hk111) hk98 rfl rfl (Nat.le_of_ble_eq_true rfl) ⟨(Nat.le_of_ble_eq_true rfl), (Nat.le_of_ble_eq_true rfl)⟩ ⟨(Nat.le_of_ble_eq_true rfl), (Nat.le_of_ble_eq_true rfl)⟩ (fun r h9 hp => ?_)
  obtain ⟨rfl, rfl⟩ := hp
  refine J_nf (nh2 := nh) (ck2 := 0) (sk2 := 0) (st2 := [.int 0]) rfl rfl rfl rfl ?_
  refine J_app (L3 := [(98, .inr (12, [.int 0, .int 0, .ref 99, .ref 100, .ref 101, .ref 102, .ref 103, .ref 104, .ref 105, .int 0, .int (-1), .ref 106, .ref 107, .ref 108, .int 0, .int 0, .int 0, .int 0, .int 0, .int 0, .int 0, .ref 109, .int 0, .int 0, .ref 110, .ref 111, .ref 112, .ref 113, .ref 114, .ref 115, .ref 116, .ref 117, .int 1, .int 0, .int 0, .int (-1), .ref 118, .ref 119, .ref 120, .ref 121, .ref 122, .ref 123, .ref 124, .ref 125, .ref 126, .ref 127, .ref 128, .ref 129, .int 0, .ref 130, .ref 131, .ref 132, .ref 133, .ref 134, .int 0, .int 0])), (111, .inl (0, 1260, .inl (upd (fun _ => 0) 0 0)))]) rfl ?_
  refine J_if_ne (tgt := 10) dX12_sorted_5 (by decide) (fun q => absurd (by decide +kernel) q) (fun _ => ?_)
  refine J_iconst (v := (-1)) dX12_sorted_8 (by decide) ?_
  exact J_iret dX12_sorted_9 rfl rfl (Nat.le_of_ble_eq_true rfl) (Nat.le_of_ble_eq_true rfl) ⟨rfl, rfl⟩
set_option maxHeartbeats 4000000 in
set_option maxRecDepth 100000 in
theorem c_X11_clue_1 {l : Launch} {G : jG} {nh : Nat} {fh : Nat → Option va_E} (a1 : Int32) (b_a1 : (-2147483648) ≤ a1.toInt ∧ a1.toInt ≤ 2147483647) (a2 : Int32) (b_a2 : (-2147483648) ≤ a2.toInt ∧ a2.toInt ≤ (-2)) (hk0 : fh 0 = some (.inr (11, [.ref 1, .ref 17, .ref 50, .ref 51, .ref 54, .ref 57, .ref 65, .ref 75, .ref 81, .ref 85, .ref 88, .ref 93, .ref 96, .int 0, .int (-1), .ref 97, .int 0]))) (hk96 : fh 96 = some (.inl (0, 5, .inl (fun _ => 0)))) : JM l G yX11_clue MX11_clue { frames := 2, cells := 0, slots := 0, locals := 41 } [.ref 0, .int a1, .int a2] (nh, fh) (fun r h9 => r = some (.int (-1)) ∧ h9 = (nh, hc fh [(96, .inl (0, 5, .inl (upd (fun _ => 0) 0 1))), (0, .inr (11, [.ref 1, .ref 17, .ref 50, .ref 51, .ref 54, .ref 57, .ref 65, .ref 75, .ref 81, .ref 85, .ref 88, .ref 93, .ref 96, .int (-1), .int (-1), .ref 97, .int 0]))])) := by
  refine JM.of (by decide) rfl (fun h => by cases h) (Nat.le_of_ble_eq_true rfl) ⟨0, rfl⟩ ?_
  refine J_hc0 (J_ls (ls2 := [some (.ref 0), some (.int a1), some (.int a2)]) rfl ?_)
  refine J_iload_n dX11_clue_0 rfl rfl ?_
  refine J_iconst (v := (-1)) dX11_clue_1 (by decide) ?_
  refine J_icmp_ge (tgt := 11) dX11_clue_2 (by decide) (fun q => absurd q (by have hb0 := b_a2; simp only [fa_lt, fa_le, fa_eq, kc_m1]; omega)) (fun _ => ?_)
  refine J_aload_n dX11_clue_5 rfl rfl ?_
  refine J_iconst (v := (-1)) dX11_clue_6 (by decide) ?_
  refine J_callV (st := []) dX11_clue_7 cv_X11_118 (c_X11_refuse_1 hk0 hk96) hk0 rfl rfl (Nat.le_of_ble_eq_true rfl) ⟨(Nat.le_of_ble_eq_true rfl), (Nat.le_of_ble_eq_true rfl)⟩ ⟨(Nat.le_of_ble_eq_true rfl), (Nat.le_of_ble_eq_true rfl)⟩ (fun r h9 hp => ?_)
  obtain ⟨rfl, rfl⟩ := hp
  refine J_nf (nh2 := nh) (ck2 := 0) (sk2 := 0) (st2 := [.int (-1)]) rfl rfl rfl rfl ?_
  refine J_app (L3 := [(96, .inl (0, 5, .inl (upd (fun _ => 0) 0 1))), (0, .inr (11, [.ref 1, .ref 17, .ref 50, .ref 51, .ref 54, .ref 57, .ref 65, .ref 75, .ref 81, .ref 85, .ref 88, .ref 93, .ref 96, .int (-1), .int (-1), .ref 97, .int 0]))]) rfl ?_
  exact J_iret dX11_clue_10 rfl rfl (Nat.le_of_ble_eq_true rfl) (Nat.le_of_ble_eq_true rfl) ⟨rfl, rfl⟩
set_option maxHeartbeats 4000000 in
set_option maxRecDepth 100000 in
theorem c_X12_clue_1 {l : Launch} {G : jG} {nh : Nat} {fh : Nat → Option va_E} (a1 : Int32) (b_a1 : (-2147483648) ≤ a1.toInt ∧ a1.toInt ≤ 2147483647) (a2 : Int32) (b_a2 : (-2147483648) ≤ a2.toInt ∧ a2.toInt ≤ (-2)) (hk98 : fh 98 = some (.inr (12, [.int 0, .int 0, .ref 99, .ref 100, .ref 101, .ref 102, .ref 103, .ref 104, .ref 105, .int 0, .int (-1), .ref 106, .ref 107, .ref 108, .int 0, .int 0, .int 0, .int 0, .int 0, .int 0, .int 0, .ref 109, .int 0, .int 0, .ref 110, .ref 111, .ref 112, .ref 113, .ref 114, .ref 115, .ref 116, .ref 117, .int 0, .int 0, .int (-1), .int (-1), .ref 118, .ref 119, .ref 120, .ref 121, .ref 122, .ref 123, .ref 124, .ref 125, .ref 126, .ref 127, .ref 128, .ref 129, .int 0, .ref 130, .ref 131, .ref 132, .ref 133, .ref 134, .int 0, .int 0]))) (hk99 : fh 99 = some (.inl (0, 7, .inl (fun _ => 0)))) : JM l G yX12_clue MX12_clue { frames := 1, cells := 0, slots := 0, locals := 21 } [.ref 98, .int a1, .int a2] (nh, fh) (fun r h9 => r = some (.int (-1)) ∧ h9 = (nh, hc fh [(99, .inl (0, 7, .inl (upd (fun _ => 0) 1 1))), (98, .inr (12, [.int (-1), .int 0, .ref 99, .ref 100, .ref 101, .ref 102, .ref 103, .ref 104, .ref 105, .int 0, .int (-1), .ref 106, .ref 107, .ref 108, .int 0, .int 0, .int 0, .int 0, .int 0, .int 0, .int 0, .ref 109, .int 0, .int 0, .ref 110, .ref 111, .ref 112, .ref 113, .ref 114, .ref 115, .ref 116, .ref 117, .int 0, .int 0, .int (-1), .int (-1), .ref 118, .ref 119, .ref 120, .ref 121, .ref 122, .ref 123, .ref 124, .ref 125, .ref 126, .ref 127, .ref 128, .ref 129, .int 0, .ref 130, .ref 131, .ref 132, .ref 133, .ref 134, .int 0, .int 0]))])) := by
  refine JM.of (by decide) rfl (fun h => by cases h) (Nat.le_of_ble_eq_true rfl) ⟨1, rfl⟩ ?_
  refine J_hc0 (J_ls (ls2 := [some (.ref 98), some (.int a1), some (.int a2), none]) rfl ?_)
  refine J_iload_n dX12_clue_0 rfl rfl ?_
  refine J_iconst (v := (-1)) dX12_clue_1 (by decide) ?_
  refine J_icmp_ge (tgt := 11) dX12_clue_2 (by decide) (fun q => absurd q (by have hb0 := b_a2; simp only [fa_lt, fa_le, fa_eq, kc_m1]; omega)) (fun _ => ?_)
  refine J_aload_n dX12_clue_5 rfl rfl ?_
  refine J_iconst (v := (-1)) dX12_clue_6 (by decide) ?_
  refine J_callV (st := []) dX12_clue_7 cv_X12_142 (c_X12_refuses_1 hk98 hk99) hk98 rfl rfl (Nat.le_of_ble_eq_true rfl) ⟨(Nat.le_of_ble_eq_true rfl), (Nat.le_of_ble_eq_true rfl)⟩ ⟨(Nat.le_of_ble_eq_true rfl), (Nat.le_of_ble_eq_true rfl)⟩ (fun r h9 hp => ?_)
  obtain ⟨rfl, rfl⟩ := hp
  refine J_nf (nh2 := nh) (ck2 := 0) (sk2 := 0) (st2 := [.int (-1)]) rfl rfl rfl rfl ?_
  refine J_app (L3 := [(99, .inl (0, 7, .inl (upd (fun _ => 0) 1 1))), (98, .inr (12, [.int (-1), .int 0, .ref 99, .ref 100, .ref 101, .ref 102, .ref 103, .ref 104, .ref 105, .int 0, .int (-1), .ref 106, .ref 107, .ref 108, .int 0, .int 0, .int 0, .int 0, .int 0, .int 0, .int 0, .ref 109, .int 0, .int 0, .ref 110, .ref 111, .ref 112, .ref 113, .ref 114, .ref 115, .ref 116, .ref 117, .int 0, .int 0, .int (-1), .int (-1), .ref 118, .ref 119, .ref 120, .ref 121, .ref 122, .ref 123, .ref 124, .ref 125, .ref 126, .ref 127, .ref 128, .ref 129, .int 0, .ref 130, .ref 131, .ref 132, .ref 133, .ref 134, .int 0, .int 0]))]) rfl ?_
  exact J_iret dX12_clue_10 rfl rfl (Nat.le_of_ble_eq_true rfl) (Nat.le_of_ble_eq_true rfl) ⟨rfl, rfl⟩
set_option maxHeartbeats 4000000 in
set_option maxRecDepth 100000 in
theorem c_X11_clue_2 {l : Launch} {G : jG} {nh : Nat} {fh : Nat → Option va_E} (a1 : Int32) (b_a1 : (-2147483648) ≤ a1.toInt ∧ a1.toInt ≤ (-1)) (a2 : Int32) (b_a2 : (-1) ≤ a2.toInt ∧ a2.toInt ≤ 2147483647) (hk0 : fh 0 = some (.inr (11, [.ref 1, .ref 17, .ref 50, .ref 51, .ref 54, .ref 57, .ref 65, .ref 75, .ref 81, .ref 85, .ref 88, .ref 93, .ref 96, .int 0, .int (-1), .ref 97, .int 0]))) (hk51 : fh 51 = some (.inr (0, [.ref 52, .ref 53, .int 1, .int 0]))) (hk96 : fh 96 = some (.inl (0, 5, .inl (fun _ => 0)))) : JM l G yX11_clue MX11_clue { frames := 2, cells := 0, slots := 0, locals := 41 } [.ref 0, .int a1, .int a2] (nh, fh) (fun r h9 => r = some (.int (-2)) ∧ h9 = (nh, hc fh [(96, .inl (0, 5, .inl (upd (fun _ => 0) 1 1))), (0, .inr (11, [.ref 1, .ref 17, .ref 50, .ref 51, .ref 54, .ref 57, .ref 65, .ref 75, .ref 81, .ref 85, .ref 88, .ref 93, .ref 96, .int (-2), .int (-1), .ref 97, .int 0]))])) := by
  refine JM.of (by decide) rfl (fun h => by cases h) (Nat.le_of_ble_eq_true rfl) ⟨0, rfl⟩ ?_
  refine J_hc0 (J_ls (ls2 := [some (.ref 0), some (.int a1), some (.int a2)]) rfl ?_)
  refine J_iload_n dX11_clue_0 rfl rfl ?_
  refine J_iconst (v := (-1)) dX11_clue_1 (by decide) ?_
  refine J_icmp_ge (tgt := 11) dX11_clue_2 (by decide) (fun _ => ?_) (fun q => absurd (by have hb0 := b_a2; simp only [fa_lt, fa_le, fa_eq, kc_m1]; omega) q)
  refine J_aload_n dX11_clue_11 rfl rfl ?_
  refine J_get (v := .ref 51) dX11_clue_12 fl_X11_27 hk0 rfl ?_
  refine J_iload_n dX11_clue_15 rfl rfl ?_
  refine J_callV (st := []) dX11_clue_16 cv_X11_135 (c_X0_has_1 (a1) b_a1) hk51 rfl rfl (Nat.le_of_ble_eq_true rfl) ⟨(Nat.le_of_ble_eq_true rfl), (Nat.le_of_ble_eq_true rfl)⟩ ⟨(Nat.le_of_ble_eq_true rfl), (Nat.le_of_ble_eq_true rfl)⟩ (fun r h9 hp => ?_)
  obtain ⟨rfl, rfl⟩ := hp
  refine J_nf (nh2 := nh) (ck2 := 0) (sk2 := 0) (st2 := [.int 0]) rfl rfl rfl rfl ?_
  refine J_if_ne (tgt := 29) dX11_clue_19 (by decide) (fun q => absurd (by decide +kernel) q) (fun _ => ?_)
  refine J_aload_n dX11_clue_22 rfl rfl ?_
  refine J_bipush (v := (-2)) dX11_clue_23 (by decide +kernel) ?_
  refine J_callV (st := []) dX11_clue_25 cv_X11_118 (c_X11_refuse_4 hk0 hk96) hk0 rfl rfl (Nat.le_of_ble_eq_true rfl) ⟨(Nat.le_of_ble_eq_true rfl), (Nat.le_of_ble_eq_true rfl)⟩ ⟨(Nat.le_of_ble_eq_true rfl), (Nat.le_of_ble_eq_true rfl)⟩ (fun r h9 hp => ?_)
  obtain ⟨rfl, rfl⟩ := hp
  refine J_nf (nh2 := nh) (ck2 := 0) (sk2 := 0) (st2 := [.int (-2)]) rfl rfl rfl rfl ?_
  refine J_app (L3 := [(96, .inl (0, 5, .inl (upd (fun _ => 0) 1 1))), (0, .inr (11, [.ref 1, .ref 17, .ref 50, .ref 51, .ref 54, .ref 57, .ref 65, .ref 75, .ref 81, .ref 85, .ref 88, .ref 93, .ref 96, .int (-2), .int (-1), .ref 97, .int 0]))]) rfl ?_
  exact J_iret dX11_clue_28 rfl rfl (Nat.le_of_ble_eq_true rfl) (Nat.le_of_ble_eq_true rfl) ⟨rfl, rfl⟩
set_option maxHeartbeats 4000000 in
set_option maxRecDepth 100000 in
theorem c_X12_clue_2 {l : Launch} {G : jG} {nh : Nat} {fh : Nat → Option va_E} (a1 : Int32) (b_a1 : (-2147483648) ≤ a1.toInt ∧ a1.toInt ≤ (-1)) (a2 : Int32) (b_a2 : (-1) ≤ a2.toInt ∧ a2.toInt ≤ 2147483647) (hk98 : fh 98 = some (.inr (12, [.int 0, .int 0, .ref 99, .ref 100, .ref 101, .ref 102, .ref 103, .ref 104, .ref 105, .int 0, .int (-1), .ref 106, .ref 107, .ref 108, .int 0, .int 0, .int 0, .int 0, .int 0, .int 0, .int 0, .ref 109, .int 0, .int 0, .ref 110, .ref 111, .ref 112, .ref 113, .ref 114, .ref 115, .ref 116, .ref 117, .int 0, .int 0, .int (-1), .int (-1), .ref 118, .ref 119, .ref 120, .ref 121, .ref 122, .ref 123, .ref 124, .ref 125, .ref 126, .ref 127, .ref 128, .ref 129, .int 0, .ref 130, .ref 131, .ref 132, .ref 133, .ref 134, .int 0, .int 0]))) (hk99 : fh 99 = some (.inl (0, 7, .inl (fun _ => 0)))) (hk100 : fh 100 = some (.inl (0, 4870, .inl (upd (fun _ => 0) 63 (-1))))) (hk111 : fh 111 = some (.inl (0, 1260, .inl (fun _ => 0)))) : JM l G yX12_clue MX12_clue { frames := 3, cells := 0, slots := 0, locals := 69 } [.ref 98, .int a1, .int a2] (nh, fh) (fun r h9 => r = some (.int (-2)) ∧ h9 = (nh, hc fh [(99, .inl (0, 7, .inl (upd (fun _ => 0) 2 1))), (98, .inr (12, [.int (-2), .int 0, .ref 99, .ref 100, .ref 101, .ref 102, .ref 103, .ref 104, .ref 105, .int 0, .int (-1), .ref 106, .ref 107, .ref 108, .int 0, .int 0, .int 0, .int 0, .int 0, .int 0, .int 0, .ref 109, .int 0, .int 0, .ref 110, .ref 111, .ref 112, .ref 113, .ref 114, .ref 115, .ref 116, .ref 117, .int 1, .int 0, .int 0, .int (-1), .ref 118, .ref 119, .ref 120, .ref 121, .ref 122, .ref 123, .ref 124, .ref 125, .ref 126, .ref 127, .ref 128, .ref 129, .int 0, .ref 130, .ref 131, .ref 132, .ref 133, .ref 134, .int 0, .int 0])), (111, .inl (0, 1260, .inl (upd (fun _ => 0) 0 0)))])) := by
  refine JM.of (by decide) rfl (fun h => by cases h) (Nat.le_of_ble_eq_true rfl) ⟨1, rfl⟩ ?_
  refine J_hc0 (J_ls (ls2 := [some (.ref 98), some (.int a1), some (.int a2), none]) rfl ?_)
  refine J_iload_n dX12_clue_0 rfl rfl ?_
  refine J_iconst (v := (-1)) dX12_clue_1 (by decide) ?_
  refine J_icmp_ge (tgt := 11) dX12_clue_2 (by decide) (fun _ => ?_) (fun q => absurd (by have hb0 := b_a2; simp only [fa_lt, fa_le, fa_eq, kc_m1]; omega) q)
  refine J_aload_n dX12_clue_11 rfl rfl ?_
  refine J_iload_n dX12_clue_12 rfl rfl ?_
  refine J_callV (st := []) dX12_clue_13 cv_X12_325 (c_X12_isHouse_1 (a1) b_a1 hk98 hk100 hk111) hk98 rfl rfl (Nat.le_of_ble_eq_true rfl) ⟨(Nat.le_of_ble_eq_true rfl), (Nat.le_of_ble_eq_true rfl)⟩ ⟨(Nat.le_of_ble_eq_true rfl), (Nat.le_of_ble_eq_true rfl)⟩ (fun r h9 hp => ?_)
  obtain ⟨rfl, rfl⟩ := hp
  refine J_nf (nh2 := nh) (ck2 := 0) (sk2 := 0) (st2 := [.int 0]) rfl rfl rfl rfl ?_
  refine J_app (L3 := [(98, .inr (12, [.int 0, .int 0, .ref 99, .ref 100, .ref 101, .ref 102, .ref 103, .ref 104, .ref 105, .int 0, .int (-1), .ref 106, .ref 107, .ref 108, .int 0, .int 0, .int 0, .int 0, .int 0, .int 0, .int 0, .ref 109, .int 0, .int 0, .ref 110, .ref 111, .ref 112, .ref 113, .ref 114, .ref 115, .ref 116, .ref 117, .int 1, .int 0, .int 0, .int (-1), .ref 118, .ref 119, .ref 120, .ref 121, .ref 122, .ref 123, .ref 124, .ref 125, .ref 126, .ref 127, .ref 128, .ref 129, .int 0, .ref 130, .ref 131, .ref 132, .ref 133, .ref 134, .int 0, .int 0])), (111, .inl (0, 1260, .inl (upd (fun _ => 0) 0 0)))]) rfl ?_
  refine J_if_ne (tgt := 26) dX12_clue_16 (by decide) (fun q => absurd (by decide +kernel) q) (fun _ => ?_)
  refine J_aload_n dX12_clue_19 rfl rfl ?_
  refine J_bipush (v := (-2)) dX12_clue_20 (by decide +kernel) ?_
  refine J_callV (st := []) dX12_clue_22 cv_X12_142 (c_X12_refuses_5 rfl hk99) rfl rfl rfl (Nat.le_of_ble_eq_true rfl) ⟨(Nat.le_of_ble_eq_true rfl), (Nat.le_of_ble_eq_true rfl)⟩ ⟨(Nat.le_of_ble_eq_true rfl), (Nat.le_of_ble_eq_true rfl)⟩ (fun r h9 hp => ?_)
  obtain ⟨rfl, rfl⟩ := hp
  refine J_nf (nh2 := nh) (ck2 := 0) (sk2 := 0) (st2 := [.int (-2)]) rfl rfl rfl rfl ?_
  refine J_app (L3 := [(99, .inl (0, 7, .inl (upd (fun _ => 0) 2 1))), (98, .inr (12, [.int (-2), .int 0, .ref 99, .ref 100, .ref 101, .ref 102, .ref 103, .ref 104, .ref 105, .int 0, .int (-1), .ref 106, .ref 107, .ref 108, .int 0, .int 0, .int 0, .int 0, .int 0, .int 0, .int 0, .ref 109, .int 0, .int 0, .ref 110, .ref 111, .ref 112, .ref 113, .ref 114, .ref 115, .ref 116, .ref 117, .int 1, .int 0, .int 0, .int (-1), .ref 118, .ref 119, .ref 120, .ref 121, .ref 122, .ref 123, .ref 124, .ref 125, .ref 126, .ref 127, .ref 128, .ref 129, .int 0, .ref 130, .ref 131, .ref 132, .ref 133, .ref 134, .int 0, .int 0])), (98, .inr (12, [.int 0, .int 0, .ref 99, .ref 100, .ref 101, .ref 102, .ref 103, .ref 104, .ref 105, .int 0, .int (-1), .ref 106, .ref 107, .ref 108, .int 0, .int 0, .int 0, .int 0, .int 0, .int 0, .int 0, .ref 109, .int 0, .int 0, .ref 110, .ref 111, .ref 112, .ref 113, .ref 114, .ref 115, .ref 116, .ref 117, .int 1, .int 0, .int 0, .int (-1), .ref 118, .ref 119, .ref 120, .ref 121, .ref 122, .ref 123, .ref 124, .ref 125, .ref 126, .ref 127, .ref 128, .ref 129, .int 0, .ref 130, .ref 131, .ref 132, .ref 133, .ref 134, .int 0, .int 0])), (111, .inl (0, 1260, .inl (upd (fun _ => 0) 0 0)))]) rfl ?_
  refine J_mask (L2 := [(99, .inl (0, 7, .inl (upd (fun _ => 0) 2 1))), (98, .inr (12, [.int (-2), .int 0, .ref 99, .ref 100, .ref 101, .ref 102, .ref 103, .ref 104, .ref 105, .int 0, .int (-1), .ref 106, .ref 107, .ref 108, .int 0, .int 0, .int 0, .int 0, .int 0, .int 0, .int 0, .ref 109, .int 0, .int 0, .ref 110, .ref 111, .ref 112, .ref 113, .ref 114, .ref 115, .ref 116, .ref 117, .int 1, .int 0, .int 0, .int (-1), .ref 118, .ref 119, .ref 120, .ref 121, .ref 122, .ref 123, .ref 124, .ref 125, .ref 126, .ref 127, .ref 128, .ref 129, .int 0, .ref 130, .ref 131, .ref 132, .ref 133, .ref 134, .int 0, .int 0])), (111, .inl (0, 1260, .inl (upd (fun _ => 0) 0 0)))]) (ks := [99, 98, 98, 111]) [true, true, false, true] rfl (by decide +kernel) rfl ?_
  exact J_iret dX12_clue_25 rfl rfl (Nat.le_of_ble_eq_true rfl) (Nat.le_of_ble_eq_true rfl) ⟨rfl, rfl⟩
set_option maxHeartbeats 4000000 in
set_option maxRecDepth 100000 in
theorem c_X8_addClue_1 {l : Launch} {G : jG} {nh : Nat} {fh : Nat → Option va_E} (a2 : Int32) (b_a2 : (-1) ≤ a2.toInt ∧ a2.toInt ≤ 2147483647) (hk1 : fh 1 = some (.inr (8, [.ref 2, .ref 3, .ref 4, .int 0, .int (-1), .ref 11, .ref 12, .int 0, .ref 13, .ref 14, .int 0, .ref 15, .ref 16, .int 0]))) (hk13 : fh 13 = some (.inl (0, 6, .inl (fun _ => 0)))) (hk14 : fh 14 = some (.inl (0, 6, .inl (fun _ => 0)))) : JM l G yX8_addClue MX8_addClue { frames := 0, cells := 0, slots := 0, locals := 0 } [.ref 1, .int 0, .int a2] (nh, fh) (fun r h9 => r = none ∧ h9 = (nh, hc fh [(1, .inr (8, [.ref 2, .ref 3, .ref 4, .int 0, .int (-1), .ref 11, .ref 12, .int 0, .ref 13, .ref 14, .int 1, .ref 15, .ref 16, .int 0])), (14, .inl (0, 6, .inl (upd (fun _ => 0) 0 a2))), (13, .inl (0, 6, .inl (upd (fun _ => 0) 0 0)))])) := by
  refine JM.of (by decide) rfl (fun h => by cases h) (Nat.le_of_ble_eq_true rfl) ⟨0, rfl⟩ ?_
  refine J_hc0 (J_ls (ls2 := [some (.ref 1), some (.int 0), some (.int a2)]) rfl ?_)
  refine J_aload_n dX8_addClue_0 rfl rfl ?_
  refine J_get (v := .int 0) dX8_addClue_1 fl_X8_45 hk1 rfl ?_
  refine J_bipush (v := 6) dX8_addClue_4 (by decide +kernel) ?_
  refine J_icmp_ge (tgt := 39) dX8_addClue_6 (by decide) (fun q => absurd q (by decide +kernel)) (fun _ => ?_)
  refine J_aload_n dX8_addClue_9 rfl rfl ?_
  refine J_get (v := .ref 13) dX8_addClue_10 fl_X8_39 hk1 rfl ?_
  refine J_aload_n dX8_addClue_13 rfl rfl ?_
  refine J_get (v := .int 0) dX8_addClue_14 fl_X8_45 hk1 rfl ?_
  refine J_iload_n dX8_addClue_17 rfl rfl ?_
  refine K_iast (i2 := 0) dX8_addClue_18 hk13 rfl (jin (by decide +kernel)) (by decide +kernel) ?_
  refine J_aload_n dX8_addClue_19 rfl rfl ?_
  refine J_get (v := .ref 14) dX8_addClue_20 fl_X8_42 hk1 rfl ?_
  refine J_aload_n dX8_addClue_23 rfl rfl ?_
  refine J_get (v := .int 0) dX8_addClue_24 fl_X8_45 hk1 rfl ?_
  refine J_iload_n dX8_addClue_27 rfl rfl ?_
  refine K_iast (i2 := 0) dX8_addClue_28 hk14 rfl (jin (by decide +kernel)) (by decide +kernel) ?_
  refine J_aload_n dX8_addClue_29 rfl rfl ?_
  refine J_dup dX8_addClue_30 rfl ?_
  refine J_get (v := .int 0) dX8_addClue_31 fl_X8_45 hk1 rfl ?_
  refine J_iconst (v := 1) dX8_addClue_34 (by decide) ?_
  refine J_iadd (z := 1) dX8_addClue_35 (by decide +kernel) ?_
  refine K_put (fs2 := [.ref 2, .ref 3, .ref 4, .int 0, .int (-1), .ref 11, .ref 12, .int 0, .ref 13, .ref 14, .int 1, .ref 15, .ref 16, .int 0]) dX8_addClue_36 fw_X8_45 hk1 (Nat.le_of_ble_eq_true rfl) (fun _ => ⟨rfl, rfl⟩) rfl ?_
  exact J_vret dX8_addClue_39 rfl (Nat.le_of_ble_eq_true rfl) (Nat.le_of_ble_eq_true rfl) ⟨rfl, rfl⟩
set_option maxHeartbeats 4000000 in
set_option maxRecDepth 100000 in
theorem c_X6_change_1 {l : Launch} {G : jG} {nh : Nat} {fh : Nat → Option va_E} (hk88 : fh 88 = some (.inr (6, [.ref 1, .ref 51, .ref 57, .ref 65, .ref 89, .ref 90, .int 0, .int (-1), .ref 91, .ref 92, .int (-1), .int (-1), .int (-1)]))) : JM l G yX6_change MX6_change { frames := 0, cells := 0, slots := 0, locals := 0 } [.ref 88] (nh, fh) (fun r h9 => r = none ∧ h9 = (nh, hc fh [(88, .inr (6, [.ref 1, .ref 51, .ref 57, .ref 65, .ref 89, .ref 90, .int 0, .int (-1), .ref 91, .ref 92, .int (-1), .int (-1), .int (-1)]))])) := by
  refine JM.of (by decide) rfl (fun h => by cases h) (Nat.le_of_ble_eq_true rfl) ⟨0, rfl⟩ ?_
  refine J_hc0 (J_ls (ls2 := [some (.ref 88)]) rfl ?_)
  refine J_aload_n dX6_change_0 rfl rfl ?_
  refine J_iconst (v := (-1)) dX6_change_1 (by decide) ?_
  refine K_put (fs2 := [.ref 1, .ref 51, .ref 57, .ref 65, .ref 89, .ref 90, .int 0, .int (-1), .ref 91, .ref 92, .int (-1), .int (-1), .int (-1)]) dX6_change_2 fw_X6_23 hk88 (Nat.le_of_ble_eq_true rfl) (fun _ => ⟨rfl, rfl⟩) rfl ?_
  refine J_aload_n dX6_change_5 rfl rfl ?_
  refine J_iconst (v := (-1)) dX6_change_6 (by decide) ?_
  refine K_put (fs2 := [.ref 1, .ref 51, .ref 57, .ref 65, .ref 89, .ref 90, .int 0, .int (-1), .ref 91, .ref 92, .int (-1), .int (-1), .int (-1)]) dX6_change_7 fw_X6_38 rfl (Nat.le_of_ble_eq_true rfl) (fun _ => ⟨rfl, rfl⟩) rfl ?_
  refine J_mask (L2 := [(88, .inr (6, [.ref 1, .ref 51, .ref 57, .ref 65, .ref 89, .ref 90, .int 0, .int (-1), .ref 91, .ref 92, .int (-1), .int (-1), .int (-1)]))]) (ks := [88, 88]) [true, false] rfl (by decide +kernel) rfl ?_
  exact J_vret dX6_change_10 rfl (Nat.le_of_ble_eq_true rfl) (Nat.le_of_ble_eq_true rfl) ⟨rfl, rfl⟩
set_option maxHeartbeats 4000000 in
set_option maxRecDepth 100000 in
theorem c_X11_accept_3 {l : Launch} {G : jG} {nh : Nat} {fh : Nat → Option va_E} (hk0 : fh 0 = some (.inr (11, [.ref 1, .ref 17, .ref 50, .ref 51, .ref 54, .ref 57, .ref 65, .ref 75, .ref 81, .ref 85, .ref 88, .ref 93, .ref 96, .int 0, .int (-1), .ref 97, .int 0]))) : JM l G yX11_accept MX11_accept { frames := 0, cells := 0, slots := 0, locals := 0 } [.ref 0, .int 1] (nh, fh) (fun r h9 => r = some (.int 1) ∧ h9 = (nh, hc fh [(0, .inr (11, [.ref 1, .ref 17, .ref 50, .ref 51, .ref 54, .ref 57, .ref 65, .ref 75, .ref 81, .ref 85, .ref 88, .ref 93, .ref 96, .int 0, .int (-1), .ref 97, .int 0]))])) := by
  refine JM.of (by decide) rfl (fun h => by cases h) (Nat.le_of_ble_eq_true rfl) ⟨0, rfl⟩ ?_
  refine J_hc0 (J_ls (ls2 := [some (.ref 0), some (.int 1)]) rfl ?_)
  refine J_aload_n dX11_accept_0 rfl rfl ?_
  refine J_iconst (v := 0) dX11_accept_1 (by decide) ?_
  refine K_put (fs2 := [.ref 1, .ref 17, .ref 50, .ref 51, .ref 54, .ref 57, .ref 65, .ref 75, .ref 81, .ref 85, .ref 88, .ref 93, .ref 96, .int 0, .int (-1), .ref 97, .int 0]) dX11_accept_2 fw_X11_97 hk0 (Nat.le_of_ble_eq_true rfl) (fun _ => ⟨rfl, rfl⟩) rfl ?_
  refine J_iload_n dX11_accept_5 rfl rfl ?_
  exact J_iret dX11_accept_6 rfl rfl (Nat.le_of_ble_eq_true rfl) (Nat.le_of_ble_eq_true rfl) ⟨rfl, rfl⟩
set_option maxHeartbeats 4000000 in
set_option maxRecDepth 100000 in
theorem c_X11_clue_3 {l : Launch} {G : jG} {nh : Nat} {fh : Nat → Option va_E} (a2 : Int32) (b_a2 : (-1) ≤ a2.toInt ∧ a2.toInt ≤ 2147483647) (hk0 : fh 0 = some (.inr (11, [.ref 1, .ref 17, .ref 50, .ref 51, .ref 54, .ref 57, .ref 65, .ref 75, .ref 81, .ref 85, .ref 88, .ref 93, .ref 96, .int 0, .int (-1), .ref 97, .int 0]))) (hk1 : fh 1 = some (.inr (8, [.ref 2, .ref 3, .ref 4, .int 0, .int (-1), .ref 11, .ref 12, .int 0, .ref 13, .ref 14, .int 0, .ref 15, .ref 16, .int 0]))) (hk13 : fh 13 = some (.inl (0, 6, .inl (fun _ => 0)))) (hk14 : fh 14 = some (.inl (0, 6, .inl (fun _ => 0)))) (hk51 : fh 51 = some (.inr (0, [.ref 52, .ref 53, .int 1, .int 0]))) (hk88 : fh 88 = some (.inr (6, [.ref 1, .ref 51, .ref 57, .ref 65, .ref 89, .ref 90, .int 0, .int (-1), .ref 91, .ref 92, .int (-1), .int (-1), .int (-1)]))) : JM l G yX11_clue MX11_clue { frames := 1, cells := 0, slots := 0, locals := 22 } [.ref 0, .int 0, .int a2] (nh, fh) (fun r h9 => r = some (.int 1) ∧ h9 = (nh, hc fh [(0, .inr (11, [.ref 1, .ref 17, .ref 50, .ref 51, .ref 54, .ref 57, .ref 65, .ref 75, .ref 81, .ref 85, .ref 88, .ref 93, .ref 96, .int 0, .int (-1), .ref 97, .int 0])), (88, .inr (6, [.ref 1, .ref 51, .ref 57, .ref 65, .ref 89, .ref 90, .int 0, .int (-1), .ref 91, .ref 92, .int (-1), .int (-1), .int (-1)])), (1, .inr (8, [.ref 2, .ref 3, .ref 4, .int 0, .int (-1), .ref 11, .ref 12, .int 0, .ref 13, .ref 14, .int 1, .ref 15, .ref 16, .int 0])), (14, .inl (0, 6, .inl (upd (fun _ => 0) 0 a2))), (13, .inl (0, 6, .inl (upd (fun _ => 0) 0 0)))])) := by
  refine JM.of (by decide) rfl (fun h => by cases h) (Nat.le_of_ble_eq_true rfl) ⟨0, rfl⟩ ?_
  refine J_hc0 (J_ls (ls2 := [some (.ref 0), some (.int 0), some (.int a2)]) rfl ?_)
  refine J_iload_n dX11_clue_0 rfl rfl ?_
  refine J_iconst (v := (-1)) dX11_clue_1 (by decide) ?_
  refine J_icmp_ge (tgt := 11) dX11_clue_2 (by decide) (fun _ => ?_) (fun q => absurd (by have hb0 := b_a2; simp only [fa_lt, fa_le, fa_eq, kc_m1]; omega) q)
  refine J_aload_n dX11_clue_11 rfl rfl ?_
  refine J_get (v := .ref 51) dX11_clue_12 fl_X11_27 hk0 rfl ?_
  refine J_iload_n dX11_clue_15 rfl rfl ?_
  refine J_callV (st := []) dX11_clue_16 cv_X11_135 (c_X0_has_2 hk51) hk51 rfl rfl (Nat.le_of_ble_eq_true rfl) ⟨(Nat.le_of_ble_eq_true rfl), (Nat.le_of_ble_eq_true rfl)⟩ ⟨(Nat.le_of_ble_eq_true rfl), (Nat.le_of_ble_eq_true rfl)⟩ (fun r h9 hp => ?_)
  obtain ⟨rfl, rfl⟩ := hp
  refine J_nf (nh2 := nh) (ck2 := 0) (sk2 := 0) (st2 := [.int 1]) rfl rfl rfl rfl ?_
  refine J_if_ne (tgt := 29) dX11_clue_19 (by decide) (fun _ => ?_) (fun q => absurd q (by decide +kernel))
  refine J_aload_n dX11_clue_29 rfl rfl ?_
  refine J_get (v := .ref 1) dX11_clue_30 fl_X11_10 hk0 rfl ?_
  refine J_get (v := .int 0) dX11_clue_33 fl_X11_286 hk1 rfl ?_
  refine J_bipush (v := 6) dX11_clue_36 (by decide +kernel) ?_
  refine J_icmp_lt (tgt := 48) dX11_clue_38 (by decide) (fun _ => ?_) (fun q => absurd (by decide +kernel) q)
  refine J_aload_n dX11_clue_48 rfl rfl ?_
  refine J_get (v := .ref 1) dX11_clue_49 fl_X11_10 hk0 rfl ?_
  refine J_iload_n dX11_clue_52 rfl rfl ?_
  refine J_iload_n dX11_clue_53 rfl rfl ?_
  refine J_callV (st := []) dX11_clue_54 cv_X11_289 (c_X8_addClue_1 (a2) b_a2 hk1 hk13 hk14) hk1 rfl rfl (Nat.le_of_ble_eq_true rfl) ⟨(Nat.le_of_ble_eq_true rfl), (Nat.le_of_ble_eq_true rfl)⟩ ⟨(Nat.le_of_ble_eq_true rfl), (Nat.le_of_ble_eq_true rfl)⟩ (fun r h9 hp => ?_)
  obtain ⟨rfl, rfl⟩ := hp
  refine J_nf (nh2 := nh) (ck2 := 0) (sk2 := 0) (st2 := []) rfl rfl rfl rfl ?_
  refine J_app (L3 := [(1, .inr (8, [.ref 2, .ref 3, .ref 4, .int 0, .int (-1), .ref 11, .ref 12, .int 0, .ref 13, .ref 14, .int 1, .ref 15, .ref 16, .int 0])), (14, .inl (0, 6, .inl (upd (fun _ => 0) 0 a2))), (13, .inl (0, 6, .inl (upd (fun _ => 0) 0 0)))]) rfl ?_
  refine J_aload_n dX11_clue_57 rfl rfl ?_
  refine J_get (v := .ref 88) dX11_clue_58 fl_X11_82 hk0 rfl ?_
  refine J_callV (st := []) dX11_clue_61 cv_X11_292 (c_X6_change_1 hk88) hk88 rfl rfl (Nat.le_of_ble_eq_true rfl) ⟨(Nat.le_of_ble_eq_true rfl), (Nat.le_of_ble_eq_true rfl)⟩ ⟨(Nat.le_of_ble_eq_true rfl), (Nat.le_of_ble_eq_true rfl)⟩ (fun r h9 hp => ?_)
  obtain ⟨rfl, rfl⟩ := hp
  refine J_nf (nh2 := nh) (ck2 := 0) (sk2 := 0) (st2 := []) rfl rfl rfl rfl ?_
  refine J_app (L3 := [(88, .inr (6, [.ref 1, .ref 51, .ref 57, .ref 65, .ref 89, .ref 90, .int 0, .int (-1), .ref 91, .ref 92, .int (-1), .int (-1), .int (-1)])), (1, .inr (8, [.ref 2, .ref 3, .ref 4, .int 0, .int (-1), .ref 11, .ref 12, .int 0, .ref 13, .ref 14, .int 1, .ref 15, .ref 16, .int 0])), (14, .inl (0, 6, .inl (upd (fun _ => 0) 0 a2))), (13, .inl (0, 6, .inl (upd (fun _ => 0) 0 0)))]) rfl ?_
  refine J_aload_n dX11_clue_64 rfl rfl ?_
  refine J_aload_n dX11_clue_65 rfl rfl ?_
  refine J_get (v := .ref 1) dX11_clue_66 fl_X11_10 hk0 rfl ?_
  refine J_get (v := .int 1) dX11_clue_69 fl_X11_286 rfl rfl ?_
  refine J_callV (st := []) dX11_clue_72 cv_X11_129 (c_X11_accept_3 hk0) hk0 rfl rfl (Nat.le_of_ble_eq_true rfl) ⟨(Nat.le_of_ble_eq_true rfl), (Nat.le_of_ble_eq_true rfl)⟩ ⟨(Nat.le_of_ble_eq_true rfl), (Nat.le_of_ble_eq_true rfl)⟩ (fun r h9 hp => ?_)
  obtain ⟨rfl, rfl⟩ := hp
  refine J_nf (nh2 := nh) (ck2 := 0) (sk2 := 0) (st2 := [.int 1]) rfl rfl rfl rfl ?_
  refine J_app (L3 := [(0, .inr (11, [.ref 1, .ref 17, .ref 50, .ref 51, .ref 54, .ref 57, .ref 65, .ref 75, .ref 81, .ref 85, .ref 88, .ref 93, .ref 96, .int 0, .int (-1), .ref 97, .int 0])), (88, .inr (6, [.ref 1, .ref 51, .ref 57, .ref 65, .ref 89, .ref 90, .int 0, .int (-1), .ref 91, .ref 92, .int (-1), .int (-1), .int (-1)])), (1, .inr (8, [.ref 2, .ref 3, .ref 4, .int 0, .int (-1), .ref 11, .ref 12, .int 0, .ref 13, .ref 14, .int 1, .ref 15, .ref 16, .int 0])), (14, .inl (0, 6, .inl (upd (fun _ => 0) 0 a2))), (13, .inl (0, 6, .inl (upd (fun _ => 0) 0 0)))]) rfl ?_
  exact J_iret dX11_clue_75 rfl rfl (Nat.le_of_ble_eq_true rfl) (Nat.le_of_ble_eq_true rfl) ⟨rfl, rfl⟩
set_option maxHeartbeats 4000000 in
set_option maxRecDepth 100000 in
theorem c_X12_good_3 {l : Launch} {G : jG} {nh : Nat} {fh : Nat → Option va_E} (hk98 : fh 98 = some (.inr (12, [.int 0, .int 0, .ref 99, .ref 100, .ref 101, .ref 102, .ref 103, .ref 104, .ref 105, .int 0, .int (-1), .ref 106, .ref 107, .ref 108, .int 0, .int 0, .int 0, .int 0, .int 0, .int 0, .int 0, .ref 109, .int 0, .int 0, .ref 110, .ref 111, .ref 112, .ref 113, .ref 114, .ref 115, .ref 116, .ref 117, .int 1, .int 0, .int 0, .int (-1), .ref 118, .ref 119, .ref 120, .ref 121, .ref 122, .ref 123, .ref 124, .ref 125, .ref 126, .ref 127, .ref 128, .ref 129, .int 0, .ref 130, .ref 131, .ref 132, .ref 133, .ref 134, .int 0, .int 0]))) : JM l G yX12_good MX12_good { frames := 0, cells := 0, slots := 0, locals := 0 } [.ref 98, .int 1] (nh, fh) (fun r h9 => r = some (.int 1) ∧ h9 = (nh, hc fh [(98, .inr (12, [.int 0, .int 1, .ref 99, .ref 100, .ref 101, .ref 102, .ref 103, .ref 104, .ref 105, .int 0, .int (-1), .ref 106, .ref 107, .ref 108, .int 0, .int 0, .int 0, .int 0, .int 0, .int 0, .int 0, .ref 109, .int 0, .int 0, .ref 110, .ref 111, .ref 112, .ref 113, .ref 114, .ref 115, .ref 116, .ref 117, .int 1, .int 0, .int 0, .int (-1), .ref 118, .ref 119, .ref 120, .ref 121, .ref 122, .ref 123, .ref 124, .ref 125, .ref 126, .ref 127, .ref 128, .ref 129, .int 0, .ref 130, .ref 131, .ref 132, .ref 133, .ref 134, .int 0, .int 0]))])) := by
  refine JM.of (by decide) rfl (fun h => by cases h) (Nat.le_of_ble_eq_true rfl) ⟨0, rfl⟩ ?_
  refine J_hc0 (J_ls (ls2 := [some (.ref 98), some (.int 1)]) rfl ?_)
  refine J_aload_n dX12_good_0 rfl rfl ?_
  refine J_iconst (v := 0) dX12_good_1 (by decide) ?_
  refine K_put (fs2 := [.int 0, .int 0, .ref 99, .ref 100, .ref 101, .ref 102, .ref 103, .ref 104, .ref 105, .int 0, .int (-1), .ref 106, .ref 107, .ref 108, .int 0, .int 0, .int 0, .int 0, .int 0, .int 0, .int 0, .ref 109, .int 0, .int 0, .ref 110, .ref 111, .ref 112, .ref 113, .ref 114, .ref 115, .ref 116, .ref 117, .int 1, .int 0, .int 0, .int (-1), .ref 118, .ref 119, .ref 120, .ref 121, .ref 122, .ref 123, .ref 124, .ref 125, .ref 126, .ref 127, .ref 128, .ref 129, .int 0, .ref 130, .ref 131, .ref 132, .ref 133, .ref 134, .int 0, .int 0]) dX12_good_2 fw_X12_3 hk98 (Nat.le_of_ble_eq_true rfl) (fun _ => ⟨rfl, rfl⟩) rfl ?_
  refine J_aload_n dX12_good_5 rfl rfl ?_
  refine J_dup dX12_good_6 rfl ?_
  refine J_get (v := .int 0) dX12_good_7 fl_X12_11 rfl rfl ?_
  refine J_iconst (v := 1) dX12_good_10 (by decide) ?_
  refine J_iadd (z := 1) dX12_good_11 (by decide +kernel) ?_
  refine K_put (fs2 := [.int 0, .int 1, .ref 99, .ref 100, .ref 101, .ref 102, .ref 103, .ref 104, .ref 105, .int 0, .int (-1), .ref 106, .ref 107, .ref 108, .int 0, .int 0, .int 0, .int 0, .int 0, .int 0, .int 0, .ref 109, .int 0, .int 0, .ref 110, .ref 111, .ref 112, .ref 113, .ref 114, .ref 115, .ref 116, .ref 117, .int 1, .int 0, .int 0, .int (-1), .ref 118, .ref 119, .ref 120, .ref 121, .ref 122, .ref 123, .ref 124, .ref 125, .ref 126, .ref 127, .ref 128, .ref 129, .int 0, .ref 130, .ref 131, .ref 132, .ref 133, .ref 134, .int 0, .int 0]) dX12_good_12 fw_X12_11 rfl (Nat.le_of_ble_eq_true rfl) (fun _ => ⟨rfl, rfl⟩) rfl ?_
  refine J_iload_n dX12_good_15 rfl rfl ?_
  refine J_mask (L2 := [(98, .inr (12, [.int 0, .int 1, .ref 99, .ref 100, .ref 101, .ref 102, .ref 103, .ref 104, .ref 105, .int 0, .int (-1), .ref 106, .ref 107, .ref 108, .int 0, .int 0, .int 0, .int 0, .int 0, .int 0, .int 0, .ref 109, .int 0, .int 0, .ref 110, .ref 111, .ref 112, .ref 113, .ref 114, .ref 115, .ref 116, .ref 117, .int 1, .int 0, .int 0, .int (-1), .ref 118, .ref 119, .ref 120, .ref 121, .ref 122, .ref 123, .ref 124, .ref 125, .ref 126, .ref 127, .ref 128, .ref 129, .int 0, .ref 130, .ref 131, .ref 132, .ref 133, .ref 134, .int 0, .int 0]))]) (ks := [98, 98]) [true, false] rfl (by decide +kernel) rfl ?_
  exact J_iret dX12_good_16 rfl rfl (Nat.le_of_ble_eq_true rfl) (Nat.le_of_ble_eq_true rfl) ⟨rfl, rfl⟩
set_option maxHeartbeats 4000000 in
set_option maxRecDepth 100000 in
theorem c_X12_clue_3 {l : Launch} {G : jG} {nh : Nat} {fh : Nat → Option va_E} (a2 : Int32) (b_a2 : (-1) ≤ a2.toInt ∧ a2.toInt ≤ 2147483647) (hk98 : fh 98 = some (.inr (12, [.int 0, .int 0, .ref 99, .ref 100, .ref 101, .ref 102, .ref 103, .ref 104, .ref 105, .int 0, .int (-1), .ref 106, .ref 107, .ref 108, .int 0, .int 0, .int 0, .int 0, .int 0, .int 0, .int 0, .ref 109, .int 0, .int 0, .ref 110, .ref 111, .ref 112, .ref 113, .ref 114, .ref 115, .ref 116, .ref 117, .int 0, .int 0, .int (-1), .int (-1), .ref 118, .ref 119, .ref 120, .ref 121, .ref 122, .ref 123, .ref 124, .ref 125, .ref 126, .ref 127, .ref 128, .ref 129, .int 0, .ref 130, .ref 131, .ref 132, .ref 133, .ref 134, .int 0, .int 0]))) (hk100 : fh 100 = some (.inl (0, 4870, .inl (upd (fun _ => 0) 63 (-1))))) (hk111 : fh 111 = some (.inl (0, 1260, .inl (fun _ => 0)))) : JM l G yX12_clue MX12_clue { frames := 3, cells := 0, slots := 0, locals := 69 } [.ref 98, .int 0, .int a2] (nh, fh) (fun r h9 => r = some (.int 1) ∧ h9 = (nh, hc fh [(98, .inr (12, [.int 0, .int 1, .ref 99, .ref 100, .ref 101, .ref 102, .ref 103, .ref 104, .ref 105, .int 0, .int (-1), .ref 106, .ref 107, .ref 108, .int 0, .int 0, .int 0, .int 0, .int 0, .int 0, .int 0, .ref 109, .int 0, .int 0, .ref 110, .ref 111, .ref 112, .ref 113, .ref 114, .ref 115, .ref 116, .ref 117, .int 1, .int 0, .int 0, .int (-1), .ref 118, .ref 119, .ref 120, .ref 121, .ref 122, .ref 123, .ref 124, .ref 125, .ref 126, .ref 127, .ref 128, .ref 129, .int 0, .ref 130, .ref 131, .ref 132, .ref 133, .ref 134, .int 0, .int 0])), (100, .inl (0, 4870, .inl (upd (upd (upd (upd (fun _ => 0) 63 (-1)) 47 0) 48 a2) 61 1))), (111, .inl (0, 1260, .inl (upd (fun _ => 0) 0 0)))])) := by
  refine JM.of (by decide) rfl (fun h => by cases h) (Nat.le_of_ble_eq_true rfl) ⟨1, rfl⟩ ?_
  refine J_hc0 (J_ls (ls2 := [some (.ref 98), some (.int 0), some (.int a2), none]) rfl ?_)
  refine J_iload_n dX12_clue_0 rfl rfl ?_
  refine J_iconst (v := (-1)) dX12_clue_1 (by decide) ?_
  refine J_icmp_ge (tgt := 11) dX12_clue_2 (by decide) (fun _ => ?_) (fun q => absurd (by have hb0 := b_a2; simp only [fa_lt, fa_le, fa_eq, kc_m1]; omega) q)
  refine J_aload_n dX12_clue_11 rfl rfl ?_
  refine J_iload_n dX12_clue_12 rfl rfl ?_
  refine J_callV (st := []) dX12_clue_13 cv_X12_325 (c_X12_isHouse_2 hk98 hk100 hk111) hk98 rfl rfl (Nat.le_of_ble_eq_true rfl) ⟨(Nat.le_of_ble_eq_true rfl), (Nat.le_of_ble_eq_true rfl)⟩ ⟨(Nat.le_of_ble_eq_true rfl), (Nat.le_of_ble_eq_true rfl)⟩ (fun r h9 hp => ?_)
  obtain ⟨rfl, rfl⟩ := hp
  refine J_nf (nh2 := nh) (ck2 := 0) (sk2 := 0) (st2 := [.int 1]) rfl rfl rfl rfl ?_
  refine J_app (L3 := [(98, .inr (12, [.int 0, .int 0, .ref 99, .ref 100, .ref 101, .ref 102, .ref 103, .ref 104, .ref 105, .int 0, .int (-1), .ref 106, .ref 107, .ref 108, .int 0, .int 0, .int 0, .int 0, .int 0, .int 0, .int 0, .ref 109, .int 0, .int 0, .ref 110, .ref 111, .ref 112, .ref 113, .ref 114, .ref 115, .ref 116, .ref 117, .int 1, .int 0, .int 0, .int (-1), .ref 118, .ref 119, .ref 120, .ref 121, .ref 122, .ref 123, .ref 124, .ref 125, .ref 126, .ref 127, .ref 128, .ref 129, .int 0, .ref 130, .ref 131, .ref 132, .ref 133, .ref 134, .int 0, .int 0])), (111, .inl (0, 1260, .inl (upd (fun _ => 0) 0 0)))]) rfl ?_
  refine J_if_ne (tgt := 26) dX12_clue_16 (by decide) (fun _ => ?_) (fun q => absurd q (by decide +kernel))
  refine J_aload_n dX12_clue_26 rfl rfl ?_
  refine J_get (v := .ref 100) dX12_clue_27 fl_X12_20 rfl rfl ?_
  refine J_bipush (v := 61) dX12_clue_30 (by decide +kernel) ?_
  refine J_iald (i2 := 61) (v := 0) dX12_clue_32 hk100 rfl (jin (by decide +kernel)) (by decide +kernel) rfl ?_
  refine J_istore_n dX12_clue_33 rfl (Nat.le_of_ble_eq_true rfl) rfl ?_
  refine J_iload_n dX12_clue_34 rfl rfl ?_
  refine J_bipush (v := 6) dX12_clue_35 (by decide +kernel) ?_
  refine J_icmp_ne (tgt := 47) dX12_clue_37 (by decide) (fun _ => ?_) (fun q => absurd q (by decide +kernel))
  refine J_aload_n dX12_clue_47 rfl rfl ?_
  refine J_get (v := .ref 100) dX12_clue_48 fl_X12_20 rfl rfl ?_
  refine J_bipush (v := 47) dX12_clue_51 (by decide +kernel) ?_
  refine J_iconst (v := 2) dX12_clue_53 (by decide) ?_
  refine J_iload_n dX12_clue_54 rfl rfl ?_
  refine J_imul (z := 0) dX12_clue_55 (by decide +kernel) ?_
  refine J_iadd (z := 47) dX12_clue_56 (by decide +kernel) ?_
  refine J_iload_n dX12_clue_57 rfl rfl ?_
  refine K_iast (i2 := 47) dX12_clue_58 hk100 rfl (jin (by decide +kernel)) (by decide +kernel) ?_
  refine J_aload_n dX12_clue_59 rfl rfl ?_
  refine J_get (v := .ref 100) dX12_clue_60 fl_X12_20 rfl rfl ?_
  refine J_bipush (v := 47) dX12_clue_63 (by decide +kernel) ?_
  refine J_iconst (v := 2) dX12_clue_65 (by decide) ?_
  refine J_iload_n dX12_clue_66 rfl rfl ?_
  refine J_imul (z := 0) dX12_clue_67 (by decide +kernel) ?_
  refine J_iadd (z := 47) dX12_clue_68 (by decide +kernel) ?_
  refine J_iconst (v := 1) dX12_clue_69 (by decide) ?_
  refine J_iadd (z := 48) dX12_clue_70 (by decide +kernel) ?_
  refine J_iload_n dX12_clue_71 rfl rfl ?_
  refine K_iast (i2 := 48) dX12_clue_72 rfl rfl (jin (by decide +kernel)) (by decide +kernel) ?_
  refine J_aload_n dX12_clue_73 rfl rfl ?_
  refine J_get (v := .ref 100) dX12_clue_74 fl_X12_20 rfl rfl ?_
  refine J_bipush (v := 61) dX12_clue_77 (by decide +kernel) ?_
  refine J_dup2_11 dX12_clue_79 rfl rfl ?_
  refine J_iald (i2 := 61) (v := 0) dX12_clue_80 rfl rfl (jin (by decide +kernel)) (by decide +kernel) rfl ?_
  refine J_iconst (v := 1) dX12_clue_81 (by decide) ?_
  refine J_iadd (z := 1) dX12_clue_82 (by decide +kernel) ?_
  refine K_iast (i2 := 61) dX12_clue_83 rfl rfl (jin (by decide +kernel)) (by decide +kernel) ?_
  refine J_aload_n dX12_clue_84 rfl rfl ?_
  refine J_iload_n dX12_clue_85 rfl rfl ?_
  refine J_iconst (v := 1) dX12_clue_86 (by decide) ?_
  refine J_iadd (z := 1) dX12_clue_87 (by decide +kernel) ?_
  refine J_callV (st := []) dX12_clue_88 cv_X12_146 (c_X12_good_3 rfl) rfl rfl rfl (Nat.le_of_ble_eq_true rfl) ⟨(Nat.le_of_ble_eq_true rfl), (Nat.le_of_ble_eq_true rfl)⟩ ⟨(Nat.le_of_ble_eq_true rfl), (Nat.le_of_ble_eq_true rfl)⟩ (fun r h9 hp => ?_)
  obtain ⟨rfl, rfl⟩ := hp
  refine J_nf (nh2 := nh) (ck2 := 0) (sk2 := 0) (st2 := [.int 1]) rfl rfl rfl rfl ?_
  refine J_app (L3 := [(98, .inr (12, [.int 0, .int 1, .ref 99, .ref 100, .ref 101, .ref 102, .ref 103, .ref 104, .ref 105, .int 0, .int (-1), .ref 106, .ref 107, .ref 108, .int 0, .int 0, .int 0, .int 0, .int 0, .int 0, .int 0, .ref 109, .int 0, .int 0, .ref 110, .ref 111, .ref 112, .ref 113, .ref 114, .ref 115, .ref 116, .ref 117, .int 1, .int 0, .int 0, .int (-1), .ref 118, .ref 119, .ref 120, .ref 121, .ref 122, .ref 123, .ref 124, .ref 125, .ref 126, .ref 127, .ref 128, .ref 129, .int 0, .ref 130, .ref 131, .ref 132, .ref 133, .ref 134, .int 0, .int 0])), (100, .inl (0, 4870, .inl (upd (upd (upd (upd (fun _ => 0) 63 (-1)) 47 0) 48 a2) 61 1))), (100, .inl (0, 4870, .inl (upd (upd (upd (fun _ => 0) 63 (-1)) 47 0) 48 a2))), (100, .inl (0, 4870, .inl (upd (upd (fun _ => 0) 63 (-1)) 47 0))), (98, .inr (12, [.int 0, .int 0, .ref 99, .ref 100, .ref 101, .ref 102, .ref 103, .ref 104, .ref 105, .int 0, .int (-1), .ref 106, .ref 107, .ref 108, .int 0, .int 0, .int 0, .int 0, .int 0, .int 0, .int 0, .ref 109, .int 0, .int 0, .ref 110, .ref 111, .ref 112, .ref 113, .ref 114, .ref 115, .ref 116, .ref 117, .int 1, .int 0, .int 0, .int (-1), .ref 118, .ref 119, .ref 120, .ref 121, .ref 122, .ref 123, .ref 124, .ref 125, .ref 126, .ref 127, .ref 128, .ref 129, .int 0, .ref 130, .ref 131, .ref 132, .ref 133, .ref 134, .int 0, .int 0])), (111, .inl (0, 1260, .inl (upd (fun _ => 0) 0 0)))]) rfl ?_
  refine J_mask (L2 := [(98, .inr (12, [.int 0, .int 1, .ref 99, .ref 100, .ref 101, .ref 102, .ref 103, .ref 104, .ref 105, .int 0, .int (-1), .ref 106, .ref 107, .ref 108, .int 0, .int 0, .int 0, .int 0, .int 0, .int 0, .int 0, .ref 109, .int 0, .int 0, .ref 110, .ref 111, .ref 112, .ref 113, .ref 114, .ref 115, .ref 116, .ref 117, .int 1, .int 0, .int 0, .int (-1), .ref 118, .ref 119, .ref 120, .ref 121, .ref 122, .ref 123, .ref 124, .ref 125, .ref 126, .ref 127, .ref 128, .ref 129, .int 0, .ref 130, .ref 131, .ref 132, .ref 133, .ref 134, .int 0, .int 0])), (100, .inl (0, 4870, .inl (upd (upd (upd (upd (fun _ => 0) 63 (-1)) 47 0) 48 a2) 61 1))), (111, .inl (0, 1260, .inl (upd (fun _ => 0) 0 0)))]) (ks := [98, 100, 100, 100, 98, 111]) [true, true, false, false, false, true] rfl (by decide +kernel) rfl ?_
  exact J_iret dX12_clue_91 rfl rfl (Nat.le_of_ble_eq_true rfl) (Nat.le_of_ble_eq_true rfl) ⟨rfl, rfl⟩
set_option maxHeartbeats 4000000 in
set_option maxRecDepth 100000 in
theorem c_X11_clue_4 {l : Launch} {G : jG} {nh : Nat} {fh : Nat → Option va_E} (a1 : Int32) (b_a1 : 1 ≤ a1.toInt ∧ a1.toInt ≤ 2147483647) (a2 : Int32) (b_a2 : (-1) ≤ a2.toInt ∧ a2.toInt ≤ 2147483647) (hk0 : fh 0 = some (.inr (11, [.ref 1, .ref 17, .ref 50, .ref 51, .ref 54, .ref 57, .ref 65, .ref 75, .ref 81, .ref 85, .ref 88, .ref 93, .ref 96, .int 0, .int (-1), .ref 97, .int 0]))) (hk51 : fh 51 = some (.inr (0, [.ref 52, .ref 53, .int 1, .int 0]))) (hk96 : fh 96 = some (.inl (0, 5, .inl (fun _ => 0)))) : JM l G yX11_clue MX11_clue { frames := 2, cells := 0, slots := 0, locals := 41 } [.ref 0, .int a1, .int a2] (nh, fh) (fun r h9 => r = some (.int (-2)) ∧ h9 = (nh, hc fh [(96, .inl (0, 5, .inl (upd (fun _ => 0) 1 1))), (0, .inr (11, [.ref 1, .ref 17, .ref 50, .ref 51, .ref 54, .ref 57, .ref 65, .ref 75, .ref 81, .ref 85, .ref 88, .ref 93, .ref 96, .int (-2), .int (-1), .ref 97, .int 0]))])) := by
  refine JM.of (by decide) rfl (fun h => by cases h) (Nat.le_of_ble_eq_true rfl) ⟨0, rfl⟩ ?_
  refine J_hc0 (J_ls (ls2 := [some (.ref 0), some (.int a1), some (.int a2)]) rfl ?_)
  refine J_iload_n dX11_clue_0 rfl rfl ?_
  refine J_iconst (v := (-1)) dX11_clue_1 (by decide) ?_
  refine J_icmp_ge (tgt := 11) dX11_clue_2 (by decide) (fun _ => ?_) (fun q => absurd (by have hb0 := b_a2; simp only [fa_lt, fa_le, fa_eq, kc_m1]; omega) q)
  refine J_aload_n dX11_clue_11 rfl rfl ?_
  refine J_get (v := .ref 51) dX11_clue_12 fl_X11_27 hk0 rfl ?_
  refine J_iload_n dX11_clue_15 rfl rfl ?_
  refine J_callV (st := []) dX11_clue_16 cv_X11_135 (c_X0_has_3 (a1) b_a1 hk51) hk51 rfl rfl (Nat.le_of_ble_eq_true rfl) ⟨(Nat.le_of_ble_eq_true rfl), (Nat.le_of_ble_eq_true rfl)⟩ ⟨(Nat.le_of_ble_eq_true rfl), (Nat.le_of_ble_eq_true rfl)⟩ (fun r h9 hp => ?_)
  obtain ⟨rfl, rfl⟩ := hp
  refine J_nf (nh2 := nh) (ck2 := 0) (sk2 := 0) (st2 := [.int 0]) rfl rfl rfl rfl ?_
  refine J_if_ne (tgt := 29) dX11_clue_19 (by decide) (fun q => absurd (by decide +kernel) q) (fun _ => ?_)
  refine J_aload_n dX11_clue_22 rfl rfl ?_
  refine J_bipush (v := (-2)) dX11_clue_23 (by decide +kernel) ?_
  refine J_callV (st := []) dX11_clue_25 cv_X11_118 (c_X11_refuse_4 hk0 hk96) hk0 rfl rfl (Nat.le_of_ble_eq_true rfl) ⟨(Nat.le_of_ble_eq_true rfl), (Nat.le_of_ble_eq_true rfl)⟩ ⟨(Nat.le_of_ble_eq_true rfl), (Nat.le_of_ble_eq_true rfl)⟩ (fun r h9 hp => ?_)
  obtain ⟨rfl, rfl⟩ := hp
  refine J_nf (nh2 := nh) (ck2 := 0) (sk2 := 0) (st2 := [.int (-2)]) rfl rfl rfl rfl ?_
  refine J_app (L3 := [(96, .inl (0, 5, .inl (upd (fun _ => 0) 1 1))), (0, .inr (11, [.ref 1, .ref 17, .ref 50, .ref 51, .ref 54, .ref 57, .ref 65, .ref 75, .ref 81, .ref 85, .ref 88, .ref 93, .ref 96, .int (-2), .int (-1), .ref 97, .int 0]))]) rfl ?_
  exact J_iret dX11_clue_28 rfl rfl (Nat.le_of_ble_eq_true rfl) (Nat.le_of_ble_eq_true rfl) ⟨rfl, rfl⟩
set_option maxHeartbeats 4000000 in
set_option maxRecDepth 100000 in
theorem c_X12_clue_4 {l : Launch} {G : jG} {nh : Nat} {fh : Nat → Option va_E} (a1 : Int32) (b_a1 : 1 ≤ a1.toInt ∧ a1.toInt ≤ 2147483647) (a2 : Int32) (b_a2 : (-1) ≤ a2.toInt ∧ a2.toInt ≤ 2147483647) (hk98 : fh 98 = some (.inr (12, [.int 0, .int 0, .ref 99, .ref 100, .ref 101, .ref 102, .ref 103, .ref 104, .ref 105, .int 0, .int (-1), .ref 106, .ref 107, .ref 108, .int 0, .int 0, .int 0, .int 0, .int 0, .int 0, .int 0, .ref 109, .int 0, .int 0, .ref 110, .ref 111, .ref 112, .ref 113, .ref 114, .ref 115, .ref 116, .ref 117, .int 0, .int 0, .int (-1), .int (-1), .ref 118, .ref 119, .ref 120, .ref 121, .ref 122, .ref 123, .ref 124, .ref 125, .ref 126, .ref 127, .ref 128, .ref 129, .int 0, .ref 130, .ref 131, .ref 132, .ref 133, .ref 134, .int 0, .int 0]))) (hk99 : fh 99 = some (.inl (0, 7, .inl (fun _ => 0)))) (hk100 : fh 100 = some (.inl (0, 4870, .inl (upd (fun _ => 0) 63 (-1))))) (hk111 : fh 111 = some (.inl (0, 1260, .inl (fun _ => 0)))) : JM l G yX12_clue MX12_clue { frames := 3, cells := 0, slots := 0, locals := 69 } [.ref 98, .int a1, .int a2] (nh, fh) (fun r h9 => r = some (.int (-2)) ∧ h9 = (nh, hc fh [(99, .inl (0, 7, .inl (upd (fun _ => 0) 2 1))), (98, .inr (12, [.int (-2), .int 0, .ref 99, .ref 100, .ref 101, .ref 102, .ref 103, .ref 104, .ref 105, .int 0, .int (-1), .ref 106, .ref 107, .ref 108, .int 0, .int 0, .int 0, .int 0, .int 0, .int 0, .int 0, .ref 109, .int 0, .int 0, .ref 110, .ref 111, .ref 112, .ref 113, .ref 114, .ref 115, .ref 116, .ref 117, .int 1, .int 0, .int 0, .int (-1), .ref 118, .ref 119, .ref 120, .ref 121, .ref 122, .ref 123, .ref 124, .ref 125, .ref 126, .ref 127, .ref 128, .ref 129, .int 0, .ref 130, .ref 131, .ref 132, .ref 133, .ref 134, .int 0, .int 0])), (111, .inl (0, 1260, .inl (upd (fun _ => 0) 0 0)))])) := by
  refine JM.of (by decide) rfl (fun h => by cases h) (Nat.le_of_ble_eq_true rfl) ⟨1, rfl⟩ ?_
  refine J_hc0 (J_ls (ls2 := [some (.ref 98), some (.int a1), some (.int a2), none]) rfl ?_)
  refine J_iload_n dX12_clue_0 rfl rfl ?_
  refine J_iconst (v := (-1)) dX12_clue_1 (by decide) ?_
  refine J_icmp_ge (tgt := 11) dX12_clue_2 (by decide) (fun _ => ?_) (fun q => absurd (by have hb0 := b_a2; simp only [fa_lt, fa_le, fa_eq, kc_m1]; omega) q)
  refine J_aload_n dX12_clue_11 rfl rfl ?_
  refine J_iload_n dX12_clue_12 rfl rfl ?_
  refine J_callV (st := []) dX12_clue_13 cv_X12_325 (c_X12_isHouse_3 (a1) b_a1 hk98 hk100 hk111) hk98 rfl rfl (Nat.le_of_ble_eq_true rfl) ⟨(Nat.le_of_ble_eq_true rfl), (Nat.le_of_ble_eq_true rfl)⟩ ⟨(Nat.le_of_ble_eq_true rfl), (Nat.le_of_ble_eq_true rfl)⟩ (fun r h9 hp => ?_)
  obtain ⟨rfl, rfl⟩ := hp
  refine J_nf (nh2 := nh) (ck2 := 0) (sk2 := 0) (st2 := [.int 0]) rfl rfl rfl rfl ?_
  refine J_app (L3 := [(98, .inr (12, [.int 0, .int 0, .ref 99, .ref 100, .ref 101, .ref 102, .ref 103, .ref 104, .ref 105, .int 0, .int (-1), .ref 106, .ref 107, .ref 108, .int 0, .int 0, .int 0, .int 0, .int 0, .int 0, .int 0, .ref 109, .int 0, .int 0, .ref 110, .ref 111, .ref 112, .ref 113, .ref 114, .ref 115, .ref 116, .ref 117, .int 1, .int 0, .int 0, .int (-1), .ref 118, .ref 119, .ref 120, .ref 121, .ref 122, .ref 123, .ref 124, .ref 125, .ref 126, .ref 127, .ref 128, .ref 129, .int 0, .ref 130, .ref 131, .ref 132, .ref 133, .ref 134, .int 0, .int 0])), (111, .inl (0, 1260, .inl (upd (fun _ => 0) 0 0)))]) rfl ?_
  refine J_if_ne (tgt := 26) dX12_clue_16 (by decide) (fun q => absurd (by decide +kernel) q) (fun _ => ?_)
  refine J_aload_n dX12_clue_19 rfl rfl ?_
  refine J_bipush (v := (-2)) dX12_clue_20 (by decide +kernel) ?_
  refine J_callV (st := []) dX12_clue_22 cv_X12_142 (c_X12_refuses_5 rfl hk99) rfl rfl rfl (Nat.le_of_ble_eq_true rfl) ⟨(Nat.le_of_ble_eq_true rfl), (Nat.le_of_ble_eq_true rfl)⟩ ⟨(Nat.le_of_ble_eq_true rfl), (Nat.le_of_ble_eq_true rfl)⟩ (fun r h9 hp => ?_)
  obtain ⟨rfl, rfl⟩ := hp
  refine J_nf (nh2 := nh) (ck2 := 0) (sk2 := 0) (st2 := [.int (-2)]) rfl rfl rfl rfl ?_
  refine J_app (L3 := [(99, .inl (0, 7, .inl (upd (fun _ => 0) 2 1))), (98, .inr (12, [.int (-2), .int 0, .ref 99, .ref 100, .ref 101, .ref 102, .ref 103, .ref 104, .ref 105, .int 0, .int (-1), .ref 106, .ref 107, .ref 108, .int 0, .int 0, .int 0, .int 0, .int 0, .int 0, .int 0, .ref 109, .int 0, .int 0, .ref 110, .ref 111, .ref 112, .ref 113, .ref 114, .ref 115, .ref 116, .ref 117, .int 1, .int 0, .int 0, .int (-1), .ref 118, .ref 119, .ref 120, .ref 121, .ref 122, .ref 123, .ref 124, .ref 125, .ref 126, .ref 127, .ref 128, .ref 129, .int 0, .ref 130, .ref 131, .ref 132, .ref 133, .ref 134, .int 0, .int 0])), (98, .inr (12, [.int 0, .int 0, .ref 99, .ref 100, .ref 101, .ref 102, .ref 103, .ref 104, .ref 105, .int 0, .int (-1), .ref 106, .ref 107, .ref 108, .int 0, .int 0, .int 0, .int 0, .int 0, .int 0, .int 0, .ref 109, .int 0, .int 0, .ref 110, .ref 111, .ref 112, .ref 113, .ref 114, .ref 115, .ref 116, .ref 117, .int 1, .int 0, .int 0, .int (-1), .ref 118, .ref 119, .ref 120, .ref 121, .ref 122, .ref 123, .ref 124, .ref 125, .ref 126, .ref 127, .ref 128, .ref 129, .int 0, .ref 130, .ref 131, .ref 132, .ref 133, .ref 134, .int 0, .int 0])), (111, .inl (0, 1260, .inl (upd (fun _ => 0) 0 0)))]) rfl ?_
  refine J_mask (L2 := [(99, .inl (0, 7, .inl (upd (fun _ => 0) 2 1))), (98, .inr (12, [.int (-2), .int 0, .ref 99, .ref 100, .ref 101, .ref 102, .ref 103, .ref 104, .ref 105, .int 0, .int (-1), .ref 106, .ref 107, .ref 108, .int 0, .int 0, .int 0, .int 0, .int 0, .int 0, .int 0, .ref 109, .int 0, .int 0, .ref 110, .ref 111, .ref 112, .ref 113, .ref 114, .ref 115, .ref 116, .ref 117, .int 1, .int 0, .int 0, .int (-1), .ref 118, .ref 119, .ref 120, .ref 121, .ref 122, .ref 123, .ref 124, .ref 125, .ref 126, .ref 127, .ref 128, .ref 129, .int 0, .ref 130, .ref 131, .ref 132, .ref 133, .ref 134, .int 0, .int 0])), (111, .inl (0, 1260, .inl (upd (fun _ => 0) 0 0)))]) (ks := [99, 98, 98, 111]) [true, true, false, true] rfl (by decide +kernel) rfl ?_
  exact J_iret dX12_clue_25 rfl rfl (Nat.le_of_ble_eq_true rfl) (Nat.le_of_ble_eq_true rfl) ⟨rfl, rfl⟩
set_option maxHeartbeats 4000000 in
set_option maxRecDepth 100000 in
theorem c_X11_forget_1 {l : Launch} {G : jG} {nh : Nat} {fh : Nat → Option va_E} (hk0 : fh 0 = some (.inr (11, [.ref 1, .ref 17, .ref 50, .ref 51, .ref 54, .ref 57, .ref 65, .ref 75, .ref 81, .ref 85, .ref 88, .ref 93, .ref 96, .int 0, .int (-1), .ref 97, .int 0]))) (hk1 : fh 1 = some (.inr (8, [.ref 2, .ref 3, .ref 4, .int 0, .int (-1), .ref 11, .ref 12, .int 0, .ref 13, .ref 14, .int 0, .ref 15, .ref 16, .int 0]))) (hk88 : fh 88 = some (.inr (6, [.ref 1, .ref 51, .ref 57, .ref 65, .ref 89, .ref 90, .int 0, .int (-1), .ref 91, .ref 92, .int (-1), .int (-1), .int (-1)]))) : JM l G yX11_forget MX11_forget { frames := 1, cells := 0, slots := 0, locals := 20 } [.ref 0] (nh, fh) (fun r h9 => r = some (.int 0) ∧ h9 = (nh, hc fh [(88, .inr (6, [.ref 1, .ref 51, .ref 57, .ref 65, .ref 89, .ref 90, .int 0, .int (-1), .ref 91, .ref 92, .int (-1), .int (-1), .int (-1)])), (1, .inr (8, [.ref 2, .ref 3, .ref 4, .int 0, .int (-1), .ref 11, .ref 12, .int 0, .ref 13, .ref 14, .int 0, .ref 15, .ref 16, .int 0]))])) := by
  refine JM.of (by decide) rfl (fun h => by cases h) (Nat.le_of_ble_eq_true rfl) ⟨1, rfl⟩ ?_
  refine J_hc0 (J_ls (ls2 := [some (.ref 0), none]) rfl ?_)
  refine J_aload_n dX11_forget_0 rfl rfl ?_
  refine J_get (v := .ref 1) dX11_forget_1 fl_X11_10 hk0 rfl ?_
  refine J_get (v := .int 0) dX11_forget_4 fl_X11_286 hk1 rfl ?_
  refine J_istore_n dX11_forget_7 rfl (Nat.le_of_ble_eq_true rfl) rfl ?_
  refine J_aload_n dX11_forget_8 rfl rfl ?_
  refine J_get (v := .ref 1) dX11_forget_9 fl_X11_10 hk0 rfl ?_
  refine J_iconst (v := 0) dX11_forget_12 (by decide) ?_
  refine K_put (fs2 := [.ref 2, .ref 3, .ref 4, .int 0, .int (-1), .ref 11, .ref 12, .int 0, .ref 13, .ref 14, .int 0, .ref 15, .ref 16, .int 0]) dX11_forget_13 fw_X11_286 hk1 (Nat.le_of_ble_eq_true rfl) (fun _ => ⟨rfl, rfl⟩) rfl ?_
  refine J_aload_n dX11_forget_16 rfl rfl ?_
  refine J_get (v := .ref 88) dX11_forget_17 fl_X11_82 hk0 rfl ?_
  refine J_callV (st := []) dX11_forget_20 cv_X11_292 (c_X6_change_1 hk88) hk88 rfl rfl (Nat.le_of_ble_eq_true rfl) ⟨(Nat.le_of_ble_eq_true rfl), (Nat.le_of_ble_eq_true rfl)⟩ ⟨(Nat.le_of_ble_eq_true rfl), (Nat.le_of_ble_eq_true rfl)⟩ (fun r h9 hp => ?_)
  obtain ⟨rfl, rfl⟩ := hp
  refine J_nf (nh2 := nh) (ck2 := 0) (sk2 := 0) (st2 := []) rfl rfl rfl rfl ?_
  refine J_app (L3 := [(88, .inr (6, [.ref 1, .ref 51, .ref 57, .ref 65, .ref 89, .ref 90, .int 0, .int (-1), .ref 91, .ref 92, .int (-1), .int (-1), .int (-1)])), (1, .inr (8, [.ref 2, .ref 3, .ref 4, .int 0, .int (-1), .ref 11, .ref 12, .int 0, .ref 13, .ref 14, .int 0, .ref 15, .ref 16, .int 0]))]) rfl ?_
  refine J_iload_n dX11_forget_23 rfl rfl ?_
  exact J_iret dX11_forget_24 rfl rfl (Nat.le_of_ble_eq_true rfl) (Nat.le_of_ble_eq_true rfl) ⟨rfl, rfl⟩
set_option maxHeartbeats 4000000 in
set_option maxRecDepth 100000 in
theorem c_X12_forget_1 {l : Launch} {G : jG} {nh : Nat} {fh : Nat → Option va_E} (hk98 : fh 98 = some (.inr (12, [.int 0, .int 0, .ref 99, .ref 100, .ref 101, .ref 102, .ref 103, .ref 104, .ref 105, .int 0, .int (-1), .ref 106, .ref 107, .ref 108, .int 0, .int 0, .int 0, .int 0, .int 0, .int 0, .int 0, .ref 109, .int 0, .int 0, .ref 110, .ref 111, .ref 112, .ref 113, .ref 114, .ref 115, .ref 116, .ref 117, .int 0, .int 0, .int (-1), .int (-1), .ref 118, .ref 119, .ref 120, .ref 121, .ref 122, .ref 123, .ref 124, .ref 125, .ref 126, .ref 127, .ref 128, .ref 129, .int 0, .ref 130, .ref 131, .ref 132, .ref 133, .ref 134, .int 0, .int 0]))) (hk100 : fh 100 = some (.inl (0, 4870, .inl (upd (fun _ => 0) 63 (-1))))) : JM l G yX12_forget MX12_forget { frames := 0, cells := 0, slots := 0, locals := 0 } [.ref 98] (nh, fh) (fun r h9 => r = some (.int 0) ∧ h9 = (nh, hc fh [(98, .inr (12, [.int 0, .int 1, .ref 99, .ref 100, .ref 101, .ref 102, .ref 103, .ref 104, .ref 105, .int 0, .int (-1), .ref 106, .ref 107, .ref 108, .int 0, .int 0, .int 0, .int 0, .int 0, .int 0, .int 0, .ref 109, .int 0, .int 0, .ref 110, .ref 111, .ref 112, .ref 113, .ref 114, .ref 115, .ref 116, .ref 117, .int 0, .int 0, .int (-1), .int (-1), .ref 118, .ref 119, .ref 120, .ref 121, .ref 122, .ref 123, .ref 124, .ref 125, .ref 126, .ref 127, .ref 128, .ref 129, .int 0, .ref 130, .ref 131, .ref 132, .ref 133, .ref 134, .int 0, .int 0])), (100, .inl (0, 4870, .inl (upd (upd (fun _ => 0) 63 (-1)) 61 0)))])) := by
  refine JM.of (by decide) rfl (fun h => by cases h) (Nat.le_of_ble_eq_true rfl) ⟨1, rfl⟩ ?_
  refine J_hc0 (J_ls (ls2 := [some (.ref 98), none]) rfl ?_)
  refine J_aload_n dX12_forget_0 rfl rfl ?_
  refine J_get (v := .ref 100) dX12_forget_1 fl_X12_20 hk98 rfl ?_
  refine J_bipush (v := 61) dX12_forget_4 (by decide +kernel) ?_
  refine J_iald (i2 := 61) (v := 0) dX12_forget_6 hk100 rfl (jin (by decide +kernel)) (by decide +kernel) rfl ?_
  refine J_istore_n dX12_forget_7 rfl (Nat.le_of_ble_eq_true rfl) rfl ?_
  refine J_aload_n dX12_forget_8 rfl rfl ?_
  refine J_get (v := .ref 100) dX12_forget_9 fl_X12_20 hk98 rfl ?_
  refine J_bipush (v := 61) dX12_forget_12 (by decide +kernel) ?_
  refine J_iconst (v := 0) dX12_forget_14 (by decide) ?_
  refine K_iast (i2 := 61) dX12_forget_15 hk100 rfl (jin (by decide +kernel)) (by decide +kernel) ?_
  refine J_aload_n dX12_forget_16 rfl rfl ?_
  refine J_dup dX12_forget_17 rfl ?_
  refine J_get (v := .int 0) dX12_forget_18 fl_X12_11 hk98 rfl ?_
  refine J_iconst (v := 1) dX12_forget_21 (by decide) ?_
  refine J_iadd (z := 1) dX12_forget_22 (by decide +kernel) ?_
  refine K_put (fs2 := [.int 0, .int 1, .ref 99, .ref 100, .ref 101, .ref 102, .ref 103, .ref 104, .ref 105, .int 0, .int (-1), .ref 106, .ref 107, .ref 108, .int 0, .int 0, .int 0, .int 0, .int 0, .int 0, .int 0, .ref 109, .int 0, .int 0, .ref 110, .ref 111, .ref 112, .ref 113, .ref 114, .ref 115, .ref 116, .ref 117, .int 0, .int 0, .int (-1), .int (-1), .ref 118, .ref 119, .ref 120, .ref 121, .ref 122, .ref 123, .ref 124, .ref 125, .ref 126, .ref 127, .ref 128, .ref 129, .int 0, .ref 130, .ref 131, .ref 132, .ref 133, .ref 134, .int 0, .int 0]) dX12_forget_23 fw_X12_11 hk98 (Nat.le_of_ble_eq_true rfl) (fun _ => ⟨rfl, rfl⟩) rfl ?_
  refine J_iload_n dX12_forget_26 rfl rfl ?_
  exact J_iret dX12_forget_27 rfl rfl (Nat.le_of_ble_eq_true rfl) (Nat.le_of_ble_eq_true rfl) ⟨rfl, rfl⟩
set_option maxHeartbeats 4000000 in
set_option maxRecDepth 100000 in
theorem c_X6_refit_1 {l : Launch} {G : jG} {nh : Nat} {fh : Nat → Option va_E} (hk1 : fh 1 = some (.inr (8, [.ref 2, .ref 3, .ref 4, .int 0, .int (-1), .ref 11, .ref 12, .int 0, .ref 13, .ref 14, .int 0, .ref 15, .ref 16, .int 0]))) (hk51 : fh 51 = some (.inr (0, [.ref 52, .ref 53, .int 1, .int 0]))) (hk57 : fh 57 = some (.inr (9, [.ref 1, .ref 51, .ref 58, .ref 61, .ref 62, .ref 135, .ref 64, .int 0, .int 0, .int 0]))) (hk88 : fh 88 = some (.inr (6, [.ref 1, .ref 51, .ref 57, .ref 65, .ref 89, .ref 90, .int 0, .int (-1), .ref 91, .ref 92, .int (-1), .int (-1), .int (-1)]))) (hk89 : fh 89 = some (.inl (2, 1260, .inl (fun _ => 0)))) (hk90 : fh 90 = some (.inl (0, 1260, .inl (fun _ => 0)))) : JM l G yX6_refit MX6_refit { frames := 1, cells := 0, slots := 0, locals := 20 } [.ref 88] (nh, fh) (fun r h9 => r = none ∧ h9 = (nh, hc fh [(88, .inr (6, [.ref 1, .ref 51, .ref 57, .ref 65, .ref 89, .ref 90, .int 1, .int 0, .ref 91, .ref 92, .int (-1), .int (-1), .int (-1)])), (90, .inl (0, 1260, .inl (upd (fun _ => 0) 0 0))), (89, .inl (2, 1260, .inl (upd (fun _ => 0) 0 1)))])) := by
  refine JM.of (by decide) rfl (fun h => by cases h) (Nat.le_of_ble_eq_true rfl) ⟨3, rfl⟩ ?_
  refine J_hc0 (J_ls (ls2 := [some (.ref 88), none, none, none]) rfl ?_)
  refine J_aload_n dX6_refit_0 rfl rfl ?_
  refine J_get (v := .int (-1)) dX6_refit_1 fl_X6_23 hk88 rfl ?_
  refine J_aload_n dX6_refit_4 rfl rfl ?_
  refine J_get (v := .ref 57) dX6_refit_5 fl_X6_49 hk88 rfl ?_
  refine J_callV (st := [.int (-1)]) dX6_refit_8 cv_X6_57 (c_X9_version_1 hk57) hk57 rfl rfl (Nat.le_of_ble_eq_true rfl) ⟨(Nat.le_of_ble_eq_true rfl), (Nat.le_of_ble_eq_true rfl)⟩ ⟨(Nat.le_of_ble_eq_true rfl), (Nat.le_of_ble_eq_true rfl)⟩ (fun r h9 hp => ?_)
  obtain ⟨rfl, rfl⟩ := hp
  refine J_nf (nh2 := nh) (ck2 := 0) (sk2 := 0) (st2 := [.int 0, .int (-1)]) rfl rfl rfl rfl ?_
  refine J_icmp_ne (tgt := 15) dX6_refit_11 (by decide) (fun _ => ?_) (fun q => absurd q (by decide +kernel))
  refine J_aload_n dX6_refit_15 rfl rfl ?_
  refine J_aload_n dX6_refit_16 rfl rfl ?_
  refine J_get (v := .ref 57) dX6_refit_17 fl_X6_49 hk88 rfl ?_
  refine J_callV (st := [.ref 88]) dX6_refit_20 cv_X6_57 (c_X9_version_1 hk57) hk57 rfl rfl (Nat.le_of_ble_eq_true rfl) ⟨(Nat.le_of_ble_eq_true rfl), (Nat.le_of_ble_eq_true rfl)⟩ ⟨(Nat.le_of_ble_eq_true rfl), (Nat.le_of_ble_eq_true rfl)⟩ (fun r h9 hp => ?_)
  obtain ⟨rfl, rfl⟩ := hp
  refine J_nf (nh2 := nh) (ck2 := 0) (sk2 := 0) (st2 := [.int 0, .ref 88]) rfl rfl rfl rfl ?_
  refine K_put (fs2 := [.ref 1, .ref 51, .ref 57, .ref 65, .ref 89, .ref 90, .int 0, .int 0, .ref 91, .ref 92, .int (-1), .int (-1), .int (-1)]) dX6_refit_23 fw_X6_23 hk88 (Nat.le_of_ble_eq_true rfl) (fun _ => ⟨rfl, rfl⟩) rfl ?_
  refine J_aload_n dX6_refit_26 rfl rfl ?_
  refine J_get (v := .ref 51) dX6_refit_27 fl_X6_45 rfl rfl ?_
  refine J_callV (st := []) dX6_refit_30 cv_X6_63 (c_X0_many_1 hk51) hk51 rfl rfl (Nat.le_of_ble_eq_true rfl) ⟨(Nat.le_of_ble_eq_true rfl), (Nat.le_of_ble_eq_true rfl)⟩ ⟨(Nat.le_of_ble_eq_true rfl), (Nat.le_of_ble_eq_true rfl)⟩ (fun r h9 hp => ?_)
  obtain ⟨rfl, rfl⟩ := hp
  refine J_nf (nh2 := nh) (ck2 := 0) (sk2 := 0) (st2 := [.int 1]) rfl rfl rfl rfl ?_
  refine J_istore_n dX6_refit_33 rfl (Nat.le_of_ble_eq_true rfl) rfl ?_
  refine J_iconst (v := 0) dX6_refit_34 (by decide) ?_
  refine J_istore_n dX6_refit_35 rfl (Nat.le_of_ble_eq_true rfl) rfl ?_
  refine J_iload_n dX6_refit_36 rfl rfl ?_
  refine J_iload_n dX6_refit_37 rfl rfl ?_
  refine J_icmp_ge (tgt := 54) dX6_refit_38 (by decide) (fun q => absurd q (by decide +kernel)) (fun _ => ?_)
  refine J_aload_n dX6_refit_41 rfl rfl ?_
  refine J_get (v := .ref 89) dX6_refit_42 fl_X6_9 rfl rfl ?_
  refine J_iload_n dX6_refit_45 rfl rfl ?_
  refine J_iconst (v := 1) dX6_refit_46 (by decide) ?_
  refine K_zast (i2 := 0) (y := 1) dX6_refit_47 hk89 rfl (jin (by decide +kernel)) (by decide +kernel) (by decide +kernel) ?_
  refine J_iinc (v := 1) dX6_refit_48 rfl (by decide +kernel) (Nat.le_of_ble_eq_true rfl) rfl ?_
  refine J_ls (ls2 := [some (.ref 88), some (.int 1), some (.int 1), none]) rfl ?_
  refine J_goto (tgt := 36) dX6_refit_51 (by decide) ?_
  refine J_iload_n dX6_refit_36 rfl rfl ?_
  refine J_iload_n dX6_refit_37 rfl rfl ?_
  refine J_icmp_ge (tgt := 54) dX6_refit_38 (by decide) (fun _ => ?_) (fun q => absurd (by decide +kernel) q)
  refine J_iconst (v := 0) dX6_refit_54 (by decide) ?_
  refine J_istore_n dX6_refit_55 rfl (Nat.le_of_ble_eq_true rfl) rfl ?_
  refine J_iload_n dX6_refit_56 rfl rfl ?_
  refine J_aload_n dX6_refit_57 rfl rfl ?_
  refine J_get (v := .ref 1) dX6_refit_58 fl_X6_41 rfl rfl ?_
  refine J_get (v := .int 0) dX6_refit_61 fl_X6_67 hk1 rfl ?_
  refine J_icmp_ge (tgt := 143) dX6_refit_64 (by decide) (fun _ => ?_) (fun q => absurd (by decide +kernel) q)
  refine J_aload_n dX6_refit_143 rfl rfl ?_
  refine J_iconst (v := 0) dX6_refit_144 (by decide) ?_
  refine K_put (fs2 := [.ref 1, .ref 51, .ref 57, .ref 65, .ref 89, .ref 90, .int 0, .int 0, .ref 91, .ref 92, .int (-1), .int (-1), .int (-1)]) dX6_refit_145 fw_X6_19 rfl (Nat.le_of_ble_eq_true rfl) (fun _ => ⟨rfl, rfl⟩) rfl ?_
  refine J_iconst (v := 0) dX6_refit_148 (by decide) ?_
  refine J_istore_n dX6_refit_149 rfl (Nat.le_of_ble_eq_true rfl) rfl ?_
  refine J_iload_n dX6_refit_150 rfl rfl ?_
  refine J_iload_n dX6_refit_151 rfl rfl ?_
  refine J_icmp_ge (tgt := 190) dX6_refit_152 (by decide) (fun q => absurd q (by decide +kernel)) (fun _ => ?_)
  refine J_aload_n dX6_refit_155 rfl rfl ?_
  refine J_get (v := .ref 89) dX6_refit_156 fl_X6_9 rfl rfl ?_
  refine J_iload_n dX6_refit_159 rfl rfl ?_
  refine J_zald (i2 := 0) (v := 1) dX6_refit_160 rfl rfl (jin (by decide +kernel)) (by decide +kernel) rfl ?_
  refine J_if_eq (tgt := 184) dX6_refit_161 (by decide) (fun q => absurd q (by decide +kernel)) (fun _ => ?_)
  refine J_aload_n dX6_refit_164 rfl rfl ?_
  refine J_get (v := .ref 90) dX6_refit_165 fl_X6_15 rfl rfl ?_
  refine J_aload_n dX6_refit_168 rfl rfl ?_
  refine J_get (v := .int 0) dX6_refit_169 fl_X6_19 rfl rfl ?_
  refine J_iload_n dX6_refit_172 rfl rfl ?_
  refine K_iast (i2 := 0) dX6_refit_173 hk90 rfl (jin (by decide +kernel)) (by decide +kernel) ?_
  refine J_aload_n dX6_refit_174 rfl rfl ?_
  refine J_dup dX6_refit_175 rfl ?_
  refine J_get (v := .int 0) dX6_refit_176 fl_X6_19 rfl rfl ?_
  refine J_iconst (v := 1) dX6_refit_179 (by decide) ?_
  refine J_iadd (z := 1) dX6_refit_180 (by decide +kernel) ?_
  refine K_put (fs2 := [.ref 1, .ref 51, .ref 57, .ref 65, .ref 89, .ref 90, .int 1, .int 0, .ref 91, .ref 92, .int (-1), .int (-1), .int (-1)]) dX6_refit_181 fw_X6_19 rfl (Nat.le_of_ble_eq_true rfl) (fun _ => ⟨rfl, rfl⟩) rfl ?_
  refine J_iinc (v := 1) dX6_refit_184 rfl (by decide +kernel) (Nat.le_of_ble_eq_true rfl) rfl ?_
  refine J_ls (ls2 := [some (.ref 88), some (.int 1), some (.int 1), none]) rfl ?_
  refine J_goto (tgt := 150) dX6_refit_187 (by decide) ?_
  refine J_iload_n dX6_refit_150 rfl rfl ?_
  refine J_iload_n dX6_refit_151 rfl rfl ?_
  refine J_icmp_ge (tgt := 190) dX6_refit_152 (by decide) (fun _ => ?_) (fun q => absurd (by decide +kernel) q)
  refine J_mask (L2 := [(88, .inr (6, [.ref 1, .ref 51, .ref 57, .ref 65, .ref 89, .ref 90, .int 1, .int 0, .ref 91, .ref 92, .int (-1), .int (-1), .int (-1)])), (90, .inl (0, 1260, .inl (upd (fun _ => 0) 0 0))), (89, .inl (2, 1260, .inl (upd (fun _ => 0) 0 1)))]) (ks := [88, 90, 88, 89, 88]) [true, true, false, true, false] rfl (by decide +kernel) rfl ?_
  exact J_vret dX6_refit_190 rfl (Nat.le_of_ble_eq_true rfl) (Nat.le_of_ble_eq_true rfl) ⟨rfl, rfl⟩
set_option maxHeartbeats 4000000 in
set_option maxRecDepth 100000 in
theorem c_X6_at_1 {l : Launch} {G : jG} {nh : Nat} {fh : Nat → Option va_E} (a1 : Int32) (b_a1 : (-2147483648) ≤ a1.toInt ∧ a1.toInt ≤ (-2)) : JM l G yX6_at MX6_at { frames := 0, cells := 0, slots := 0, locals := 0 } [.ref 88, .int a1] (nh, fh) (fun r h9 => r = some (.int (-1)) ∧ h9 = (nh, fh)) := by
  refine JM.of (by decide) rfl (fun h => by cases h) (Nat.le_of_ble_eq_true rfl) ⟨0, rfl⟩ ?_
  refine J_hc0 (J_ls (ls2 := [some (.ref 88), some (.int a1)]) rfl ?_)
  refine J_iload_n dX6_at_0 rfl rfl ?_
  refine J_if_lt (tgt := 21) dX6_at_1 (by decide) (fun _ => ?_) (fun q => absurd (by have hb0 := b_a1; simp only [fa_lt, fa_le, fa_eq, kc_0]; omega) q)
  refine J_iconst (v := (-1)) dX6_at_21 (by decide) ?_
  exact J_iret dX6_at_22 rfl rfl (Nat.le_of_ble_eq_true rfl) (Nat.le_of_ble_eq_true rfl) ⟨rfl, rfl⟩
set_option maxHeartbeats 4000000 in
set_option maxRecDepth 100000 in
theorem c_X11_fits_1 {l : Launch} {G : jG} {fh : Nat → Option va_E} (a1 : Int32) (b_a1 : (-2147483648) ≤ a1.toInt ∧ a1.toInt ≤ (-2)) (hk0 : fh 0 = some (.inr (11, [.ref 1, .ref 17, .ref 50, .ref 51, .ref 54, .ref 57, .ref 65, .ref 75, .ref 81, .ref 85, .ref 88, .ref 93, .ref 96, .int 0, .int (-1), .ref 97, .int 0]))) (hk1 : fh 1 = some (.inr (8, [.ref 2, .ref 3, .ref 4, .int 0, .int (-1), .ref 11, .ref 12, .int 0, .ref 13, .ref 14, .int 0, .ref 15, .ref 16, .int 0]))) (hk3 : fh 3 = some (.inl (0, 2, .inl (fun _ => 0)))) (hk51 : fh 51 = some (.inr (0, [.ref 52, .ref 53, .int 1, .int 0]))) (hk57 : fh 57 = some (.inr (9, [.ref 1, .ref 51, .ref 58, .ref 61, .ref 62, .ref 63, .ref 64, .int 0, .int 1, .int 1]))) (hk58 : fh 58 = some (.inr (1, [.ref 59, .ref 60, .int 0, .int 0, .int 0, .int 0, .int 0, .int 1]))) (hk59 : fh 59 = some (.inl (0, 8, .inl (fun _ => 0)))) (hk62 : fh 62 = some (.inl (0, 1260, .inl (fun _ => 0)))) (hk63 : fh 63 = some (.inl (0, 0, .inl (fun _ => 0)))) (hk88 : fh 88 = some (.inr (6, [.ref 1, .ref 51, .ref 57, .ref 65, .ref 89, .ref 90, .int 0, .int (-1), .ref 91, .ref 92, .int (-1), .int (-1), .int (-1)]))) (hk89 : fh 89 = some (.inl (2, 1260, .inl (fun _ => 0)))) (hk90 : fh 90 = some (.inl (0, 1260, .inl (fun _ => 0)))) : JM l G yX11_fits MX11_fits { frames := 3, cells := 1, slots := 22, locals := 67 } [.ref 0, .int a1] (135, fh) (fun r h9 => r = some (.int (-1)) ∧ h9 = (136, hc fh [(88, .inr (6, [.ref 1, .ref 51, .ref 57, .ref 65, .ref 89, .ref 90, .int 1, .int 0, .ref 91, .ref 92, .int (-1), .int (-1), .int (-1)])), (90, .inl (0, 1260, .inl (upd (fun _ => 0) 0 0))), (89, .inl (2, 1260, .inl (upd (fun _ => 0) 0 1))), (57, .inr (9, [.ref 1, .ref 51, .ref 58, .ref 61, .ref 62, .ref 135, .ref 64, .int 0, .int 0, .int 0])), (62, .inl (0, 1260, .inl (upd (fun _ => 0) 0 (-1)))), (135, .inl (0, 22, .inl (fun _ => 0))), (59, .inl (0, 8, .inl (upd (upd (fun _ => 0) 6 0) 7 0)))])) := by
  refine JM.of (by decide) rfl (fun h => by cases h) (Nat.le_of_ble_eq_true rfl) ⟨0, rfl⟩ ?_
  refine J_hc0 (J_ls (ls2 := [some (.ref 0), some (.int a1)]) rfl ?_)
  refine J_aload_n dX11_fits_0 rfl rfl ?_
  refine J_get (v := .ref 57) dX11_fits_1 fl_X11_43 hk0 rfl ?_
  refine J_callV (st := []) dX11_fits_4 cv_X11_217 (c_X9_prepare_1 hk1 hk3 hk51 hk57 hk58 hk59 hk62 hk63) hk57 rfl rfl (Nat.le_of_ble_eq_true rfl) ⟨(Nat.le_of_ble_eq_true rfl), (Nat.le_of_ble_eq_true rfl)⟩ ⟨(Nat.le_of_ble_eq_true rfl), (Nat.le_of_ble_eq_true rfl)⟩ (fun r h9 hp => ?_)
  obtain ⟨rfl, rfl⟩ := hp
  refine J_nf (nh2 := 136) (ck2 := 1) (sk2 := 22) (st2 := []) rfl rfl rfl rfl ?_
  refine J_app (L3 := [(57, .inr (9, [.ref 1, .ref 51, .ref 58, .ref 61, .ref 62, .ref 135, .ref 64, .int 0, .int 0, .int 0])), (62, .inl (0, 1260, .inl (upd (fun _ => 0) 0 (-1)))), (135, .inl (0, 22, .inl (fun _ => 0))), (59, .inl (0, 8, .inl (upd (upd (fun _ => 0) 6 0) 7 0)))]) rfl ?_
  refine J_aload_n dX11_fits_7 rfl rfl ?_
  refine J_get (v := .ref 88) dX11_fits_8 fl_X11_82 hk0 rfl ?_
  refine J_callV (st := []) dX11_fits_11 cv_X11_295 (c_X6_refit_1 hk1 hk51 rfl hk88 hk89 hk90) hk88 rfl rfl (Nat.le_of_ble_eq_true rfl) ⟨(Nat.le_of_ble_eq_true rfl), (Nat.le_of_ble_eq_true rfl)⟩ ⟨(Nat.le_of_ble_eq_true rfl), (Nat.le_of_ble_eq_true rfl)⟩ (fun r h9 hp => ?_)
  obtain ⟨rfl, rfl⟩ := hp
  refine J_nf (nh2 := 136) (ck2 := 1) (sk2 := 22) (st2 := []) rfl rfl rfl rfl ?_
  refine J_app (L3 := [(88, .inr (6, [.ref 1, .ref 51, .ref 57, .ref 65, .ref 89, .ref 90, .int 1, .int 0, .ref 91, .ref 92, .int (-1), .int (-1), .int (-1)])), (90, .inl (0, 1260, .inl (upd (fun _ => 0) 0 0))), (89, .inl (2, 1260, .inl (upd (fun _ => 0) 0 1))), (57, .inr (9, [.ref 1, .ref 51, .ref 58, .ref 61, .ref 62, .ref 135, .ref 64, .int 0, .int 0, .int 0])), (62, .inl (0, 1260, .inl (upd (fun _ => 0) 0 (-1)))), (135, .inl (0, 22, .inl (fun _ => 0))), (59, .inl (0, 8, .inl (upd (upd (fun _ => 0) 6 0) 7 0)))]) rfl ?_
  refine J_iload_n dX11_fits_14 rfl rfl ?_
  refine J_iconst (v := (-1)) dX11_fits_15 (by decide) ?_
  refine J_icmp_ne (tgt := 29) dX11_fits_16 (by decide) (fun _ => ?_) (fun q => absurd q (by have hb0 := b_a1; simp only [fa_lt, fa_le, fa_eq, kc_m1]; omega))
  refine J_aload_n dX11_fits_29 rfl rfl ?_
  refine J_get (v := .ref 88) dX11_fits_30 fl_X11_82 hk0 rfl ?_
  refine J_iload_n dX11_fits_33 rfl rfl ?_
  refine J_callV (st := []) dX11_fits_34 cv_X11_299 (c_X6_at_1 (a1) b_a1) rfl rfl rfl (Nat.le_of_ble_eq_true rfl) ⟨(Nat.le_of_ble_eq_true rfl), (Nat.le_of_ble_eq_true rfl)⟩ ⟨(Nat.le_of_ble_eq_true rfl), (Nat.le_of_ble_eq_true rfl)⟩ (fun r h9 hp => ?_)
  obtain ⟨rfl, rfl⟩ := hp
  refine J_nf (nh2 := 136) (ck2 := 1) (sk2 := 22) (st2 := [.int (-1)]) rfl rfl rfl rfl ?_
  exact J_iret dX11_fits_37 rfl rfl (Nat.le_of_ble_eq_true rfl) (Nat.le_of_ble_eq_true rfl) ⟨rfl, rfl⟩
set_option maxHeartbeats 4000000 in
set_option maxRecDepth 100000 in
theorem c_X12_looks_2 {l : Launch} {G : jG} {nh : Nat} {fh : Nat → Option va_E} (hk98 : fh 98 = some (.inr (12, [.int 0, .int 0, .ref 99, .ref 100, .ref 101, .ref 102, .ref 103, .ref 104, .ref 105, .int 0, .int (-1), .ref 106, .ref 107, .ref 108, .int 0, .int 0, .int 0, .int 0, .int 0, .int 0, .int 0, .ref 109, .int 0, .int 0, .ref 110, .ref 111, .ref 112, .ref 113, .ref 114, .ref 115, .ref 116, .ref 117, .int 0, .int 0, .int (-1), .int (-1), .ref 118, .ref 119, .ref 120, .ref 121, .ref 122, .ref 123, .ref 124, .ref 125, .ref 126, .ref 127, .ref 128, .ref 129, .int 0, .ref 130, .ref 131, .ref 132, .ref 133, .ref 134, .int 0, .int 0]))) (hk100 : fh 100 = some (.inl (0, 4870, .inl (upd (fun _ => 0) 63 (-1))))) (hk111 : fh 111 = some (.inl (0, 1260, .inl (fun _ => 0)))) (hk114 : fh 114 = some (.inl (0, 1260, .inl (fun _ => 0)))) (hk116 : fh 116 = some (.inl (0, 1260, .inl (fun _ => 0)))) : JM l G yX12_looks MX12_looks { frames := 2, cells := 0, slots := 0, locals := 48 } [.ref 98] (nh, fh) (fun r h9 => r = none ∧ h9 = (nh, hc fh [(114, .inl (0, 1260, .inl (upd (fun _ => 0) 0 0))), (116, .inl (0, 1260, .inl (upd (fun _ => 0) 0 0))), (98, .inr (12, [.int 0, .int 0, .ref 99, .ref 100, .ref 101, .ref 102, .ref 103, .ref 104, .ref 105, .int 0, .int (-1), .ref 106, .ref 107, .ref 108, .int 0, .int 0, .int 0, .int 0, .int 0, .int 0, .int 0, .ref 109, .int 0, .int 0, .ref 110, .ref 111, .ref 112, .ref 113, .ref 114, .ref 115, .ref 116, .ref 117, .int 1, .int 0, .int 0, .int 0, .ref 118, .ref 119, .ref 120, .ref 121, .ref 122, .ref 123, .ref 124, .ref 125, .ref 126, .ref 127, .ref 128, .ref 129, .int 0, .ref 130, .ref 131, .ref 132, .ref 133, .ref 134, .int 0, .int 0])), (111, .inl (0, 1260, .inl (upd (fun _ => 0) 0 0)))])) := by
  refine JM.of (by decide) rfl (fun h => by cases h) (Nat.le_of_ble_eq_true rfl) ⟨3, rfl⟩ ?_
  refine J_hc0 (J_ls (ls2 := [some (.ref 98), none, none, none]) rfl ?_)
  refine J_aload_n dX12_looks_0 rfl rfl ?_
  refine J_callV (st := []) dX12_looks_1 cv_X12_159 (c_X12_laysHouses_1 hk98 hk100 hk111) hk98 rfl rfl (Nat.le_of_ble_eq_true rfl) ⟨(Nat.le_of_ble_eq_true rfl), (Nat.le_of_ble_eq_true rfl)⟩ ⟨(Nat.le_of_ble_eq_true rfl), (Nat.le_of_ble_eq_true rfl)⟩ (fun r h9 hp => ?_)
  obtain ⟨rfl, rfl⟩ := hp
  refine J_nf (nh2 := nh) (ck2 := 0) (sk2 := 0) (st2 := []) rfl rfl rfl rfl ?_
  refine J_app (L3 := [(98, .inr (12, [.int 0, .int 0, .ref 99, .ref 100, .ref 101, .ref 102, .ref 103, .ref 104, .ref 105, .int 0, .int (-1), .ref 106, .ref 107, .ref 108, .int 0, .int 0, .int 0, .int 0, .int 0, .int 0, .int 0, .ref 109, .int 0, .int 0, .ref 110, .ref 111, .ref 112, .ref 113, .ref 114, .ref 115, .ref 116, .ref 117, .int 1, .int 0, .int 0, .int (-1), .ref 118, .ref 119, .ref 120, .ref 121, .ref 122, .ref 123, .ref 124, .ref 125, .ref 126, .ref 127, .ref 128, .ref 129, .int 0, .ref 130, .ref 131, .ref 132, .ref 133, .ref 134, .int 0, .int 0])), (111, .inl (0, 1260, .inl (upd (fun _ => 0) 0 0)))]) rfl ?_
  refine J_aload_n dX12_looks_4 rfl rfl ?_
  refine J_get (v := .int (-1)) dX12_looks_5 fl_X12_82 rfl rfl ?_
  refine J_aload_n dX12_looks_8 rfl rfl ?_
  refine J_get (v := .int 0) dX12_looks_9 fl_X12_11 rfl rfl ?_
  refine J_icmp_ne (tgt := 16) dX12_looks_12 (by decide) (fun _ => ?_) (fun q => absurd q (by decide +kernel))
  refine J_aload_n dX12_looks_16 rfl rfl ?_
  refine J_aload_n dX12_looks_17 rfl rfl ?_
  refine J_get (v := .int 0) dX12_looks_18 fl_X12_11 rfl rfl ?_
  refine K_put (fs2 := [.int 0, .int 0, .ref 99, .ref 100, .ref 101, .ref 102, .ref 103, .ref 104, .ref 105, .int 0, .int (-1), .ref 106, .ref 107, .ref 108, .int 0, .int 0, .int 0, .int 0, .int 0, .int 0, .int 0, .ref 109, .int 0, .int 0, .ref 110, .ref 111, .ref 112, .ref 113, .ref 114, .ref 115, .ref 116, .ref 117, .int 1, .int 0, .int 0, .int 0, .ref 118, .ref 119, .ref 120, .ref 121, .ref 122, .ref 123, .ref 124, .ref 125, .ref 126, .ref 127, .ref 128, .ref 129, .int 0, .ref 130, .ref 131, .ref 132, .ref 133, .ref 134, .int 0, .int 0]) dX12_looks_21 fw_X12_82 rfl (Nat.le_of_ble_eq_true rfl) (fun _ => ⟨rfl, rfl⟩) rfl ?_
  refine J_iconst (v := 0) dX12_looks_24 (by decide) ?_
  refine J_istore_n dX12_looks_25 rfl (Nat.le_of_ble_eq_true rfl) rfl ?_
  refine J_iload_n dX12_looks_26 rfl rfl ?_
  refine J_aload_n dX12_looks_27 rfl rfl ?_
  refine J_get (v := .int 1) dX12_looks_28 fl_X12_298 rfl rfl ?_
  refine J_icmp_ge (tgt := 47) dX12_looks_31 (by decide) (fun q => absurd q (by decide +kernel)) (fun _ => ?_)
  refine J_aload_n dX12_looks_34 rfl rfl ?_
  refine J_get (v := .ref 116) dX12_looks_35 fl_X12_73 rfl rfl ?_
  refine J_iload_n dX12_looks_38 rfl rfl ?_
  refine J_iconst (v := 0) dX12_looks_39 (by decide) ?_
  refine K_iast (i2 := 0) dX12_looks_40 hk116 rfl (jin (by decide +kernel)) (by decide +kernel) ?_
  refine J_iinc (v := 1) dX12_looks_41 rfl (by decide +kernel) (Nat.le_of_ble_eq_true rfl) rfl ?_
  refine J_ls (ls2 := [some (.ref 98), some (.int 1), none, none]) rfl ?_
  refine J_goto (tgt := 26) dX12_looks_44 (by decide) ?_
  refine J_iload_n dX12_looks_26 rfl rfl ?_
  refine J_aload_n dX12_looks_27 rfl rfl ?_
  refine J_get (v := .int 1) dX12_looks_28 fl_X12_298 rfl rfl ?_
  refine J_icmp_ge (tgt := 47) dX12_looks_31 (by decide) (fun _ => ?_) (fun q => absurd (by decide +kernel) q)
  refine J_iconst (v := 0) dX12_looks_47 (by decide) ?_
  refine J_istore_n dX12_looks_48 rfl (Nat.le_of_ble_eq_true rfl) rfl ?_
  refine J_iload_n dX12_looks_49 rfl rfl ?_
  refine J_aload_n dX12_looks_50 rfl rfl ?_
  refine J_get (v := .int 1) dX12_looks_51 fl_X12_298 rfl rfl ?_
  refine J_icmp_ge (tgt := 235) dX12_looks_54 (by decide) (fun q => absurd q (by decide +kernel)) (fun _ => ?_)
  refine J_aload_n dX12_looks_57 rfl rfl ?_
  refine J_get (v := .ref 114) dX12_looks_58 fl_X12_67 rfl rfl ?_
  refine J_iload_n dX12_looks_61 rfl rfl ?_
  refine J_iconst (v := 0) dX12_looks_62 (by decide) ?_
  refine K_iast (i2 := 0) dX12_looks_63 hk114 rfl (jin (by decide +kernel)) (by decide +kernel) ?_
  refine J_iconst (v := 0) dX12_looks_64 (by decide) ?_
  refine J_istore_n dX12_looks_65 rfl (Nat.le_of_ble_eq_true rfl) rfl ?_
  refine J_iload_n dX12_looks_66 rfl rfl ?_
  refine J_aload_n dX12_looks_67 rfl rfl ?_
  refine J_get (v := .int 0) dX12_looks_68 fl_X12_293 rfl rfl ?_
  refine J_icmp_ge (tgt := 161) dX12_looks_71 (by decide) (fun _ => ?_) (fun q => absurd (by decide +kernel) q)
  refine J_aload_n dX12_looks_161 rfl rfl ?_
  refine J_get (v := .ref 100) dX12_looks_162 fl_X12_20 rfl rfl ?_
  refine J_iconst (v := 5) dX12_looks_165 (by decide) ?_
  refine J_iald (i2 := 5) (v := 0) dX12_looks_166 hk100 rfl (jin (by decide +kernel)) (by decide +kernel) rfl ?_
  refine J_if_eq (tgt := 229) dX12_looks_167 (by decide) (fun _ => ?_) (fun q => absurd (by decide +kernel) q)
  refine J_iinc (v := 1) dX12_looks_229 rfl (by decide +kernel) (Nat.le_of_ble_eq_true rfl) rfl ?_
  refine J_ls (ls2 := [some (.ref 98), some (.int 1), some (.int 0), none]) rfl ?_
  refine J_goto (tgt := 49) dX12_looks_232 (by decide) ?_
  refine J_iload_n dX12_looks_49 rfl rfl ?_
  refine J_aload_n dX12_looks_50 rfl rfl ?_
  refine J_get (v := .int 1) dX12_looks_51 fl_X12_298 rfl rfl ?_
  refine J_icmp_ge (tgt := 235) dX12_looks_54 (by decide) (fun _ => ?_) (fun q => absurd (by decide +kernel) q)
  refine J_mask (L2 := [(114, .inl (0, 1260, .inl (upd (fun _ => 0) 0 0))), (116, .inl (0, 1260, .inl (upd (fun _ => 0) 0 0))), (98, .inr (12, [.int 0, .int 0, .ref 99, .ref 100, .ref 101, .ref 102, .ref 103, .ref 104, .ref 105, .int 0, .int (-1), .ref 106, .ref 107, .ref 108, .int 0, .int 0, .int 0, .int 0, .int 0, .int 0, .int 0, .ref 109, .int 0, .int 0, .ref 110, .ref 111, .ref 112, .ref 113, .ref 114, .ref 115, .ref 116, .ref 117, .int 1, .int 0, .int 0, .int 0, .ref 118, .ref 119, .ref 120, .ref 121, .ref 122, .ref 123, .ref 124, .ref 125, .ref 126, .ref 127, .ref 128, .ref 129, .int 0, .ref 130, .ref 131, .ref 132, .ref 133, .ref 134, .int 0, .int 0])), (111, .inl (0, 1260, .inl (upd (fun _ => 0) 0 0)))]) (ks := [114, 116, 98, 98, 111]) [true, true, true, false, true] rfl (by decide +kernel) rfl ?_
  exact J_vret dX12_looks_235 rfl (Nat.le_of_ble_eq_true rfl) (Nat.le_of_ble_eq_true rfl) ⟨rfl, rfl⟩
set_option maxHeartbeats 4000000 in
set_option maxRecDepth 100000 in
theorem c_X12_findsFits_1 {l : Launch} {G : jG} {nh : Nat} {fh : Nat → Option va_E} (hk98 : fh 98 = some (.inr (12, [.int 0, .int 0, .ref 99, .ref 100, .ref 101, .ref 102, .ref 103, .ref 104, .ref 105, .int 0, .int (-1), .ref 106, .ref 107, .ref 108, .int 0, .int 0, .int 0, .int 0, .int 0, .int 0, .int 0, .ref 109, .int 0, .int 0, .ref 110, .ref 111, .ref 112, .ref 113, .ref 114, .ref 115, .ref 116, .ref 117, .int 0, .int 0, .int (-1), .int (-1), .ref 118, .ref 119, .ref 120, .ref 121, .ref 122, .ref 123, .ref 124, .ref 125, .ref 126, .ref 127, .ref 128, .ref 129, .int 0, .ref 130, .ref 131, .ref 132, .ref 133, .ref 134, .int 0, .int 0]))) (hk100 : fh 100 = some (.inl (0, 4870, .inl (upd (fun _ => 0) 63 (-1))))) (hk111 : fh 111 = some (.inl (0, 1260, .inl (fun _ => 0)))) (hk114 : fh 114 = some (.inl (0, 1260, .inl (fun _ => 0)))) (hk116 : fh 116 = some (.inl (0, 1260, .inl (fun _ => 0)))) (hk130 : fh 130 = some (.inl (2, 1260, .inl (fun _ => 0)))) : JM l G yX12_findsFits MX12_findsFits { frames := 3, cells := 0, slots := 0, locals := 71 } [.ref 98] (nh, fh) (fun r h9 => r = some (.int 1) ∧ h9 = (nh, hc fh [(130, .inl (2, 1260, .inl (upd (fun _ => 0) 0 1))), (114, .inl (0, 1260, .inl (upd (fun _ => 0) 0 0))), (116, .inl (0, 1260, .inl (upd (fun _ => 0) 0 0))), (98, .inr (12, [.int 0, .int 0, .ref 99, .ref 100, .ref 101, .ref 102, .ref 103, .ref 104, .ref 105, .int 0, .int (-1), .ref 106, .ref 107, .ref 108, .int 0, .int 0, .int 0, .int 0, .int 0, .int 0, .int 0, .ref 109, .int 0, .int 0, .ref 110, .ref 111, .ref 112, .ref 113, .ref 114, .ref 115, .ref 116, .ref 117, .int 1, .int 0, .int 0, .int 0, .ref 118, .ref 119, .ref 120, .ref 121, .ref 122, .ref 123, .ref 124, .ref 125, .ref 126, .ref 127, .ref 128, .ref 129, .int 0, .ref 130, .ref 131, .ref 132, .ref 133, .ref 134, .int 0, .int 0])), (111, .inl (0, 1260, .inl (upd (fun _ => 0) 0 0)))])) := by
  refine JM.of (by decide) rfl (fun h => by cases h) (Nat.le_of_ble_eq_true rfl) ⟨2, rfl⟩ ?_
  refine J_hc0 (J_ls (ls2 := [some (.ref 98), none, none]) rfl ?_)
  refine J_aload_n dX12_findsFits_0 rfl rfl ?_
  refine J_callV (st := []) dX12_findsFits_1 cv_X12_328 (c_X12_looks_2 hk98 hk100 hk111 hk114 hk116) hk98 rfl rfl (Nat.le_of_ble_eq_true rfl) ⟨(Nat.le_of_ble_eq_true rfl), (Nat.le_of_ble_eq_true rfl)⟩ ⟨(Nat.le_of_ble_eq_true rfl), (Nat.le_of_ble_eq_true rfl)⟩ (fun r h9 hp => ?_)
  obtain ⟨rfl, rfl⟩ := hp
  refine J_nf (nh2 := nh) (ck2 := 0) (sk2 := 0) (st2 := []) rfl rfl rfl rfl ?_
  refine J_app (L3 := [(114, .inl (0, 1260, .inl (upd (fun _ => 0) 0 0))), (116, .inl (0, 1260, .inl (upd (fun _ => 0) 0 0))), (98, .inr (12, [.int 0, .int 0, .ref 99, .ref 100, .ref 101, .ref 102, .ref 103, .ref 104, .ref 105, .int 0, .int (-1), .ref 106, .ref 107, .ref 108, .int 0, .int 0, .int 0, .int 0, .int 0, .int 0, .int 0, .ref 109, .int 0, .int 0, .ref 110, .ref 111, .ref 112, .ref 113, .ref 114, .ref 115, .ref 116, .ref 117, .int 1, .int 0, .int 0, .int 0, .ref 118, .ref 119, .ref 120, .ref 121, .ref 122, .ref 123, .ref 124, .ref 125, .ref 126, .ref 127, .ref 128, .ref 129, .int 0, .ref 130, .ref 131, .ref 132, .ref 133, .ref 134, .int 0, .int 0])), (111, .inl (0, 1260, .inl (upd (fun _ => 0) 0 0)))]) rfl ?_
  refine J_iconst (v := 0) dX12_findsFits_4 (by decide) ?_
  refine J_istore_n dX12_findsFits_5 rfl (Nat.le_of_ble_eq_true rfl) rfl ?_
  refine J_iload_n dX12_findsFits_6 rfl rfl ?_
  refine J_aload_n dX12_findsFits_7 rfl rfl ?_
  refine J_get (v := .int 1) dX12_findsFits_8 fl_X12_298 rfl rfl ?_
  refine J_icmp_ge (tgt := 27) dX12_findsFits_11 (by decide) (fun q => absurd q (by decide +kernel)) (fun _ => ?_)
  refine J_aload_n dX12_findsFits_14 rfl rfl ?_
  refine J_get (v := .ref 130) dX12_findsFits_15 fl_X12_123 rfl rfl ?_
  refine J_iload_n dX12_findsFits_18 rfl rfl ?_
  refine J_iconst (v := 1) dX12_findsFits_19 (by decide) ?_
  refine K_zast (i2 := 0) (y := 1) dX12_findsFits_20 hk130 rfl (jin (by decide +kernel)) (by decide +kernel) (by decide +kernel) ?_
  refine J_iinc (v := 1) dX12_findsFits_21 rfl (by decide +kernel) (Nat.le_of_ble_eq_true rfl) rfl ?_
  refine J_ls (ls2 := [some (.ref 98), some (.int 1), none]) rfl ?_
  refine J_goto (tgt := 6) dX12_findsFits_24 (by decide) ?_
  refine J_iload_n dX12_findsFits_6 rfl rfl ?_
  refine J_aload_n dX12_findsFits_7 rfl rfl ?_
  refine J_get (v := .int 1) dX12_findsFits_8 fl_X12_298 rfl rfl ?_
  refine J_icmp_ge (tgt := 27) dX12_findsFits_11 (by decide) (fun _ => ?_) (fun q => absurd (by decide +kernel) q)
  refine J_iconst (v := 0) dX12_findsFits_27 (by decide) ?_
  refine J_istore_n dX12_findsFits_28 rfl (Nat.le_of_ble_eq_true rfl) rfl ?_
  refine J_iload_n dX12_findsFits_29 rfl rfl ?_
  refine J_aload_n dX12_findsFits_30 rfl rfl ?_
  refine J_get (v := .ref 100) dX12_findsFits_31 fl_X12_20 rfl rfl ?_
  refine J_bipush (v := 61) dX12_findsFits_34 (by decide +kernel) ?_
  refine J_iald (i2 := 61) (v := 0) dX12_findsFits_36 hk100 rfl (jin (by decide +kernel)) (by decide +kernel) rfl ?_
  refine J_icmp_ge (tgt := 120) dX12_findsFits_37 (by decide) (fun _ => ?_) (fun q => absurd (by decide +kernel) q)
  refine J_iconst (v := 0) dX12_findsFits_120 (by decide) ?_
  refine J_istore_n dX12_findsFits_121 rfl (Nat.le_of_ble_eq_true rfl) rfl ?_
  refine J_iconst (v := 0) dX12_findsFits_122 (by decide) ?_
  refine J_istore_n dX12_findsFits_123 rfl (Nat.le_of_ble_eq_true rfl) rfl ?_
  refine J_iload_n dX12_findsFits_124 rfl rfl ?_
  refine J_aload_n dX12_findsFits_125 rfl rfl ?_
  refine J_get (v := .int 1) dX12_findsFits_126 fl_X12_298 rfl rfl ?_
  refine J_icmp_ge (tgt := 155) dX12_findsFits_129 (by decide) (fun q => absurd q (by decide +kernel)) (fun _ => ?_)
  refine J_iload_n dX12_findsFits_132 rfl rfl ?_
  refine J_aload_n dX12_findsFits_133 rfl rfl ?_
  refine J_get (v := .ref 130) dX12_findsFits_134 fl_X12_123 rfl rfl ?_
  refine J_iload_n dX12_findsFits_137 rfl rfl ?_
  refine J_zald (i2 := 0) (v := 1) dX12_findsFits_138 rfl rfl (jin (by decide +kernel)) (by decide +kernel) rfl ?_
  refine J_if_eq (tgt := 146) dX12_findsFits_139 (by decide) (fun q => absurd q (by decide +kernel)) (fun _ => ?_)
  refine J_iconst (v := 1) dX12_findsFits_142 (by decide) ?_
  refine J_goto (tgt := 147) dX12_findsFits_143 (by decide) ?_
  refine J_iadd (z := 1) dX12_findsFits_147 (by decide +kernel) ?_
  refine J_istore_n dX12_findsFits_148 rfl (Nat.le_of_ble_eq_true rfl) rfl ?_
  refine J_iinc (v := 1) dX12_findsFits_149 rfl (by decide +kernel) (Nat.le_of_ble_eq_true rfl) rfl ?_
  refine J_ls (ls2 := [some (.ref 98), some (.int 1), some (.int 1)]) rfl ?_
  refine J_goto (tgt := 124) dX12_findsFits_152 (by decide) ?_
  refine J_iload_n dX12_findsFits_124 rfl rfl ?_
  refine J_aload_n dX12_findsFits_125 rfl rfl ?_
  refine J_get (v := .int 1) dX12_findsFits_126 fl_X12_298 rfl rfl ?_
  refine J_icmp_ge (tgt := 155) dX12_findsFits_129 (by decide) (fun _ => ?_) (fun q => absurd (by decide +kernel) q)
  refine J_iload_n dX12_findsFits_155 rfl rfl ?_
  exact J_iret dX12_findsFits_156 rfl rfl (Nat.le_of_ble_eq_true rfl) (Nat.le_of_ble_eq_true rfl) ⟨rfl, rfl⟩
set_option maxHeartbeats 4000000 in
set_option maxRecDepth 100000 in
theorem c_X12_fits_1 {l : Launch} {G : jG} {nh : Nat} {fh : Nat → Option va_E} (a1 : Int32) (b_a1 : (-2147483648) ≤ a1.toInt ∧ a1.toInt ≤ (-2)) (hk98 : fh 98 = some (.inr (12, [.int 0, .int 0, .ref 99, .ref 100, .ref 101, .ref 102, .ref 103, .ref 104, .ref 105, .int 0, .int (-1), .ref 106, .ref 107, .ref 108, .int 0, .int 0, .int 0, .int 0, .int 0, .int 0, .int 0, .ref 109, .int 0, .int 0, .ref 110, .ref 111, .ref 112, .ref 113, .ref 114, .ref 115, .ref 116, .ref 117, .int 0, .int 0, .int (-1), .int (-1), .ref 118, .ref 119, .ref 120, .ref 121, .ref 122, .ref 123, .ref 124, .ref 125, .ref 126, .ref 127, .ref 128, .ref 129, .int 0, .ref 130, .ref 131, .ref 132, .ref 133, .ref 134, .int 0, .int 0]))) (hk100 : fh 100 = some (.inl (0, 4870, .inl (upd (fun _ => 0) 63 (-1))))) (hk111 : fh 111 = some (.inl (0, 1260, .inl (fun _ => 0)))) (hk114 : fh 114 = some (.inl (0, 1260, .inl (fun _ => 0)))) (hk116 : fh 116 = some (.inl (0, 1260, .inl (fun _ => 0)))) (hk130 : fh 130 = some (.inl (2, 1260, .inl (fun _ => 0)))) : JM l G yX12_fits MX12_fits { frames := 4, cells := 0, slots := 0, locals := 93 } [.ref 98, .int a1] (nh, fh) (fun r h9 => r = some (.int (-1)) ∧ h9 = (nh, hc fh [(130, .inl (2, 1260, .inl (upd (fun _ => 0) 0 1))), (114, .inl (0, 1260, .inl (upd (fun _ => 0) 0 0))), (116, .inl (0, 1260, .inl (upd (fun _ => 0) 0 0))), (98, .inr (12, [.int 0, .int 0, .ref 99, .ref 100, .ref 101, .ref 102, .ref 103, .ref 104, .ref 105, .int 0, .int (-1), .ref 106, .ref 107, .ref 108, .int 0, .int 0, .int 0, .int 0, .int 0, .int 0, .int 0, .ref 109, .int 0, .int 0, .ref 110, .ref 111, .ref 112, .ref 113, .ref 114, .ref 115, .ref 116, .ref 117, .int 1, .int 0, .int 0, .int 0, .ref 118, .ref 119, .ref 120, .ref 121, .ref 122, .ref 123, .ref 124, .ref 125, .ref 126, .ref 127, .ref 128, .ref 129, .int 0, .ref 130, .ref 131, .ref 132, .ref 133, .ref 134, .int 0, .int 0])), (111, .inl (0, 1260, .inl (upd (fun _ => 0) 0 0)))])) := by
  refine JM.of (by decide) rfl (fun h => by cases h) (Nat.le_of_ble_eq_true rfl) ⟨3, rfl⟩ ?_
  refine J_hc0 (J_ls (ls2 := [some (.ref 98), some (.int a1), none, none, none]) rfl ?_)
  refine J_aload_n dX12_fits_0 rfl rfl ?_
  refine J_callV (st := []) dX12_fits_1 cv_X12_363 (c_X12_findsFits_1 hk98 hk100 hk111 hk114 hk116 hk130) hk98 rfl rfl (Nat.le_of_ble_eq_true rfl) ⟨(Nat.le_of_ble_eq_true rfl), (Nat.le_of_ble_eq_true rfl)⟩ ⟨(Nat.le_of_ble_eq_true rfl), (Nat.le_of_ble_eq_true rfl)⟩ (fun r h9 hp => ?_)
  obtain ⟨rfl, rfl⟩ := hp
  refine J_nf (nh2 := nh) (ck2 := 0) (sk2 := 0) (st2 := [.int 1]) rfl rfl rfl rfl ?_
  refine J_app (L3 := [(130, .inl (2, 1260, .inl (upd (fun _ => 0) 0 1))), (114, .inl (0, 1260, .inl (upd (fun _ => 0) 0 0))), (116, .inl (0, 1260, .inl (upd (fun _ => 0) 0 0))), (98, .inr (12, [.int 0, .int 0, .ref 99, .ref 100, .ref 101, .ref 102, .ref 103, .ref 104, .ref 105, .int 0, .int (-1), .ref 106, .ref 107, .ref 108, .int 0, .int 0, .int 0, .int 0, .int 0, .int 0, .int 0, .ref 109, .int 0, .int 0, .ref 110, .ref 111, .ref 112, .ref 113, .ref 114, .ref 115, .ref 116, .ref 117, .int 1, .int 0, .int 0, .int 0, .ref 118, .ref 119, .ref 120, .ref 121, .ref 122, .ref 123, .ref 124, .ref 125, .ref 126, .ref 127, .ref 128, .ref 129, .int 0, .ref 130, .ref 131, .ref 132, .ref 133, .ref 134, .int 0, .int 0])), (111, .inl (0, 1260, .inl (upd (fun _ => 0) 0 0)))]) rfl ?_
  refine J_istore_n dX12_fits_4 rfl (Nat.le_of_ble_eq_true rfl) rfl ?_
  refine J_iload_n dX12_fits_5 rfl rfl ?_
  refine J_iconst (v := (-1)) dX12_fits_6 (by decide) ?_
  refine J_icmp_ne (tgt := 12) dX12_fits_7 (by decide) (fun _ => ?_) (fun q => absurd q (by have hb0 := b_a1; simp only [fa_lt, fa_le, fa_eq, kc_m1]; omega))
  refine J_iload_n dX12_fits_12 rfl rfl ?_
  refine J_iconst (v := 0) dX12_fits_13 (by decide) ?_
  refine J_iload_n dX12_fits_14 rfl rfl ?_
  refine J_iconst (v := 1) dX12_fits_15 (by decide) ?_
  refine J_isub (z := 0) dX12_fits_16 (by decide +kernel) ?_
  refine J_callS (st := []) dX12_fits_17 cs_X12_138 (c_X12_lies_47 (a1) b_a1) rfl rfl (Nat.le_of_ble_eq_true rfl) ⟨(Nat.le_of_ble_eq_true rfl), (Nat.le_of_ble_eq_true rfl)⟩ ⟨(Nat.le_of_ble_eq_true rfl), (Nat.le_of_ble_eq_true rfl)⟩ (fun r h9 hp => ?_)
  obtain ⟨rfl, rfl⟩ := hp
  refine J_nf (nh2 := nh) (ck2 := 0) (sk2 := 0) (st2 := [.int 0]) rfl rfl rfl rfl ?_
  refine J_if_ne (tgt := 25) dX12_fits_20 (by decide) (fun q => absurd (by decide +kernel) q) (fun _ => ?_)
  refine J_iconst (v := (-1)) dX12_fits_23 (by decide) ?_
  exact J_iret dX12_fits_24 rfl rfl (Nat.le_of_ble_eq_true rfl) (Nat.le_of_ble_eq_true rfl) ⟨rfl, rfl⟩
set_option maxHeartbeats 4000000 in
set_option maxRecDepth 100000 in
theorem c_X6_many_1 {l : Launch} {G : jG} {nh : Nat} {fh : Nat → Option va_E} (hk88 : fh 88 = some (.inr (6, [.ref 1, .ref 51, .ref 57, .ref 65, .ref 89, .ref 90, .int 1, .int 0, .ref 91, .ref 92, .int (-1), .int (-1), .int (-1)]))) : JM l G yX6_many MX6_many { frames := 0, cells := 0, slots := 0, locals := 0 } [.ref 88] (nh, fh) (fun r h9 => r = some (.int 1) ∧ h9 = (nh, fh)) := by
  refine JM.of (by decide) rfl (fun h => by cases h) (Nat.le_of_ble_eq_true rfl) ⟨0, rfl⟩ ?_
  refine J_hc0 (J_ls (ls2 := [some (.ref 88)]) rfl ?_)
  refine J_aload_n dX6_many_0 rfl rfl ?_
  refine J_get (v := .int 1) dX6_many_1 fl_X6_19 hk88 rfl ?_
  exact J_iret dX6_many_4 rfl rfl (Nat.le_of_ble_eq_true rfl) (Nat.le_of_ble_eq_true rfl) ⟨rfl, rfl⟩
set_option maxHeartbeats 4000000 in
set_option maxRecDepth 100000 in
theorem c_X11_fits_2 {l : Launch} {G : jG} {fh : Nat → Option va_E} (hk0 : fh 0 = some (.inr (11, [.ref 1, .ref 17, .ref 50, .ref 51, .ref 54, .ref 57, .ref 65, .ref 75, .ref 81, .ref 85, .ref 88, .ref 93, .ref 96, .int 0, .int (-1), .ref 97, .int 0]))) (hk1 : fh 1 = some (.inr (8, [.ref 2, .ref 3, .ref 4, .int 0, .int (-1), .ref 11, .ref 12, .int 0, .ref 13, .ref 14, .int 0, .ref 15, .ref 16, .int 0]))) (hk3 : fh 3 = some (.inl (0, 2, .inl (fun _ => 0)))) (hk51 : fh 51 = some (.inr (0, [.ref 52, .ref 53, .int 1, .int 0]))) (hk57 : fh 57 = some (.inr (9, [.ref 1, .ref 51, .ref 58, .ref 61, .ref 62, .ref 63, .ref 64, .int 0, .int 1, .int 1]))) (hk58 : fh 58 = some (.inr (1, [.ref 59, .ref 60, .int 0, .int 0, .int 0, .int 0, .int 0, .int 1]))) (hk59 : fh 59 = some (.inl (0, 8, .inl (fun _ => 0)))) (hk62 : fh 62 = some (.inl (0, 1260, .inl (fun _ => 0)))) (hk63 : fh 63 = some (.inl (0, 0, .inl (fun _ => 0)))) (hk88 : fh 88 = some (.inr (6, [.ref 1, .ref 51, .ref 57, .ref 65, .ref 89, .ref 90, .int 0, .int (-1), .ref 91, .ref 92, .int (-1), .int (-1), .int (-1)]))) (hk89 : fh 89 = some (.inl (2, 1260, .inl (fun _ => 0)))) (hk90 : fh 90 = some (.inl (0, 1260, .inl (fun _ => 0)))) : JM l G yX11_fits MX11_fits { frames := 3, cells := 1, slots := 22, locals := 67 } [.ref 0, .int (-1)] (135, fh) (fun r h9 => r = some (.int 1) ∧ h9 = (136, hc fh [(88, .inr (6, [.ref 1, .ref 51, .ref 57, .ref 65, .ref 89, .ref 90, .int 1, .int 0, .ref 91, .ref 92, .int (-1), .int (-1), .int (-1)])), (90, .inl (0, 1260, .inl (upd (fun _ => 0) 0 0))), (89, .inl (2, 1260, .inl (upd (fun _ => 0) 0 1))), (57, .inr (9, [.ref 1, .ref 51, .ref 58, .ref 61, .ref 62, .ref 135, .ref 64, .int 0, .int 0, .int 0])), (62, .inl (0, 1260, .inl (upd (fun _ => 0) 0 (-1)))), (135, .inl (0, 22, .inl (fun _ => 0))), (59, .inl (0, 8, .inl (upd (upd (fun _ => 0) 6 0) 7 0)))])) := by
  refine JM.of (by decide) rfl (fun h => by cases h) (Nat.le_of_ble_eq_true rfl) ⟨0, rfl⟩ ?_
  refine J_hc0 (J_ls (ls2 := [some (.ref 0), some (.int (-1))]) rfl ?_)
  refine J_aload_n dX11_fits_0 rfl rfl ?_
  refine J_get (v := .ref 57) dX11_fits_1 fl_X11_43 hk0 rfl ?_
  refine J_callV (st := []) dX11_fits_4 cv_X11_217 (c_X9_prepare_1 hk1 hk3 hk51 hk57 hk58 hk59 hk62 hk63) hk57 rfl rfl (Nat.le_of_ble_eq_true rfl) ⟨(Nat.le_of_ble_eq_true rfl), (Nat.le_of_ble_eq_true rfl)⟩ ⟨(Nat.le_of_ble_eq_true rfl), (Nat.le_of_ble_eq_true rfl)⟩ (fun r h9 hp => ?_)
  obtain ⟨rfl, rfl⟩ := hp
  refine J_nf (nh2 := 136) (ck2 := 1) (sk2 := 22) (st2 := []) rfl rfl rfl rfl ?_
  refine J_app (L3 := [(57, .inr (9, [.ref 1, .ref 51, .ref 58, .ref 61, .ref 62, .ref 135, .ref 64, .int 0, .int 0, .int 0])), (62, .inl (0, 1260, .inl (upd (fun _ => 0) 0 (-1)))), (135, .inl (0, 22, .inl (fun _ => 0))), (59, .inl (0, 8, .inl (upd (upd (fun _ => 0) 6 0) 7 0)))]) rfl ?_
  refine J_aload_n dX11_fits_7 rfl rfl ?_
  refine J_get (v := .ref 88) dX11_fits_8 fl_X11_82 hk0 rfl ?_
  refine J_callV (st := []) dX11_fits_11 cv_X11_295 (c_X6_refit_1 hk1 hk51 rfl hk88 hk89 hk90) hk88 rfl rfl (Nat.le_of_ble_eq_true rfl) ⟨(Nat.le_of_ble_eq_true rfl), (Nat.le_of_ble_eq_true rfl)⟩ ⟨(Nat.le_of_ble_eq_true rfl), (Nat.le_of_ble_eq_true rfl)⟩ (fun r h9 hp => ?_)
  obtain ⟨rfl, rfl⟩ := hp
  refine J_nf (nh2 := 136) (ck2 := 1) (sk2 := 22) (st2 := []) rfl rfl rfl rfl ?_
  refine J_app (L3 := [(88, .inr (6, [.ref 1, .ref 51, .ref 57, .ref 65, .ref 89, .ref 90, .int 1, .int 0, .ref 91, .ref 92, .int (-1), .int (-1), .int (-1)])), (90, .inl (0, 1260, .inl (upd (fun _ => 0) 0 0))), (89, .inl (2, 1260, .inl (upd (fun _ => 0) 0 1))), (57, .inr (9, [.ref 1, .ref 51, .ref 58, .ref 61, .ref 62, .ref 135, .ref 64, .int 0, .int 0, .int 0])), (62, .inl (0, 1260, .inl (upd (fun _ => 0) 0 (-1)))), (135, .inl (0, 22, .inl (fun _ => 0))), (59, .inl (0, 8, .inl (upd (upd (fun _ => 0) 6 0) 7 0)))]) rfl ?_
  refine J_iload_n dX11_fits_14 rfl rfl ?_
  refine J_iconst (v := (-1)) dX11_fits_15 (by decide) ?_
  refine J_icmp_ne (tgt := 29) dX11_fits_16 (by decide) (fun q => absurd (by decide +kernel) q) (fun _ => ?_)
  refine J_aload_n dX11_fits_19 rfl rfl ?_
  refine J_get (v := .ref 88) dX11_fits_20 fl_X11_82 hk0 rfl ?_
  refine J_callV (st := []) dX11_fits_23 cv_X11_298 (c_X6_many_1 rfl) rfl rfl rfl (Nat.le_of_ble_eq_true rfl) ⟨(Nat.le_of_ble_eq_true rfl), (Nat.le_of_ble_eq_true rfl)⟩ ⟨(Nat.le_of_ble_eq_true rfl), (Nat.le_of_ble_eq_true rfl)⟩ (fun r h9 hp => ?_)
  obtain ⟨rfl, rfl⟩ := hp
  refine J_nf (nh2 := 136) (ck2 := 1) (sk2 := 22) (st2 := [.int 1]) rfl rfl rfl rfl ?_
  refine J_goto (tgt := 37) dX11_fits_26 (by decide) ?_
  exact J_iret dX11_fits_37 rfl rfl (Nat.le_of_ble_eq_true rfl) (Nat.le_of_ble_eq_true rfl) ⟨rfl, rfl⟩
set_option maxHeartbeats 4000000 in
set_option maxRecDepth 100000 in
theorem c_X12_fits_2 {l : Launch} {G : jG} {nh : Nat} {fh : Nat → Option va_E} (hk98 : fh 98 = some (.inr (12, [.int 0, .int 0, .ref 99, .ref 100, .ref 101, .ref 102, .ref 103, .ref 104, .ref 105, .int 0, .int (-1), .ref 106, .ref 107, .ref 108, .int 0, .int 0, .int 0, .int 0, .int 0, .int 0, .int 0, .ref 109, .int 0, .int 0, .ref 110, .ref 111, .ref 112, .ref 113, .ref 114, .ref 115, .ref 116, .ref 117, .int 0, .int 0, .int (-1), .int (-1), .ref 118, .ref 119, .ref 120, .ref 121, .ref 122, .ref 123, .ref 124, .ref 125, .ref 126, .ref 127, .ref 128, .ref 129, .int 0, .ref 130, .ref 131, .ref 132, .ref 133, .ref 134, .int 0, .int 0]))) (hk100 : fh 100 = some (.inl (0, 4870, .inl (upd (fun _ => 0) 63 (-1))))) (hk111 : fh 111 = some (.inl (0, 1260, .inl (fun _ => 0)))) (hk114 : fh 114 = some (.inl (0, 1260, .inl (fun _ => 0)))) (hk116 : fh 116 = some (.inl (0, 1260, .inl (fun _ => 0)))) (hk130 : fh 130 = some (.inl (2, 1260, .inl (fun _ => 0)))) : JM l G yX12_fits MX12_fits { frames := 4, cells := 0, slots := 0, locals := 93 } [.ref 98, .int (-1)] (nh, fh) (fun r h9 => r = some (.int 1) ∧ h9 = (nh, hc fh [(130, .inl (2, 1260, .inl (upd (fun _ => 0) 0 1))), (114, .inl (0, 1260, .inl (upd (fun _ => 0) 0 0))), (116, .inl (0, 1260, .inl (upd (fun _ => 0) 0 0))), (98, .inr (12, [.int 0, .int 0, .ref 99, .ref 100, .ref 101, .ref 102, .ref 103, .ref 104, .ref 105, .int 0, .int (-1), .ref 106, .ref 107, .ref 108, .int 0, .int 0, .int 0, .int 0, .int 0, .int 0, .int 0, .ref 109, .int 0, .int 0, .ref 110, .ref 111, .ref 112, .ref 113, .ref 114, .ref 115, .ref 116, .ref 117, .int 1, .int 0, .int 0, .int 0, .ref 118, .ref 119, .ref 120, .ref 121, .ref 122, .ref 123, .ref 124, .ref 125, .ref 126, .ref 127, .ref 128, .ref 129, .int 0, .ref 130, .ref 131, .ref 132, .ref 133, .ref 134, .int 0, .int 0])), (111, .inl (0, 1260, .inl (upd (fun _ => 0) 0 0)))])) := by
  refine JM.of (by decide) rfl (fun h => by cases h) (Nat.le_of_ble_eq_true rfl) ⟨3, rfl⟩ ?_
  refine J_hc0 (J_ls (ls2 := [some (.ref 98), some (.int (-1)), none, none, none]) rfl ?_)
  refine J_aload_n dX12_fits_0 rfl rfl ?_
  refine J_callV (st := []) dX12_fits_1 cv_X12_363 (c_X12_findsFits_1 hk98 hk100 hk111 hk114 hk116 hk130) hk98 rfl rfl (Nat.le_of_ble_eq_true rfl) ⟨(Nat.le_of_ble_eq_true rfl), (Nat.le_of_ble_eq_true rfl)⟩ ⟨(Nat.le_of_ble_eq_true rfl), (Nat.le_of_ble_eq_true rfl)⟩ (fun r h9 hp => ?_)
  obtain ⟨rfl, rfl⟩ := hp
  refine J_nf (nh2 := nh) (ck2 := 0) (sk2 := 0) (st2 := [.int 1]) rfl rfl rfl rfl ?_
  refine J_app (L3 := [(130, .inl (2, 1260, .inl (upd (fun _ => 0) 0 1))), (114, .inl (0, 1260, .inl (upd (fun _ => 0) 0 0))), (116, .inl (0, 1260, .inl (upd (fun _ => 0) 0 0))), (98, .inr (12, [.int 0, .int 0, .ref 99, .ref 100, .ref 101, .ref 102, .ref 103, .ref 104, .ref 105, .int 0, .int (-1), .ref 106, .ref 107, .ref 108, .int 0, .int 0, .int 0, .int 0, .int 0, .int 0, .int 0, .ref 109, .int 0, .int 0, .ref 110, .ref 111, .ref 112, .ref 113, .ref 114, .ref 115, .ref 116, .ref 117, .int 1, .int 0, .int 0, .int 0, .ref 118, .ref 119, .ref 120, .ref 121, .ref 122, .ref 123, .ref 124, .ref 125, .ref 126, .ref 127, .ref 128, .ref 129, .int 0, .ref 130, .ref 131, .ref 132, .ref 133, .ref 134, .int 0, .int 0])), (111, .inl (0, 1260, .inl (upd (fun _ => 0) 0 0)))]) rfl ?_
  refine J_istore_n dX12_fits_4 rfl (Nat.le_of_ble_eq_true rfl) rfl ?_
  refine J_iload_n dX12_fits_5 rfl rfl ?_
  refine J_iconst (v := (-1)) dX12_fits_6 (by decide) ?_
  refine J_icmp_ne (tgt := 12) dX12_fits_7 (by decide) (fun q => absurd (by decide +kernel) q) (fun _ => ?_)
  refine J_iload_n dX12_fits_10 rfl rfl ?_
  exact J_iret dX12_fits_11 rfl rfl (Nat.le_of_ble_eq_true rfl) (Nat.le_of_ble_eq_true rfl) ⟨rfl, rfl⟩
set_option maxHeartbeats 4000000 in
set_option maxRecDepth 100000 in
theorem c_X6_at_2 {l : Launch} {G : jG} {nh : Nat} {fh : Nat → Option va_E} (hk88 : fh 88 = some (.inr (6, [.ref 1, .ref 51, .ref 57, .ref 65, .ref 89, .ref 90, .int 1, .int 0, .ref 91, .ref 92, .int (-1), .int (-1), .int (-1)]))) (hk90 : fh 90 = some (.inl (0, 1260, .inl (upd (fun _ => 0) 0 0)))) : JM l G yX6_at MX6_at { frames := 0, cells := 0, slots := 0, locals := 0 } [.ref 88, .int 0] (nh, fh) (fun r h9 => r = some (.int 0) ∧ h9 = (nh, fh)) := by
  refine JM.of (by decide) rfl (fun h => by cases h) (Nat.le_of_ble_eq_true rfl) ⟨0, rfl⟩ ?_
  refine J_hc0 (J_ls (ls2 := [some (.ref 88), some (.int 0)]) rfl ?_)
  refine J_iload_n dX6_at_0 rfl rfl ?_
  refine J_if_lt (tgt := 21) dX6_at_1 (by decide) (fun q => absurd q (by decide +kernel)) (fun _ => ?_)
  refine J_iload_n dX6_at_4 rfl rfl ?_
  refine J_aload_n dX6_at_5 rfl rfl ?_
  refine J_get (v := .int 1) dX6_at_6 fl_X6_19 hk88 rfl ?_
  refine J_icmp_ge (tgt := 21) dX6_at_9 (by decide) (fun q => absurd q (by decide +kernel)) (fun _ => ?_)
  refine J_aload_n dX6_at_12 rfl rfl ?_
  refine J_get (v := .ref 90) dX6_at_13 fl_X6_15 hk88 rfl ?_
  refine J_iload_n dX6_at_16 rfl rfl ?_
  refine J_iald (i2 := 0) (v := 0) dX6_at_17 hk90 rfl (jin (by decide +kernel)) (by decide +kernel) rfl ?_
  refine J_goto (tgt := 22) dX6_at_18 (by decide) ?_
  exact J_iret dX6_at_22 rfl rfl (Nat.le_of_ble_eq_true rfl) (Nat.le_of_ble_eq_true rfl) ⟨rfl, rfl⟩
set_option maxHeartbeats 4000000 in
set_option maxRecDepth 100000 in
theorem c_X11_fits_3 {l : Launch} {G : jG} {fh : Nat → Option va_E} (hk0 : fh 0 = some (.inr (11, [.ref 1, .ref 17, .ref 50, .ref 51, .ref 54, .ref 57, .ref 65, .ref 75, .ref 81, .ref 85, .ref 88, .ref 93, .ref 96, .int 0, .int (-1), .ref 97, .int 0]))) (hk1 : fh 1 = some (.inr (8, [.ref 2, .ref 3, .ref 4, .int 0, .int (-1), .ref 11, .ref 12, .int 0, .ref 13, .ref 14, .int 0, .ref 15, .ref 16, .int 0]))) (hk3 : fh 3 = some (.inl (0, 2, .inl (fun _ => 0)))) (hk51 : fh 51 = some (.inr (0, [.ref 52, .ref 53, .int 1, .int 0]))) (hk57 : fh 57 = some (.inr (9, [.ref 1, .ref 51, .ref 58, .ref 61, .ref 62, .ref 63, .ref 64, .int 0, .int 1, .int 1]))) (hk58 : fh 58 = some (.inr (1, [.ref 59, .ref 60, .int 0, .int 0, .int 0, .int 0, .int 0, .int 1]))) (hk59 : fh 59 = some (.inl (0, 8, .inl (fun _ => 0)))) (hk62 : fh 62 = some (.inl (0, 1260, .inl (fun _ => 0)))) (hk63 : fh 63 = some (.inl (0, 0, .inl (fun _ => 0)))) (hk88 : fh 88 = some (.inr (6, [.ref 1, .ref 51, .ref 57, .ref 65, .ref 89, .ref 90, .int 0, .int (-1), .ref 91, .ref 92, .int (-1), .int (-1), .int (-1)]))) (hk89 : fh 89 = some (.inl (2, 1260, .inl (fun _ => 0)))) (hk90 : fh 90 = some (.inl (0, 1260, .inl (fun _ => 0)))) : JM l G yX11_fits MX11_fits { frames := 3, cells := 1, slots := 22, locals := 67 } [.ref 0, .int 0] (135, fh) (fun r h9 => r = some (.int 0) ∧ h9 = (136, hc fh [(88, .inr (6, [.ref 1, .ref 51, .ref 57, .ref 65, .ref 89, .ref 90, .int 1, .int 0, .ref 91, .ref 92, .int (-1), .int (-1), .int (-1)])), (90, .inl (0, 1260, .inl (upd (fun _ => 0) 0 0))), (89, .inl (2, 1260, .inl (upd (fun _ => 0) 0 1))), (57, .inr (9, [.ref 1, .ref 51, .ref 58, .ref 61, .ref 62, .ref 135, .ref 64, .int 0, .int 0, .int 0])), (62, .inl (0, 1260, .inl (upd (fun _ => 0) 0 (-1)))), (135, .inl (0, 22, .inl (fun _ => 0))), (59, .inl (0, 8, .inl (upd (upd (fun _ => 0) 6 0) 7 0)))])) := by
  refine JM.of (by decide) rfl (fun h => by cases h) (Nat.le_of_ble_eq_true rfl) ⟨0, rfl⟩ ?_
  refine J_hc0 (J_ls (ls2 := [some (.ref 0), some (.int 0)]) rfl ?_)
  refine J_aload_n dX11_fits_0 rfl rfl ?_
  refine J_get (v := .ref 57) dX11_fits_1 fl_X11_43 hk0 rfl ?_
  refine J_callV (st := []) dX11_fits_4 cv_X11_217 (c_X9_prepare_1 hk1 hk3 hk51 hk57 hk58 hk59 hk62 hk63) hk57 rfl rfl (Nat.le_of_ble_eq_true rfl) ⟨(Nat.le_of_ble_eq_true rfl), (Nat.le_of_ble_eq_true rfl)⟩ ⟨(Nat.le_of_ble_eq_true rfl), (Nat.le_of_ble_eq_true rfl)⟩ (fun r h9 hp => ?_)
  obtain ⟨rfl, rfl⟩ := hp
  refine J_nf (nh2 := 136) (ck2 := 1) (sk2 := 22) (st2 := []) rfl rfl rfl rfl ?_
  refine J_app (L3 := [(57, .inr (9, [.ref 1, .ref 51, .ref 58, .ref 61, .ref 62, .ref 135, .ref 64, .int 0, .int 0, .int 0])), (62, .inl (0, 1260, .inl (upd (fun _ => 0) 0 (-1)))), (135, .inl (0, 22, .inl (fun _ => 0))), (59, .inl (0, 8, .inl (upd (upd (fun _ => 0) 6 0) 7 0)))]) rfl ?_
  refine J_aload_n dX11_fits_7 rfl rfl ?_
  refine J_get (v := .ref 88) dX11_fits_8 fl_X11_82 hk0 rfl ?_
  refine J_callV (st := []) dX11_fits_11 cv_X11_295 (c_X6_refit_1 hk1 hk51 rfl hk88 hk89 hk90) hk88 rfl rfl (Nat.le_of_ble_eq_true rfl) ⟨(Nat.le_of_ble_eq_true rfl), (Nat.le_of_ble_eq_true rfl)⟩ ⟨(Nat.le_of_ble_eq_true rfl), (Nat.le_of_ble_eq_true rfl)⟩ (fun r h9 hp => ?_)
  obtain ⟨rfl, rfl⟩ := hp
  refine J_nf (nh2 := 136) (ck2 := 1) (sk2 := 22) (st2 := []) rfl rfl rfl rfl ?_
  refine J_app (L3 := [(88, .inr (6, [.ref 1, .ref 51, .ref 57, .ref 65, .ref 89, .ref 90, .int 1, .int 0, .ref 91, .ref 92, .int (-1), .int (-1), .int (-1)])), (90, .inl (0, 1260, .inl (upd (fun _ => 0) 0 0))), (89, .inl (2, 1260, .inl (upd (fun _ => 0) 0 1))), (57, .inr (9, [.ref 1, .ref 51, .ref 58, .ref 61, .ref 62, .ref 135, .ref 64, .int 0, .int 0, .int 0])), (62, .inl (0, 1260, .inl (upd (fun _ => 0) 0 (-1)))), (135, .inl (0, 22, .inl (fun _ => 0))), (59, .inl (0, 8, .inl (upd (upd (fun _ => 0) 6 0) 7 0)))]) rfl ?_
  refine J_iload_n dX11_fits_14 rfl rfl ?_
  refine J_iconst (v := (-1)) dX11_fits_15 (by decide) ?_
  refine J_icmp_ne (tgt := 29) dX11_fits_16 (by decide) (fun _ => ?_) (fun q => absurd q (by decide +kernel))
  refine J_aload_n dX11_fits_29 rfl rfl ?_
  refine J_get (v := .ref 88) dX11_fits_30 fl_X11_82 hk0 rfl ?_
  refine J_iload_n dX11_fits_33 rfl rfl ?_
  refine J_callV (st := []) dX11_fits_34 cv_X11_299 (c_X6_at_2 rfl rfl) rfl rfl rfl (Nat.le_of_ble_eq_true rfl) ⟨(Nat.le_of_ble_eq_true rfl), (Nat.le_of_ble_eq_true rfl)⟩ ⟨(Nat.le_of_ble_eq_true rfl), (Nat.le_of_ble_eq_true rfl)⟩ (fun r h9 hp => ?_)
  obtain ⟨rfl, rfl⟩ := hp
  refine J_nf (nh2 := 136) (ck2 := 1) (sk2 := 22) (st2 := [.int 0]) rfl rfl rfl rfl ?_
  exact J_iret dX11_fits_37 rfl rfl (Nat.le_of_ble_eq_true rfl) (Nat.le_of_ble_eq_true rfl) ⟨rfl, rfl⟩
set_option maxHeartbeats 4000000 in
set_option maxRecDepth 100000 in
theorem c_X12_fits_3 {l : Launch} {G : jG} {nh : Nat} {fh : Nat → Option va_E} (hk98 : fh 98 = some (.inr (12, [.int 0, .int 0, .ref 99, .ref 100, .ref 101, .ref 102, .ref 103, .ref 104, .ref 105, .int 0, .int (-1), .ref 106, .ref 107, .ref 108, .int 0, .int 0, .int 0, .int 0, .int 0, .int 0, .int 0, .ref 109, .int 0, .int 0, .ref 110, .ref 111, .ref 112, .ref 113, .ref 114, .ref 115, .ref 116, .ref 117, .int 0, .int 0, .int (-1), .int (-1), .ref 118, .ref 119, .ref 120, .ref 121, .ref 122, .ref 123, .ref 124, .ref 125, .ref 126, .ref 127, .ref 128, .ref 129, .int 0, .ref 130, .ref 131, .ref 132, .ref 133, .ref 134, .int 0, .int 0]))) (hk100 : fh 100 = some (.inl (0, 4870, .inl (upd (fun _ => 0) 63 (-1))))) (hk111 : fh 111 = some (.inl (0, 1260, .inl (fun _ => 0)))) (hk114 : fh 114 = some (.inl (0, 1260, .inl (fun _ => 0)))) (hk116 : fh 116 = some (.inl (0, 1260, .inl (fun _ => 0)))) (hk130 : fh 130 = some (.inl (2, 1260, .inl (fun _ => 0)))) : JM l G yX12_fits MX12_fits { frames := 4, cells := 0, slots := 0, locals := 93 } [.ref 98, .int 0] (nh, fh) (fun r h9 => r = some (.int 0) ∧ h9 = (nh, hc fh [(130, .inl (2, 1260, .inl (upd (fun _ => 0) 0 1))), (114, .inl (0, 1260, .inl (upd (fun _ => 0) 0 0))), (116, .inl (0, 1260, .inl (upd (fun _ => 0) 0 0))), (98, .inr (12, [.int 0, .int 0, .ref 99, .ref 100, .ref 101, .ref 102, .ref 103, .ref 104, .ref 105, .int 0, .int (-1), .ref 106, .ref 107, .ref 108, .int 0, .int 0, .int 0, .int 0, .int 0, .int 0, .int 0, .ref 109, .int 0, .int 0, .ref 110, .ref 111, .ref 112, .ref 113, .ref 114, .ref 115, .ref 116, .ref 117, .int 1, .int 0, .int 0, .int 0, .ref 118, .ref 119, .ref 120, .ref 121, .ref 122, .ref 123, .ref 124, .ref 125, .ref 126, .ref 127, .ref 128, .ref 129, .int 0, .ref 130, .ref 131, .ref 132, .ref 133, .ref 134, .int 0, .int 0])), (111, .inl (0, 1260, .inl (upd (fun _ => 0) 0 0)))])) := by
  refine JM.of (by decide) rfl (fun h => by cases h) (Nat.le_of_ble_eq_true rfl) ⟨3, rfl⟩ ?_
  refine J_hc0 (J_ls (ls2 := [some (.ref 98), some (.int 0), none, none, none]) rfl ?_)
  refine J_aload_n dX12_fits_0 rfl rfl ?_
  refine J_callV (st := []) dX12_fits_1 cv_X12_363 (c_X12_findsFits_1 hk98 hk100 hk111 hk114 hk116 hk130) hk98 rfl rfl (Nat.le_of_ble_eq_true rfl) ⟨(Nat.le_of_ble_eq_true rfl), (Nat.le_of_ble_eq_true rfl)⟩ ⟨(Nat.le_of_ble_eq_true rfl), (Nat.le_of_ble_eq_true rfl)⟩ (fun r h9 hp => ?_)
  obtain ⟨rfl, rfl⟩ := hp
  refine J_nf (nh2 := nh) (ck2 := 0) (sk2 := 0) (st2 := [.int 1]) rfl rfl rfl rfl ?_
  refine J_app (L3 := [(130, .inl (2, 1260, .inl (upd (fun _ => 0) 0 1))), (114, .inl (0, 1260, .inl (upd (fun _ => 0) 0 0))), (116, .inl (0, 1260, .inl (upd (fun _ => 0) 0 0))), (98, .inr (12, [.int 0, .int 0, .ref 99, .ref 100, .ref 101, .ref 102, .ref 103, .ref 104, .ref 105, .int 0, .int (-1), .ref 106, .ref 107, .ref 108, .int 0, .int 0, .int 0, .int 0, .int 0, .int 0, .int 0, .ref 109, .int 0, .int 0, .ref 110, .ref 111, .ref 112, .ref 113, .ref 114, .ref 115, .ref 116, .ref 117, .int 1, .int 0, .int 0, .int 0, .ref 118, .ref 119, .ref 120, .ref 121, .ref 122, .ref 123, .ref 124, .ref 125, .ref 126, .ref 127, .ref 128, .ref 129, .int 0, .ref 130, .ref 131, .ref 132, .ref 133, .ref 134, .int 0, .int 0])), (111, .inl (0, 1260, .inl (upd (fun _ => 0) 0 0)))]) rfl ?_
  refine J_istore_n dX12_fits_4 rfl (Nat.le_of_ble_eq_true rfl) rfl ?_
  refine J_iload_n dX12_fits_5 rfl rfl ?_
  refine J_iconst (v := (-1)) dX12_fits_6 (by decide) ?_
  refine J_icmp_ne (tgt := 12) dX12_fits_7 (by decide) (fun _ => ?_) (fun q => absurd q (by decide +kernel))
  refine J_iload_n dX12_fits_12 rfl rfl ?_
  refine J_iconst (v := 0) dX12_fits_13 (by decide) ?_
  refine J_iload_n dX12_fits_14 rfl rfl ?_
  refine J_iconst (v := 1) dX12_fits_15 (by decide) ?_
  refine J_isub (z := 0) dX12_fits_16 (by decide +kernel) ?_
  refine J_callS (st := []) dX12_fits_17 cs_X12_138 (c_X12_lies_20 ) rfl rfl (Nat.le_of_ble_eq_true rfl) ⟨(Nat.le_of_ble_eq_true rfl), (Nat.le_of_ble_eq_true rfl)⟩ ⟨(Nat.le_of_ble_eq_true rfl), (Nat.le_of_ble_eq_true rfl)⟩ (fun r h9 hp => ?_)
  obtain ⟨rfl, rfl⟩ := hp
  refine J_nf (nh2 := nh) (ck2 := 0) (sk2 := 0) (st2 := [.int 1]) rfl rfl rfl rfl ?_
  refine J_if_ne (tgt := 25) dX12_fits_20 (by decide) (fun _ => ?_) (fun q => absurd q (by decide +kernel))
  refine J_iload_n dX12_fits_25 rfl rfl ?_
  refine J_istore_n dX12_fits_26 rfl (Nat.le_of_ble_eq_true rfl) rfl ?_
  refine J_iconst (v := 0) dX12_fits_27 (by decide) ?_
  refine J_istore dX12_fits_28 (Nat.le_of_ble_eq_true rfl) rfl ?_
  refine J_iload dX12_fits_30 rfl ?_
  refine J_aload_n dX12_fits_32 rfl rfl ?_
  refine J_get (v := .int 1) dX12_fits_33 fl_X12_298 rfl rfl ?_
  refine J_icmp_ge (tgt := 68) dX12_fits_36 (by decide) (fun q => absurd q (by decide +kernel)) (fun _ => ?_)
  refine J_aload_n dX12_fits_39 rfl rfl ?_
  refine J_get (v := .ref 130) dX12_fits_40 fl_X12_123 rfl rfl ?_
  refine J_iload dX12_fits_43 rfl ?_
  refine J_zald (i2 := 0) (v := 1) dX12_fits_45 rfl rfl (jin (by decide +kernel)) (by decide +kernel) rfl ?_
  refine J_if_ne (tgt := 52) dX12_fits_46 (by decide) (fun _ => ?_) (fun q => absurd q (by decide +kernel))
  refine J_iload_n dX12_fits_52 rfl rfl ?_
  refine J_if_ne (tgt := 59) dX12_fits_53 (by decide) (fun q => absurd (by decide +kernel) q) (fun _ => ?_)
  refine J_iload dX12_fits_56 rfl ?_
  exact J_iret dX12_fits_58 rfl rfl (Nat.le_of_ble_eq_true rfl) (Nat.le_of_ble_eq_true rfl) ⟨rfl, rfl⟩
set_option maxHeartbeats 4000000 in
set_option maxRecDepth 100000 in
theorem c_X6_at_3 {l : Launch} {G : jG} {nh : Nat} {fh : Nat → Option va_E} (a1 : Int32) (b_a1 : 1 ≤ a1.toInt ∧ a1.toInt ≤ 2147483647) (hk88 : fh 88 = some (.inr (6, [.ref 1, .ref 51, .ref 57, .ref 65, .ref 89, .ref 90, .int 1, .int 0, .ref 91, .ref 92, .int (-1), .int (-1), .int (-1)]))) : JM l G yX6_at MX6_at { frames := 0, cells := 0, slots := 0, locals := 0 } [.ref 88, .int a1] (nh, fh) (fun r h9 => r = some (.int (-1)) ∧ h9 = (nh, fh)) := by
  refine JM.of (by decide) rfl (fun h => by cases h) (Nat.le_of_ble_eq_true rfl) ⟨0, rfl⟩ ?_
  refine J_hc0 (J_ls (ls2 := [some (.ref 88), some (.int a1)]) rfl ?_)
  refine J_iload_n dX6_at_0 rfl rfl ?_
  refine J_if_lt (tgt := 21) dX6_at_1 (by decide) (fun q => absurd q (by have hb0 := b_a1; simp only [fa_lt, fa_le, fa_eq, kc_0]; omega)) (fun _ => ?_)
  refine J_iload_n dX6_at_4 rfl rfl ?_
  refine J_aload_n dX6_at_5 rfl rfl ?_
  refine J_get (v := .int 1) dX6_at_6 fl_X6_19 hk88 rfl ?_
  refine J_icmp_ge (tgt := 21) dX6_at_9 (by decide) (fun _ => ?_) (fun q => absurd (by have hb0 := b_a1; simp only [fa_lt, fa_le, fa_eq, kc_1]; omega) q)
  refine J_iconst (v := (-1)) dX6_at_21 (by decide) ?_
  exact J_iret dX6_at_22 rfl rfl (Nat.le_of_ble_eq_true rfl) (Nat.le_of_ble_eq_true rfl) ⟨rfl, rfl⟩
set_option maxHeartbeats 4000000 in
set_option maxRecDepth 100000 in
theorem c_X11_fits_4 {l : Launch} {G : jG} {fh : Nat → Option va_E} (a1 : Int32) (b_a1 : 1 ≤ a1.toInt ∧ a1.toInt ≤ 2147483647) (hk0 : fh 0 = some (.inr (11, [.ref 1, .ref 17, .ref 50, .ref 51, .ref 54, .ref 57, .ref 65, .ref 75, .ref 81, .ref 85, .ref 88, .ref 93, .ref 96, .int 0, .int (-1), .ref 97, .int 0]))) (hk1 : fh 1 = some (.inr (8, [.ref 2, .ref 3, .ref 4, .int 0, .int (-1), .ref 11, .ref 12, .int 0, .ref 13, .ref 14, .int 0, .ref 15, .ref 16, .int 0]))) (hk3 : fh 3 = some (.inl (0, 2, .inl (fun _ => 0)))) (hk51 : fh 51 = some (.inr (0, [.ref 52, .ref 53, .int 1, .int 0]))) (hk57 : fh 57 = some (.inr (9, [.ref 1, .ref 51, .ref 58, .ref 61, .ref 62, .ref 63, .ref 64, .int 0, .int 1, .int 1]))) (hk58 : fh 58 = some (.inr (1, [.ref 59, .ref 60, .int 0, .int 0, .int 0, .int 0, .int 0, .int 1]))) (hk59 : fh 59 = some (.inl (0, 8, .inl (fun _ => 0)))) (hk62 : fh 62 = some (.inl (0, 1260, .inl (fun _ => 0)))) (hk63 : fh 63 = some (.inl (0, 0, .inl (fun _ => 0)))) (hk88 : fh 88 = some (.inr (6, [.ref 1, .ref 51, .ref 57, .ref 65, .ref 89, .ref 90, .int 0, .int (-1), .ref 91, .ref 92, .int (-1), .int (-1), .int (-1)]))) (hk89 : fh 89 = some (.inl (2, 1260, .inl (fun _ => 0)))) (hk90 : fh 90 = some (.inl (0, 1260, .inl (fun _ => 0)))) : JM l G yX11_fits MX11_fits { frames := 3, cells := 1, slots := 22, locals := 67 } [.ref 0, .int a1] (135, fh) (fun r h9 => r = some (.int (-1)) ∧ h9 = (136, hc fh [(88, .inr (6, [.ref 1, .ref 51, .ref 57, .ref 65, .ref 89, .ref 90, .int 1, .int 0, .ref 91, .ref 92, .int (-1), .int (-1), .int (-1)])), (90, .inl (0, 1260, .inl (upd (fun _ => 0) 0 0))), (89, .inl (2, 1260, .inl (upd (fun _ => 0) 0 1))), (57, .inr (9, [.ref 1, .ref 51, .ref 58, .ref 61, .ref 62, .ref 135, .ref 64, .int 0, .int 0, .int 0])), (62, .inl (0, 1260, .inl (upd (fun _ => 0) 0 (-1)))), (135, .inl (0, 22, .inl (fun _ => 0))), (59, .inl (0, 8, .inl (upd (upd (fun _ => 0) 6 0) 7 0)))])) := by
  refine JM.of (by decide) rfl (fun h => by cases h) (Nat.le_of_ble_eq_true rfl) ⟨0, rfl⟩ ?_
  refine J_hc0 (J_ls (ls2 := [some (.ref 0), some (.int a1)]) rfl ?_)
  refine J_aload_n dX11_fits_0 rfl rfl ?_
  refine J_get (v := .ref 57) dX11_fits_1 fl_X11_43 hk0 rfl ?_
  refine J_callV (st := []) dX11_fits_4 cv_X11_217 (c_X9_prepare_1 hk1 hk3 hk51 hk57 hk58 hk59 hk62 hk63) hk57 rfl rfl (Nat.le_of_ble_eq_true rfl) ⟨(Nat.le_of_ble_eq_true rfl), (Nat.le_of_ble_eq_true rfl)⟩ ⟨(Nat.le_of_ble_eq_true rfl), (Nat.le_of_ble_eq_true rfl)⟩ (fun r h9 hp => ?_)
  obtain ⟨rfl, rfl⟩ := hp
  refine J_nf (nh2 := 136) (ck2 := 1) (sk2 := 22) (st2 := []) rfl rfl rfl rfl ?_
  refine J_app (L3 := [(57, .inr (9, [.ref 1, .ref 51, .ref 58, .ref 61, .ref 62, .ref 135, .ref 64, .int 0, .int 0, .int 0])), (62, .inl (0, 1260, .inl (upd (fun _ => 0) 0 (-1)))), (135, .inl (0, 22, .inl (fun _ => 0))), (59, .inl (0, 8, .inl (upd (upd (fun _ => 0) 6 0) 7 0)))]) rfl ?_
  refine J_aload_n dX11_fits_7 rfl rfl ?_
  refine J_get (v := .ref 88) dX11_fits_8 fl_X11_82 hk0 rfl ?_
  refine J_callV (st := []) dX11_fits_11 cv_X11_295 (c_X6_refit_1 hk1 hk51 rfl hk88 hk89 hk90) hk88 rfl rfl (Nat.le_of_ble_eq_true rfl) ⟨(Nat.le_of_ble_eq_true rfl), (Nat.le_of_ble_eq_true rfl)⟩ ⟨(Nat.le_of_ble_eq_true rfl), (Nat.le_of_ble_eq_true rfl)⟩ (fun r h9 hp => ?_)
  obtain ⟨rfl, rfl⟩ := hp
  refine J_nf (nh2 := 136) (ck2 := 1) (sk2 := 22) (st2 := []) rfl rfl rfl rfl ?_
  refine J_app (L3 := [(88, .inr (6, [.ref 1, .ref 51, .ref 57, .ref 65, .ref 89, .ref 90, .int 1, .int 0, .ref 91, .ref 92, .int (-1), .int (-1), .int (-1)])), (90, .inl (0, 1260, .inl (upd (fun _ => 0) 0 0))), (89, .inl (2, 1260, .inl (upd (fun _ => 0) 0 1))), (57, .inr (9, [.ref 1, .ref 51, .ref 58, .ref 61, .ref 62, .ref 135, .ref 64, .int 0, .int 0, .int 0])), (62, .inl (0, 1260, .inl (upd (fun _ => 0) 0 (-1)))), (135, .inl (0, 22, .inl (fun _ => 0))), (59, .inl (0, 8, .inl (upd (upd (fun _ => 0) 6 0) 7 0)))]) rfl ?_
  refine J_iload_n dX11_fits_14 rfl rfl ?_
  refine J_iconst (v := (-1)) dX11_fits_15 (by decide) ?_
  refine J_icmp_ne (tgt := 29) dX11_fits_16 (by decide) (fun _ => ?_) (fun q => absurd q (by have hb0 := b_a1; simp only [fa_lt, fa_le, fa_eq, kc_m1]; omega))
  refine J_aload_n dX11_fits_29 rfl rfl ?_
  refine J_get (v := .ref 88) dX11_fits_30 fl_X11_82 hk0 rfl ?_
  refine J_iload_n dX11_fits_33 rfl rfl ?_
  refine J_callV (st := []) dX11_fits_34 cv_X11_299 (c_X6_at_3 (a1) b_a1 rfl) rfl rfl rfl (Nat.le_of_ble_eq_true rfl) ⟨(Nat.le_of_ble_eq_true rfl), (Nat.le_of_ble_eq_true rfl)⟩ ⟨(Nat.le_of_ble_eq_true rfl), (Nat.le_of_ble_eq_true rfl)⟩ (fun r h9 hp => ?_)
  obtain ⟨rfl, rfl⟩ := hp
  refine J_nf (nh2 := 136) (ck2 := 1) (sk2 := 22) (st2 := [.int (-1)]) rfl rfl rfl rfl ?_
  exact J_iret dX11_fits_37 rfl rfl (Nat.le_of_ble_eq_true rfl) (Nat.le_of_ble_eq_true rfl) ⟨rfl, rfl⟩
set_option maxHeartbeats 4000000 in
set_option maxRecDepth 100000 in
theorem c_X12_fits_4 {l : Launch} {G : jG} {nh : Nat} {fh : Nat → Option va_E} (a1 : Int32) (b_a1 : 1 ≤ a1.toInt ∧ a1.toInt ≤ 2147483647) (hk98 : fh 98 = some (.inr (12, [.int 0, .int 0, .ref 99, .ref 100, .ref 101, .ref 102, .ref 103, .ref 104, .ref 105, .int 0, .int (-1), .ref 106, .ref 107, .ref 108, .int 0, .int 0, .int 0, .int 0, .int 0, .int 0, .int 0, .ref 109, .int 0, .int 0, .ref 110, .ref 111, .ref 112, .ref 113, .ref 114, .ref 115, .ref 116, .ref 117, .int 0, .int 0, .int (-1), .int (-1), .ref 118, .ref 119, .ref 120, .ref 121, .ref 122, .ref 123, .ref 124, .ref 125, .ref 126, .ref 127, .ref 128, .ref 129, .int 0, .ref 130, .ref 131, .ref 132, .ref 133, .ref 134, .int 0, .int 0]))) (hk100 : fh 100 = some (.inl (0, 4870, .inl (upd (fun _ => 0) 63 (-1))))) (hk111 : fh 111 = some (.inl (0, 1260, .inl (fun _ => 0)))) (hk114 : fh 114 = some (.inl (0, 1260, .inl (fun _ => 0)))) (hk116 : fh 116 = some (.inl (0, 1260, .inl (fun _ => 0)))) (hk130 : fh 130 = some (.inl (2, 1260, .inl (fun _ => 0)))) : JM l G yX12_fits MX12_fits { frames := 4, cells := 0, slots := 0, locals := 93 } [.ref 98, .int a1] (nh, fh) (fun r h9 => r = some (.int (-1)) ∧ h9 = (nh, hc fh [(130, .inl (2, 1260, .inl (upd (fun _ => 0) 0 1))), (114, .inl (0, 1260, .inl (upd (fun _ => 0) 0 0))), (116, .inl (0, 1260, .inl (upd (fun _ => 0) 0 0))), (98, .inr (12, [.int 0, .int 0, .ref 99, .ref 100, .ref 101, .ref 102, .ref 103, .ref 104, .ref 105, .int 0, .int (-1), .ref 106, .ref 107, .ref 108, .int 0, .int 0, .int 0, .int 0, .int 0, .int 0, .int 0, .ref 109, .int 0, .int 0, .ref 110, .ref 111, .ref 112, .ref 113, .ref 114, .ref 115, .ref 116, .ref 117, .int 1, .int 0, .int 0, .int 0, .ref 118, .ref 119, .ref 120, .ref 121, .ref 122, .ref 123, .ref 124, .ref 125, .ref 126, .ref 127, .ref 128, .ref 129, .int 0, .ref 130, .ref 131, .ref 132, .ref 133, .ref 134, .int 0, .int 0])), (111, .inl (0, 1260, .inl (upd (fun _ => 0) 0 0)))])) := by
  refine JM.of (by decide) rfl (fun h => by cases h) (Nat.le_of_ble_eq_true rfl) ⟨3, rfl⟩ ?_
  refine J_hc0 (J_ls (ls2 := [some (.ref 98), some (.int a1), none, none, none]) rfl ?_)
  refine J_aload_n dX12_fits_0 rfl rfl ?_
  refine J_callV (st := []) dX12_fits_1 cv_X12_363 (c_X12_findsFits_1 hk98 hk100 hk111 hk114 hk116 hk130) hk98 rfl rfl (Nat.le_of_ble_eq_true rfl) ⟨(Nat.le_of_ble_eq_true rfl), (Nat.le_of_ble_eq_true rfl)⟩ ⟨(Nat.le_of_ble_eq_true rfl), (Nat.le_of_ble_eq_true rfl)⟩ (fun r h9 hp => ?_)
  obtain ⟨rfl, rfl⟩ := hp
  refine J_nf (nh2 := nh) (ck2 := 0) (sk2 := 0) (st2 := [.int 1]) rfl rfl rfl rfl ?_
  refine J_app (L3 := [(130, .inl (2, 1260, .inl (upd (fun _ => 0) 0 1))), (114, .inl (0, 1260, .inl (upd (fun _ => 0) 0 0))), (116, .inl (0, 1260, .inl (upd (fun _ => 0) 0 0))), (98, .inr (12, [.int 0, .int 0, .ref 99, .ref 100, .ref 101, .ref 102, .ref 103, .ref 104, .ref 105, .int 0, .int (-1), .ref 106, .ref 107, .ref 108, .int 0, .int 0, .int 0, .int 0, .int 0, .int 0, .int 0, .ref 109, .int 0, .int 0, .ref 110, .ref 111, .ref 112, .ref 113, .ref 114, .ref 115, .ref 116, .ref 117, .int 1, .int 0, .int 0, .int 0, .ref 118, .ref 119, .ref 120, .ref 121, .ref 122, .ref 123, .ref 124, .ref 125, .ref 126, .ref 127, .ref 128, .ref 129, .int 0, .ref 130, .ref 131, .ref 132, .ref 133, .ref 134, .int 0, .int 0])), (111, .inl (0, 1260, .inl (upd (fun _ => 0) 0 0)))]) rfl ?_
  refine J_istore_n dX12_fits_4 rfl (Nat.le_of_ble_eq_true rfl) rfl ?_
  refine J_iload_n dX12_fits_5 rfl rfl ?_
  refine J_iconst (v := (-1)) dX12_fits_6 (by decide) ?_
  refine J_icmp_ne (tgt := 12) dX12_fits_7 (by decide) (fun _ => ?_) (fun q => absurd q (by have hb0 := b_a1; simp only [fa_lt, fa_le, fa_eq, kc_m1]; omega))
  refine J_iload_n dX12_fits_12 rfl rfl ?_
  refine J_iconst (v := 0) dX12_fits_13 (by decide) ?_
  refine J_iload_n dX12_fits_14 rfl rfl ?_
  refine J_iconst (v := 1) dX12_fits_15 (by decide) ?_
  refine J_isub (z := 0) dX12_fits_16 (by decide +kernel) ?_
  refine J_callS (st := []) dX12_fits_17 cs_X12_138 (c_X12_lies_21 (a1) b_a1) rfl rfl (Nat.le_of_ble_eq_true rfl) ⟨(Nat.le_of_ble_eq_true rfl), (Nat.le_of_ble_eq_true rfl)⟩ ⟨(Nat.le_of_ble_eq_true rfl), (Nat.le_of_ble_eq_true rfl)⟩ (fun r h9 hp => ?_)
  obtain ⟨rfl, rfl⟩ := hp
  refine J_nf (nh2 := nh) (ck2 := 0) (sk2 := 0) (st2 := [.int 0]) rfl rfl rfl rfl ?_
  refine J_if_ne (tgt := 25) dX12_fits_20 (by decide) (fun q => absurd (by decide +kernel) q) (fun _ => ?_)
  refine J_iconst (v := (-1)) dX12_fits_23 (by decide) ?_
  exact J_iret dX12_fits_24 rfl rfl (Nat.le_of_ble_eq_true rfl) (Nat.le_of_ble_eq_true rfl) ⟨rfl, rfl⟩
set_option maxHeartbeats 4000000 in
set_option maxRecDepth 100000 in
theorem c_X11_ask_1 {l : Launch} {G : jG} {fh : Nat → Option va_E} (a1 : Int32) (b_a1 : (-2147483648) ≤ a1.toInt ∧ a1.toInt ≤ (-1)) (hk0 : fh 0 = some (.inr (11, [.ref 1, .ref 17, .ref 50, .ref 51, .ref 54, .ref 57, .ref 65, .ref 75, .ref 81, .ref 85, .ref 88, .ref 93, .ref 96, .int 0, .int (-1), .ref 97, .int 0]))) (hk1 : fh 1 = some (.inr (8, [.ref 2, .ref 3, .ref 4, .int 0, .int (-1), .ref 11, .ref 12, .int 0, .ref 13, .ref 14, .int 0, .ref 15, .ref 16, .int 0]))) (hk3 : fh 3 = some (.inl (0, 2, .inl (fun _ => 0)))) (hk51 : fh 51 = some (.inr (0, [.ref 52, .ref 53, .int 1, .int 0]))) (hk57 : fh 57 = some (.inr (9, [.ref 1, .ref 51, .ref 58, .ref 61, .ref 62, .ref 63, .ref 64, .int 0, .int 1, .int 1]))) (hk58 : fh 58 = some (.inr (1, [.ref 59, .ref 60, .int 0, .int 0, .int 0, .int 0, .int 0, .int 1]))) (hk59 : fh 59 = some (.inl (0, 8, .inl (fun _ => 0)))) (hk62 : fh 62 = some (.inl (0, 1260, .inl (fun _ => 0)))) (hk63 : fh 63 = some (.inl (0, 0, .inl (fun _ => 0)))) (hk88 : fh 88 = some (.inr (6, [.ref 1, .ref 51, .ref 57, .ref 65, .ref 89, .ref 90, .int 0, .int (-1), .ref 91, .ref 92, .int (-1), .int (-1), .int (-1)]))) (hk89 : fh 89 = some (.inl (2, 1260, .inl (fun _ => 0)))) (hk90 : fh 90 = some (.inl (0, 1260, .inl (fun _ => 0)))) : JM l G yX11_ask MX11_ask { frames := 3, cells := 1, slots := 22, locals := 67 } [.ref 0, .int a1] (135, fh) (fun r h9 => r = some (.int (-1)) ∧ h9 = (136, hc fh [(88, .inr (6, [.ref 1, .ref 51, .ref 57, .ref 65, .ref 89, .ref 90, .int 1, .int 0, .ref 91, .ref 92, .int (-1), .int (-1), .int (-1)])), (90, .inl (0, 1260, .inl (upd (fun _ => 0) 0 0))), (89, .inl (2, 1260, .inl (upd (fun _ => 0) 0 1))), (57, .inr (9, [.ref 1, .ref 51, .ref 58, .ref 61, .ref 62, .ref 135, .ref 64, .int 0, .int 0, .int 0])), (62, .inl (0, 1260, .inl (upd (fun _ => 0) 0 (-1)))), (135, .inl (0, 22, .inl (fun _ => 0))), (59, .inl (0, 8, .inl (upd (upd (fun _ => 0) 6 0) 7 0)))])) := by
  refine JM.of (by decide) rfl (fun h => by cases h) (Nat.le_of_ble_eq_true rfl) ⟨0, rfl⟩ ?_
  refine J_hc0 (J_ls (ls2 := [some (.ref 0), some (.int a1)]) rfl ?_)
  refine J_aload_n dX11_ask_0 rfl rfl ?_
  refine J_get (v := .ref 57) dX11_ask_1 fl_X11_43 hk0 rfl ?_
  refine J_callV (st := []) dX11_ask_4 cv_X11_217 (c_X9_prepare_1 hk1 hk3 hk51 hk57 hk58 hk59 hk62 hk63) hk57 rfl rfl (Nat.le_of_ble_eq_true rfl) ⟨(Nat.le_of_ble_eq_true rfl), (Nat.le_of_ble_eq_true rfl)⟩ ⟨(Nat.le_of_ble_eq_true rfl), (Nat.le_of_ble_eq_true rfl)⟩ (fun r h9 hp => ?_)
  obtain ⟨rfl, rfl⟩ := hp
  refine J_nf (nh2 := 136) (ck2 := 1) (sk2 := 22) (st2 := []) rfl rfl rfl rfl ?_
  refine J_app (L3 := [(57, .inr (9, [.ref 1, .ref 51, .ref 58, .ref 61, .ref 62, .ref 135, .ref 64, .int 0, .int 0, .int 0])), (62, .inl (0, 1260, .inl (upd (fun _ => 0) 0 (-1)))), (135, .inl (0, 22, .inl (fun _ => 0))), (59, .inl (0, 8, .inl (upd (upd (fun _ => 0) 6 0) 7 0)))]) rfl ?_
  refine J_aload_n dX11_ask_7 rfl rfl ?_
  refine J_get (v := .ref 88) dX11_ask_8 fl_X11_82 hk0 rfl ?_
  refine J_callV (st := []) dX11_ask_11 cv_X11_295 (c_X6_refit_1 hk1 hk51 rfl hk88 hk89 hk90) hk88 rfl rfl (Nat.le_of_ble_eq_true rfl) ⟨(Nat.le_of_ble_eq_true rfl), (Nat.le_of_ble_eq_true rfl)⟩ ⟨(Nat.le_of_ble_eq_true rfl), (Nat.le_of_ble_eq_true rfl)⟩ (fun r h9 hp => ?_)
  obtain ⟨rfl, rfl⟩ := hp
  refine J_nf (nh2 := 136) (ck2 := 1) (sk2 := 22) (st2 := []) rfl rfl rfl rfl ?_
  refine J_app (L3 := [(88, .inr (6, [.ref 1, .ref 51, .ref 57, .ref 65, .ref 89, .ref 90, .int 1, .int 0, .ref 91, .ref 92, .int (-1), .int (-1), .int (-1)])), (90, .inl (0, 1260, .inl (upd (fun _ => 0) 0 0))), (89, .inl (2, 1260, .inl (upd (fun _ => 0) 0 1))), (57, .inr (9, [.ref 1, .ref 51, .ref 58, .ref 61, .ref 62, .ref 135, .ref 64, .int 0, .int 0, .int 0])), (62, .inl (0, 1260, .inl (upd (fun _ => 0) 0 (-1)))), (135, .inl (0, 22, .inl (fun _ => 0))), (59, .inl (0, 8, .inl (upd (upd (fun _ => 0) 6 0) 7 0)))]) rfl ?_
  refine J_aload_n dX11_ask_14 rfl rfl ?_
  refine J_get (v := .ref 88) dX11_ask_15 fl_X11_82 hk0 rfl ?_
  refine J_callV (st := []) dX11_ask_18 cv_X11_298 (c_X6_many_1 rfl) rfl rfl rfl (Nat.le_of_ble_eq_true rfl) ⟨(Nat.le_of_ble_eq_true rfl), (Nat.le_of_ble_eq_true rfl)⟩ ⟨(Nat.le_of_ble_eq_true rfl), (Nat.le_of_ble_eq_true rfl)⟩ (fun r h9 hp => ?_)
  obtain ⟨rfl, rfl⟩ := hp
  refine J_nf (nh2 := 136) (ck2 := 1) (sk2 := 22) (st2 := [.int 1]) rfl rfl rfl rfl ?_
  refine J_if_eq (tgt := 33) dX11_ask_21 (by decide) (fun q => absurd q (by decide +kernel)) (fun _ => ?_)
  refine J_iload_n dX11_ask_24 rfl rfl ?_
  refine J_if_lt (tgt := 33) dX11_ask_25 (by decide) (fun _ => ?_) (fun q => absurd (by have hb0 := b_a1; simp only [fa_lt, fa_le, fa_eq, kc_0]; omega) q)
  refine J_iconst (v := (-1)) dX11_ask_33 (by decide) ?_
  exact J_iret dX11_ask_34 rfl rfl (Nat.le_of_ble_eq_true rfl) (Nat.le_of_ble_eq_true rfl) ⟨rfl, rfl⟩
set_option maxHeartbeats 4000000 in
set_option maxRecDepth 100000 in
theorem c_X12_ask_1 {l : Launch} {G : jG} {nh : Nat} {fh : Nat → Option va_E} (a1 : Int32) (b_a1 : (-2147483648) ≤ a1.toInt ∧ a1.toInt ≤ (-1)) : JM l G yX12_ask MX12_ask { frames := 1, cells := 0, slots := 0, locals := 22 } [.ref 98, .int a1] (nh, fh) (fun r h9 => r = some (.int (-1)) ∧ h9 = (nh, fh)) := by
  refine JM.of (by decide) rfl (fun h => by cases h) (Nat.le_of_ble_eq_true rfl) ⟨6, rfl⟩ ?_
  refine J_hc0 (J_ls (ls2 := [some (.ref 98), some (.int a1), none, none, none, none, none, none]) rfl ?_)
  refine J_iload_n dX12_ask_0 rfl rfl ?_
  refine J_iconst (v := 0) dX12_ask_1 (by decide) ?_
  refine J_iconst (v := 1) dX12_ask_2 (by decide) ?_
  refine J_callS (st := []) dX12_ask_3 cs_X12_138 (c_X12_lies_22 (a1) b_a1) rfl rfl (Nat.le_of_ble_eq_true rfl) ⟨(Nat.le_of_ble_eq_true rfl), (Nat.le_of_ble_eq_true rfl)⟩ ⟨(Nat.le_of_ble_eq_true rfl), (Nat.le_of_ble_eq_true rfl)⟩ (fun r h9 hp => ?_)
  obtain ⟨rfl, rfl⟩ := hp
  refine J_nf (nh2 := nh) (ck2 := 0) (sk2 := 0) (st2 := [.int 0]) rfl rfl rfl rfl ?_
  refine J_if_eq (tgt := 16) dX12_ask_6 (by decide) (fun _ => ?_) (fun q => absurd (by decide +kernel) q)
  refine J_iconst (v := (-1)) dX12_ask_16 (by decide) ?_
  exact J_iret dX12_ask_17 rfl rfl (Nat.le_of_ble_eq_true rfl) (Nat.le_of_ble_eq_true rfl) ⟨rfl, rfl⟩
set_option maxHeartbeats 4000000 in
set_option maxRecDepth 100000 in
theorem c_J7_fill_fda19_5 {l : Launch} {G : jG} {nh : Nat} {fh : Nat → Option va_E} (hk91 : fh 91 = some (.inl (0, 1260, .inl (fun _ => 0)))) : JM l G yJ7_fill_fda19 MJ7_fill_fda19 { frames := 1, cells := 0, slots := 0, locals := 22 } [.ref 91, .int 0, .int 1, .int (-1)] (nh, fh) (fun r h9 => r = none ∧ h9 = (nh, hc fh [(91, .inl (0, 1260, .inl (upd (fun _ => 0) 0 (-1))))])) := by
  refine JM.of (by decide) rfl (fun h => by cases h) (Nat.le_of_ble_eq_true rfl) ⟨1, rfl⟩ ?_
  refine J_hc0 (J_ls (ls2 := [some (.ref 91), some (.int 0), some (.int 1), some (.int (-1)), none]) rfl ?_)
  refine J_aload_n dJ7_fill_fda19_0 rfl rfl ?_
  refine J_alen (v := 1260) dJ7_fill_fda19_1 hk91 rfl (by decide +kernel) ?_
  refine J_iload_n dJ7_fill_fda19_2 rfl rfl ?_
  refine J_iload_n dJ7_fill_fda19_3 rfl rfl ?_
  refine J_callS (st := []) dJ7_fill_fda19_4 cs_J7_13 (c_J7_rangeCheck_23922_1 ) rfl rfl (Nat.le_of_ble_eq_true rfl) ⟨(Nat.le_of_ble_eq_true rfl), (Nat.le_of_ble_eq_true rfl)⟩ ⟨(Nat.le_of_ble_eq_true rfl), (Nat.le_of_ble_eq_true rfl)⟩ (fun r h9 hp => ?_)
  obtain ⟨rfl, rfl⟩ := hp
  refine J_nf (nh2 := nh) (ck2 := 0) (sk2 := 0) (st2 := []) rfl rfl rfl rfl ?_
  refine J_iload_n dJ7_fill_fda19_7 rfl rfl ?_
  refine J_istore dJ7_fill_fda19_8 (Nat.le_of_ble_eq_true rfl) rfl ?_
  refine J_iload dJ7_fill_fda19_10 rfl ?_
  refine J_iload_n dJ7_fill_fda19_12 rfl rfl ?_
  refine J_icmp_ge (tgt := 27) dJ7_fill_fda19_13 (by decide) (fun q => absurd q (by decide +kernel)) (fun _ => ?_)
  refine J_aload_n dJ7_fill_fda19_16 rfl rfl ?_
  refine J_iload dJ7_fill_fda19_17 rfl ?_
  refine J_iload_n dJ7_fill_fda19_19 rfl rfl ?_
  refine K_iast (i2 := 0) dJ7_fill_fda19_20 hk91 rfl (jin (by decide +kernel)) (by decide +kernel) ?_
  refine J_iinc (v := 1) dJ7_fill_fda19_21 rfl (by decide +kernel) (Nat.le_of_ble_eq_true rfl) rfl ?_
  refine J_ls (ls2 := [some (.ref 91), some (.int 0), some (.int 1), some (.int (-1)), some (.int 1)]) rfl ?_
  refine J_goto (tgt := 10) dJ7_fill_fda19_24 (by decide) ?_
  refine J_iload dJ7_fill_fda19_10 rfl ?_
  refine J_iload_n dJ7_fill_fda19_12 rfl rfl ?_
  refine J_icmp_ge (tgt := 27) dJ7_fill_fda19_13 (by decide) (fun _ => ?_) (fun q => absurd (by decide +kernel) q)
  exact J_vret dJ7_fill_fda19_27 rfl (Nat.le_of_ble_eq_true rfl) (Nat.le_of_ble_eq_true rfl) ⟨rfl, rfl⟩
set_option maxHeartbeats 4000000 in
set_option maxRecDepth 100000 in
theorem c_X6_leftBy_1 {l : Launch} {G : jG} {nh : Nat} {fh : Nat → Option va_E} (hk88 : fh 88 = some (.inr (6, [.ref 1, .ref 51, .ref 57, .ref 65, .ref 89, .ref 90, .int 1, .int 0, .ref 91, .ref 92, .int 0, .int 2, .int 0]))) (hk89 : fh 89 = some (.inl (2, 1260, .inl (upd (fun _ => 0) 0 1)))) (hk91 : fh 91 = some (.inl (0, 1260, .inl (upd (fun _ => 0) 0 (-1))))) (hk92 : fh 92 = some (.inl (0, 1260, .inl (fun _ => 0)))) : JM l G yX6_leftBy MX6_leftBy { frames := 1, cells := 0, slots := 0, locals := 14 } [.ref 88, .int 0, .int 2] (nh, fh) (fun r h9 => r = some (.int 1) ∧ h9 = (nh, hc fh [(92, .inl (0, 1260, .inl (upd (fun _ => 0) 0 0))), (91, .inl (0, 1260, .inl (upd (upd (fun _ => 0) 0 (-1)) 0 0)))])) := by
  refine JM.of (by decide) rfl (fun h => by cases h) (Nat.le_of_ble_eq_true rfl) ⟨9, rfl⟩ ?_
  refine J_hc0 (J_ls (ls2 := [some (.ref 88), some (.int 0), some (.int 2), none, none, none, none, none, none, none, none, none]) rfl ?_)
  refine J_aload_n dX6_leftBy_0 rfl rfl ?_
  refine J_get (v := .ref 91) dX6_leftBy_1 fl_X6_26 hk88 rfl ?_
  refine J_iload_n dX6_leftBy_4 rfl rfl ?_
  refine J_iload_n dX6_leftBy_5 rfl rfl ?_
  refine K_iast (i2 := 0) dX6_leftBy_6 hk91 rfl (jin (by decide +kernel)) (by decide +kernel) ?_
  refine J_aload_n dX6_leftBy_7 rfl rfl ?_
  refine J_get (v := .ref 92) dX6_leftBy_8 fl_X6_29 hk88 rfl ?_
  refine J_iconst (v := 0) dX6_leftBy_11 (by decide) ?_
  refine J_iload_n dX6_leftBy_12 rfl rfl ?_
  refine K_iast (i2 := 0) dX6_leftBy_13 hk92 rfl (jin (by decide +kernel)) (by decide +kernel) ?_
  refine J_iconst (v := 1) dX6_leftBy_14 (by decide) ?_
  refine J_istore_n dX6_leftBy_15 rfl (Nat.le_of_ble_eq_true rfl) rfl ?_
  refine J_iconst (v := 1) dX6_leftBy_16 (by decide) ?_
  refine J_istore dX6_leftBy_17 (Nat.le_of_ble_eq_true rfl) rfl ?_
  refine J_aload_n dX6_leftBy_19 rfl rfl ?_
  refine J_get (v := .ref 89) dX6_leftBy_20 fl_X6_9 hk88 rfl ?_
  refine J_iload_n dX6_leftBy_23 rfl rfl ?_
  refine J_zald (i2 := 0) (v := 1) dX6_leftBy_24 hk89 rfl (jin (by decide +kernel)) (by decide +kernel) rfl ?_
  refine J_if_eq (tgt := 32) dX6_leftBy_25 (by decide) (fun q => absurd q (by decide +kernel)) (fun _ => ?_)
  refine J_iconst (v := 1) dX6_leftBy_28 (by decide) ?_
  refine J_goto (tgt := 33) dX6_leftBy_29 (by decide) ?_
  refine J_istore dX6_leftBy_33 (Nat.le_of_ble_eq_true rfl) rfl ?_
  refine J_iload dX6_leftBy_35 rfl ?_
  refine J_istore dX6_leftBy_37 (Nat.le_of_ble_eq_true rfl) rfl ?_
  refine J_aload_n dX6_leftBy_39 rfl rfl ?_
  refine J_get (v := .int 1) dX6_leftBy_40 fl_X6_19 hk88 rfl ?_
  refine J_iload dX6_leftBy_43 rfl ?_
  refine J_isub (z := 0) dX6_leftBy_45 (by decide +kernel) ?_
  refine J_istore dX6_leftBy_46 (Nat.le_of_ble_eq_true rfl) rfl ?_
  refine J_iconst (v := 0) dX6_leftBy_48 (by decide) ?_
  refine J_istore dX6_leftBy_49 (Nat.le_of_ble_eq_true rfl) rfl ?_
  refine J_iconst (v := 0) dX6_leftBy_51 (by decide) ?_
  refine J_istore dX6_leftBy_52 (Nat.le_of_ble_eq_true rfl) rfl ?_
  refine J_iload dX6_leftBy_54 rfl ?_
  refine J_iload dX6_leftBy_56 rfl ?_
  refine J_icmp_ge (tgt := 221) dX6_leftBy_58 (by decide) (fun q => absurd q (by decide +kernel)) (fun _ => ?_)
  refine J_iload dX6_leftBy_61 rfl ?_
  refine J_sipush (v := 1260) dX6_leftBy_63 (by decide +kernel) ?_
  refine J_icmp_ge (tgt := 221) dX6_leftBy_66 (by decide) (fun q => absurd q (by decide +kernel)) (fun _ => ?_)
  refine J_iload dX6_leftBy_69 rfl ?_
  refine J_iload dX6_leftBy_71 rfl ?_
  refine J_icmp_le (tgt := 221) dX6_leftBy_73 (by decide) (fun _ => ?_) (fun q => absurd (by decide +kernel) q)
  refine J_iload_n dX6_leftBy_221 rfl rfl ?_
  refine J_iload dX6_leftBy_222 rfl ?_
  refine J_iload dX6_leftBy_224 rfl ?_
  refine J_mmax (z := 1) dX6_leftBy_226 (jt6 5 rfl rfl) (jt4 144 rfl rfl) (jt1 19 rfl rfl) (jt4 145 rfl rfl) (Nat.le_of_ble_eq_true rfl) (Nat.le_of_ble_eq_true rfl) (Nat.le_of_ble_eq_true rfl) (Nat.le_of_ble_eq_true rfl) (by decide +kernel) ?_
  refine J_mmin (z := 1) dX6_leftBy_229 (jt6 6 rfl rfl) (jt3 222 rfl rfl) (jt1 19 rfl rfl) (jt3 223 rfl rfl) (Nat.le_of_ble_eq_true rfl) (Nat.le_of_ble_eq_true rfl) (Nat.le_of_ble_eq_true rfl) (Nat.le_of_ble_eq_true rfl) (by decide +kernel) ?_
  exact J_iret dX6_leftBy_232 rfl rfl (Nat.le_of_ble_eq_true rfl) (Nat.le_of_ble_eq_true rfl) ⟨rfl, rfl⟩
set_option maxHeartbeats 4000000 in
set_option maxRecDepth 100000 in
theorem c_X6_choose_1 {l : Launch} {G : jG} {nh : Nat} {fh : Nat → Option va_E} (hk51 : fh 51 = some (.inr (0, [.ref 52, .ref 53, .int 1, .int 0]))) (hk57 : fh 57 = some (.inr (9, [.ref 1, .ref 51, .ref 58, .ref 61, .ref 62, .ref 135, .ref 64, .int 0, .int 0, .int 0]))) (hk88 : fh 88 = some (.inr (6, [.ref 1, .ref 51, .ref 57, .ref 65, .ref 89, .ref 90, .int 1, .int 0, .ref 91, .ref 92, .int (-1), .int (-1), .int (-1)]))) (hk89 : fh 89 = some (.inl (2, 1260, .inl (upd (fun _ => 0) 0 1)))) (hk91 : fh 91 = some (.inl (0, 1260, .inl (fun _ => 0)))) (hk92 : fh 92 = some (.inl (0, 1260, .inl (fun _ => 0)))) : JM l G yX6_choose MX6_choose { frames := 2, cells := 0, slots := 0, locals := 46 } [.ref 88] (nh, fh) (fun r h9 => r = none ∧ h9 = (nh, hc fh [(88, .inr (6, [.ref 1, .ref 51, .ref 57, .ref 65, .ref 89, .ref 90, .int 1, .int 0, .ref 91, .ref 92, .int 0, .int 1, .int 0])), (92, .inl (0, 1260, .inl (upd (fun _ => 0) 0 0))), (91, .inl (0, 1260, .inl (upd (upd (fun _ => 0) 0 (-1)) 0 0)))])) := by
  refine JM.of (by decide) rfl (fun h => by cases h) (Nat.le_of_ble_eq_true rfl) ⟨3, rfl⟩ ?_
  refine J_hc0 (J_ls (ls2 := [some (.ref 88), none, none, none]) rfl ?_)
  refine J_aload_n dX6_choose_0 rfl rfl ?_
  refine J_get (v := .int (-1)) dX6_choose_1 fl_X6_38 hk88 rfl ?_
  refine J_aload_n dX6_choose_4 rfl rfl ?_
  refine J_get (v := .ref 57) dX6_choose_5 fl_X6_49 hk88 rfl ?_
  refine J_callV (st := [.int (-1)]) dX6_choose_8 cv_X6_57 (c_X9_version_1 hk57) hk57 rfl rfl (Nat.le_of_ble_eq_true rfl) ⟨(Nat.le_of_ble_eq_true rfl), (Nat.le_of_ble_eq_true rfl)⟩ ⟨(Nat.le_of_ble_eq_true rfl), (Nat.le_of_ble_eq_true rfl)⟩ (fun r h9 hp => ?_)
  obtain ⟨rfl, rfl⟩ := hp
  refine J_nf (nh2 := nh) (ck2 := 0) (sk2 := 0) (st2 := [.int 0, .int (-1)]) rfl rfl rfl rfl ?_
  refine J_icmp_ne (tgt := 15) dX6_choose_11 (by decide) (fun _ => ?_) (fun q => absurd q (by decide +kernel))
  refine J_aload_n dX6_choose_15 rfl rfl ?_
  refine J_aload_n dX6_choose_16 rfl rfl ?_
  refine J_get (v := .ref 57) dX6_choose_17 fl_X6_49 hk88 rfl ?_
  refine J_callV (st := [.ref 88]) dX6_choose_20 cv_X6_57 (c_X9_version_1 hk57) hk57 rfl rfl (Nat.le_of_ble_eq_true rfl) ⟨(Nat.le_of_ble_eq_true rfl), (Nat.le_of_ble_eq_true rfl)⟩ ⟨(Nat.le_of_ble_eq_true rfl), (Nat.le_of_ble_eq_true rfl)⟩ (fun r h9 hp => ?_)
  obtain ⟨rfl, rfl⟩ := hp
  refine J_nf (nh2 := nh) (ck2 := 0) (sk2 := 0) (st2 := [.int 0, .ref 88]) rfl rfl rfl rfl ?_
  refine K_put (fs2 := [.ref 1, .ref 51, .ref 57, .ref 65, .ref 89, .ref 90, .int 1, .int 0, .ref 91, .ref 92, .int (-1), .int (-1), .int 0]) dX6_choose_23 fw_X6_38 hk88 (Nat.le_of_ble_eq_true rfl) (fun _ => ⟨rfl, rfl⟩) rfl ?_
  refine J_aload_n dX6_choose_26 rfl rfl ?_
  refine J_get (v := .ref 51) dX6_choose_27 fl_X6_45 rfl rfl ?_
  refine J_callV (st := []) dX6_choose_30 cv_X6_63 (c_X0_many_1 hk51) hk51 rfl rfl (Nat.le_of_ble_eq_true rfl) ⟨(Nat.le_of_ble_eq_true rfl), (Nat.le_of_ble_eq_true rfl)⟩ ⟨(Nat.le_of_ble_eq_true rfl), (Nat.le_of_ble_eq_true rfl)⟩ (fun r h9 hp => ?_)
  obtain ⟨rfl, rfl⟩ := hp
  refine J_nf (nh2 := nh) (ck2 := 0) (sk2 := 0) (st2 := [.int 1]) rfl rfl rfl rfl ?_
  refine J_istore_n dX6_choose_33 rfl (Nat.le_of_ble_eq_true rfl) rfl ?_
  refine J_aload_n dX6_choose_34 rfl rfl ?_
  refine J_get (v := .ref 91) dX6_choose_35 fl_X6_26 rfl rfl ?_
  refine J_iconst (v := 0) dX6_choose_38 (by decide) ?_
  refine J_iload_n dX6_choose_39 rfl rfl ?_
  refine J_iconst (v := (-1)) dX6_choose_40 (by decide) ?_
  refine J_callS (st := []) dX6_choose_41 cs_X6_87 (c_J7_fill_fda19_5 hk91) rfl rfl (Nat.le_of_ble_eq_true rfl) ⟨(Nat.le_of_ble_eq_true rfl), (Nat.le_of_ble_eq_true rfl)⟩ ⟨(Nat.le_of_ble_eq_true rfl), (Nat.le_of_ble_eq_true rfl)⟩ (fun r h9 hp => ?_)
  obtain ⟨rfl, rfl⟩ := hp
  refine J_nf (nh2 := nh) (ck2 := 0) (sk2 := 0) (st2 := []) rfl rfl rfl rfl ?_
  refine J_app (L3 := [(91, .inl (0, 1260, .inl (upd (fun _ => 0) 0 (-1)))), (88, .inr (6, [.ref 1, .ref 51, .ref 57, .ref 65, .ref 89, .ref 90, .int 1, .int 0, .ref 91, .ref 92, .int (-1), .int (-1), .int 0]))]) rfl ?_
  refine J_aload_n dX6_choose_44 rfl rfl ?_
  refine J_iconst (v := 0) dX6_choose_45 (by decide) ?_
  refine K_put (fs2 := [.ref 1, .ref 51, .ref 57, .ref 65, .ref 89, .ref 90, .int 1, .int 0, .ref 91, .ref 92, .int 0, .int (-1), .int 0]) dX6_choose_46 fw_X6_32 rfl (Nat.le_of_ble_eq_true rfl) (fun _ => ⟨rfl, rfl⟩) rfl ?_
  refine J_aload_n dX6_choose_49 rfl rfl ?_
  refine J_aload_n dX6_choose_50 rfl rfl ?_
  refine J_get (v := .int 1) dX6_choose_51 fl_X6_19 rfl rfl ?_
  refine J_iconst (v := 1) dX6_choose_54 (by decide) ?_
  refine J_iadd (z := 2) dX6_choose_55 (by decide +kernel) ?_
  refine K_put (fs2 := [.ref 1, .ref 51, .ref 57, .ref 65, .ref 89, .ref 90, .int 1, .int 0, .ref 91, .ref 92, .int 0, .int 2, .int 0]) dX6_choose_56 fw_X6_35 rfl (Nat.le_of_ble_eq_true rfl) (fun _ => ⟨rfl, rfl⟩) rfl ?_
  refine J_iconst (v := 0) dX6_choose_59 (by decide) ?_
  refine J_istore_n dX6_choose_60 rfl (Nat.le_of_ble_eq_true rfl) rfl ?_
  refine J_iload_n dX6_choose_61 rfl rfl ?_
  refine J_iload_n dX6_choose_62 rfl rfl ?_
  refine J_icmp_ge (tgt := 108) dX6_choose_63 (by decide) (fun q => absurd q (by decide +kernel)) (fun _ => ?_)
  refine J_aload_n dX6_choose_66 rfl rfl ?_
  refine J_get (v := .int 2) dX6_choose_67 fl_X6_35 rfl rfl ?_
  refine J_iconst (v := 1) dX6_choose_70 (by decide) ?_
  refine J_icmp_le (tgt := 108) dX6_choose_71 (by decide) (fun q => absurd q (by decide +kernel)) (fun _ => ?_)
  refine J_aload_n dX6_choose_74 rfl rfl ?_
  refine J_iload_n dX6_choose_75 rfl rfl ?_
  refine J_aload_n dX6_choose_76 rfl rfl ?_
  refine J_get (v := .int 2) dX6_choose_77 fl_X6_35 rfl rfl ?_
  refine J_callV (st := []) dX6_choose_80 cv_X6_93 (c_X6_leftBy_1 rfl hk89 rfl hk92) rfl rfl rfl (Nat.le_of_ble_eq_true rfl) ⟨(Nat.le_of_ble_eq_true rfl), (Nat.le_of_ble_eq_true rfl)⟩ ⟨(Nat.le_of_ble_eq_true rfl), (Nat.le_of_ble_eq_true rfl)⟩ (fun r h9 hp => ?_)
  obtain ⟨rfl, rfl⟩ := hp
  refine J_nf (nh2 := nh) (ck2 := 0) (sk2 := 0) (st2 := [.int 1]) rfl rfl rfl rfl ?_
  refine J_app (L3 := [(92, .inl (0, 1260, .inl (upd (fun _ => 0) 0 0))), (91, .inl (0, 1260, .inl (upd (upd (fun _ => 0) 0 (-1)) 0 0))), (88, .inr (6, [.ref 1, .ref 51, .ref 57, .ref 65, .ref 89, .ref 90, .int 1, .int 0, .ref 91, .ref 92, .int 0, .int 2, .int 0])), (88, .inr (6, [.ref 1, .ref 51, .ref 57, .ref 65, .ref 89, .ref 90, .int 1, .int 0, .ref 91, .ref 92, .int 0, .int (-1), .int 0])), (91, .inl (0, 1260, .inl (upd (fun _ => 0) 0 (-1)))), (88, .inr (6, [.ref 1, .ref 51, .ref 57, .ref 65, .ref 89, .ref 90, .int 1, .int 0, .ref 91, .ref 92, .int (-1), .int (-1), .int 0]))]) rfl ?_
  refine J_istore_n dX6_choose_83 rfl (Nat.le_of_ble_eq_true rfl) rfl ?_
  refine J_iload_n dX6_choose_84 rfl rfl ?_
  refine J_aload_n dX6_choose_85 rfl rfl ?_
  refine J_get (v := .int 2) dX6_choose_86 fl_X6_35 rfl rfl ?_
  refine J_icmp_ge (tgt := 102) dX6_choose_89 (by decide) (fun q => absurd q (by decide +kernel)) (fun _ => ?_)
  refine J_aload_n dX6_choose_92 rfl rfl ?_
  refine J_iload_n dX6_choose_93 rfl rfl ?_
  refine K_put (fs2 := [.ref 1, .ref 51, .ref 57, .ref 65, .ref 89, .ref 90, .int 1, .int 0, .ref 91, .ref 92, .int 0, .int 2, .int 0]) dX6_choose_94 fw_X6_32 rfl (Nat.le_of_ble_eq_true rfl) (fun _ => ⟨rfl, rfl⟩) rfl ?_
  refine J_aload_n dX6_choose_97 rfl rfl ?_
  refine J_iload_n dX6_choose_98 rfl rfl ?_
  refine K_put (fs2 := [.ref 1, .ref 51, .ref 57, .ref 65, .ref 89, .ref 90, .int 1, .int 0, .ref 91, .ref 92, .int 0, .int 1, .int 0]) dX6_choose_99 fw_X6_35 rfl (Nat.le_of_ble_eq_true rfl) (fun _ => ⟨rfl, rfl⟩) rfl ?_
  refine J_iinc (v := 1) dX6_choose_102 rfl (by decide +kernel) (Nat.le_of_ble_eq_true rfl) rfl ?_
  refine J_ls (ls2 := [some (.ref 88), some (.int 1), some (.int 1), some (.int 1)]) rfl ?_
  refine J_goto (tgt := 61) dX6_choose_105 (by decide) ?_
  refine J_iload_n dX6_choose_61 rfl rfl ?_
  refine J_iload_n dX6_choose_62 rfl rfl ?_
  refine J_icmp_ge (tgt := 108) dX6_choose_63 (by decide) (fun _ => ?_) (fun q => absurd (by decide +kernel) q)
  refine J_mask (L2 := [(88, .inr (6, [.ref 1, .ref 51, .ref 57, .ref 65, .ref 89, .ref 90, .int 1, .int 0, .ref 91, .ref 92, .int 0, .int 1, .int 0])), (92, .inl (0, 1260, .inl (upd (fun _ => 0) 0 0))), (91, .inl (0, 1260, .inl (upd (upd (fun _ => 0) 0 (-1)) 0 0)))]) (ks := [88, 88, 92, 91, 88, 88, 91, 88]) [true, false, true, true, false, false, false, false] rfl (by decide +kernel) rfl ?_
  exact J_vret dX6_choose_108 rfl (Nat.le_of_ble_eq_true rfl) (Nat.le_of_ble_eq_true rfl) ⟨rfl, rfl⟩
set_option maxHeartbeats 4000000 in
set_option maxRecDepth 100000 in
theorem c_X6_best_1 {l : Launch} {G : jG} {nh : Nat} {fh : Nat → Option va_E} (hk88 : fh 88 = some (.inr (6, [.ref 1, .ref 51, .ref 57, .ref 65, .ref 89, .ref 90, .int 1, .int 0, .ref 91, .ref 92, .int 0, .int 1, .int 0]))) : JM l G yX6_best MX6_best { frames := 0, cells := 0, slots := 0, locals := 0 } [.ref 88] (nh, fh) (fun r h9 => r = some (.int 0) ∧ h9 = (nh, fh)) := by
  refine JM.of (by decide) rfl (fun h => by cases h) (Nat.le_of_ble_eq_true rfl) ⟨0, rfl⟩ ?_
  refine J_hc0 (J_ls (ls2 := [some (.ref 88)]) rfl ?_)
  refine J_aload_n dX6_best_0 rfl rfl ?_
  refine J_get (v := .int 0) dX6_best_1 fl_X6_32 hk88 rfl ?_
  exact J_iret dX6_best_4 rfl rfl (Nat.le_of_ble_eq_true rfl) (Nat.le_of_ble_eq_true rfl) ⟨rfl, rfl⟩
set_option maxHeartbeats 4000000 in
set_option maxRecDepth 100000 in
theorem c_X11_ask_2 {l : Launch} {G : jG} {fh : Nat → Option va_E} (hk0 : fh 0 = some (.inr (11, [.ref 1, .ref 17, .ref 50, .ref 51, .ref 54, .ref 57, .ref 65, .ref 75, .ref 81, .ref 85, .ref 88, .ref 93, .ref 96, .int 0, .int (-1), .ref 97, .int 0]))) (hk1 : fh 1 = some (.inr (8, [.ref 2, .ref 3, .ref 4, .int 0, .int (-1), .ref 11, .ref 12, .int 0, .ref 13, .ref 14, .int 0, .ref 15, .ref 16, .int 0]))) (hk3 : fh 3 = some (.inl (0, 2, .inl (fun _ => 0)))) (hk51 : fh 51 = some (.inr (0, [.ref 52, .ref 53, .int 1, .int 0]))) (hk57 : fh 57 = some (.inr (9, [.ref 1, .ref 51, .ref 58, .ref 61, .ref 62, .ref 63, .ref 64, .int 0, .int 1, .int 1]))) (hk58 : fh 58 = some (.inr (1, [.ref 59, .ref 60, .int 0, .int 0, .int 0, .int 0, .int 0, .int 1]))) (hk59 : fh 59 = some (.inl (0, 8, .inl (fun _ => 0)))) (hk62 : fh 62 = some (.inl (0, 1260, .inl (fun _ => 0)))) (hk63 : fh 63 = some (.inl (0, 0, .inl (fun _ => 0)))) (hk88 : fh 88 = some (.inr (6, [.ref 1, .ref 51, .ref 57, .ref 65, .ref 89, .ref 90, .int 0, .int (-1), .ref 91, .ref 92, .int (-1), .int (-1), .int (-1)]))) (hk89 : fh 89 = some (.inl (2, 1260, .inl (fun _ => 0)))) (hk90 : fh 90 = some (.inl (0, 1260, .inl (fun _ => 0)))) (hk91 : fh 91 = some (.inl (0, 1260, .inl (fun _ => 0)))) (hk92 : fh 92 = some (.inl (0, 1260, .inl (fun _ => 0)))) : JM l G yX11_ask MX11_ask { frames := 3, cells := 1, slots := 22, locals := 69 } [.ref 0, .int 0] (135, fh) (fun r h9 => r = some (.int 0) ∧ h9 = (136, hc fh [(88, .inr (6, [.ref 1, .ref 51, .ref 57, .ref 65, .ref 89, .ref 90, .int 1, .int 0, .ref 91, .ref 92, .int 0, .int 1, .int 0])), (92, .inl (0, 1260, .inl (upd (fun _ => 0) 0 0))), (91, .inl (0, 1260, .inl (upd (upd (fun _ => 0) 0 (-1)) 0 0))), (90, .inl (0, 1260, .inl (upd (fun _ => 0) 0 0))), (89, .inl (2, 1260, .inl (upd (fun _ => 0) 0 1))), (57, .inr (9, [.ref 1, .ref 51, .ref 58, .ref 61, .ref 62, .ref 135, .ref 64, .int 0, .int 0, .int 0])), (62, .inl (0, 1260, .inl (upd (fun _ => 0) 0 (-1)))), (135, .inl (0, 22, .inl (fun _ => 0))), (59, .inl (0, 8, .inl (upd (upd (fun _ => 0) 6 0) 7 0)))])) := by
  refine JM.of (by decide) rfl (fun h => by cases h) (Nat.le_of_ble_eq_true rfl) ⟨0, rfl⟩ ?_
  refine J_hc0 (J_ls (ls2 := [some (.ref 0), some (.int 0)]) rfl ?_)
  refine J_aload_n dX11_ask_0 rfl rfl ?_
  refine J_get (v := .ref 57) dX11_ask_1 fl_X11_43 hk0 rfl ?_
  refine J_callV (st := []) dX11_ask_4 cv_X11_217 (c_X9_prepare_1 hk1 hk3 hk51 hk57 hk58 hk59 hk62 hk63) hk57 rfl rfl (Nat.le_of_ble_eq_true rfl) ⟨(Nat.le_of_ble_eq_true rfl), (Nat.le_of_ble_eq_true rfl)⟩ ⟨(Nat.le_of_ble_eq_true rfl), (Nat.le_of_ble_eq_true rfl)⟩ (fun r h9 hp => ?_)
  obtain ⟨rfl, rfl⟩ := hp
  refine J_nf (nh2 := 136) (ck2 := 1) (sk2 := 22) (st2 := []) rfl rfl rfl rfl ?_
  refine J_app (L3 := [(57, .inr (9, [.ref 1, .ref 51, .ref 58, .ref 61, .ref 62, .ref 135, .ref 64, .int 0, .int 0, .int 0])), (62, .inl (0, 1260, .inl (upd (fun _ => 0) 0 (-1)))), (135, .inl (0, 22, .inl (fun _ => 0))), (59, .inl (0, 8, .inl (upd (upd (fun _ => 0) 6 0) 7 0)))]) rfl ?_
  refine J_aload_n dX11_ask_7 rfl rfl ?_
  refine J_get (v := .ref 88) dX11_ask_8 fl_X11_82 hk0 rfl ?_
  refine J_callV (st := []) dX11_ask_11 cv_X11_295 (c_X6_refit_1 hk1 hk51 rfl hk88 hk89 hk90) hk88 rfl rfl (Nat.le_of_ble_eq_true rfl) ⟨(Nat.le_of_ble_eq_true rfl), (Nat.le_of_ble_eq_true rfl)⟩ ⟨(Nat.le_of_ble_eq_true rfl), (Nat.le_of_ble_eq_true rfl)⟩ (fun r h9 hp => ?_)
  obtain ⟨rfl, rfl⟩ := hp
  refine J_nf (nh2 := 136) (ck2 := 1) (sk2 := 22) (st2 := []) rfl rfl rfl rfl ?_
  refine J_app (L3 := [(88, .inr (6, [.ref 1, .ref 51, .ref 57, .ref 65, .ref 89, .ref 90, .int 1, .int 0, .ref 91, .ref 92, .int (-1), .int (-1), .int (-1)])), (90, .inl (0, 1260, .inl (upd (fun _ => 0) 0 0))), (89, .inl (2, 1260, .inl (upd (fun _ => 0) 0 1))), (57, .inr (9, [.ref 1, .ref 51, .ref 58, .ref 61, .ref 62, .ref 135, .ref 64, .int 0, .int 0, .int 0])), (62, .inl (0, 1260, .inl (upd (fun _ => 0) 0 (-1)))), (135, .inl (0, 22, .inl (fun _ => 0))), (59, .inl (0, 8, .inl (upd (upd (fun _ => 0) 6 0) 7 0)))]) rfl ?_
  refine J_aload_n dX11_ask_14 rfl rfl ?_
  refine J_get (v := .ref 88) dX11_ask_15 fl_X11_82 hk0 rfl ?_
  refine J_callV (st := []) dX11_ask_18 cv_X11_298 (c_X6_many_1 rfl) rfl rfl rfl (Nat.le_of_ble_eq_true rfl) ⟨(Nat.le_of_ble_eq_true rfl), (Nat.le_of_ble_eq_true rfl)⟩ ⟨(Nat.le_of_ble_eq_true rfl), (Nat.le_of_ble_eq_true rfl)⟩ (fun r h9 hp => ?_)
  obtain ⟨rfl, rfl⟩ := hp
  refine J_nf (nh2 := 136) (ck2 := 1) (sk2 := 22) (st2 := [.int 1]) rfl rfl rfl rfl ?_
  refine J_if_eq (tgt := 33) dX11_ask_21 (by decide) (fun q => absurd q (by decide +kernel)) (fun _ => ?_)
  refine J_iload_n dX11_ask_24 rfl rfl ?_
  refine J_if_lt (tgt := 33) dX11_ask_25 (by decide) (fun q => absurd q (by decide +kernel)) (fun _ => ?_)
  refine J_iload_n dX11_ask_28 rfl rfl ?_
  refine J_iconst (v := 1) dX11_ask_29 (by decide) ?_
  refine J_icmp_le (tgt := 35) dX11_ask_30 (by decide) (fun _ => ?_) (fun q => absurd (by decide +kernel) q)
  refine J_aload_n dX11_ask_35 rfl rfl ?_
  refine J_get (v := .ref 88) dX11_ask_36 fl_X11_82 hk0 rfl ?_
  refine J_callV (st := []) dX11_ask_39 cv_X11_300 (c_X6_choose_1 hk51 rfl rfl rfl hk91 hk92) rfl rfl rfl (Nat.le_of_ble_eq_true rfl) ⟨(Nat.le_of_ble_eq_true rfl), (Nat.le_of_ble_eq_true rfl)⟩ ⟨(Nat.le_of_ble_eq_true rfl), (Nat.le_of_ble_eq_true rfl)⟩ (fun r h9 hp => ?_)
  obtain ⟨rfl, rfl⟩ := hp
  refine J_nf (nh2 := 136) (ck2 := 1) (sk2 := 22) (st2 := []) rfl rfl rfl rfl ?_
  refine J_app (L3 := [(88, .inr (6, [.ref 1, .ref 51, .ref 57, .ref 65, .ref 89, .ref 90, .int 1, .int 0, .ref 91, .ref 92, .int 0, .int 1, .int 0])), (92, .inl (0, 1260, .inl (upd (fun _ => 0) 0 0))), (91, .inl (0, 1260, .inl (upd (upd (fun _ => 0) 0 (-1)) 0 0))), (88, .inr (6, [.ref 1, .ref 51, .ref 57, .ref 65, .ref 89, .ref 90, .int 1, .int 0, .ref 91, .ref 92, .int (-1), .int (-1), .int (-1)])), (90, .inl (0, 1260, .inl (upd (fun _ => 0) 0 0))), (89, .inl (2, 1260, .inl (upd (fun _ => 0) 0 1))), (57, .inr (9, [.ref 1, .ref 51, .ref 58, .ref 61, .ref 62, .ref 135, .ref 64, .int 0, .int 0, .int 0])), (62, .inl (0, 1260, .inl (upd (fun _ => 0) 0 (-1)))), (135, .inl (0, 22, .inl (fun _ => 0))), (59, .inl (0, 8, .inl (upd (upd (fun _ => 0) 6 0) 7 0)))]) rfl ?_
  refine J_iload_n dX11_ask_42 rfl rfl ?_
  refine J_if_ne (tgt := 56) dX11_ask_43 (by decide) (fun q => absurd (by decide +kernel) q) (fun _ => ?_)
  refine J_aload_n dX11_ask_46 rfl rfl ?_
  refine J_get (v := .ref 88) dX11_ask_47 fl_X11_82 hk0 rfl ?_
  refine J_callV (st := []) dX11_ask_50 cv_X11_303 (c_X6_best_1 rfl) rfl rfl rfl (Nat.le_of_ble_eq_true rfl) ⟨(Nat.le_of_ble_eq_true rfl), (Nat.le_of_ble_eq_true rfl)⟩ ⟨(Nat.le_of_ble_eq_true rfl), (Nat.le_of_ble_eq_true rfl)⟩ (fun r h9 hp => ?_)
  obtain ⟨rfl, rfl⟩ := hp
  refine J_nf (nh2 := 136) (ck2 := 1) (sk2 := 22) (st2 := [.int 0]) rfl rfl rfl rfl ?_
  refine J_goto (tgt := 63) dX11_ask_53 (by decide) ?_
  refine J_mask (L2 := [(88, .inr (6, [.ref 1, .ref 51, .ref 57, .ref 65, .ref 89, .ref 90, .int 1, .int 0, .ref 91, .ref 92, .int 0, .int 1, .int 0])), (92, .inl (0, 1260, .inl (upd (fun _ => 0) 0 0))), (91, .inl (0, 1260, .inl (upd (upd (fun _ => 0) 0 (-1)) 0 0))), (90, .inl (0, 1260, .inl (upd (fun _ => 0) 0 0))), (89, .inl (2, 1260, .inl (upd (fun _ => 0) 0 1))), (57, .inr (9, [.ref 1, .ref 51, .ref 58, .ref 61, .ref 62, .ref 135, .ref 64, .int 0, .int 0, .int 0])), (62, .inl (0, 1260, .inl (upd (fun _ => 0) 0 (-1)))), (135, .inl (0, 22, .inl (fun _ => 0))), (59, .inl (0, 8, .inl (upd (upd (fun _ => 0) 6 0) 7 0)))]) (ks := [88, 92, 91, 88, 90, 89, 57, 62, 135, 59]) [true, true, true, false, true, true, true, true, true, true] rfl (by decide +kernel) rfl ?_
  exact J_iret dX11_ask_63 rfl rfl (Nat.le_of_ble_eq_true rfl) (Nat.le_of_ble_eq_true rfl) ⟨rfl, rfl⟩
set_option maxHeartbeats 4000000 in
set_option maxRecDepth 100000 in
theorem c_X12_ask_2 {l : Launch} {G : jG} {nh : Nat} {fh : Nat → Option va_E} (hk98 : fh 98 = some (.inr (12, [.int 0, .int 0, .ref 99, .ref 100, .ref 101, .ref 102, .ref 103, .ref 104, .ref 105, .int 0, .int (-1), .ref 106, .ref 107, .ref 108, .int 0, .int 0, .int 0, .int 0, .int 0, .int 0, .int 0, .ref 109, .int 0, .int 0, .ref 110, .ref 111, .ref 112, .ref 113, .ref 114, .ref 115, .ref 116, .ref 117, .int 0, .int 0, .int (-1), .int (-1), .ref 118, .ref 119, .ref 120, .ref 121, .ref 122, .ref 123, .ref 124, .ref 125, .ref 126, .ref 127, .ref 128, .ref 129, .int 0, .ref 130, .ref 131, .ref 132, .ref 133, .ref 134, .int 0, .int 0]))) (hk100 : fh 100 = some (.inl (0, 4870, .inl (upd (fun _ => 0) 63 (-1))))) (hk111 : fh 111 = some (.inl (0, 1260, .inl (fun _ => 0)))) (hk114 : fh 114 = some (.inl (0, 1260, .inl (fun _ => 0)))) (hk116 : fh 116 = some (.inl (0, 1260, .inl (fun _ => 0)))) (hk118 : fh 118 = some (.inl (0, 1260, .inl (fun _ => 0)))) (hk119 : fh 119 = some (.inl (1, 1260, .inr (.inl (fun _ => 0))))) (hk120 : fh 120 = some (.inl (0, 1260, .inl (fun _ => 0)))) (hk130 : fh 130 = some (.inl (2, 1260, .inl (fun _ => 0)))) (hk131 : fh 131 = some (.inl (0, 1261, .inl (fun _ => 0)))) : JM l G yX12_ask MX12_ask { frames := 4, cells := 0, slots := 0, locals := 93 } [.ref 98, .int 0] (nh, fh) (fun r h9 => r = some (.int 0) ∧ h9 = (nh, hc fh [(131, .inl (0, 1261, .inl (upd (upd (upd (fun _ => 0) 0 0) 1 0) 0 1))), (120, .inl (0, 1260, .inl (upd (fun _ => 0) 0 0))), (119, .inl (1, 1260, .inr (.inl (vp_updL (vp_updL (fun _ => 0) 0 0) 0 1)))), (118, .inl (0, 1260, .inl (upd (upd (fun _ => 0) 0 (-1)) 0 0))), (130, .inl (2, 1260, .inl (upd (fun _ => 0) 0 1))), (114, .inl (0, 1260, .inl (upd (fun _ => 0) 0 0))), (116, .inl (0, 1260, .inl (upd (fun _ => 0) 0 0))), (98, .inr (12, [.int 0, .int 0, .ref 99, .ref 100, .ref 101, .ref 102, .ref 103, .ref 104, .ref 105, .int 0, .int (-1), .ref 106, .ref 107, .ref 108, .int 0, .int 0, .int 0, .int 0, .int 0, .int 0, .int 0, .ref 109, .int 0, .int 0, .ref 110, .ref 111, .ref 112, .ref 113, .ref 114, .ref 115, .ref 116, .ref 117, .int 1, .int 0, .int 0, .int 0, .ref 118, .ref 119, .ref 120, .ref 121, .ref 122, .ref 123, .ref 124, .ref 125, .ref 126, .ref 127, .ref 128, .ref 129, .int 0, .ref 130, .ref 131, .ref 132, .ref 133, .ref 134, .int 0, .int 0])), (111, .inl (0, 1260, .inl (upd (fun _ => 0) 0 0)))])) := by
  refine JM.of (by decide) rfl (fun h => by cases h) (Nat.le_of_ble_eq_true rfl) ⟨6, rfl⟩ ?_
  refine J_hc0 (J_ls (ls2 := [some (.ref 98), some (.int 0), none, none, none, none, none, none]) rfl ?_)
  refine J_iload_n dX12_ask_0 rfl rfl ?_
  refine J_iconst (v := 0) dX12_ask_1 (by decide) ?_
  refine J_iconst (v := 1) dX12_ask_2 (by decide) ?_
  refine J_callS (st := []) dX12_ask_3 cs_X12_138 (c_X12_lies_23 ) rfl rfl (Nat.le_of_ble_eq_true rfl) ⟨(Nat.le_of_ble_eq_true rfl), (Nat.le_of_ble_eq_true rfl)⟩ ⟨(Nat.le_of_ble_eq_true rfl), (Nat.le_of_ble_eq_true rfl)⟩ (fun r h9 hp => ?_)
  obtain ⟨rfl, rfl⟩ := hp
  refine J_nf (nh2 := nh) (ck2 := 0) (sk2 := 0) (st2 := [.int 1]) rfl rfl rfl rfl ?_
  refine J_if_eq (tgt := 16) dX12_ask_6 (by decide) (fun q => absurd q (by decide +kernel)) (fun _ => ?_)
  refine J_aload_n dX12_ask_9 rfl rfl ?_
  refine J_callV (st := []) dX12_ask_10 cv_X12_363 (c_X12_findsFits_1 hk98 hk100 hk111 hk114 hk116 hk130) hk98 rfl rfl (Nat.le_of_ble_eq_true rfl) ⟨(Nat.le_of_ble_eq_true rfl), (Nat.le_of_ble_eq_true rfl)⟩ ⟨(Nat.le_of_ble_eq_true rfl), (Nat.le_of_ble_eq_true rfl)⟩ (fun r h9 hp => ?_)
  obtain ⟨rfl, rfl⟩ := hp
  refine J_nf (nh2 := nh) (ck2 := 0) (sk2 := 0) (st2 := [.int 1]) rfl rfl rfl rfl ?_
  refine J_app (L3 := [(130, .inl (2, 1260, .inl (upd (fun _ => 0) 0 1))), (114, .inl (0, 1260, .inl (upd (fun _ => 0) 0 0))), (116, .inl (0, 1260, .inl (upd (fun _ => 0) 0 0))), (98, .inr (12, [.int 0, .int 0, .ref 99, .ref 100, .ref 101, .ref 102, .ref 103, .ref 104, .ref 105, .int 0, .int (-1), .ref 106, .ref 107, .ref 108, .int 0, .int 0, .int 0, .int 0, .int 0, .int 0, .int 0, .ref 109, .int 0, .int 0, .ref 110, .ref 111, .ref 112, .ref 113, .ref 114, .ref 115, .ref 116, .ref 117, .int 1, .int 0, .int 0, .int 0, .ref 118, .ref 119, .ref 120, .ref 121, .ref 122, .ref 123, .ref 124, .ref 125, .ref 126, .ref 127, .ref 128, .ref 129, .int 0, .ref 130, .ref 131, .ref 132, .ref 133, .ref 134, .int 0, .int 0])), (111, .inl (0, 1260, .inl (upd (fun _ => 0) 0 0)))]) rfl ?_
  refine J_if_ne (tgt := 18) dX12_ask_13 (by decide) (fun _ => ?_) (fun q => absurd q (by decide +kernel))
  refine J_iconst (v := (-1)) dX12_ask_18 (by decide) ?_
  refine J_istore_n dX12_ask_19 rfl (Nat.le_of_ble_eq_true rfl) rfl ?_
  refine J_ldc (v := 1000000) dX12_ask_20 (jt7 88 rfl rfl) ?_
  refine J_istore_n dX12_ask_22 rfl (Nat.le_of_ble_eq_true rfl) rfl ?_
  refine J_iconst (v := 0) dX12_ask_23 (by decide) ?_
  refine J_istore dX12_ask_24 (Nat.le_of_ble_eq_true rfl) rfl ?_
  refine J_iload dX12_ask_26 rfl ?_
  refine J_aload_n dX12_ask_28 rfl rfl ?_
  refine J_get (v := .int 1) dX12_ask_29 fl_X12_298 rfl rfl ?_
  refine J_icmp_ge (tgt := 187) dX12_ask_32 (by decide) (fun q => absurd q (by decide +kernel)) (fun _ => ?_)
  refine J_aload_n dX12_ask_35 rfl rfl ?_
  refine J_iload dX12_ask_36 rfl ?_
  refine J_callV (st := []) dX12_ask_38 cv_X12_334 (c_X12_measures_1 rfl rfl hk118 hk119 hk120) rfl rfl rfl (Nat.le_of_ble_eq_true rfl) ⟨(Nat.le_of_ble_eq_true rfl), (Nat.le_of_ble_eq_true rfl)⟩ ⟨(Nat.le_of_ble_eq_true rfl), (Nat.le_of_ble_eq_true rfl)⟩ (fun r h9 hp => ?_)
  obtain ⟨rfl, rfl⟩ := hp
  refine J_nf (nh2 := nh) (ck2 := 0) (sk2 := 0) (st2 := [.int 1]) rfl rfl rfl rfl ?_
  refine J_app (L3 := [(120, .inl (0, 1260, .inl (upd (fun _ => 0) 0 0))), (119, .inl (1, 1260, .inr (.inl (vp_updL (vp_updL (fun _ => 0) 0 0) 0 1)))), (118, .inl (0, 1260, .inl (upd (upd (fun _ => 0) 0 (-1)) 0 0))), (130, .inl (2, 1260, .inl (upd (fun _ => 0) 0 1))), (114, .inl (0, 1260, .inl (upd (fun _ => 0) 0 0))), (116, .inl (0, 1260, .inl (upd (fun _ => 0) 0 0))), (98, .inr (12, [.int 0, .int 0, .ref 99, .ref 100, .ref 101, .ref 102, .ref 103, .ref 104, .ref 105, .int 0, .int (-1), .ref 106, .ref 107, .ref 108, .int 0, .int 0, .int 0, .int 0, .int 0, .int 0, .int 0, .ref 109, .int 0, .int 0, .ref 110, .ref 111, .ref 112, .ref 113, .ref 114, .ref 115, .ref 116, .ref 117, .int 1, .int 0, .int 0, .int 0, .ref 118, .ref 119, .ref 120, .ref 121, .ref 122, .ref 123, .ref 124, .ref 125, .ref 126, .ref 127, .ref 128, .ref 129, .int 0, .ref 130, .ref 131, .ref 132, .ref 133, .ref 134, .int 0, .int 0])), (111, .inl (0, 1260, .inl (upd (fun _ => 0) 0 0)))]) rfl ?_
  refine J_pop dX12_ask_41 rfl ?_
  refine J_iconst (v := 0) dX12_ask_42 (by decide) ?_
  refine J_istore dX12_ask_43 (Nat.le_of_ble_eq_true rfl) rfl ?_
  refine J_iload dX12_ask_45 rfl ?_
  refine J_aload_n dX12_ask_47 rfl rfl ?_
  refine J_get (v := .int 1) dX12_ask_48 fl_X12_298 rfl rfl ?_
  refine J_icmp_gt (tgt := 68) dX12_ask_51 (by decide) (fun q => absurd q (by decide +kernel)) (fun _ => ?_)
  refine J_aload_n dX12_ask_54 rfl rfl ?_
  refine J_get (v := .ref 131) dX12_ask_55 fl_X12_126 rfl rfl ?_
  refine J_iload dX12_ask_58 rfl ?_
  refine J_iconst (v := 0) dX12_ask_60 (by decide) ?_
  refine K_iast (i2 := 0) dX12_ask_61 hk131 rfl (jin (by decide +kernel)) (by decide +kernel) ?_
  refine J_iinc (v := 1) dX12_ask_62 rfl (by decide +kernel) (Nat.le_of_ble_eq_true rfl) rfl ?_
  refine J_ls (ls2 := [some (.ref 98), some (.int 0), some (.int (-1)), some (.int 1000000), some (.int 0), some (.int 1), none, none]) rfl ?_
  refine J_goto (tgt := 45) dX12_ask_65 (by decide) ?_
  refine J_iload dX12_ask_45 rfl ?_
  refine J_aload_n dX12_ask_47 rfl rfl ?_
  refine J_get (v := .int 1) dX12_ask_48 fl_X12_298 rfl rfl ?_
  refine J_icmp_gt (tgt := 68) dX12_ask_51 (by decide) (fun q => absurd q (by decide +kernel)) (fun _ => ?_)
  refine J_aload_n dX12_ask_54 rfl rfl ?_
  refine J_get (v := .ref 131) dX12_ask_55 fl_X12_126 rfl rfl ?_
  refine J_iload dX12_ask_58 rfl ?_
  refine J_iconst (v := 0) dX12_ask_60 (by decide) ?_
  refine K_iast (i2 := 1) dX12_ask_61 rfl rfl (jin (by decide +kernel)) (by decide +kernel) ?_
  refine J_iinc (v := 2) dX12_ask_62 rfl (by decide +kernel) (Nat.le_of_ble_eq_true rfl) rfl ?_
  refine J_ls (ls2 := [some (.ref 98), some (.int 0), some (.int (-1)), some (.int 1000000), some (.int 0), some (.int 2), none, none]) rfl ?_
  refine J_goto (tgt := 45) dX12_ask_65 (by decide) ?_
  refine J_iload dX12_ask_45 rfl ?_
  refine J_aload_n dX12_ask_47 rfl rfl ?_
  refine J_get (v := .int 1) dX12_ask_48 fl_X12_298 rfl rfl ?_
  refine J_icmp_gt (tgt := 68) dX12_ask_51 (by decide) (fun _ => ?_) (fun q => absurd (by decide +kernel) q)
  refine J_iconst (v := 0) dX12_ask_68 (by decide) ?_
  refine J_istore dX12_ask_69 (Nat.le_of_ble_eq_true rfl) rfl ?_
  refine J_iconst (v := 0) dX12_ask_71 (by decide) ?_
  refine J_istore dX12_ask_72 (Nat.le_of_ble_eq_true rfl) rfl ?_
  refine J_iload dX12_ask_74 rfl ?_
  refine J_aload_n dX12_ask_76 rfl rfl ?_
  refine J_get (v := .int 1) dX12_ask_77 fl_X12_298 rfl rfl ?_
  refine J_icmp_ge (tgt := 166) dX12_ask_80 (by decide) (fun q => absurd q (by decide +kernel)) (fun _ => ?_)
  refine J_aload_n dX12_ask_83 rfl rfl ?_
  refine J_get (v := .ref 130) dX12_ask_84 fl_X12_123 rfl rfl ?_
  refine J_iload dX12_ask_87 rfl ?_
  refine J_zald (i2 := 0) (v := 1) dX12_ask_89 rfl rfl (jin (by decide +kernel)) (by decide +kernel) rfl ?_
  refine J_if_ne (tgt := 96) dX12_ask_90 (by decide) (fun _ => ?_) (fun q => absurd q (by decide +kernel))
  refine J_aload_n dX12_ask_96 rfl rfl ?_
  refine J_get (v := .ref 118) dX12_ask_97 fl_X12_85 rfl rfl ?_
  refine J_iload dX12_ask_100 rfl ?_
  refine J_iald (i2 := 0) (v := 0) dX12_ask_102 rfl rfl (jin (by decide +kernel)) (by decide +kernel) rfl ?_
  refine J_iconst (v := (-1)) dX12_ask_103 (by decide) ?_
  refine J_icmp_ne (tgt := 114) dX12_ask_104 (by decide) (fun _ => ?_) (fun q => absurd q (by decide +kernel))
  refine J_aload_n dX12_ask_114 rfl rfl ?_
  refine J_get (v := .ref 118) dX12_ask_115 fl_X12_85 rfl rfl ?_
  refine J_iload dX12_ask_118 rfl ?_
  refine J_iald (i2 := 0) (v := 0) dX12_ask_120 rfl rfl (jin (by decide +kernel)) (by decide +kernel) rfl ?_
  refine J_istore dX12_ask_121 (Nat.le_of_ble_eq_true rfl) rfl ?_
  refine J_aload_n dX12_ask_123 rfl rfl ?_
  refine J_get (v := .ref 131) dX12_ask_124 fl_X12_126 rfl rfl ?_
  refine J_iload dX12_ask_127 rfl ?_
  refine J_dup2_11 dX12_ask_129 rfl rfl ?_
  refine J_iald (i2 := 0) (v := 0) dX12_ask_130 rfl rfl (jin (by decide +kernel)) (by decide +kernel) rfl ?_
  refine J_iconst (v := 1) dX12_ask_131 (by decide) ?_
  refine J_iadd (z := 1) dX12_ask_132 (by decide +kernel) ?_
  refine K_iast (i2 := 0) dX12_ask_133 rfl rfl (jin (by decide +kernel)) (by decide +kernel) ?_
  refine J_aload_n dX12_ask_134 rfl rfl ?_
  refine J_get (v := .ref 131) dX12_ask_135 fl_X12_126 rfl rfl ?_
  refine J_iload dX12_ask_138 rfl ?_
  refine J_iald (i2 := 0) (v := 1) dX12_ask_140 rfl rfl (jin (by decide +kernel)) (by decide +kernel) rfl ?_
  refine J_iload dX12_ask_141 rfl ?_
  refine J_icmp_le (tgt := 156) dX12_ask_143 (by decide) (fun q => absurd q (by decide +kernel)) (fun _ => ?_)
  refine J_aload_n dX12_ask_146 rfl rfl ?_
  refine J_get (v := .ref 131) dX12_ask_147 fl_X12_126 rfl rfl ?_
  refine J_iload dX12_ask_150 rfl ?_
  refine J_iald (i2 := 0) (v := 1) dX12_ask_152 rfl rfl (jin (by decide +kernel)) (by decide +kernel) rfl ?_
  refine J_goto (tgt := 158) dX12_ask_153 (by decide) ?_
  refine J_istore dX12_ask_158 (Nat.le_of_ble_eq_true rfl) rfl ?_
  refine J_iinc (v := 1) dX12_ask_160 rfl (by decide +kernel) (Nat.le_of_ble_eq_true rfl) rfl ?_
  refine J_ls (ls2 := [some (.ref 98), some (.int 0), some (.int (-1)), some (.int 1000000), some (.int 0), some (.int 1), some (.int 1), some (.int 0)]) rfl ?_
  refine J_goto (tgt := 74) dX12_ask_163 (by decide) ?_
  refine J_iload dX12_ask_74 rfl ?_
  refine J_aload_n dX12_ask_76 rfl rfl ?_
  refine J_get (v := .int 1) dX12_ask_77 fl_X12_298 rfl rfl ?_
  refine J_icmp_ge (tgt := 166) dX12_ask_80 (by decide) (fun _ => ?_) (fun q => absurd (by decide +kernel) q)
  refine J_iload dX12_ask_166 rfl ?_
  refine J_iload_n dX12_ask_168 rfl rfl ?_
  refine J_icmp_lt (tgt := 175) dX12_ask_169 (by decide) (fun _ => ?_) (fun q => absurd (by decide +kernel) q)
  refine J_iload dX12_ask_175 rfl ?_
  refine J_istore_n dX12_ask_177 rfl (Nat.le_of_ble_eq_true rfl) rfl ?_
  refine J_iload dX12_ask_178 rfl ?_
  refine J_istore_n dX12_ask_180 rfl (Nat.le_of_ble_eq_true rfl) rfl ?_
  refine J_iinc (v := 1) dX12_ask_181 rfl (by decide +kernel) (Nat.le_of_ble_eq_true rfl) rfl ?_
  refine J_ls (ls2 := [some (.ref 98), some (.int 0), some (.int 0), some (.int 1), some (.int 1), some (.int 1), some (.int 1), some (.int 0)]) rfl ?_
  refine J_goto (tgt := 26) dX12_ask_184 (by decide) ?_
  refine J_iload dX12_ask_26 rfl ?_
  refine J_aload_n dX12_ask_28 rfl rfl ?_
  refine J_get (v := .int 1) dX12_ask_29 fl_X12_298 rfl rfl ?_
  refine J_icmp_ge (tgt := 187) dX12_ask_32 (by decide) (fun _ => ?_) (fun q => absurd (by decide +kernel) q)
  refine J_iload_n dX12_ask_187 rfl rfl ?_
  refine J_if_ne (tgt := 195) dX12_ask_188 (by decide) (fun q => absurd (by decide +kernel) q) (fun _ => ?_)
  refine J_iload_n dX12_ask_191 rfl rfl ?_
  refine J_goto (tgt := 196) dX12_ask_192 (by decide) ?_
  refine J_mask (L2 := [(131, .inl (0, 1261, .inl (upd (upd (upd (fun _ => 0) 0 0) 1 0) 0 1))), (120, .inl (0, 1260, .inl (upd (fun _ => 0) 0 0))), (119, .inl (1, 1260, .inr (.inl (vp_updL (vp_updL (fun _ => 0) 0 0) 0 1)))), (118, .inl (0, 1260, .inl (upd (upd (fun _ => 0) 0 (-1)) 0 0))), (130, .inl (2, 1260, .inl (upd (fun _ => 0) 0 1))), (114, .inl (0, 1260, .inl (upd (fun _ => 0) 0 0))), (116, .inl (0, 1260, .inl (upd (fun _ => 0) 0 0))), (98, .inr (12, [.int 0, .int 0, .ref 99, .ref 100, .ref 101, .ref 102, .ref 103, .ref 104, .ref 105, .int 0, .int (-1), .ref 106, .ref 107, .ref 108, .int 0, .int 0, .int 0, .int 0, .int 0, .int 0, .int 0, .ref 109, .int 0, .int 0, .ref 110, .ref 111, .ref 112, .ref 113, .ref 114, .ref 115, .ref 116, .ref 117, .int 1, .int 0, .int 0, .int 0, .ref 118, .ref 119, .ref 120, .ref 121, .ref 122, .ref 123, .ref 124, .ref 125, .ref 126, .ref 127, .ref 128, .ref 129, .int 0, .ref 130, .ref 131, .ref 132, .ref 133, .ref 134, .int 0, .int 0])), (111, .inl (0, 1260, .inl (upd (fun _ => 0) 0 0)))]) (ks := [131, 131, 131, 120, 119, 118, 130, 114, 116, 98, 111]) [true, false, false, true, true, true, true, true, true, true, true] rfl (by decide +kernel) rfl ?_
  exact J_iret dX12_ask_196 rfl rfl (Nat.le_of_ble_eq_true rfl) (Nat.le_of_ble_eq_true rfl) ⟨rfl, rfl⟩
set_option maxHeartbeats 4000000 in
set_option maxRecDepth 100000 in
theorem c_X6_worst_1 {l : Launch} {G : jG} {nh : Nat} {fh : Nat → Option va_E} (hk88 : fh 88 = some (.inr (6, [.ref 1, .ref 51, .ref 57, .ref 65, .ref 89, .ref 90, .int 1, .int 0, .ref 91, .ref 92, .int 0, .int 1, .int 0]))) : JM l G yX6_worst MX6_worst { frames := 0, cells := 0, slots := 0, locals := 0 } [.ref 88] (nh, fh) (fun r h9 => r = some (.int 1) ∧ h9 = (nh, fh)) := by
  refine JM.of (by decide) rfl (fun h => by cases h) (Nat.le_of_ble_eq_true rfl) ⟨0, rfl⟩ ?_
  refine J_hc0 (J_ls (ls2 := [some (.ref 88)]) rfl ?_)
  refine J_aload_n dX6_worst_0 rfl rfl ?_
  refine J_get (v := .int 1) dX6_worst_1 fl_X6_35 hk88 rfl ?_
  exact J_iret dX6_worst_4 rfl rfl (Nat.le_of_ble_eq_true rfl) (Nat.le_of_ble_eq_true rfl) ⟨rfl, rfl⟩
set_option maxHeartbeats 4000000 in
set_option maxRecDepth 100000 in
theorem c_X11_ask_3 {l : Launch} {G : jG} {fh : Nat → Option va_E} (hk0 : fh 0 = some (.inr (11, [.ref 1, .ref 17, .ref 50, .ref 51, .ref 54, .ref 57, .ref 65, .ref 75, .ref 81, .ref 85, .ref 88, .ref 93, .ref 96, .int 0, .int (-1), .ref 97, .int 0]))) (hk1 : fh 1 = some (.inr (8, [.ref 2, .ref 3, .ref 4, .int 0, .int (-1), .ref 11, .ref 12, .int 0, .ref 13, .ref 14, .int 0, .ref 15, .ref 16, .int 0]))) (hk3 : fh 3 = some (.inl (0, 2, .inl (fun _ => 0)))) (hk51 : fh 51 = some (.inr (0, [.ref 52, .ref 53, .int 1, .int 0]))) (hk57 : fh 57 = some (.inr (9, [.ref 1, .ref 51, .ref 58, .ref 61, .ref 62, .ref 63, .ref 64, .int 0, .int 1, .int 1]))) (hk58 : fh 58 = some (.inr (1, [.ref 59, .ref 60, .int 0, .int 0, .int 0, .int 0, .int 0, .int 1]))) (hk59 : fh 59 = some (.inl (0, 8, .inl (fun _ => 0)))) (hk62 : fh 62 = some (.inl (0, 1260, .inl (fun _ => 0)))) (hk63 : fh 63 = some (.inl (0, 0, .inl (fun _ => 0)))) (hk88 : fh 88 = some (.inr (6, [.ref 1, .ref 51, .ref 57, .ref 65, .ref 89, .ref 90, .int 0, .int (-1), .ref 91, .ref 92, .int (-1), .int (-1), .int (-1)]))) (hk89 : fh 89 = some (.inl (2, 1260, .inl (fun _ => 0)))) (hk90 : fh 90 = some (.inl (0, 1260, .inl (fun _ => 0)))) (hk91 : fh 91 = some (.inl (0, 1260, .inl (fun _ => 0)))) (hk92 : fh 92 = some (.inl (0, 1260, .inl (fun _ => 0)))) : JM l G yX11_ask MX11_ask { frames := 3, cells := 1, slots := 22, locals := 69 } [.ref 0, .int 1] (135, fh) (fun r h9 => r = some (.int 1) ∧ h9 = (136, hc fh [(88, .inr (6, [.ref 1, .ref 51, .ref 57, .ref 65, .ref 89, .ref 90, .int 1, .int 0, .ref 91, .ref 92, .int 0, .int 1, .int 0])), (92, .inl (0, 1260, .inl (upd (fun _ => 0) 0 0))), (91, .inl (0, 1260, .inl (upd (upd (fun _ => 0) 0 (-1)) 0 0))), (90, .inl (0, 1260, .inl (upd (fun _ => 0) 0 0))), (89, .inl (2, 1260, .inl (upd (fun _ => 0) 0 1))), (57, .inr (9, [.ref 1, .ref 51, .ref 58, .ref 61, .ref 62, .ref 135, .ref 64, .int 0, .int 0, .int 0])), (62, .inl (0, 1260, .inl (upd (fun _ => 0) 0 (-1)))), (135, .inl (0, 22, .inl (fun _ => 0))), (59, .inl (0, 8, .inl (upd (upd (fun _ => 0) 6 0) 7 0)))])) := by
  refine JM.of (by decide) rfl (fun h => by cases h) (Nat.le_of_ble_eq_true rfl) ⟨0, rfl⟩ ?_
  refine J_hc0 (J_ls (ls2 := [some (.ref 0), some (.int 1)]) rfl ?_)
  refine J_aload_n dX11_ask_0 rfl rfl ?_
  refine J_get (v := .ref 57) dX11_ask_1 fl_X11_43 hk0 rfl ?_
  refine J_callV (st := []) dX11_ask_4 cv_X11_217 (c_X9_prepare_1 hk1 hk3 hk51 hk57 hk58 hk59 hk62 hk63) hk57 rfl rfl (Nat.le_of_ble_eq_true rfl) ⟨(Nat.le_of_ble_eq_true rfl), (Nat.le_of_ble_eq_true rfl)⟩ ⟨(Nat.le_of_ble_eq_true rfl), (Nat.le_of_ble_eq_true rfl)⟩ (fun r h9 hp => ?_)
  obtain ⟨rfl, rfl⟩ := hp
  refine J_nf (nh2 := 136) (ck2 := 1) (sk2 := 22) (st2 := []) rfl rfl rfl rfl ?_
  refine J_app (L3 := [(57, .inr (9, [.ref 1, .ref 51, .ref 58, .ref 61, .ref 62, .ref 135, .ref 64, .int 0, .int 0, .int 0])), (62, .inl (0, 1260, .inl (upd (fun _ => 0) 0 (-1)))), (135, .inl (0, 22, .inl (fun _ => 0))), (59, .inl (0, 8, .inl (upd (upd (fun _ => 0) 6 0) 7 0)))]) rfl ?_
  refine J_aload_n dX11_ask_7 rfl rfl ?_
  refine J_get (v := .ref 88) dX11_ask_8 fl_X11_82 hk0 rfl ?_
  refine J_callV (st := []) dX11_ask_11 cv_X11_295 (c_X6_refit_1 hk1 hk51 rfl hk88 hk89 hk90) hk88 rfl rfl (Nat.le_of_ble_eq_true rfl) ⟨(Nat.le_of_ble_eq_true rfl), (Nat.le_of_ble_eq_true rfl)⟩ ⟨(Nat.le_of_ble_eq_true rfl), (Nat.le_of_ble_eq_true rfl)⟩ (fun r h9 hp => ?_)
  obtain ⟨rfl, rfl⟩ := hp
  refine J_nf (nh2 := 136) (ck2 := 1) (sk2 := 22) (st2 := []) rfl rfl rfl rfl ?_
  refine J_app (L3 := [(88, .inr (6, [.ref 1, .ref 51, .ref 57, .ref 65, .ref 89, .ref 90, .int 1, .int 0, .ref 91, .ref 92, .int (-1), .int (-1), .int (-1)])), (90, .inl (0, 1260, .inl (upd (fun _ => 0) 0 0))), (89, .inl (2, 1260, .inl (upd (fun _ => 0) 0 1))), (57, .inr (9, [.ref 1, .ref 51, .ref 58, .ref 61, .ref 62, .ref 135, .ref 64, .int 0, .int 0, .int 0])), (62, .inl (0, 1260, .inl (upd (fun _ => 0) 0 (-1)))), (135, .inl (0, 22, .inl (fun _ => 0))), (59, .inl (0, 8, .inl (upd (upd (fun _ => 0) 6 0) 7 0)))]) rfl ?_
  refine J_aload_n dX11_ask_14 rfl rfl ?_
  refine J_get (v := .ref 88) dX11_ask_15 fl_X11_82 hk0 rfl ?_
  refine J_callV (st := []) dX11_ask_18 cv_X11_298 (c_X6_many_1 rfl) rfl rfl rfl (Nat.le_of_ble_eq_true rfl) ⟨(Nat.le_of_ble_eq_true rfl), (Nat.le_of_ble_eq_true rfl)⟩ ⟨(Nat.le_of_ble_eq_true rfl), (Nat.le_of_ble_eq_true rfl)⟩ (fun r h9 hp => ?_)
  obtain ⟨rfl, rfl⟩ := hp
  refine J_nf (nh2 := 136) (ck2 := 1) (sk2 := 22) (st2 := [.int 1]) rfl rfl rfl rfl ?_
  refine J_if_eq (tgt := 33) dX11_ask_21 (by decide) (fun q => absurd q (by decide +kernel)) (fun _ => ?_)
  refine J_iload_n dX11_ask_24 rfl rfl ?_
  refine J_if_lt (tgt := 33) dX11_ask_25 (by decide) (fun q => absurd q (by decide +kernel)) (fun _ => ?_)
  refine J_iload_n dX11_ask_28 rfl rfl ?_
  refine J_iconst (v := 1) dX11_ask_29 (by decide) ?_
  refine J_icmp_le (tgt := 35) dX11_ask_30 (by decide) (fun _ => ?_) (fun q => absurd (by decide +kernel) q)
  refine J_aload_n dX11_ask_35 rfl rfl ?_
  refine J_get (v := .ref 88) dX11_ask_36 fl_X11_82 hk0 rfl ?_
  refine J_callV (st := []) dX11_ask_39 cv_X11_300 (c_X6_choose_1 hk51 rfl rfl rfl hk91 hk92) rfl rfl rfl (Nat.le_of_ble_eq_true rfl) ⟨(Nat.le_of_ble_eq_true rfl), (Nat.le_of_ble_eq_true rfl)⟩ ⟨(Nat.le_of_ble_eq_true rfl), (Nat.le_of_ble_eq_true rfl)⟩ (fun r h9 hp => ?_)
  obtain ⟨rfl, rfl⟩ := hp
  refine J_nf (nh2 := 136) (ck2 := 1) (sk2 := 22) (st2 := []) rfl rfl rfl rfl ?_
  refine J_app (L3 := [(88, .inr (6, [.ref 1, .ref 51, .ref 57, .ref 65, .ref 89, .ref 90, .int 1, .int 0, .ref 91, .ref 92, .int 0, .int 1, .int 0])), (92, .inl (0, 1260, .inl (upd (fun _ => 0) 0 0))), (91, .inl (0, 1260, .inl (upd (upd (fun _ => 0) 0 (-1)) 0 0))), (88, .inr (6, [.ref 1, .ref 51, .ref 57, .ref 65, .ref 89, .ref 90, .int 1, .int 0, .ref 91, .ref 92, .int (-1), .int (-1), .int (-1)])), (90, .inl (0, 1260, .inl (upd (fun _ => 0) 0 0))), (89, .inl (2, 1260, .inl (upd (fun _ => 0) 0 1))), (57, .inr (9, [.ref 1, .ref 51, .ref 58, .ref 61, .ref 62, .ref 135, .ref 64, .int 0, .int 0, .int 0])), (62, .inl (0, 1260, .inl (upd (fun _ => 0) 0 (-1)))), (135, .inl (0, 22, .inl (fun _ => 0))), (59, .inl (0, 8, .inl (upd (upd (fun _ => 0) 6 0) 7 0)))]) rfl ?_
  refine J_iload_n dX11_ask_42 rfl rfl ?_
  refine J_if_ne (tgt := 56) dX11_ask_43 (by decide) (fun _ => ?_) (fun q => absurd q (by decide +kernel))
  refine J_aload_n dX11_ask_56 rfl rfl ?_
  refine J_get (v := .ref 88) dX11_ask_57 fl_X11_82 hk0 rfl ?_
  refine J_callV (st := []) dX11_ask_60 cv_X11_306 (c_X6_worst_1 rfl) rfl rfl rfl (Nat.le_of_ble_eq_true rfl) ⟨(Nat.le_of_ble_eq_true rfl), (Nat.le_of_ble_eq_true rfl)⟩ ⟨(Nat.le_of_ble_eq_true rfl), (Nat.le_of_ble_eq_true rfl)⟩ (fun r h9 hp => ?_)
  obtain ⟨rfl, rfl⟩ := hp
  refine J_nf (nh2 := 136) (ck2 := 1) (sk2 := 22) (st2 := [.int 1]) rfl rfl rfl rfl ?_
  refine J_mask (L2 := [(88, .inr (6, [.ref 1, .ref 51, .ref 57, .ref 65, .ref 89, .ref 90, .int 1, .int 0, .ref 91, .ref 92, .int 0, .int 1, .int 0])), (92, .inl (0, 1260, .inl (upd (fun _ => 0) 0 0))), (91, .inl (0, 1260, .inl (upd (upd (fun _ => 0) 0 (-1)) 0 0))), (90, .inl (0, 1260, .inl (upd (fun _ => 0) 0 0))), (89, .inl (2, 1260, .inl (upd (fun _ => 0) 0 1))), (57, .inr (9, [.ref 1, .ref 51, .ref 58, .ref 61, .ref 62, .ref 135, .ref 64, .int 0, .int 0, .int 0])), (62, .inl (0, 1260, .inl (upd (fun _ => 0) 0 (-1)))), (135, .inl (0, 22, .inl (fun _ => 0))), (59, .inl (0, 8, .inl (upd (upd (fun _ => 0) 6 0) 7 0)))]) (ks := [88, 92, 91, 88, 90, 89, 57, 62, 135, 59]) [true, true, true, false, true, true, true, true, true, true] rfl (by decide +kernel) rfl ?_
  exact J_iret dX11_ask_63 rfl rfl (Nat.le_of_ble_eq_true rfl) (Nat.le_of_ble_eq_true rfl) ⟨rfl, rfl⟩
set_option maxHeartbeats 4000000 in
set_option maxRecDepth 100000 in
theorem c_X12_ask_3 {l : Launch} {G : jG} {nh : Nat} {fh : Nat → Option va_E} (hk98 : fh 98 = some (.inr (12, [.int 0, .int 0, .ref 99, .ref 100, .ref 101, .ref 102, .ref 103, .ref 104, .ref 105, .int 0, .int (-1), .ref 106, .ref 107, .ref 108, .int 0, .int 0, .int 0, .int 0, .int 0, .int 0, .int 0, .ref 109, .int 0, .int 0, .ref 110, .ref 111, .ref 112, .ref 113, .ref 114, .ref 115, .ref 116, .ref 117, .int 0, .int 0, .int (-1), .int (-1), .ref 118, .ref 119, .ref 120, .ref 121, .ref 122, .ref 123, .ref 124, .ref 125, .ref 126, .ref 127, .ref 128, .ref 129, .int 0, .ref 130, .ref 131, .ref 132, .ref 133, .ref 134, .int 0, .int 0]))) (hk100 : fh 100 = some (.inl (0, 4870, .inl (upd (fun _ => 0) 63 (-1))))) (hk111 : fh 111 = some (.inl (0, 1260, .inl (fun _ => 0)))) (hk114 : fh 114 = some (.inl (0, 1260, .inl (fun _ => 0)))) (hk116 : fh 116 = some (.inl (0, 1260, .inl (fun _ => 0)))) (hk118 : fh 118 = some (.inl (0, 1260, .inl (fun _ => 0)))) (hk119 : fh 119 = some (.inl (1, 1260, .inr (.inl (fun _ => 0))))) (hk120 : fh 120 = some (.inl (0, 1260, .inl (fun _ => 0)))) (hk130 : fh 130 = some (.inl (2, 1260, .inl (fun _ => 0)))) (hk131 : fh 131 = some (.inl (0, 1261, .inl (fun _ => 0)))) : JM l G yX12_ask MX12_ask { frames := 4, cells := 0, slots := 0, locals := 93 } [.ref 98, .int 1] (nh, fh) (fun r h9 => r = some (.int 1) ∧ h9 = (nh, hc fh [(131, .inl (0, 1261, .inl (upd (upd (upd (fun _ => 0) 0 0) 1 0) 0 1))), (120, .inl (0, 1260, .inl (upd (fun _ => 0) 0 0))), (119, .inl (1, 1260, .inr (.inl (vp_updL (vp_updL (fun _ => 0) 0 0) 0 1)))), (118, .inl (0, 1260, .inl (upd (upd (fun _ => 0) 0 (-1)) 0 0))), (130, .inl (2, 1260, .inl (upd (fun _ => 0) 0 1))), (114, .inl (0, 1260, .inl (upd (fun _ => 0) 0 0))), (116, .inl (0, 1260, .inl (upd (fun _ => 0) 0 0))), (98, .inr (12, [.int 0, .int 0, .ref 99, .ref 100, .ref 101, .ref 102, .ref 103, .ref 104, .ref 105, .int 0, .int (-1), .ref 106, .ref 107, .ref 108, .int 0, .int 0, .int 0, .int 0, .int 0, .int 0, .int 0, .ref 109, .int 0, .int 0, .ref 110, .ref 111, .ref 112, .ref 113, .ref 114, .ref 115, .ref 116, .ref 117, .int 1, .int 0, .int 0, .int 0, .ref 118, .ref 119, .ref 120, .ref 121, .ref 122, .ref 123, .ref 124, .ref 125, .ref 126, .ref 127, .ref 128, .ref 129, .int 0, .ref 130, .ref 131, .ref 132, .ref 133, .ref 134, .int 0, .int 0])), (111, .inl (0, 1260, .inl (upd (fun _ => 0) 0 0)))])) := by
  refine JM.of (by decide) rfl (fun h => by cases h) (Nat.le_of_ble_eq_true rfl) ⟨6, rfl⟩ ?_
  refine J_hc0 (J_ls (ls2 := [some (.ref 98), some (.int 1), none, none, none, none, none, none]) rfl ?_)
  refine J_iload_n dX12_ask_0 rfl rfl ?_
  refine J_iconst (v := 0) dX12_ask_1 (by decide) ?_
  refine J_iconst (v := 1) dX12_ask_2 (by decide) ?_
  refine J_callS (st := []) dX12_ask_3 cs_X12_138 (c_X12_lies_26 ) rfl rfl (Nat.le_of_ble_eq_true rfl) ⟨(Nat.le_of_ble_eq_true rfl), (Nat.le_of_ble_eq_true rfl)⟩ ⟨(Nat.le_of_ble_eq_true rfl), (Nat.le_of_ble_eq_true rfl)⟩ (fun r h9 hp => ?_)
  obtain ⟨rfl, rfl⟩ := hp
  refine J_nf (nh2 := nh) (ck2 := 0) (sk2 := 0) (st2 := [.int 1]) rfl rfl rfl rfl ?_
  refine J_if_eq (tgt := 16) dX12_ask_6 (by decide) (fun q => absurd q (by decide +kernel)) (fun _ => ?_)
  refine J_aload_n dX12_ask_9 rfl rfl ?_
  refine J_callV (st := []) dX12_ask_10 cv_X12_363 (c_X12_findsFits_1 hk98 hk100 hk111 hk114 hk116 hk130) hk98 rfl rfl (Nat.le_of_ble_eq_true rfl) ⟨(Nat.le_of_ble_eq_true rfl), (Nat.le_of_ble_eq_true rfl)⟩ ⟨(Nat.le_of_ble_eq_true rfl), (Nat.le_of_ble_eq_true rfl)⟩ (fun r h9 hp => ?_)
  obtain ⟨rfl, rfl⟩ := hp
  refine J_nf (nh2 := nh) (ck2 := 0) (sk2 := 0) (st2 := [.int 1]) rfl rfl rfl rfl ?_
  refine J_app (L3 := [(130, .inl (2, 1260, .inl (upd (fun _ => 0) 0 1))), (114, .inl (0, 1260, .inl (upd (fun _ => 0) 0 0))), (116, .inl (0, 1260, .inl (upd (fun _ => 0) 0 0))), (98, .inr (12, [.int 0, .int 0, .ref 99, .ref 100, .ref 101, .ref 102, .ref 103, .ref 104, .ref 105, .int 0, .int (-1), .ref 106, .ref 107, .ref 108, .int 0, .int 0, .int 0, .int 0, .int 0, .int 0, .int 0, .ref 109, .int 0, .int 0, .ref 110, .ref 111, .ref 112, .ref 113, .ref 114, .ref 115, .ref 116, .ref 117, .int 1, .int 0, .int 0, .int 0, .ref 118, .ref 119, .ref 120, .ref 121, .ref 122, .ref 123, .ref 124, .ref 125, .ref 126, .ref 127, .ref 128, .ref 129, .int 0, .ref 130, .ref 131, .ref 132, .ref 133, .ref 134, .int 0, .int 0])), (111, .inl (0, 1260, .inl (upd (fun _ => 0) 0 0)))]) rfl ?_
  refine J_if_ne (tgt := 18) dX12_ask_13 (by decide) (fun _ => ?_) (fun q => absurd q (by decide +kernel))
  refine J_iconst (v := (-1)) dX12_ask_18 (by decide) ?_
  refine J_istore_n dX12_ask_19 rfl (Nat.le_of_ble_eq_true rfl) rfl ?_
  refine J_ldc (v := 1000000) dX12_ask_20 (jt7 88 rfl rfl) ?_
  refine J_istore_n dX12_ask_22 rfl (Nat.le_of_ble_eq_true rfl) rfl ?_
  refine J_iconst (v := 0) dX12_ask_23 (by decide) ?_
  refine J_istore dX12_ask_24 (Nat.le_of_ble_eq_true rfl) rfl ?_
  refine J_iload dX12_ask_26 rfl ?_
  refine J_aload_n dX12_ask_28 rfl rfl ?_
  refine J_get (v := .int 1) dX12_ask_29 fl_X12_298 rfl rfl ?_
  refine J_icmp_ge (tgt := 187) dX12_ask_32 (by decide) (fun q => absurd q (by decide +kernel)) (fun _ => ?_)
  refine J_aload_n dX12_ask_35 rfl rfl ?_
  refine J_iload dX12_ask_36 rfl ?_
  refine J_callV (st := []) dX12_ask_38 cv_X12_334 (c_X12_measures_1 rfl rfl hk118 hk119 hk120) rfl rfl rfl (Nat.le_of_ble_eq_true rfl) ⟨(Nat.le_of_ble_eq_true rfl), (Nat.le_of_ble_eq_true rfl)⟩ ⟨(Nat.le_of_ble_eq_true rfl), (Nat.le_of_ble_eq_true rfl)⟩ (fun r h9 hp => ?_)
  obtain ⟨rfl, rfl⟩ := hp
  refine J_nf (nh2 := nh) (ck2 := 0) (sk2 := 0) (st2 := [.int 1]) rfl rfl rfl rfl ?_
  refine J_app (L3 := [(120, .inl (0, 1260, .inl (upd (fun _ => 0) 0 0))), (119, .inl (1, 1260, .inr (.inl (vp_updL (vp_updL (fun _ => 0) 0 0) 0 1)))), (118, .inl (0, 1260, .inl (upd (upd (fun _ => 0) 0 (-1)) 0 0))), (130, .inl (2, 1260, .inl (upd (fun _ => 0) 0 1))), (114, .inl (0, 1260, .inl (upd (fun _ => 0) 0 0))), (116, .inl (0, 1260, .inl (upd (fun _ => 0) 0 0))), (98, .inr (12, [.int 0, .int 0, .ref 99, .ref 100, .ref 101, .ref 102, .ref 103, .ref 104, .ref 105, .int 0, .int (-1), .ref 106, .ref 107, .ref 108, .int 0, .int 0, .int 0, .int 0, .int 0, .int 0, .int 0, .ref 109, .int 0, .int 0, .ref 110, .ref 111, .ref 112, .ref 113, .ref 114, .ref 115, .ref 116, .ref 117, .int 1, .int 0, .int 0, .int 0, .ref 118, .ref 119, .ref 120, .ref 121, .ref 122, .ref 123, .ref 124, .ref 125, .ref 126, .ref 127, .ref 128, .ref 129, .int 0, .ref 130, .ref 131, .ref 132, .ref 133, .ref 134, .int 0, .int 0])), (111, .inl (0, 1260, .inl (upd (fun _ => 0) 0 0)))]) rfl ?_
  refine J_pop dX12_ask_41 rfl ?_
  refine J_iconst (v := 0) dX12_ask_42 (by decide) ?_
  refine J_istore dX12_ask_43 (Nat.le_of_ble_eq_true rfl) rfl ?_
  refine J_iload dX12_ask_45 rfl ?_
  refine J_aload_n dX12_ask_47 rfl rfl ?_
  refine J_get (v := .int 1) dX12_ask_48 fl_X12_298 rfl rfl ?_
  refine J_icmp_gt (tgt := 68) dX12_ask_51 (by decide) (fun q => absurd q (by decide +kernel)) (fun _ => ?_)
  refine J_aload_n dX12_ask_54 rfl rfl ?_
  refine J_get (v := .ref 131) dX12_ask_55 fl_X12_126 rfl rfl ?_
  refine J_iload dX12_ask_58 rfl ?_
  refine J_iconst (v := 0) dX12_ask_60 (by decide) ?_
  refine K_iast (i2 := 0) dX12_ask_61 hk131 rfl (jin (by decide +kernel)) (by decide +kernel) ?_
  refine J_iinc (v := 1) dX12_ask_62 rfl (by decide +kernel) (Nat.le_of_ble_eq_true rfl) rfl ?_
  refine J_ls (ls2 := [some (.ref 98), some (.int 1), some (.int (-1)), some (.int 1000000), some (.int 0), some (.int 1), none, none]) rfl ?_
  refine J_goto (tgt := 45) dX12_ask_65 (by decide) ?_
  refine J_iload dX12_ask_45 rfl ?_
  refine J_aload_n dX12_ask_47 rfl rfl ?_
  refine J_get (v := .int 1) dX12_ask_48 fl_X12_298 rfl rfl ?_
  refine J_icmp_gt (tgt := 68) dX12_ask_51 (by decide) (fun q => absurd q (by decide +kernel)) (fun _ => ?_)
  refine J_aload_n dX12_ask_54 rfl rfl ?_
  refine J_get (v := .ref 131) dX12_ask_55 fl_X12_126 rfl rfl ?_
  refine J_iload dX12_ask_58 rfl ?_
  refine J_iconst (v := 0) dX12_ask_60 (by decide) ?_
  refine K_iast (i2 := 1) dX12_ask_61 rfl rfl (jin (by decide +kernel)) (by decide +kernel) ?_
  refine J_iinc (v := 2) dX12_ask_62 rfl (by decide +kernel) (Nat.le_of_ble_eq_true rfl) rfl ?_
  refine J_ls (ls2 := [some (.ref 98), some (.int 1), some (.int (-1)), some (.int 1000000), some (.int 0), some (.int 2), none, none]) rfl ?_
  refine J_goto (tgt := 45) dX12_ask_65 (by decide) ?_
  refine J_iload dX12_ask_45 rfl ?_
  refine J_aload_n dX12_ask_47 rfl rfl ?_
  refine J_get (v := .int 1) dX12_ask_48 fl_X12_298 rfl rfl ?_
  refine J_icmp_gt (tgt := 68) dX12_ask_51 (by decide) (fun _ => ?_) (fun q => absurd (by decide +kernel) q)
  refine J_iconst (v := 0) dX12_ask_68 (by decide) ?_
  refine J_istore dX12_ask_69 (Nat.le_of_ble_eq_true rfl) rfl ?_
  refine J_iconst (v := 0) dX12_ask_71 (by decide) ?_
  refine J_istore dX12_ask_72 (Nat.le_of_ble_eq_true rfl) rfl ?_
  refine J_iload dX12_ask_74 rfl ?_
  refine J_aload_n dX12_ask_76 rfl rfl ?_
  refine J_get (v := .int 1) dX12_ask_77 fl_X12_298 rfl rfl ?_
  refine J_icmp_ge (tgt := 166) dX12_ask_80 (by decide) (fun q => absurd q (by decide +kernel)) (fun _ => ?_)
  refine J_aload_n dX12_ask_83 rfl rfl ?_
  refine J_get (v := .ref 130) dX12_ask_84 fl_X12_123 rfl rfl ?_
  refine J_iload dX12_ask_87 rfl ?_
  refine J_zald (i2 := 0) (v := 1) dX12_ask_89 rfl rfl (jin (by decide +kernel)) (by decide +kernel) rfl ?_
  refine J_if_ne (tgt := 96) dX12_ask_90 (by decide) (fun _ => ?_) (fun q => absurd q (by decide +kernel))
  refine J_aload_n dX12_ask_96 rfl rfl ?_
  refine J_get (v := .ref 118) dX12_ask_97 fl_X12_85 rfl rfl ?_
  refine J_iload dX12_ask_100 rfl ?_
  refine J_iald (i2 := 0) (v := 0) dX12_ask_102 rfl rfl (jin (by decide +kernel)) (by decide +kernel) rfl ?_
  refine J_iconst (v := (-1)) dX12_ask_103 (by decide) ?_
  refine J_icmp_ne (tgt := 114) dX12_ask_104 (by decide) (fun _ => ?_) (fun q => absurd q (by decide +kernel))
  refine J_aload_n dX12_ask_114 rfl rfl ?_
  refine J_get (v := .ref 118) dX12_ask_115 fl_X12_85 rfl rfl ?_
  refine J_iload dX12_ask_118 rfl ?_
  refine J_iald (i2 := 0) (v := 0) dX12_ask_120 rfl rfl (jin (by decide +kernel)) (by decide +kernel) rfl ?_
  refine J_istore dX12_ask_121 (Nat.le_of_ble_eq_true rfl) rfl ?_
  refine J_aload_n dX12_ask_123 rfl rfl ?_
  refine J_get (v := .ref 131) dX12_ask_124 fl_X12_126 rfl rfl ?_
  refine J_iload dX12_ask_127 rfl ?_
  refine J_dup2_11 dX12_ask_129 rfl rfl ?_
  refine J_iald (i2 := 0) (v := 0) dX12_ask_130 rfl rfl (jin (by decide +kernel)) (by decide +kernel) rfl ?_
  refine J_iconst (v := 1) dX12_ask_131 (by decide) ?_
  refine J_iadd (z := 1) dX12_ask_132 (by decide +kernel) ?_
  refine K_iast (i2 := 0) dX12_ask_133 rfl rfl (jin (by decide +kernel)) (by decide +kernel) ?_
  refine J_aload_n dX12_ask_134 rfl rfl ?_
  refine J_get (v := .ref 131) dX12_ask_135 fl_X12_126 rfl rfl ?_
  refine J_iload dX12_ask_138 rfl ?_
  refine J_iald (i2 := 0) (v := 1) dX12_ask_140 rfl rfl (jin (by decide +kernel)) (by decide +kernel) rfl ?_
  refine J_iload dX12_ask_141 rfl ?_
  refine J_icmp_le (tgt := 156) dX12_ask_143 (by decide) (fun q => absurd q (by decide +kernel)) (fun _ => ?_)
  refine J_aload_n dX12_ask_146 rfl rfl ?_
  refine J_get (v := .ref 131) dX12_ask_147 fl_X12_126 rfl rfl ?_
  refine J_iload dX12_ask_150 rfl ?_
  refine J_iald (i2 := 0) (v := 1) dX12_ask_152 rfl rfl (jin (by decide +kernel)) (by decide +kernel) rfl ?_
  refine J_goto (tgt := 158) dX12_ask_153 (by decide) ?_
  refine J_istore dX12_ask_158 (Nat.le_of_ble_eq_true rfl) rfl ?_
  refine J_iinc (v := 1) dX12_ask_160 rfl (by decide +kernel) (Nat.le_of_ble_eq_true rfl) rfl ?_
  refine J_ls (ls2 := [some (.ref 98), some (.int 1), some (.int (-1)), some (.int 1000000), some (.int 0), some (.int 1), some (.int 1), some (.int 0)]) rfl ?_
  refine J_goto (tgt := 74) dX12_ask_163 (by decide) ?_
  refine J_iload dX12_ask_74 rfl ?_
  refine J_aload_n dX12_ask_76 rfl rfl ?_
  refine J_get (v := .int 1) dX12_ask_77 fl_X12_298 rfl rfl ?_
  refine J_icmp_ge (tgt := 166) dX12_ask_80 (by decide) (fun _ => ?_) (fun q => absurd (by decide +kernel) q)
  refine J_iload dX12_ask_166 rfl ?_
  refine J_iload_n dX12_ask_168 rfl rfl ?_
  refine J_icmp_lt (tgt := 175) dX12_ask_169 (by decide) (fun _ => ?_) (fun q => absurd (by decide +kernel) q)
  refine J_iload dX12_ask_175 rfl ?_
  refine J_istore_n dX12_ask_177 rfl (Nat.le_of_ble_eq_true rfl) rfl ?_
  refine J_iload dX12_ask_178 rfl ?_
  refine J_istore_n dX12_ask_180 rfl (Nat.le_of_ble_eq_true rfl) rfl ?_
  refine J_iinc (v := 1) dX12_ask_181 rfl (by decide +kernel) (Nat.le_of_ble_eq_true rfl) rfl ?_
  refine J_ls (ls2 := [some (.ref 98), some (.int 1), some (.int 0), some (.int 1), some (.int 1), some (.int 1), some (.int 1), some (.int 0)]) rfl ?_
  refine J_goto (tgt := 26) dX12_ask_184 (by decide) ?_
  refine J_iload dX12_ask_26 rfl ?_
  refine J_aload_n dX12_ask_28 rfl rfl ?_
  refine J_get (v := .int 1) dX12_ask_29 fl_X12_298 rfl rfl ?_
  refine J_icmp_ge (tgt := 187) dX12_ask_32 (by decide) (fun _ => ?_) (fun q => absurd (by decide +kernel) q)
  refine J_iload_n dX12_ask_187 rfl rfl ?_
  refine J_if_ne (tgt := 195) dX12_ask_188 (by decide) (fun _ => ?_) (fun q => absurd q (by decide +kernel))
  refine J_iload_n dX12_ask_195 rfl rfl ?_
  refine J_mask (L2 := [(131, .inl (0, 1261, .inl (upd (upd (upd (fun _ => 0) 0 0) 1 0) 0 1))), (120, .inl (0, 1260, .inl (upd (fun _ => 0) 0 0))), (119, .inl (1, 1260, .inr (.inl (vp_updL (vp_updL (fun _ => 0) 0 0) 0 1)))), (118, .inl (0, 1260, .inl (upd (upd (fun _ => 0) 0 (-1)) 0 0))), (130, .inl (2, 1260, .inl (upd (fun _ => 0) 0 1))), (114, .inl (0, 1260, .inl (upd (fun _ => 0) 0 0))), (116, .inl (0, 1260, .inl (upd (fun _ => 0) 0 0))), (98, .inr (12, [.int 0, .int 0, .ref 99, .ref 100, .ref 101, .ref 102, .ref 103, .ref 104, .ref 105, .int 0, .int (-1), .ref 106, .ref 107, .ref 108, .int 0, .int 0, .int 0, .int 0, .int 0, .int 0, .int 0, .ref 109, .int 0, .int 0, .ref 110, .ref 111, .ref 112, .ref 113, .ref 114, .ref 115, .ref 116, .ref 117, .int 1, .int 0, .int 0, .int 0, .ref 118, .ref 119, .ref 120, .ref 121, .ref 122, .ref 123, .ref 124, .ref 125, .ref 126, .ref 127, .ref 128, .ref 129, .int 0, .ref 130, .ref 131, .ref 132, .ref 133, .ref 134, .int 0, .int 0])), (111, .inl (0, 1260, .inl (upd (fun _ => 0) 0 0)))]) (ks := [131, 131, 131, 120, 119, 118, 130, 114, 116, 98, 111]) [true, false, false, true, true, true, true, true, true, true, true] rfl (by decide +kernel) rfl ?_
  exact J_iret dX12_ask_196 rfl rfl (Nat.le_of_ble_eq_true rfl) (Nat.le_of_ble_eq_true rfl) ⟨rfl, rfl⟩
set_option maxHeartbeats 4000000 in
set_option maxRecDepth 100000 in
theorem c_X11_ask_4 {l : Launch} {G : jG} {fh : Nat → Option va_E} (a1 : Int32) (b_a1 : 2 ≤ a1.toInt ∧ a1.toInt ≤ 2147483647) (hk0 : fh 0 = some (.inr (11, [.ref 1, .ref 17, .ref 50, .ref 51, .ref 54, .ref 57, .ref 65, .ref 75, .ref 81, .ref 85, .ref 88, .ref 93, .ref 96, .int 0, .int (-1), .ref 97, .int 0]))) (hk1 : fh 1 = some (.inr (8, [.ref 2, .ref 3, .ref 4, .int 0, .int (-1), .ref 11, .ref 12, .int 0, .ref 13, .ref 14, .int 0, .ref 15, .ref 16, .int 0]))) (hk3 : fh 3 = some (.inl (0, 2, .inl (fun _ => 0)))) (hk51 : fh 51 = some (.inr (0, [.ref 52, .ref 53, .int 1, .int 0]))) (hk57 : fh 57 = some (.inr (9, [.ref 1, .ref 51, .ref 58, .ref 61, .ref 62, .ref 63, .ref 64, .int 0, .int 1, .int 1]))) (hk58 : fh 58 = some (.inr (1, [.ref 59, .ref 60, .int 0, .int 0, .int 0, .int 0, .int 0, .int 1]))) (hk59 : fh 59 = some (.inl (0, 8, .inl (fun _ => 0)))) (hk62 : fh 62 = some (.inl (0, 1260, .inl (fun _ => 0)))) (hk63 : fh 63 = some (.inl (0, 0, .inl (fun _ => 0)))) (hk88 : fh 88 = some (.inr (6, [.ref 1, .ref 51, .ref 57, .ref 65, .ref 89, .ref 90, .int 0, .int (-1), .ref 91, .ref 92, .int (-1), .int (-1), .int (-1)]))) (hk89 : fh 89 = some (.inl (2, 1260, .inl (fun _ => 0)))) (hk90 : fh 90 = some (.inl (0, 1260, .inl (fun _ => 0)))) : JM l G yX11_ask MX11_ask { frames := 3, cells := 1, slots := 22, locals := 67 } [.ref 0, .int a1] (135, fh) (fun r h9 => r = some (.int (-1)) ∧ h9 = (136, hc fh [(88, .inr (6, [.ref 1, .ref 51, .ref 57, .ref 65, .ref 89, .ref 90, .int 1, .int 0, .ref 91, .ref 92, .int (-1), .int (-1), .int (-1)])), (90, .inl (0, 1260, .inl (upd (fun _ => 0) 0 0))), (89, .inl (2, 1260, .inl (upd (fun _ => 0) 0 1))), (57, .inr (9, [.ref 1, .ref 51, .ref 58, .ref 61, .ref 62, .ref 135, .ref 64, .int 0, .int 0, .int 0])), (62, .inl (0, 1260, .inl (upd (fun _ => 0) 0 (-1)))), (135, .inl (0, 22, .inl (fun _ => 0))), (59, .inl (0, 8, .inl (upd (upd (fun _ => 0) 6 0) 7 0)))])) := by
  refine JM.of (by decide) rfl (fun h => by cases h) (Nat.le_of_ble_eq_true rfl) ⟨0, rfl⟩ ?_
  refine J_hc0 (J_ls (ls2 := [some (.ref 0), some (.int a1)]) rfl ?_)
  refine J_aload_n dX11_ask_0 rfl rfl ?_
  refine J_get (v := .ref 57) dX11_ask_1 fl_X11_43 hk0 rfl ?_
  refine J_callV (st := []) dX11_ask_4 cv_X11_217 (c_X9_prepare_1 hk1 hk3 hk51 hk57 hk58 hk59 hk62 hk63) hk57 rfl rfl (Nat.le_of_ble_eq_true rfl) ⟨(Nat.le_of_ble_eq_true rfl), (Nat.le_of_ble_eq_true rfl)⟩ ⟨(Nat.le_of_ble_eq_true rfl), (Nat.le_of_ble_eq_true rfl)⟩ (fun r h9 hp => ?_)
  obtain ⟨rfl, rfl⟩ := hp
  refine J_nf (nh2 := 136) (ck2 := 1) (sk2 := 22) (st2 := []) rfl rfl rfl rfl ?_
  refine J_app (L3 := [(57, .inr (9, [.ref 1, .ref 51, .ref 58, .ref 61, .ref 62, .ref 135, .ref 64, .int 0, .int 0, .int 0])), (62, .inl (0, 1260, .inl (upd (fun _ => 0) 0 (-1)))), (135, .inl (0, 22, .inl (fun _ => 0))), (59, .inl (0, 8, .inl (upd (upd (fun _ => 0) 6 0) 7 0)))]) rfl ?_
  refine J_aload_n dX11_ask_7 rfl rfl ?_
  refine J_get (v := .ref 88) dX11_ask_8 fl_X11_82 hk0 rfl ?_
  refine J_callV (st := []) dX11_ask_11 cv_X11_295 (c_X6_refit_1 hk1 hk51 rfl hk88 hk89 hk90) hk88 rfl rfl (Nat.le_of_ble_eq_true rfl) ⟨(Nat.le_of_ble_eq_true rfl), (Nat.le_of_ble_eq_true rfl)⟩ ⟨(Nat.le_of_ble_eq_true rfl), (Nat.le_of_ble_eq_true rfl)⟩ (fun r h9 hp => ?_)
  obtain ⟨rfl, rfl⟩ := hp
  refine J_nf (nh2 := 136) (ck2 := 1) (sk2 := 22) (st2 := []) rfl rfl rfl rfl ?_
  refine J_app (L3 := [(88, .inr (6, [.ref 1, .ref 51, .ref 57, .ref 65, .ref 89, .ref 90, .int 1, .int 0, .ref 91, .ref 92, .int (-1), .int (-1), .int (-1)])), (90, .inl (0, 1260, .inl (upd (fun _ => 0) 0 0))), (89, .inl (2, 1260, .inl (upd (fun _ => 0) 0 1))), (57, .inr (9, [.ref 1, .ref 51, .ref 58, .ref 61, .ref 62, .ref 135, .ref 64, .int 0, .int 0, .int 0])), (62, .inl (0, 1260, .inl (upd (fun _ => 0) 0 (-1)))), (135, .inl (0, 22, .inl (fun _ => 0))), (59, .inl (0, 8, .inl (upd (upd (fun _ => 0) 6 0) 7 0)))]) rfl ?_
  refine J_aload_n dX11_ask_14 rfl rfl ?_
  refine J_get (v := .ref 88) dX11_ask_15 fl_X11_82 hk0 rfl ?_
  refine J_callV (st := []) dX11_ask_18 cv_X11_298 (c_X6_many_1 rfl) rfl rfl rfl (Nat.le_of_ble_eq_true rfl) ⟨(Nat.le_of_ble_eq_true rfl), (Nat.le_of_ble_eq_true rfl)⟩ ⟨(Nat.le_of_ble_eq_true rfl), (Nat.le_of_ble_eq_true rfl)⟩ (fun r h9 hp => ?_)
  obtain ⟨rfl, rfl⟩ := hp
  refine J_nf (nh2 := 136) (ck2 := 1) (sk2 := 22) (st2 := [.int 1]) rfl rfl rfl rfl ?_
  refine J_if_eq (tgt := 33) dX11_ask_21 (by decide) (fun q => absurd q (by decide +kernel)) (fun _ => ?_)
  refine J_iload_n dX11_ask_24 rfl rfl ?_
  refine J_if_lt (tgt := 33) dX11_ask_25 (by decide) (fun q => absurd q (by have hb0 := b_a1; simp only [fa_lt, fa_le, fa_eq, kc_0]; omega)) (fun _ => ?_)
  refine J_iload_n dX11_ask_28 rfl rfl ?_
  refine J_iconst (v := 1) dX11_ask_29 (by decide) ?_
  refine J_icmp_le (tgt := 35) dX11_ask_30 (by decide) (fun q => absurd q (by have hb0 := b_a1; simp only [fa_lt, fa_le, fa_eq, kc_1]; omega)) (fun _ => ?_)
  refine J_iconst (v := (-1)) dX11_ask_33 (by decide) ?_
  exact J_iret dX11_ask_34 rfl rfl (Nat.le_of_ble_eq_true rfl) (Nat.le_of_ble_eq_true rfl) ⟨rfl, rfl⟩
set_option maxHeartbeats 4000000 in
set_option maxRecDepth 100000 in
theorem c_X12_ask_4 {l : Launch} {G : jG} {nh : Nat} {fh : Nat → Option va_E} (a1 : Int32) (b_a1 : 2 ≤ a1.toInt ∧ a1.toInt ≤ 2147483647) : JM l G yX12_ask MX12_ask { frames := 1, cells := 0, slots := 0, locals := 22 } [.ref 98, .int a1] (nh, fh) (fun r h9 => r = some (.int (-1)) ∧ h9 = (nh, fh)) := by
  refine JM.of (by decide) rfl (fun h => by cases h) (Nat.le_of_ble_eq_true rfl) ⟨6, rfl⟩ ?_
  refine J_hc0 (J_ls (ls2 := [some (.ref 98), some (.int a1), none, none, none, none, none, none]) rfl ?_)
  refine J_iload_n dX12_ask_0 rfl rfl ?_
  refine J_iconst (v := 0) dX12_ask_1 (by decide) ?_
  refine J_iconst (v := 1) dX12_ask_2 (by decide) ?_
  refine J_callS (st := []) dX12_ask_3 cs_X12_138 (c_X12_lies_25 (a1) b_a1) rfl rfl (Nat.le_of_ble_eq_true rfl) ⟨(Nat.le_of_ble_eq_true rfl), (Nat.le_of_ble_eq_true rfl)⟩ ⟨(Nat.le_of_ble_eq_true rfl), (Nat.le_of_ble_eq_true rfl)⟩ (fun r h9 hp => ?_)
  obtain ⟨rfl, rfl⟩ := hp
  refine J_nf (nh2 := nh) (ck2 := 0) (sk2 := 0) (st2 := [.int 0]) rfl rfl rfl rfl ?_
  refine J_if_eq (tgt := 16) dX12_ask_6 (by decide) (fun _ => ?_) (fun q => absurd (by decide +kernel) q)
  refine J_iconst (v := (-1)) dX12_ask_16 (by decide) ?_
  exact J_iret dX12_ask_17 rfl rfl (Nat.le_of_ble_eq_true rfl) (Nat.le_of_ble_eq_true rfl) ⟨rfl, rfl⟩
set_option maxHeartbeats 4000000 in
set_option maxRecDepth 100000 in
theorem c_X11_post_1 {l : Launch} {G : jG} {nh : Nat} {fh : Nat → Option va_E} (a1 : Int32) (b_a1 : (-2147483648) ≤ a1.toInt ∧ a1.toInt ≤ (-1)) (a2 : Int32) (b_a2 : (-2147483648) ≤ a2.toInt ∧ a2.toInt ≤ 2147483647) (a3 : Int32) (b_a3 : (-2147483648) ≤ a3.toInt ∧ a3.toInt ≤ 2147483647) (a4 : Int32) (b_a4 : (-2147483648) ≤ a4.toInt ∧ a4.toInt ≤ 2147483647) (hk0 : fh 0 = some (.inr (11, [.ref 1, .ref 17, .ref 50, .ref 51, .ref 54, .ref 57, .ref 65, .ref 75, .ref 81, .ref 85, .ref 88, .ref 93, .ref 96, .int 0, .int (-1), .ref 97, .int 0]))) (hk51 : fh 51 = some (.inr (0, [.ref 52, .ref 53, .int 1, .int 0]))) : JM l G yX11_post MX11_post { frames := 1, cells := 0, slots := 0, locals := 21 } [.ref 0, .int a1, .int a2, .int a3, .int a4] (nh, fh) (fun r h9 => r = some (.int (-1)) ∧ h9 = (nh, fh)) := by
  refine JM.of (by decide) rfl (fun h => by cases h) (Nat.le_of_ble_eq_true rfl) ⟨0, rfl⟩ ?_
  refine J_hc0 (J_ls (ls2 := [some (.ref 0), some (.int a1), some (.int a2), some (.int a3), some (.int a4)]) rfl ?_)
  refine J_aload_n dX11_post_0 rfl rfl ?_
  refine J_get (v := .ref 51) dX11_post_1 fl_X11_27 hk0 rfl ?_
  refine J_callV (st := []) dX11_post_4 cv_X11_132 (c_X0_many_1 hk51) hk51 rfl rfl (Nat.le_of_ble_eq_true rfl) ⟨(Nat.le_of_ble_eq_true rfl), (Nat.le_of_ble_eq_true rfl)⟩ ⟨(Nat.le_of_ble_eq_true rfl), (Nat.le_of_ble_eq_true rfl)⟩ (fun r h9 hp => ?_)
  obtain ⟨rfl, rfl⟩ := hp
  refine J_nf (nh2 := nh) (ck2 := 0) (sk2 := 0) (st2 := [.int 1]) rfl rfl rfl rfl ?_
  refine J_bipush (v := 40) dX11_post_7 (by decide +kernel) ?_
  refine J_icmp_gt (tgt := 57) dX11_post_9 (by decide) (fun q => absurd q (by decide +kernel)) (fun _ => ?_)
  refine J_aload_n dX11_post_12 rfl rfl ?_
  refine J_get (v := .ref 51) dX11_post_13 fl_X11_27 hk0 rfl ?_
  refine J_iload_n dX11_post_16 rfl rfl ?_
  refine J_callV (st := []) dX11_post_17 cv_X11_135 (c_X0_has_1 (a1) b_a1) hk51 rfl rfl (Nat.le_of_ble_eq_true rfl) ⟨(Nat.le_of_ble_eq_true rfl), (Nat.le_of_ble_eq_true rfl)⟩ ⟨(Nat.le_of_ble_eq_true rfl), (Nat.le_of_ble_eq_true rfl)⟩ (fun r h9 hp => ?_)
  obtain ⟨rfl, rfl⟩ := hp
  refine J_nf (nh2 := nh) (ck2 := 0) (sk2 := 0) (st2 := [.int 0]) rfl rfl rfl rfl ?_
  refine J_if_eq (tgt := 57) dX11_post_20 (by decide) (fun _ => ?_) (fun q => absurd (by decide +kernel) q)
  refine J_iconst (v := (-1)) dX11_post_57 (by decide) ?_
  exact J_iret dX11_post_58 rfl rfl (Nat.le_of_ble_eq_true rfl) (Nat.le_of_ble_eq_true rfl) ⟨rfl, rfl⟩
set_option maxHeartbeats 4000000 in
set_option maxRecDepth 100000 in
theorem c_X12_post_1 {l : Launch} {G : jG} {nh : Nat} {fh : Nat → Option va_E} (a1 : Int32) (b_a1 : (-2147483648) ≤ a1.toInt ∧ a1.toInt ≤ (-1)) (a2 : Int32) (b_a2 : (-2147483648) ≤ a2.toInt ∧ a2.toInt ≤ 2147483647) (a3 : Int32) (b_a3 : (-2147483648) ≤ a3.toInt ∧ a3.toInt ≤ 2147483647) (a4 : Int32) (b_a4 : (-2147483648) ≤ a4.toInt ∧ a4.toInt ≤ 2147483647) (hk98 : fh 98 = some (.inr (12, [.int 0, .int 0, .ref 99, .ref 100, .ref 101, .ref 102, .ref 103, .ref 104, .ref 105, .int 0, .int (-1), .ref 106, .ref 107, .ref 108, .int 0, .int 0, .int 0, .int 0, .int 0, .int 0, .int 0, .ref 109, .int 0, .int 0, .ref 110, .ref 111, .ref 112, .ref 113, .ref 114, .ref 115, .ref 116, .ref 117, .int 0, .int 0, .int (-1), .int (-1), .ref 118, .ref 119, .ref 120, .ref 121, .ref 122, .ref 123, .ref 124, .ref 125, .ref 126, .ref 127, .ref 128, .ref 129, .int 0, .ref 130, .ref 131, .ref 132, .ref 133, .ref 134, .int 0, .int 0]))) (hk100 : fh 100 = some (.inl (0, 4870, .inl (upd (fun _ => 0) 63 (-1))))) (hk111 : fh 111 = some (.inl (0, 1260, .inl (fun _ => 0)))) : JM l G yX12_post MX12_post { frames := 3, cells := 0, slots := 0, locals := 69 } [.ref 98, .int a1, .int a2, .int a3, .int a4] (nh, fh) (fun r h9 => r = some (.int (-1)) ∧ h9 = (nh, hc fh [(98, .inr (12, [.int 0, .int 0, .ref 99, .ref 100, .ref 101, .ref 102, .ref 103, .ref 104, .ref 105, .int 0, .int (-1), .ref 106, .ref 107, .ref 108, .int 0, .int 0, .int 0, .int 0, .int 0, .int 0, .int 0, .ref 109, .int 0, .int 0, .ref 110, .ref 111, .ref 112, .ref 113, .ref 114, .ref 115, .ref 116, .ref 117, .int 1, .int 0, .int 0, .int (-1), .ref 118, .ref 119, .ref 120, .ref 121, .ref 122, .ref 123, .ref 124, .ref 125, .ref 126, .ref 127, .ref 128, .ref 129, .int 0, .ref 130, .ref 131, .ref 132, .ref 133, .ref 134, .int 0, .int 0])), (111, .inl (0, 1260, .inl (upd (fun _ => 0) 0 0)))])) := by
  refine JM.of (by decide) rfl (fun h => by cases h) (Nat.le_of_ble_eq_true rfl) ⟨8, rfl⟩ ?_
  refine J_hc0 (J_ls (ls2 := [some (.ref 98), some (.int a1), some (.int a2), some (.int a3), some (.int a4), none, none, none, none, none, none, none, none]) rfl ?_)
  refine J_aload_n dX12_post_0 rfl rfl ?_
  refine J_iload_n dX12_post_1 rfl rfl ?_
  refine J_callV (st := []) dX12_post_2 cv_X12_325 (c_X12_isHouse_1 (a1) b_a1 hk98 hk100 hk111) hk98 rfl rfl (Nat.le_of_ble_eq_true rfl) ⟨(Nat.le_of_ble_eq_true rfl), (Nat.le_of_ble_eq_true rfl)⟩ ⟨(Nat.le_of_ble_eq_true rfl), (Nat.le_of_ble_eq_true rfl)⟩ (fun r h9 hp => ?_)
  obtain ⟨rfl, rfl⟩ := hp
  refine J_nf (nh2 := nh) (ck2 := 0) (sk2 := 0) (st2 := [.int 0]) rfl rfl rfl rfl ?_
  refine J_app (L3 := [(98, .inr (12, [.int 0, .int 0, .ref 99, .ref 100, .ref 101, .ref 102, .ref 103, .ref 104, .ref 105, .int 0, .int (-1), .ref 106, .ref 107, .ref 108, .int 0, .int 0, .int 0, .int 0, .int 0, .int 0, .int 0, .ref 109, .int 0, .int 0, .ref 110, .ref 111, .ref 112, .ref 113, .ref 114, .ref 115, .ref 116, .ref 117, .int 1, .int 0, .int 0, .int (-1), .ref 118, .ref 119, .ref 120, .ref 121, .ref 122, .ref 123, .ref 124, .ref 125, .ref 126, .ref 127, .ref 128, .ref 129, .int 0, .ref 130, .ref 131, .ref 132, .ref 133, .ref 134, .int 0, .int 0])), (111, .inl (0, 1260, .inl (upd (fun _ => 0) 0 0)))]) rfl ?_
  refine J_if_eq (tgt := 53) dX12_post_5 (by decide) (fun _ => ?_) (fun q => absurd (by decide +kernel) q)
  refine J_iconst (v := (-1)) dX12_post_53 (by decide) ?_
  exact J_iret dX12_post_54 rfl rfl (Nat.le_of_ble_eq_true rfl) (Nat.le_of_ble_eq_true rfl) ⟨rfl, rfl⟩
set_option maxHeartbeats 4000000 in
set_option maxRecDepth 100000 in
theorem c_X11_post_2 {l : Launch} {G : jG} {nh : Nat} {fh : Nat → Option va_E} (a2 : Int32) (b_a2 : (-2147483648) ≤ a2.toInt ∧ a2.toInt ≤ (-1)) (a3 : Int32) (b_a3 : (-2147483648) ≤ a3.toInt ∧ a3.toInt ≤ 2147483647) (a4 : Int32) (b_a4 : (-2147483648) ≤ a4.toInt ∧ a4.toInt ≤ 2147483647) (hk0 : fh 0 = some (.inr (11, [.ref 1, .ref 17, .ref 50, .ref 51, .ref 54, .ref 57, .ref 65, .ref 75, .ref 81, .ref 85, .ref 88, .ref 93, .ref 96, .int 0, .int (-1), .ref 97, .int 0]))) (hk51 : fh 51 = some (.inr (0, [.ref 52, .ref 53, .int 1, .int 0]))) : JM l G yX11_post MX11_post { frames := 1, cells := 0, slots := 0, locals := 21 } [.ref 0, .int 0, .int a2, .int a3, .int a4] (nh, fh) (fun r h9 => r = some (.int (-1)) ∧ h9 = (nh, fh)) := by
  refine JM.of (by decide) rfl (fun h => by cases h) (Nat.le_of_ble_eq_true rfl) ⟨0, rfl⟩ ?_
  refine J_hc0 (J_ls (ls2 := [some (.ref 0), some (.int 0), some (.int a2), some (.int a3), some (.int a4)]) rfl ?_)
  refine J_aload_n dX11_post_0 rfl rfl ?_
  refine J_get (v := .ref 51) dX11_post_1 fl_X11_27 hk0 rfl ?_
  refine J_callV (st := []) dX11_post_4 cv_X11_132 (c_X0_many_1 hk51) hk51 rfl rfl (Nat.le_of_ble_eq_true rfl) ⟨(Nat.le_of_ble_eq_true rfl), (Nat.le_of_ble_eq_true rfl)⟩ ⟨(Nat.le_of_ble_eq_true rfl), (Nat.le_of_ble_eq_true rfl)⟩ (fun r h9 hp => ?_)
  obtain ⟨rfl, rfl⟩ := hp
  refine J_nf (nh2 := nh) (ck2 := 0) (sk2 := 0) (st2 := [.int 1]) rfl rfl rfl rfl ?_
  refine J_bipush (v := 40) dX11_post_7 (by decide +kernel) ?_
  refine J_icmp_gt (tgt := 57) dX11_post_9 (by decide) (fun q => absurd q (by decide +kernel)) (fun _ => ?_)
  refine J_aload_n dX11_post_12 rfl rfl ?_
  refine J_get (v := .ref 51) dX11_post_13 fl_X11_27 hk0 rfl ?_
  refine J_iload_n dX11_post_16 rfl rfl ?_
  refine J_callV (st := []) dX11_post_17 cv_X11_135 (c_X0_has_2 hk51) hk51 rfl rfl (Nat.le_of_ble_eq_true rfl) ⟨(Nat.le_of_ble_eq_true rfl), (Nat.le_of_ble_eq_true rfl)⟩ ⟨(Nat.le_of_ble_eq_true rfl), (Nat.le_of_ble_eq_true rfl)⟩ (fun r h9 hp => ?_)
  obtain ⟨rfl, rfl⟩ := hp
  refine J_nf (nh2 := nh) (ck2 := 0) (sk2 := 0) (st2 := [.int 1]) rfl rfl rfl rfl ?_
  refine J_if_eq (tgt := 57) dX11_post_20 (by decide) (fun q => absurd q (by decide +kernel)) (fun _ => ?_)
  refine J_aload_n dX11_post_23 rfl rfl ?_
  refine J_get (v := .ref 51) dX11_post_24 fl_X11_27 hk0 rfl ?_
  refine J_iload_n dX11_post_27 rfl rfl ?_
  refine J_callV (st := []) dX11_post_28 cv_X11_135 (c_X0_has_1 (a2) b_a2) hk51 rfl rfl (Nat.le_of_ble_eq_true rfl) ⟨(Nat.le_of_ble_eq_true rfl), (Nat.le_of_ble_eq_true rfl)⟩ ⟨(Nat.le_of_ble_eq_true rfl), (Nat.le_of_ble_eq_true rfl)⟩ (fun r h9 hp => ?_)
  obtain ⟨rfl, rfl⟩ := hp
  refine J_nf (nh2 := nh) (ck2 := 0) (sk2 := 0) (st2 := [.int 0]) rfl rfl rfl rfl ?_
  refine J_if_eq (tgt := 57) dX11_post_31 (by decide) (fun _ => ?_) (fun q => absurd (by decide +kernel) q)
  refine J_iconst (v := (-1)) dX11_post_57 (by decide) ?_
  exact J_iret dX11_post_58 rfl rfl (Nat.le_of_ble_eq_true rfl) (Nat.le_of_ble_eq_true rfl) ⟨rfl, rfl⟩
set_option maxHeartbeats 4000000 in
set_option maxRecDepth 100000 in
theorem c_X12_post_2 {l : Launch} {G : jG} {nh : Nat} {fh : Nat → Option va_E} (a2 : Int32) (b_a2 : (-2147483648) ≤ a2.toInt ∧ a2.toInt ≤ (-1)) (a3 : Int32) (b_a3 : (-2147483648) ≤ a3.toInt ∧ a3.toInt ≤ 2147483647) (a4 : Int32) (b_a4 : (-2147483648) ≤ a4.toInt ∧ a4.toInt ≤ 2147483647) (hk98 : fh 98 = some (.inr (12, [.int 0, .int 0, .ref 99, .ref 100, .ref 101, .ref 102, .ref 103, .ref 104, .ref 105, .int 0, .int (-1), .ref 106, .ref 107, .ref 108, .int 0, .int 0, .int 0, .int 0, .int 0, .int 0, .int 0, .ref 109, .int 0, .int 0, .ref 110, .ref 111, .ref 112, .ref 113, .ref 114, .ref 115, .ref 116, .ref 117, .int 0, .int 0, .int (-1), .int (-1), .ref 118, .ref 119, .ref 120, .ref 121, .ref 122, .ref 123, .ref 124, .ref 125, .ref 126, .ref 127, .ref 128, .ref 129, .int 0, .ref 130, .ref 131, .ref 132, .ref 133, .ref 134, .int 0, .int 0]))) (hk100 : fh 100 = some (.inl (0, 4870, .inl (upd (fun _ => 0) 63 (-1))))) (hk111 : fh 111 = some (.inl (0, 1260, .inl (fun _ => 0)))) : JM l G yX12_post MX12_post { frames := 3, cells := 0, slots := 0, locals := 69 } [.ref 98, .int 0, .int a2, .int a3, .int a4] (nh, fh) (fun r h9 => r = some (.int (-1)) ∧ h9 = (nh, hc fh [(98, .inr (12, [.int 0, .int 0, .ref 99, .ref 100, .ref 101, .ref 102, .ref 103, .ref 104, .ref 105, .int 0, .int (-1), .ref 106, .ref 107, .ref 108, .int 0, .int 0, .int 0, .int 0, .int 0, .int 0, .int 0, .ref 109, .int 0, .int 0, .ref 110, .ref 111, .ref 112, .ref 113, .ref 114, .ref 115, .ref 116, .ref 117, .int 1, .int 0, .int 0, .int (-1), .ref 118, .ref 119, .ref 120, .ref 121, .ref 122, .ref 123, .ref 124, .ref 125, .ref 126, .ref 127, .ref 128, .ref 129, .int 0, .ref 130, .ref 131, .ref 132, .ref 133, .ref 134, .int 0, .int 0])), (111, .inl (0, 1260, .inl (upd (fun _ => 0) 0 0)))])) := by
  refine JM.of (by decide) rfl (fun h => by cases h) (Nat.le_of_ble_eq_true rfl) ⟨8, rfl⟩ ?_
  refine J_hc0 (J_ls (ls2 := [some (.ref 98), some (.int 0), some (.int a2), some (.int a3), some (.int a4), none, none, none, none, none, none, none, none]) rfl ?_)
  refine J_aload_n dX12_post_0 rfl rfl ?_
  refine J_iload_n dX12_post_1 rfl rfl ?_
  refine J_callV (st := []) dX12_post_2 cv_X12_325 (c_X12_isHouse_2 hk98 hk100 hk111) hk98 rfl rfl (Nat.le_of_ble_eq_true rfl) ⟨(Nat.le_of_ble_eq_true rfl), (Nat.le_of_ble_eq_true rfl)⟩ ⟨(Nat.le_of_ble_eq_true rfl), (Nat.le_of_ble_eq_true rfl)⟩ (fun r h9 hp => ?_)
  obtain ⟨rfl, rfl⟩ := hp
  refine J_nf (nh2 := nh) (ck2 := 0) (sk2 := 0) (st2 := [.int 1]) rfl rfl rfl rfl ?_
  refine J_app (L3 := [(98, .inr (12, [.int 0, .int 0, .ref 99, .ref 100, .ref 101, .ref 102, .ref 103, .ref 104, .ref 105, .int 0, .int (-1), .ref 106, .ref 107, .ref 108, .int 0, .int 0, .int 0, .int 0, .int 0, .int 0, .int 0, .ref 109, .int 0, .int 0, .ref 110, .ref 111, .ref 112, .ref 113, .ref 114, .ref 115, .ref 116, .ref 117, .int 1, .int 0, .int 0, .int (-1), .ref 118, .ref 119, .ref 120, .ref 121, .ref 122, .ref 123, .ref 124, .ref 125, .ref 126, .ref 127, .ref 128, .ref 129, .int 0, .ref 130, .ref 131, .ref 132, .ref 133, .ref 134, .int 0, .int 0])), (111, .inl (0, 1260, .inl (upd (fun _ => 0) 0 0)))]) rfl ?_
  refine J_if_eq (tgt := 53) dX12_post_5 (by decide) (fun q => absurd q (by decide +kernel)) (fun _ => ?_)
  refine J_aload_n dX12_post_8 rfl rfl ?_
  refine J_iload_n dX12_post_9 rfl rfl ?_
  refine J_callV (st := []) dX12_post_10 cv_X12_325 (c_X12_isHouse_4 (a2) b_a2 rfl) rfl rfl rfl (Nat.le_of_ble_eq_true rfl) ⟨(Nat.le_of_ble_eq_true rfl), (Nat.le_of_ble_eq_true rfl)⟩ ⟨(Nat.le_of_ble_eq_true rfl), (Nat.le_of_ble_eq_true rfl)⟩ (fun r h9 hp => ?_)
  obtain ⟨rfl, rfl⟩ := hp
  refine J_nf (nh2 := nh) (ck2 := 0) (sk2 := 0) (st2 := [.int 0]) rfl rfl rfl rfl ?_
  refine J_if_eq (tgt := 53) dX12_post_13 (by decide) (fun _ => ?_) (fun q => absurd (by decide +kernel) q)
  refine J_iconst (v := (-1)) dX12_post_53 (by decide) ?_
  exact J_iret dX12_post_54 rfl rfl (Nat.le_of_ble_eq_true rfl) (Nat.le_of_ble_eq_true rfl) ⟨rfl, rfl⟩
set_option maxHeartbeats 4000000 in
set_option maxRecDepth 100000 in
theorem c_X11_post_3 {l : Launch} {G : jG} {nh : Nat} {fh : Nat → Option va_E} (a3 : Int32) (b_a3 : (-2147483648) ≤ a3.toInt ∧ a3.toInt ≤ (-1)) (a4 : Int32) (b_a4 : (-2147483648) ≤ a4.toInt ∧ a4.toInt ≤ 2147483647) (hk0 : fh 0 = some (.inr (11, [.ref 1, .ref 17, .ref 50, .ref 51, .ref 54, .ref 57, .ref 65, .ref 75, .ref 81, .ref 85, .ref 88, .ref 93, .ref 96, .int 0, .int (-1), .ref 97, .int 0]))) (hk51 : fh 51 = some (.inr (0, [.ref 52, .ref 53, .int 1, .int 0]))) : JM l G yX11_post MX11_post { frames := 1, cells := 0, slots := 0, locals := 21 } [.ref 0, .int 0, .int 0, .int a3, .int a4] (nh, fh) (fun r h9 => r = some (.int (-1)) ∧ h9 = (nh, fh)) := by
  refine JM.of (by decide) rfl (fun h => by cases h) (Nat.le_of_ble_eq_true rfl) ⟨0, rfl⟩ ?_
  refine J_hc0 (J_ls (ls2 := [some (.ref 0), some (.int 0), some (.int 0), some (.int a3), some (.int a4)]) rfl ?_)
  refine J_aload_n dX11_post_0 rfl rfl ?_
  refine J_get (v := .ref 51) dX11_post_1 fl_X11_27 hk0 rfl ?_
  refine J_callV (st := []) dX11_post_4 cv_X11_132 (c_X0_many_1 hk51) hk51 rfl rfl (Nat.le_of_ble_eq_true rfl) ⟨(Nat.le_of_ble_eq_true rfl), (Nat.le_of_ble_eq_true rfl)⟩ ⟨(Nat.le_of_ble_eq_true rfl), (Nat.le_of_ble_eq_true rfl)⟩ (fun r h9 hp => ?_)
  obtain ⟨rfl, rfl⟩ := hp
  refine J_nf (nh2 := nh) (ck2 := 0) (sk2 := 0) (st2 := [.int 1]) rfl rfl rfl rfl ?_
  refine J_bipush (v := 40) dX11_post_7 (by decide +kernel) ?_
  refine J_icmp_gt (tgt := 57) dX11_post_9 (by decide) (fun q => absurd q (by decide +kernel)) (fun _ => ?_)
  refine J_aload_n dX11_post_12 rfl rfl ?_
  refine J_get (v := .ref 51) dX11_post_13 fl_X11_27 hk0 rfl ?_
  refine J_iload_n dX11_post_16 rfl rfl ?_
  refine J_callV (st := []) dX11_post_17 cv_X11_135 (c_X0_has_2 hk51) hk51 rfl rfl (Nat.le_of_ble_eq_true rfl) ⟨(Nat.le_of_ble_eq_true rfl), (Nat.le_of_ble_eq_true rfl)⟩ ⟨(Nat.le_of_ble_eq_true rfl), (Nat.le_of_ble_eq_true rfl)⟩ (fun r h9 hp => ?_)
  obtain ⟨rfl, rfl⟩ := hp
  refine J_nf (nh2 := nh) (ck2 := 0) (sk2 := 0) (st2 := [.int 1]) rfl rfl rfl rfl ?_
  refine J_if_eq (tgt := 57) dX11_post_20 (by decide) (fun q => absurd q (by decide +kernel)) (fun _ => ?_)
  refine J_aload_n dX11_post_23 rfl rfl ?_
  refine J_get (v := .ref 51) dX11_post_24 fl_X11_27 hk0 rfl ?_
  refine J_iload_n dX11_post_27 rfl rfl ?_
  refine J_callV (st := []) dX11_post_28 cv_X11_135 (c_X0_has_2 hk51) hk51 rfl rfl (Nat.le_of_ble_eq_true rfl) ⟨(Nat.le_of_ble_eq_true rfl), (Nat.le_of_ble_eq_true rfl)⟩ ⟨(Nat.le_of_ble_eq_true rfl), (Nat.le_of_ble_eq_true rfl)⟩ (fun r h9 hp => ?_)
  obtain ⟨rfl, rfl⟩ := hp
  refine J_nf (nh2 := nh) (ck2 := 0) (sk2 := 0) (st2 := [.int 1]) rfl rfl rfl rfl ?_
  refine J_if_eq (tgt := 57) dX11_post_31 (by decide) (fun q => absurd q (by decide +kernel)) (fun _ => ?_)
  refine J_aload_n dX11_post_34 rfl rfl ?_
  refine J_get (v := .ref 51) dX11_post_35 fl_X11_27 hk0 rfl ?_
  refine J_iload_n dX11_post_38 rfl rfl ?_
  refine J_callV (st := []) dX11_post_39 cv_X11_135 (c_X0_has_1 (a3) b_a3) hk51 rfl rfl (Nat.le_of_ble_eq_true rfl) ⟨(Nat.le_of_ble_eq_true rfl), (Nat.le_of_ble_eq_true rfl)⟩ ⟨(Nat.le_of_ble_eq_true rfl), (Nat.le_of_ble_eq_true rfl)⟩ (fun r h9 hp => ?_)
  obtain ⟨rfl, rfl⟩ := hp
  refine J_nf (nh2 := nh) (ck2 := 0) (sk2 := 0) (st2 := [.int 0]) rfl rfl rfl rfl ?_
  refine J_if_eq (tgt := 57) dX11_post_42 (by decide) (fun _ => ?_) (fun q => absurd (by decide +kernel) q)
  refine J_iconst (v := (-1)) dX11_post_57 (by decide) ?_
  exact J_iret dX11_post_58 rfl rfl (Nat.le_of_ble_eq_true rfl) (Nat.le_of_ble_eq_true rfl) ⟨rfl, rfl⟩
set_option maxHeartbeats 4000000 in
set_option maxRecDepth 100000 in
theorem c_X12_post_3 {l : Launch} {G : jG} {nh : Nat} {fh : Nat → Option va_E} (a3 : Int32) (b_a3 : (-2147483648) ≤ a3.toInt ∧ a3.toInt ≤ (-1)) (a4 : Int32) (b_a4 : (-2147483648) ≤ a4.toInt ∧ a4.toInt ≤ 2147483647) (hk98 : fh 98 = some (.inr (12, [.int 0, .int 0, .ref 99, .ref 100, .ref 101, .ref 102, .ref 103, .ref 104, .ref 105, .int 0, .int (-1), .ref 106, .ref 107, .ref 108, .int 0, .int 0, .int 0, .int 0, .int 0, .int 0, .int 0, .ref 109, .int 0, .int 0, .ref 110, .ref 111, .ref 112, .ref 113, .ref 114, .ref 115, .ref 116, .ref 117, .int 0, .int 0, .int (-1), .int (-1), .ref 118, .ref 119, .ref 120, .ref 121, .ref 122, .ref 123, .ref 124, .ref 125, .ref 126, .ref 127, .ref 128, .ref 129, .int 0, .ref 130, .ref 131, .ref 132, .ref 133, .ref 134, .int 0, .int 0]))) (hk100 : fh 100 = some (.inl (0, 4870, .inl (upd (fun _ => 0) 63 (-1))))) (hk111 : fh 111 = some (.inl (0, 1260, .inl (fun _ => 0)))) : JM l G yX12_post MX12_post { frames := 3, cells := 0, slots := 0, locals := 69 } [.ref 98, .int 0, .int 0, .int a3, .int a4] (nh, fh) (fun r h9 => r = some (.int (-1)) ∧ h9 = (nh, hc fh [(98, .inr (12, [.int 0, .int 0, .ref 99, .ref 100, .ref 101, .ref 102, .ref 103, .ref 104, .ref 105, .int 0, .int (-1), .ref 106, .ref 107, .ref 108, .int 0, .int 0, .int 0, .int 0, .int 0, .int 0, .int 0, .ref 109, .int 0, .int 0, .ref 110, .ref 111, .ref 112, .ref 113, .ref 114, .ref 115, .ref 116, .ref 117, .int 1, .int 0, .int 0, .int (-1), .ref 118, .ref 119, .ref 120, .ref 121, .ref 122, .ref 123, .ref 124, .ref 125, .ref 126, .ref 127, .ref 128, .ref 129, .int 0, .ref 130, .ref 131, .ref 132, .ref 133, .ref 134, .int 0, .int 0])), (111, .inl (0, 1260, .inl (upd (fun _ => 0) 0 0)))])) := by
  refine JM.of (by decide) rfl (fun h => by cases h) (Nat.le_of_ble_eq_true rfl) ⟨8, rfl⟩ ?_
  refine J_hc0 (J_ls (ls2 := [some (.ref 98), some (.int 0), some (.int 0), some (.int a3), some (.int a4), none, none, none, none, none, none, none, none]) rfl ?_)
  refine J_aload_n dX12_post_0 rfl rfl ?_
  refine J_iload_n dX12_post_1 rfl rfl ?_
  refine J_callV (st := []) dX12_post_2 cv_X12_325 (c_X12_isHouse_2 hk98 hk100 hk111) hk98 rfl rfl (Nat.le_of_ble_eq_true rfl) ⟨(Nat.le_of_ble_eq_true rfl), (Nat.le_of_ble_eq_true rfl)⟩ ⟨(Nat.le_of_ble_eq_true rfl), (Nat.le_of_ble_eq_true rfl)⟩ (fun r h9 hp => ?_)
  obtain ⟨rfl, rfl⟩ := hp
  refine J_nf (nh2 := nh) (ck2 := 0) (sk2 := 0) (st2 := [.int 1]) rfl rfl rfl rfl ?_
  refine J_app (L3 := [(98, .inr (12, [.int 0, .int 0, .ref 99, .ref 100, .ref 101, .ref 102, .ref 103, .ref 104, .ref 105, .int 0, .int (-1), .ref 106, .ref 107, .ref 108, .int 0, .int 0, .int 0, .int 0, .int 0, .int 0, .int 0, .ref 109, .int 0, .int 0, .ref 110, .ref 111, .ref 112, .ref 113, .ref 114, .ref 115, .ref 116, .ref 117, .int 1, .int 0, .int 0, .int (-1), .ref 118, .ref 119, .ref 120, .ref 121, .ref 122, .ref 123, .ref 124, .ref 125, .ref 126, .ref 127, .ref 128, .ref 129, .int 0, .ref 130, .ref 131, .ref 132, .ref 133, .ref 134, .int 0, .int 0])), (111, .inl (0, 1260, .inl (upd (fun _ => 0) 0 0)))]) rfl ?_
  refine J_if_eq (tgt := 53) dX12_post_5 (by decide) (fun q => absurd q (by decide +kernel)) (fun _ => ?_)
  refine J_aload_n dX12_post_8 rfl rfl ?_
  refine J_iload_n dX12_post_9 rfl rfl ?_
  refine J_callV (st := []) dX12_post_10 cv_X12_325 (c_X12_isHouse_5 rfl) rfl rfl rfl (Nat.le_of_ble_eq_true rfl) ⟨(Nat.le_of_ble_eq_true rfl), (Nat.le_of_ble_eq_true rfl)⟩ ⟨(Nat.le_of_ble_eq_true rfl), (Nat.le_of_ble_eq_true rfl)⟩ (fun r h9 hp => ?_)
  obtain ⟨rfl, rfl⟩ := hp
  refine J_nf (nh2 := nh) (ck2 := 0) (sk2 := 0) (st2 := [.int 1]) rfl rfl rfl rfl ?_
  refine J_if_eq (tgt := 53) dX12_post_13 (by decide) (fun q => absurd q (by decide +kernel)) (fun _ => ?_)
  refine J_aload_n dX12_post_16 rfl rfl ?_
  refine J_iload_n dX12_post_17 rfl rfl ?_
  refine J_callV (st := []) dX12_post_18 cv_X12_325 (c_X12_isHouse_4 (a3) b_a3 rfl) rfl rfl rfl (Nat.le_of_ble_eq_true rfl) ⟨(Nat.le_of_ble_eq_true rfl), (Nat.le_of_ble_eq_true rfl)⟩ ⟨(Nat.le_of_ble_eq_true rfl), (Nat.le_of_ble_eq_true rfl)⟩ (fun r h9 hp => ?_)
  obtain ⟨rfl, rfl⟩ := hp
  refine J_nf (nh2 := nh) (ck2 := 0) (sk2 := 0) (st2 := [.int 0]) rfl rfl rfl rfl ?_
  refine J_if_eq (tgt := 53) dX12_post_21 (by decide) (fun _ => ?_) (fun q => absurd (by decide +kernel) q)
  refine J_iconst (v := (-1)) dX12_post_53 (by decide) ?_
  exact J_iret dX12_post_54 rfl rfl (Nat.le_of_ble_eq_true rfl) (Nat.le_of_ble_eq_true rfl) ⟨rfl, rfl⟩
set_option maxHeartbeats 4000000 in
set_option maxRecDepth 100000 in
theorem c_X11_post_4 {l : Launch} {G : jG} {nh : Nat} {fh : Nat → Option va_E} (a4 : Int32) (b_a4 : (-2147483648) ≤ a4.toInt ∧ a4.toInt ≤ (-1)) (hk0 : fh 0 = some (.inr (11, [.ref 1, .ref 17, .ref 50, .ref 51, .ref 54, .ref 57, .ref 65, .ref 75, .ref 81, .ref 85, .ref 88, .ref 93, .ref 96, .int 0, .int (-1), .ref 97, .int 0]))) (hk51 : fh 51 = some (.inr (0, [.ref 52, .ref 53, .int 1, .int 0]))) : JM l G yX11_post MX11_post { frames := 1, cells := 0, slots := 0, locals := 21 } [.ref 0, .int 0, .int 0, .int 0, .int a4] (nh, fh) (fun r h9 => r = some (.int (-1)) ∧ h9 = (nh, fh)) := by
  refine JM.of (by decide) rfl (fun h => by cases h) (Nat.le_of_ble_eq_true rfl) ⟨0, rfl⟩ ?_
  refine J_hc0 (J_ls (ls2 := [some (.ref 0), some (.int 0), some (.int 0), some (.int 0), some (.int a4)]) rfl ?_)
  refine J_aload_n dX11_post_0 rfl rfl ?_
  refine J_get (v := .ref 51) dX11_post_1 fl_X11_27 hk0 rfl ?_
  refine J_callV (st := []) dX11_post_4 cv_X11_132 (c_X0_many_1 hk51) hk51 rfl rfl (Nat.le_of_ble_eq_true rfl) ⟨(Nat.le_of_ble_eq_true rfl), (Nat.le_of_ble_eq_true rfl)⟩ ⟨(Nat.le_of_ble_eq_true rfl), (Nat.le_of_ble_eq_true rfl)⟩ (fun r h9 hp => ?_)
  obtain ⟨rfl, rfl⟩ := hp
  refine J_nf (nh2 := nh) (ck2 := 0) (sk2 := 0) (st2 := [.int 1]) rfl rfl rfl rfl ?_
  refine J_bipush (v := 40) dX11_post_7 (by decide +kernel) ?_
  refine J_icmp_gt (tgt := 57) dX11_post_9 (by decide) (fun q => absurd q (by decide +kernel)) (fun _ => ?_)
  refine J_aload_n dX11_post_12 rfl rfl ?_
  refine J_get (v := .ref 51) dX11_post_13 fl_X11_27 hk0 rfl ?_
  refine J_iload_n dX11_post_16 rfl rfl ?_
  refine J_callV (st := []) dX11_post_17 cv_X11_135 (c_X0_has_2 hk51) hk51 rfl rfl (Nat.le_of_ble_eq_true rfl) ⟨(Nat.le_of_ble_eq_true rfl), (Nat.le_of_ble_eq_true rfl)⟩ ⟨(Nat.le_of_ble_eq_true rfl), (Nat.le_of_ble_eq_true rfl)⟩ (fun r h9 hp => ?_)
  obtain ⟨rfl, rfl⟩ := hp
  refine J_nf (nh2 := nh) (ck2 := 0) (sk2 := 0) (st2 := [.int 1]) rfl rfl rfl rfl ?_
  refine J_if_eq (tgt := 57) dX11_post_20 (by decide) (fun q => absurd q (by decide +kernel)) (fun _ => ?_)
  refine J_aload_n dX11_post_23 rfl rfl ?_
  refine J_get (v := .ref 51) dX11_post_24 fl_X11_27 hk0 rfl ?_
  refine J_iload_n dX11_post_27 rfl rfl ?_
  refine J_callV (st := []) dX11_post_28 cv_X11_135 (c_X0_has_2 hk51) hk51 rfl rfl (Nat.le_of_ble_eq_true rfl) ⟨(Nat.le_of_ble_eq_true rfl), (Nat.le_of_ble_eq_true rfl)⟩ ⟨(Nat.le_of_ble_eq_true rfl), (Nat.le_of_ble_eq_true rfl)⟩ (fun r h9 hp => ?_)
  obtain ⟨rfl, rfl⟩ := hp
  refine J_nf (nh2 := nh) (ck2 := 0) (sk2 := 0) (st2 := [.int 1]) rfl rfl rfl rfl ?_
  refine J_if_eq (tgt := 57) dX11_post_31 (by decide) (fun q => absurd q (by decide +kernel)) (fun _ => ?_)
  refine J_aload_n dX11_post_34 rfl rfl ?_
  refine J_get (v := .ref 51) dX11_post_35 fl_X11_27 hk0 rfl ?_
  refine J_iload_n dX11_post_38 rfl rfl ?_
  refine J_callV (st := []) dX11_post_39 cv_X11_135 (c_X0_has_2 hk51) hk51 rfl rfl (Nat.le_of_ble_eq_true rfl) ⟨(Nat.le_of_ble_eq_true rfl), (Nat.le_of_ble_eq_true rfl)⟩ ⟨(Nat.le_of_ble_eq_true rfl), (Nat.le_of_ble_eq_true rfl)⟩ (fun r h9 hp => ?_)
  obtain ⟨rfl, rfl⟩ := hp
  refine J_nf (nh2 := nh) (ck2 := 0) (sk2 := 0) (st2 := [.int 1]) rfl rfl rfl rfl ?_
  refine J_if_eq (tgt := 57) dX11_post_42 (by decide) (fun q => absurd q (by decide +kernel)) (fun _ => ?_)
  refine J_aload_n dX11_post_45 rfl rfl ?_
  refine J_get (v := .ref 51) dX11_post_46 fl_X11_27 hk0 rfl ?_
  refine J_iload dX11_post_49 rfl ?_
  refine J_callV (st := []) dX11_post_51 cv_X11_135 (c_X0_has_1 (a4) b_a4) hk51 rfl rfl (Nat.le_of_ble_eq_true rfl) ⟨(Nat.le_of_ble_eq_true rfl), (Nat.le_of_ble_eq_true rfl)⟩ ⟨(Nat.le_of_ble_eq_true rfl), (Nat.le_of_ble_eq_true rfl)⟩ (fun r h9 hp => ?_)
  obtain ⟨rfl, rfl⟩ := hp
  refine J_nf (nh2 := nh) (ck2 := 0) (sk2 := 0) (st2 := [.int 0]) rfl rfl rfl rfl ?_
  refine J_if_ne (tgt := 59) dX11_post_54 (by decide) (fun q => absurd (by decide +kernel) q) (fun _ => ?_)
  refine J_iconst (v := (-1)) dX11_post_57 (by decide) ?_
  exact J_iret dX11_post_58 rfl rfl (Nat.le_of_ble_eq_true rfl) (Nat.le_of_ble_eq_true rfl) ⟨rfl, rfl⟩
set_option maxHeartbeats 4000000 in
set_option maxRecDepth 100000 in
theorem c_X12_post_4 {l : Launch} {G : jG} {nh : Nat} {fh : Nat → Option va_E} (a4 : Int32) (b_a4 : (-2147483648) ≤ a4.toInt ∧ a4.toInt ≤ (-1)) (hk98 : fh 98 = some (.inr (12, [.int 0, .int 0, .ref 99, .ref 100, .ref 101, .ref 102, .ref 103, .ref 104, .ref 105, .int 0, .int (-1), .ref 106, .ref 107, .ref 108, .int 0, .int 0, .int 0, .int 0, .int 0, .int 0, .int 0, .ref 109, .int 0, .int 0, .ref 110, .ref 111, .ref 112, .ref 113, .ref 114, .ref 115, .ref 116, .ref 117, .int 0, .int 0, .int (-1), .int (-1), .ref 118, .ref 119, .ref 120, .ref 121, .ref 122, .ref 123, .ref 124, .ref 125, .ref 126, .ref 127, .ref 128, .ref 129, .int 0, .ref 130, .ref 131, .ref 132, .ref 133, .ref 134, .int 0, .int 0]))) (hk100 : fh 100 = some (.inl (0, 4870, .inl (upd (fun _ => 0) 63 (-1))))) (hk111 : fh 111 = some (.inl (0, 1260, .inl (fun _ => 0)))) : JM l G yX12_post MX12_post { frames := 3, cells := 0, slots := 0, locals := 69 } [.ref 98, .int 0, .int 0, .int 0, .int a4] (nh, fh) (fun r h9 => r = some (.int (-1)) ∧ h9 = (nh, hc fh [(98, .inr (12, [.int 0, .int 0, .ref 99, .ref 100, .ref 101, .ref 102, .ref 103, .ref 104, .ref 105, .int 0, .int (-1), .ref 106, .ref 107, .ref 108, .int 0, .int 0, .int 0, .int 0, .int 0, .int 0, .int 0, .ref 109, .int 0, .int 0, .ref 110, .ref 111, .ref 112, .ref 113, .ref 114, .ref 115, .ref 116, .ref 117, .int 1, .int 0, .int 0, .int (-1), .ref 118, .ref 119, .ref 120, .ref 121, .ref 122, .ref 123, .ref 124, .ref 125, .ref 126, .ref 127, .ref 128, .ref 129, .int 0, .ref 130, .ref 131, .ref 132, .ref 133, .ref 134, .int 0, .int 0])), (111, .inl (0, 1260, .inl (upd (fun _ => 0) 0 0)))])) := by
  refine JM.of (by decide) rfl (fun h => by cases h) (Nat.le_of_ble_eq_true rfl) ⟨8, rfl⟩ ?_
  refine J_hc0 (J_ls (ls2 := [some (.ref 98), some (.int 0), some (.int 0), some (.int 0), some (.int a4), none, none, none, none, none, none, none, none]) rfl ?_)
  refine J_aload_n dX12_post_0 rfl rfl ?_
  refine J_iload_n dX12_post_1 rfl rfl ?_
  refine J_callV (st := []) dX12_post_2 cv_X12_325 (c_X12_isHouse_2 hk98 hk100 hk111) hk98 rfl rfl (Nat.le_of_ble_eq_true rfl) ⟨(Nat.le_of_ble_eq_true rfl), (Nat.le_of_ble_eq_true rfl)⟩ ⟨(Nat.le_of_ble_eq_true rfl), (Nat.le_of_ble_eq_true rfl)⟩ (fun r h9 hp => ?_)
  obtain ⟨rfl, rfl⟩ := hp
  refine J_nf (nh2 := nh) (ck2 := 0) (sk2 := 0) (st2 := [.int 1]) rfl rfl rfl rfl ?_
  refine J_app (L3 := [(98, .inr (12, [.int 0, .int 0, .ref 99, .ref 100, .ref 101, .ref 102, .ref 103, .ref 104, .ref 105, .int 0, .int (-1), .ref 106, .ref 107, .ref 108, .int 0, .int 0, .int 0, .int 0, .int 0, .int 0, .int 0, .ref 109, .int 0, .int 0, .ref 110, .ref 111, .ref 112, .ref 113, .ref 114, .ref 115, .ref 116, .ref 117, .int 1, .int 0, .int 0, .int (-1), .ref 118, .ref 119, .ref 120, .ref 121, .ref 122, .ref 123, .ref 124, .ref 125, .ref 126, .ref 127, .ref 128, .ref 129, .int 0, .ref 130, .ref 131, .ref 132, .ref 133, .ref 134, .int 0, .int 0])), (111, .inl (0, 1260, .inl (upd (fun _ => 0) 0 0)))]) rfl ?_
  refine J_if_eq (tgt := 53) dX12_post_5 (by decide) (fun q => absurd q (by decide +kernel)) (fun _ => ?_)
  refine J_aload_n dX12_post_8 rfl rfl ?_
  refine J_iload_n dX12_post_9 rfl rfl ?_
  refine J_callV (st := []) dX12_post_10 cv_X12_325 (c_X12_isHouse_5 rfl) rfl rfl rfl (Nat.le_of_ble_eq_true rfl) ⟨(Nat.le_of_ble_eq_true rfl), (Nat.le_of_ble_eq_true rfl)⟩ ⟨(Nat.le_of_ble_eq_true rfl), (Nat.le_of_ble_eq_true rfl)⟩ (fun r h9 hp => ?_)
  obtain ⟨rfl, rfl⟩ := hp
  refine J_nf (nh2 := nh) (ck2 := 0) (sk2 := 0) (st2 := [.int 1]) rfl rfl rfl rfl ?_
  refine J_if_eq (tgt := 53) dX12_post_13 (by decide) (fun q => absurd q (by decide +kernel)) (fun _ => ?_)
  refine J_aload_n dX12_post_16 rfl rfl ?_
  refine J_iload_n dX12_post_17 rfl rfl ?_
  refine J_callV (st := []) dX12_post_18 cv_X12_325 (c_X12_isHouse_5 rfl) rfl rfl rfl (Nat.le_of_ble_eq_true rfl) ⟨(Nat.le_of_ble_eq_true rfl), (Nat.le_of_ble_eq_true rfl)⟩ ⟨(Nat.le_of_ble_eq_true rfl), (Nat.le_of_ble_eq_true rfl)⟩ (fun r h9 hp => ?_)
  obtain ⟨rfl, rfl⟩ := hp
  refine J_nf (nh2 := nh) (ck2 := 0) (sk2 := 0) (st2 := [.int 1]) rfl rfl rfl rfl ?_
  refine J_if_eq (tgt := 53) dX12_post_21 (by decide) (fun q => absurd q (by decide +kernel)) (fun _ => ?_)
  refine J_aload_n dX12_post_24 rfl rfl ?_
  refine J_iload dX12_post_25 rfl ?_
  refine J_callV (st := []) dX12_post_27 cv_X12_325 (c_X12_isHouse_4 (a4) b_a4 rfl) rfl rfl rfl (Nat.le_of_ble_eq_true rfl) ⟨(Nat.le_of_ble_eq_true rfl), (Nat.le_of_ble_eq_true rfl)⟩ ⟨(Nat.le_of_ble_eq_true rfl), (Nat.le_of_ble_eq_true rfl)⟩ (fun r h9 hp => ?_)
  obtain ⟨rfl, rfl⟩ := hp
  refine J_nf (nh2 := nh) (ck2 := 0) (sk2 := 0) (st2 := [.int 0]) rfl rfl rfl rfl ?_
  refine J_if_eq (tgt := 53) dX12_post_30 (by decide) (fun _ => ?_) (fun q => absurd (by decide +kernel) q)
  refine J_iconst (v := (-1)) dX12_post_53 (by decide) ?_
  exact J_iret dX12_post_54 rfl rfl (Nat.le_of_ble_eq_true rfl) (Nat.le_of_ble_eq_true rfl) ⟨rfl, rfl⟩
set_option maxHeartbeats 4000000 in
set_option maxRecDepth 100000 in
theorem c_X11_post_5 {l : Launch} {G : jG} {nh : Nat} {fh : Nat → Option va_E} (hk0 : fh 0 = some (.inr (11, [.ref 1, .ref 17, .ref 50, .ref 51, .ref 54, .ref 57, .ref 65, .ref 75, .ref 81, .ref 85, .ref 88, .ref 93, .ref 96, .int 0, .int (-1), .ref 97, .int 0]))) (hk51 : fh 51 = some (.inr (0, [.ref 52, .ref 53, .int 1, .int 0]))) : JM l G yX11_post MX11_post { frames := 1, cells := 0, slots := 0, locals := 21 } [.ref 0, .int 0, .int 0, .int 0, .int 0] (nh, fh) (fun r h9 => r = some (.int (-1)) ∧ h9 = (nh, fh)) := by
  refine JM.of (by decide) rfl (fun h => by cases h) (Nat.le_of_ble_eq_true rfl) ⟨0, rfl⟩ ?_
  refine J_hc0 (J_ls (ls2 := [some (.ref 0), some (.int 0), some (.int 0), some (.int 0), some (.int 0)]) rfl ?_)
  refine J_aload_n dX11_post_0 rfl rfl ?_
  refine J_get (v := .ref 51) dX11_post_1 fl_X11_27 hk0 rfl ?_
  refine J_callV (st := []) dX11_post_4 cv_X11_132 (c_X0_many_1 hk51) hk51 rfl rfl (Nat.le_of_ble_eq_true rfl) ⟨(Nat.le_of_ble_eq_true rfl), (Nat.le_of_ble_eq_true rfl)⟩ ⟨(Nat.le_of_ble_eq_true rfl), (Nat.le_of_ble_eq_true rfl)⟩ (fun r h9 hp => ?_)
  obtain ⟨rfl, rfl⟩ := hp
  refine J_nf (nh2 := nh) (ck2 := 0) (sk2 := 0) (st2 := [.int 1]) rfl rfl rfl rfl ?_
  refine J_bipush (v := 40) dX11_post_7 (by decide +kernel) ?_
  refine J_icmp_gt (tgt := 57) dX11_post_9 (by decide) (fun q => absurd q (by decide +kernel)) (fun _ => ?_)
  refine J_aload_n dX11_post_12 rfl rfl ?_
  refine J_get (v := .ref 51) dX11_post_13 fl_X11_27 hk0 rfl ?_
  refine J_iload_n dX11_post_16 rfl rfl ?_
  refine J_callV (st := []) dX11_post_17 cv_X11_135 (c_X0_has_2 hk51) hk51 rfl rfl (Nat.le_of_ble_eq_true rfl) ⟨(Nat.le_of_ble_eq_true rfl), (Nat.le_of_ble_eq_true rfl)⟩ ⟨(Nat.le_of_ble_eq_true rfl), (Nat.le_of_ble_eq_true rfl)⟩ (fun r h9 hp => ?_)
  obtain ⟨rfl, rfl⟩ := hp
  refine J_nf (nh2 := nh) (ck2 := 0) (sk2 := 0) (st2 := [.int 1]) rfl rfl rfl rfl ?_
  refine J_if_eq (tgt := 57) dX11_post_20 (by decide) (fun q => absurd q (by decide +kernel)) (fun _ => ?_)
  refine J_aload_n dX11_post_23 rfl rfl ?_
  refine J_get (v := .ref 51) dX11_post_24 fl_X11_27 hk0 rfl ?_
  refine J_iload_n dX11_post_27 rfl rfl ?_
  refine J_callV (st := []) dX11_post_28 cv_X11_135 (c_X0_has_2 hk51) hk51 rfl rfl (Nat.le_of_ble_eq_true rfl) ⟨(Nat.le_of_ble_eq_true rfl), (Nat.le_of_ble_eq_true rfl)⟩ ⟨(Nat.le_of_ble_eq_true rfl), (Nat.le_of_ble_eq_true rfl)⟩ (fun r h9 hp => ?_)
  obtain ⟨rfl, rfl⟩ := hp
  refine J_nf (nh2 := nh) (ck2 := 0) (sk2 := 0) (st2 := [.int 1]) rfl rfl rfl rfl ?_
  refine J_if_eq (tgt := 57) dX11_post_31 (by decide) (fun q => absurd q (by decide +kernel)) (fun _ => ?_)
  refine J_aload_n dX11_post_34 rfl rfl ?_
  refine J_get (v := .ref 51) dX11_post_35 fl_X11_27 hk0 rfl ?_
  refine J_iload_n dX11_post_38 rfl rfl ?_
  refine J_callV (st := []) dX11_post_39 cv_X11_135 (c_X0_has_2 hk51) hk51 rfl rfl (Nat.le_of_ble_eq_true rfl) ⟨(Nat.le_of_ble_eq_true rfl), (Nat.le_of_ble_eq_true rfl)⟩ ⟨(Nat.le_of_ble_eq_true rfl), (Nat.le_of_ble_eq_true rfl)⟩ (fun r h9 hp => ?_)
  obtain ⟨rfl, rfl⟩ := hp
  refine J_nf (nh2 := nh) (ck2 := 0) (sk2 := 0) (st2 := [.int 1]) rfl rfl rfl rfl ?_
  refine J_if_eq (tgt := 57) dX11_post_42 (by decide) (fun q => absurd q (by decide +kernel)) (fun _ => ?_)
  refine J_aload_n dX11_post_45 rfl rfl ?_
  refine J_get (v := .ref 51) dX11_post_46 fl_X11_27 hk0 rfl ?_
  refine J_iload dX11_post_49 rfl ?_
  refine J_callV (st := []) dX11_post_51 cv_X11_135 (c_X0_has_2 hk51) hk51 rfl rfl (Nat.le_of_ble_eq_true rfl) ⟨(Nat.le_of_ble_eq_true rfl), (Nat.le_of_ble_eq_true rfl)⟩ ⟨(Nat.le_of_ble_eq_true rfl), (Nat.le_of_ble_eq_true rfl)⟩ (fun r h9 hp => ?_)
  obtain ⟨rfl, rfl⟩ := hp
  refine J_nf (nh2 := nh) (ck2 := 0) (sk2 := 0) (st2 := [.int 1]) rfl rfl rfl rfl ?_
  refine J_if_ne (tgt := 59) dX11_post_54 (by decide) (fun _ => ?_) (fun q => absurd q (by decide +kernel))
  refine J_iload_n dX11_post_59 rfl rfl ?_
  refine J_iload_n dX11_post_60 rfl rfl ?_
  refine J_icmp_eq (tgt := 70) dX11_post_61 (by decide) (fun _ => ?_) (fun q => absurd (by decide +kernel) q)
  refine J_iconst (v := (-1)) dX11_post_70 (by decide) ?_
  exact J_iret dX11_post_71 rfl rfl (Nat.le_of_ble_eq_true rfl) (Nat.le_of_ble_eq_true rfl) ⟨rfl, rfl⟩
set_option maxHeartbeats 4000000 in
set_option maxRecDepth 100000 in
theorem c_X12_post_5 {l : Launch} {G : jG} {nh : Nat} {fh : Nat → Option va_E} (hk98 : fh 98 = some (.inr (12, [.int 0, .int 0, .ref 99, .ref 100, .ref 101, .ref 102, .ref 103, .ref 104, .ref 105, .int 0, .int (-1), .ref 106, .ref 107, .ref 108, .int 0, .int 0, .int 0, .int 0, .int 0, .int 0, .int 0, .ref 109, .int 0, .int 0, .ref 110, .ref 111, .ref 112, .ref 113, .ref 114, .ref 115, .ref 116, .ref 117, .int 0, .int 0, .int (-1), .int (-1), .ref 118, .ref 119, .ref 120, .ref 121, .ref 122, .ref 123, .ref 124, .ref 125, .ref 126, .ref 127, .ref 128, .ref 129, .int 0, .ref 130, .ref 131, .ref 132, .ref 133, .ref 134, .int 0, .int 0]))) (hk100 : fh 100 = some (.inl (0, 4870, .inl (upd (fun _ => 0) 63 (-1))))) (hk111 : fh 111 = some (.inl (0, 1260, .inl (fun _ => 0)))) : JM l G yX12_post MX12_post { frames := 3, cells := 0, slots := 0, locals := 69 } [.ref 98, .int 0, .int 0, .int 0, .int 0] (nh, fh) (fun r h9 => r = some (.int (-1)) ∧ h9 = (nh, hc fh [(98, .inr (12, [.int 0, .int 0, .ref 99, .ref 100, .ref 101, .ref 102, .ref 103, .ref 104, .ref 105, .int 0, .int (-1), .ref 106, .ref 107, .ref 108, .int 0, .int 0, .int 0, .int 0, .int 0, .int 0, .int 0, .ref 109, .int 0, .int 0, .ref 110, .ref 111, .ref 112, .ref 113, .ref 114, .ref 115, .ref 116, .ref 117, .int 1, .int 0, .int 0, .int (-1), .ref 118, .ref 119, .ref 120, .ref 121, .ref 122, .ref 123, .ref 124, .ref 125, .ref 126, .ref 127, .ref 128, .ref 129, .int 0, .ref 130, .ref 131, .ref 132, .ref 133, .ref 134, .int 0, .int 0])), (111, .inl (0, 1260, .inl (upd (fun _ => 0) 0 0)))])) := by
  refine JM.of (by decide) rfl (fun h => by cases h) (Nat.le_of_ble_eq_true rfl) ⟨8, rfl⟩ ?_
  refine J_hc0 (J_ls (ls2 := [some (.ref 98), some (.int 0), some (.int 0), some (.int 0), some (.int 0), none, none, none, none, none, none, none, none]) rfl ?_)
  refine J_aload_n dX12_post_0 rfl rfl ?_
  refine J_iload_n dX12_post_1 rfl rfl ?_
  refine J_callV (st := []) dX12_post_2 cv_X12_325 (c_X12_isHouse_2 hk98 hk100 hk111) hk98 rfl rfl (Nat.le_of_ble_eq_true rfl) ⟨(Nat.le_of_ble_eq_true rfl), (Nat.le_of_ble_eq_true rfl)⟩ ⟨(Nat.le_of_ble_eq_true rfl), (Nat.le_of_ble_eq_true rfl)⟩ (fun r h9 hp => ?_)
  obtain ⟨rfl, rfl⟩ := hp
  refine J_nf (nh2 := nh) (ck2 := 0) (sk2 := 0) (st2 := [.int 1]) rfl rfl rfl rfl ?_
  refine J_app (L3 := [(98, .inr (12, [.int 0, .int 0, .ref 99, .ref 100, .ref 101, .ref 102, .ref 103, .ref 104, .ref 105, .int 0, .int (-1), .ref 106, .ref 107, .ref 108, .int 0, .int 0, .int 0, .int 0, .int 0, .int 0, .int 0, .ref 109, .int 0, .int 0, .ref 110, .ref 111, .ref 112, .ref 113, .ref 114, .ref 115, .ref 116, .ref 117, .int 1, .int 0, .int 0, .int (-1), .ref 118, .ref 119, .ref 120, .ref 121, .ref 122, .ref 123, .ref 124, .ref 125, .ref 126, .ref 127, .ref 128, .ref 129, .int 0, .ref 130, .ref 131, .ref 132, .ref 133, .ref 134, .int 0, .int 0])), (111, .inl (0, 1260, .inl (upd (fun _ => 0) 0 0)))]) rfl ?_
  refine J_if_eq (tgt := 53) dX12_post_5 (by decide) (fun q => absurd q (by decide +kernel)) (fun _ => ?_)
  refine J_aload_n dX12_post_8 rfl rfl ?_
  refine J_iload_n dX12_post_9 rfl rfl ?_
  refine J_callV (st := []) dX12_post_10 cv_X12_325 (c_X12_isHouse_5 rfl) rfl rfl rfl (Nat.le_of_ble_eq_true rfl) ⟨(Nat.le_of_ble_eq_true rfl), (Nat.le_of_ble_eq_true rfl)⟩ ⟨(Nat.le_of_ble_eq_true rfl), (Nat.le_of_ble_eq_true rfl)⟩ (fun r h9 hp => ?_)
  obtain ⟨rfl, rfl⟩ := hp
  refine J_nf (nh2 := nh) (ck2 := 0) (sk2 := 0) (st2 := [.int 1]) rfl rfl rfl rfl ?_
  refine J_if_eq (tgt := 53) dX12_post_13 (by decide) (fun q => absurd q (by decide +kernel)) (fun _ => ?_)
  refine J_aload_n dX12_post_16 rfl rfl ?_
  refine J_iload_n dX12_post_17 rfl rfl ?_
  refine J_callV (st := []) dX12_post_18 cv_X12_325 (c_X12_isHouse_5 rfl) rfl rfl rfl (Nat.le_of_ble_eq_true rfl) ⟨(Nat.le_of_ble_eq_true rfl), (Nat.le_of_ble_eq_true rfl)⟩ ⟨(Nat.le_of_ble_eq_true rfl), (Nat.le_of_ble_eq_true rfl)⟩ (fun r h9 hp => ?_)
  obtain ⟨rfl, rfl⟩ := hp
  refine J_nf (nh2 := nh) (ck2 := 0) (sk2 := 0) (st2 := [.int 1]) rfl rfl rfl rfl ?_
  refine J_if_eq (tgt := 53) dX12_post_21 (by decide) (fun q => absurd q (by decide +kernel)) (fun _ => ?_)
  refine J_aload_n dX12_post_24 rfl rfl ?_
  refine J_iload dX12_post_25 rfl ?_
  refine J_callV (st := []) dX12_post_27 cv_X12_325 (c_X12_isHouse_5 rfl) rfl rfl rfl (Nat.le_of_ble_eq_true rfl) ⟨(Nat.le_of_ble_eq_true rfl), (Nat.le_of_ble_eq_true rfl)⟩ ⟨(Nat.le_of_ble_eq_true rfl), (Nat.le_of_ble_eq_true rfl)⟩ (fun r h9 hp => ?_)
  obtain ⟨rfl, rfl⟩ := hp
  refine J_nf (nh2 := nh) (ck2 := 0) (sk2 := 0) (st2 := [.int 1]) rfl rfl rfl rfl ?_
  refine J_if_eq (tgt := 53) dX12_post_30 (by decide) (fun q => absurd q (by decide +kernel)) (fun _ => ?_)
  refine J_iload_n dX12_post_33 rfl rfl ?_
  refine J_iload_n dX12_post_34 rfl rfl ?_
  refine J_icmp_eq (tgt := 53) dX12_post_35 (by decide) (fun _ => ?_) (fun q => absurd (by decide +kernel) q)
  refine J_iconst (v := (-1)) dX12_post_53 (by decide) ?_
  exact J_iret dX12_post_54 rfl rfl (Nat.le_of_ble_eq_true rfl) (Nat.le_of_ble_eq_true rfl) ⟨rfl, rfl⟩
set_option maxHeartbeats 4000000 in
set_option maxRecDepth 100000 in
theorem c_X11_post_6 {l : Launch} {G : jG} {nh : Nat} {fh : Nat → Option va_E} (a4 : Int32) (b_a4 : 1 ≤ a4.toInt ∧ a4.toInt ≤ 2147483647) (hk0 : fh 0 = some (.inr (11, [.ref 1, .ref 17, .ref 50, .ref 51, .ref 54, .ref 57, .ref 65, .ref 75, .ref 81, .ref 85, .ref 88, .ref 93, .ref 96, .int 0, .int (-1), .ref 97, .int 0]))) (hk51 : fh 51 = some (.inr (0, [.ref 52, .ref 53, .int 1, .int 0]))) : JM l G yX11_post MX11_post { frames := 1, cells := 0, slots := 0, locals := 21 } [.ref 0, .int 0, .int 0, .int 0, .int a4] (nh, fh) (fun r h9 => r = some (.int (-1)) ∧ h9 = (nh, fh)) := by
  refine JM.of (by decide) rfl (fun h => by cases h) (Nat.le_of_ble_eq_true rfl) ⟨0, rfl⟩ ?_
  refine J_hc0 (J_ls (ls2 := [some (.ref 0), some (.int 0), some (.int 0), some (.int 0), some (.int a4)]) rfl ?_)
  refine J_aload_n dX11_post_0 rfl rfl ?_
  refine J_get (v := .ref 51) dX11_post_1 fl_X11_27 hk0 rfl ?_
  refine J_callV (st := []) dX11_post_4 cv_X11_132 (c_X0_many_1 hk51) hk51 rfl rfl (Nat.le_of_ble_eq_true rfl) ⟨(Nat.le_of_ble_eq_true rfl), (Nat.le_of_ble_eq_true rfl)⟩ ⟨(Nat.le_of_ble_eq_true rfl), (Nat.le_of_ble_eq_true rfl)⟩ (fun r h9 hp => ?_)
  obtain ⟨rfl, rfl⟩ := hp
  refine J_nf (nh2 := nh) (ck2 := 0) (sk2 := 0) (st2 := [.int 1]) rfl rfl rfl rfl ?_
  refine J_bipush (v := 40) dX11_post_7 (by decide +kernel) ?_
  refine J_icmp_gt (tgt := 57) dX11_post_9 (by decide) (fun q => absurd q (by decide +kernel)) (fun _ => ?_)
  refine J_aload_n dX11_post_12 rfl rfl ?_
  refine J_get (v := .ref 51) dX11_post_13 fl_X11_27 hk0 rfl ?_
  refine J_iload_n dX11_post_16 rfl rfl ?_
  refine J_callV (st := []) dX11_post_17 cv_X11_135 (c_X0_has_2 hk51) hk51 rfl rfl (Nat.le_of_ble_eq_true rfl) ⟨(Nat.le_of_ble_eq_true rfl), (Nat.le_of_ble_eq_true rfl)⟩ ⟨(Nat.le_of_ble_eq_true rfl), (Nat.le_of_ble_eq_true rfl)⟩ (fun r h9 hp => ?_)
  obtain ⟨rfl, rfl⟩ := hp
  refine J_nf (nh2 := nh) (ck2 := 0) (sk2 := 0) (st2 := [.int 1]) rfl rfl rfl rfl ?_
  refine J_if_eq (tgt := 57) dX11_post_20 (by decide) (fun q => absurd q (by decide +kernel)) (fun _ => ?_)
  refine J_aload_n dX11_post_23 rfl rfl ?_
  refine J_get (v := .ref 51) dX11_post_24 fl_X11_27 hk0 rfl ?_
  refine J_iload_n dX11_post_27 rfl rfl ?_
  refine J_callV (st := []) dX11_post_28 cv_X11_135 (c_X0_has_2 hk51) hk51 rfl rfl (Nat.le_of_ble_eq_true rfl) ⟨(Nat.le_of_ble_eq_true rfl), (Nat.le_of_ble_eq_true rfl)⟩ ⟨(Nat.le_of_ble_eq_true rfl), (Nat.le_of_ble_eq_true rfl)⟩ (fun r h9 hp => ?_)
  obtain ⟨rfl, rfl⟩ := hp
  refine J_nf (nh2 := nh) (ck2 := 0) (sk2 := 0) (st2 := [.int 1]) rfl rfl rfl rfl ?_
  refine J_if_eq (tgt := 57) dX11_post_31 (by decide) (fun q => absurd q (by decide +kernel)) (fun _ => ?_)
  refine J_aload_n dX11_post_34 rfl rfl ?_
  refine J_get (v := .ref 51) dX11_post_35 fl_X11_27 hk0 rfl ?_
  refine J_iload_n dX11_post_38 rfl rfl ?_
  refine J_callV (st := []) dX11_post_39 cv_X11_135 (c_X0_has_2 hk51) hk51 rfl rfl (Nat.le_of_ble_eq_true rfl) ⟨(Nat.le_of_ble_eq_true rfl), (Nat.le_of_ble_eq_true rfl)⟩ ⟨(Nat.le_of_ble_eq_true rfl), (Nat.le_of_ble_eq_true rfl)⟩ (fun r h9 hp => ?_)
  obtain ⟨rfl, rfl⟩ := hp
  refine J_nf (nh2 := nh) (ck2 := 0) (sk2 := 0) (st2 := [.int 1]) rfl rfl rfl rfl ?_
  refine J_if_eq (tgt := 57) dX11_post_42 (by decide) (fun q => absurd q (by decide +kernel)) (fun _ => ?_)
  refine J_aload_n dX11_post_45 rfl rfl ?_
  refine J_get (v := .ref 51) dX11_post_46 fl_X11_27 hk0 rfl ?_
  refine J_iload dX11_post_49 rfl ?_
  refine J_callV (st := []) dX11_post_51 cv_X11_135 (c_X0_has_3 (a4) b_a4 hk51) hk51 rfl rfl (Nat.le_of_ble_eq_true rfl) ⟨(Nat.le_of_ble_eq_true rfl), (Nat.le_of_ble_eq_true rfl)⟩ ⟨(Nat.le_of_ble_eq_true rfl), (Nat.le_of_ble_eq_true rfl)⟩ (fun r h9 hp => ?_)
  obtain ⟨rfl, rfl⟩ := hp
  refine J_nf (nh2 := nh) (ck2 := 0) (sk2 := 0) (st2 := [.int 0]) rfl rfl rfl rfl ?_
  refine J_if_ne (tgt := 59) dX11_post_54 (by decide) (fun q => absurd (by decide +kernel) q) (fun _ => ?_)
  refine J_iconst (v := (-1)) dX11_post_57 (by decide) ?_
  exact J_iret dX11_post_58 rfl rfl (Nat.le_of_ble_eq_true rfl) (Nat.le_of_ble_eq_true rfl) ⟨rfl, rfl⟩
set_option maxHeartbeats 4000000 in
set_option maxRecDepth 100000 in
theorem c_X12_post_6 {l : Launch} {G : jG} {nh : Nat} {fh : Nat → Option va_E} (a4 : Int32) (b_a4 : 1 ≤ a4.toInt ∧ a4.toInt ≤ 2147483647) (hk98 : fh 98 = some (.inr (12, [.int 0, .int 0, .ref 99, .ref 100, .ref 101, .ref 102, .ref 103, .ref 104, .ref 105, .int 0, .int (-1), .ref 106, .ref 107, .ref 108, .int 0, .int 0, .int 0, .int 0, .int 0, .int 0, .int 0, .ref 109, .int 0, .int 0, .ref 110, .ref 111, .ref 112, .ref 113, .ref 114, .ref 115, .ref 116, .ref 117, .int 0, .int 0, .int (-1), .int (-1), .ref 118, .ref 119, .ref 120, .ref 121, .ref 122, .ref 123, .ref 124, .ref 125, .ref 126, .ref 127, .ref 128, .ref 129, .int 0, .ref 130, .ref 131, .ref 132, .ref 133, .ref 134, .int 0, .int 0]))) (hk100 : fh 100 = some (.inl (0, 4870, .inl (upd (fun _ => 0) 63 (-1))))) (hk111 : fh 111 = some (.inl (0, 1260, .inl (fun _ => 0)))) : JM l G yX12_post MX12_post { frames := 3, cells := 0, slots := 0, locals := 69 } [.ref 98, .int 0, .int 0, .int 0, .int a4] (nh, fh) (fun r h9 => r = some (.int (-1)) ∧ h9 = (nh, hc fh [(98, .inr (12, [.int 0, .int 0, .ref 99, .ref 100, .ref 101, .ref 102, .ref 103, .ref 104, .ref 105, .int 0, .int (-1), .ref 106, .ref 107, .ref 108, .int 0, .int 0, .int 0, .int 0, .int 0, .int 0, .int 0, .ref 109, .int 0, .int 0, .ref 110, .ref 111, .ref 112, .ref 113, .ref 114, .ref 115, .ref 116, .ref 117, .int 1, .int 0, .int 0, .int (-1), .ref 118, .ref 119, .ref 120, .ref 121, .ref 122, .ref 123, .ref 124, .ref 125, .ref 126, .ref 127, .ref 128, .ref 129, .int 0, .ref 130, .ref 131, .ref 132, .ref 133, .ref 134, .int 0, .int 0])), (111, .inl (0, 1260, .inl (upd (fun _ => 0) 0 0)))])) := by
  refine JM.of (by decide) rfl (fun h => by cases h) (Nat.le_of_ble_eq_true rfl) ⟨8, rfl⟩ ?_
  refine J_hc0 (J_ls (ls2 := [some (.ref 98), some (.int 0), some (.int 0), some (.int 0), some (.int a4), none, none, none, none, none, none, none, none]) rfl ?_)
  refine J_aload_n dX12_post_0 rfl rfl ?_
  refine J_iload_n dX12_post_1 rfl rfl ?_
  refine J_callV (st := []) dX12_post_2 cv_X12_325 (c_X12_isHouse_2 hk98 hk100 hk111) hk98 rfl rfl (Nat.le_of_ble_eq_true rfl) ⟨(Nat.le_of_ble_eq_true rfl), (Nat.le_of_ble_eq_true rfl)⟩ ⟨(Nat.le_of_ble_eq_true rfl), (Nat.le_of_ble_eq_true rfl)⟩ (fun r h9 hp => ?_)
  obtain ⟨rfl, rfl⟩ := hp
  refine J_nf (nh2 := nh) (ck2 := 0) (sk2 := 0) (st2 := [.int 1]) rfl rfl rfl rfl ?_
  refine J_app (L3 := [(98, .inr (12, [.int 0, .int 0, .ref 99, .ref 100, .ref 101, .ref 102, .ref 103, .ref 104, .ref 105, .int 0, .int (-1), .ref 106, .ref 107, .ref 108, .int 0, .int 0, .int 0, .int 0, .int 0, .int 0, .int 0, .ref 109, .int 0, .int 0, .ref 110, .ref 111, .ref 112, .ref 113, .ref 114, .ref 115, .ref 116, .ref 117, .int 1, .int 0, .int 0, .int (-1), .ref 118, .ref 119, .ref 120, .ref 121, .ref 122, .ref 123, .ref 124, .ref 125, .ref 126, .ref 127, .ref 128, .ref 129, .int 0, .ref 130, .ref 131, .ref 132, .ref 133, .ref 134, .int 0, .int 0])), (111, .inl (0, 1260, .inl (upd (fun _ => 0) 0 0)))]) rfl ?_
  refine J_if_eq (tgt := 53) dX12_post_5 (by decide) (fun q => absurd q (by decide +kernel)) (fun _ => ?_)
  refine J_aload_n dX12_post_8 rfl rfl ?_
  refine J_iload_n dX12_post_9 rfl rfl ?_
  refine J_callV (st := []) dX12_post_10 cv_X12_325 (c_X12_isHouse_5 rfl) rfl rfl rfl (Nat.le_of_ble_eq_true rfl) ⟨(Nat.le_of_ble_eq_true rfl), (Nat.le_of_ble_eq_true rfl)⟩ ⟨(Nat.le_of_ble_eq_true rfl), (Nat.le_of_ble_eq_true rfl)⟩ (fun r h9 hp => ?_)
  obtain ⟨rfl, rfl⟩ := hp
  refine J_nf (nh2 := nh) (ck2 := 0) (sk2 := 0) (st2 := [.int 1]) rfl rfl rfl rfl ?_
  refine J_if_eq (tgt := 53) dX12_post_13 (by decide) (fun q => absurd q (by decide +kernel)) (fun _ => ?_)
  refine J_aload_n dX12_post_16 rfl rfl ?_
  refine J_iload_n dX12_post_17 rfl rfl ?_
  refine J_callV (st := []) dX12_post_18 cv_X12_325 (c_X12_isHouse_5 rfl) rfl rfl rfl (Nat.le_of_ble_eq_true rfl) ⟨(Nat.le_of_ble_eq_true rfl), (Nat.le_of_ble_eq_true rfl)⟩ ⟨(Nat.le_of_ble_eq_true rfl), (Nat.le_of_ble_eq_true rfl)⟩ (fun r h9 hp => ?_)
  obtain ⟨rfl, rfl⟩ := hp
  refine J_nf (nh2 := nh) (ck2 := 0) (sk2 := 0) (st2 := [.int 1]) rfl rfl rfl rfl ?_
  refine J_if_eq (tgt := 53) dX12_post_21 (by decide) (fun q => absurd q (by decide +kernel)) (fun _ => ?_)
  refine J_aload_n dX12_post_24 rfl rfl ?_
  refine J_iload dX12_post_25 rfl ?_
  refine J_callV (st := []) dX12_post_27 cv_X12_325 (c_X12_isHouse_6 (a4) b_a4 rfl) rfl rfl rfl (Nat.le_of_ble_eq_true rfl) ⟨(Nat.le_of_ble_eq_true rfl), (Nat.le_of_ble_eq_true rfl)⟩ ⟨(Nat.le_of_ble_eq_true rfl), (Nat.le_of_ble_eq_true rfl)⟩ (fun r h9 hp => ?_)
  obtain ⟨rfl, rfl⟩ := hp
  refine J_nf (nh2 := nh) (ck2 := 0) (sk2 := 0) (st2 := [.int 0]) rfl rfl rfl rfl ?_
  refine J_if_eq (tgt := 53) dX12_post_30 (by decide) (fun _ => ?_) (fun q => absurd (by decide +kernel) q)
  refine J_iconst (v := (-1)) dX12_post_53 (by decide) ?_
  exact J_iret dX12_post_54 rfl rfl (Nat.le_of_ble_eq_true rfl) (Nat.le_of_ble_eq_true rfl) ⟨rfl, rfl⟩
set_option maxHeartbeats 4000000 in
set_option maxRecDepth 100000 in
theorem c_X11_post_7 {l : Launch} {G : jG} {nh : Nat} {fh : Nat → Option va_E} (a3 : Int32) (b_a3 : 1 ≤ a3.toInt ∧ a3.toInt ≤ 2147483647) (a4 : Int32) (b_a4 : (-2147483648) ≤ a4.toInt ∧ a4.toInt ≤ 2147483647) (hk0 : fh 0 = some (.inr (11, [.ref 1, .ref 17, .ref 50, .ref 51, .ref 54, .ref 57, .ref 65, .ref 75, .ref 81, .ref 85, .ref 88, .ref 93, .ref 96, .int 0, .int (-1), .ref 97, .int 0]))) (hk51 : fh 51 = some (.inr (0, [.ref 52, .ref 53, .int 1, .int 0]))) : JM l G yX11_post MX11_post { frames := 1, cells := 0, slots := 0, locals := 21 } [.ref 0, .int 0, .int 0, .int a3, .int a4] (nh, fh) (fun r h9 => r = some (.int (-1)) ∧ h9 = (nh, fh)) := by
  refine JM.of (by decide) rfl (fun h => by cases h) (Nat.le_of_ble_eq_true rfl) ⟨0, rfl⟩ ?_
  refine J_hc0 (J_ls (ls2 := [some (.ref 0), some (.int 0), some (.int 0), some (.int a3), some (.int a4)]) rfl ?_)
  refine J_aload_n dX11_post_0 rfl rfl ?_
  refine J_get (v := .ref 51) dX11_post_1 fl_X11_27 hk0 rfl ?_
  refine J_callV (st := []) dX11_post_4 cv_X11_132 (c_X0_many_1 hk51) hk51 rfl rfl (Nat.le_of_ble_eq_true rfl) ⟨(Nat.le_of_ble_eq_true rfl), (Nat.le_of_ble_eq_true rfl)⟩ ⟨(Nat.le_of_ble_eq_true rfl), (Nat.le_of_ble_eq_true rfl)⟩ (fun r h9 hp => ?_)
  obtain ⟨rfl, rfl⟩ := hp
  refine J_nf (nh2 := nh) (ck2 := 0) (sk2 := 0) (st2 := [.int 1]) rfl rfl rfl rfl ?_
  refine J_bipush (v := 40) dX11_post_7 (by decide +kernel) ?_
  refine J_icmp_gt (tgt := 57) dX11_post_9 (by decide) (fun q => absurd q (by decide +kernel)) (fun _ => ?_)
  refine J_aload_n dX11_post_12 rfl rfl ?_
  refine J_get (v := .ref 51) dX11_post_13 fl_X11_27 hk0 rfl ?_
  refine J_iload_n dX11_post_16 rfl rfl ?_
  refine J_callV (st := []) dX11_post_17 cv_X11_135 (c_X0_has_2 hk51) hk51 rfl rfl (Nat.le_of_ble_eq_true rfl) ⟨(Nat.le_of_ble_eq_true rfl), (Nat.le_of_ble_eq_true rfl)⟩ ⟨(Nat.le_of_ble_eq_true rfl), (Nat.le_of_ble_eq_true rfl)⟩ (fun r h9 hp => ?_)
  obtain ⟨rfl, rfl⟩ := hp
  refine J_nf (nh2 := nh) (ck2 := 0) (sk2 := 0) (st2 := [.int 1]) rfl rfl rfl rfl ?_
  refine J_if_eq (tgt := 57) dX11_post_20 (by decide) (fun q => absurd q (by decide +kernel)) (fun _ => ?_)
  refine J_aload_n dX11_post_23 rfl rfl ?_
  refine J_get (v := .ref 51) dX11_post_24 fl_X11_27 hk0 rfl ?_
  refine J_iload_n dX11_post_27 rfl rfl ?_
  refine J_callV (st := []) dX11_post_28 cv_X11_135 (c_X0_has_2 hk51) hk51 rfl rfl (Nat.le_of_ble_eq_true rfl) ⟨(Nat.le_of_ble_eq_true rfl), (Nat.le_of_ble_eq_true rfl)⟩ ⟨(Nat.le_of_ble_eq_true rfl), (Nat.le_of_ble_eq_true rfl)⟩ (fun r h9 hp => ?_)
  obtain ⟨rfl, rfl⟩ := hp
  refine J_nf (nh2 := nh) (ck2 := 0) (sk2 := 0) (st2 := [.int 1]) rfl rfl rfl rfl ?_
  refine J_if_eq (tgt := 57) dX11_post_31 (by decide) (fun q => absurd q (by decide +kernel)) (fun _ => ?_)
  refine J_aload_n dX11_post_34 rfl rfl ?_
  refine J_get (v := .ref 51) dX11_post_35 fl_X11_27 hk0 rfl ?_
  refine J_iload_n dX11_post_38 rfl rfl ?_
  refine J_callV (st := []) dX11_post_39 cv_X11_135 (c_X0_has_3 (a3) b_a3 hk51) hk51 rfl rfl (Nat.le_of_ble_eq_true rfl) ⟨(Nat.le_of_ble_eq_true rfl), (Nat.le_of_ble_eq_true rfl)⟩ ⟨(Nat.le_of_ble_eq_true rfl), (Nat.le_of_ble_eq_true rfl)⟩ (fun r h9 hp => ?_)
  obtain ⟨rfl, rfl⟩ := hp
  refine J_nf (nh2 := nh) (ck2 := 0) (sk2 := 0) (st2 := [.int 0]) rfl rfl rfl rfl ?_
  refine J_if_eq (tgt := 57) dX11_post_42 (by decide) (fun _ => ?_) (fun q => absurd (by decide +kernel) q)
  refine J_iconst (v := (-1)) dX11_post_57 (by decide) ?_
  exact J_iret dX11_post_58 rfl rfl (Nat.le_of_ble_eq_true rfl) (Nat.le_of_ble_eq_true rfl) ⟨rfl, rfl⟩
set_option maxHeartbeats 4000000 in
set_option maxRecDepth 100000 in
theorem c_X12_post_7 {l : Launch} {G : jG} {nh : Nat} {fh : Nat → Option va_E} (a3 : Int32) (b_a3 : 1 ≤ a3.toInt ∧ a3.toInt ≤ 2147483647) (a4 : Int32) (b_a4 : (-2147483648) ≤ a4.toInt ∧ a4.toInt ≤ 2147483647) (hk98 : fh 98 = some (.inr (12, [.int 0, .int 0, .ref 99, .ref 100, .ref 101, .ref 102, .ref 103, .ref 104, .ref 105, .int 0, .int (-1), .ref 106, .ref 107, .ref 108, .int 0, .int 0, .int 0, .int 0, .int 0, .int 0, .int 0, .ref 109, .int 0, .int 0, .ref 110, .ref 111, .ref 112, .ref 113, .ref 114, .ref 115, .ref 116, .ref 117, .int 0, .int 0, .int (-1), .int (-1), .ref 118, .ref 119, .ref 120, .ref 121, .ref 122, .ref 123, .ref 124, .ref 125, .ref 126, .ref 127, .ref 128, .ref 129, .int 0, .ref 130, .ref 131, .ref 132, .ref 133, .ref 134, .int 0, .int 0]))) (hk100 : fh 100 = some (.inl (0, 4870, .inl (upd (fun _ => 0) 63 (-1))))) (hk111 : fh 111 = some (.inl (0, 1260, .inl (fun _ => 0)))) : JM l G yX12_post MX12_post { frames := 3, cells := 0, slots := 0, locals := 69 } [.ref 98, .int 0, .int 0, .int a3, .int a4] (nh, fh) (fun r h9 => r = some (.int (-1)) ∧ h9 = (nh, hc fh [(98, .inr (12, [.int 0, .int 0, .ref 99, .ref 100, .ref 101, .ref 102, .ref 103, .ref 104, .ref 105, .int 0, .int (-1), .ref 106, .ref 107, .ref 108, .int 0, .int 0, .int 0, .int 0, .int 0, .int 0, .int 0, .ref 109, .int 0, .int 0, .ref 110, .ref 111, .ref 112, .ref 113, .ref 114, .ref 115, .ref 116, .ref 117, .int 1, .int 0, .int 0, .int (-1), .ref 118, .ref 119, .ref 120, .ref 121, .ref 122, .ref 123, .ref 124, .ref 125, .ref 126, .ref 127, .ref 128, .ref 129, .int 0, .ref 130, .ref 131, .ref 132, .ref 133, .ref 134, .int 0, .int 0])), (111, .inl (0, 1260, .inl (upd (fun _ => 0) 0 0)))])) := by
  refine JM.of (by decide) rfl (fun h => by cases h) (Nat.le_of_ble_eq_true rfl) ⟨8, rfl⟩ ?_
  refine J_hc0 (J_ls (ls2 := [some (.ref 98), some (.int 0), some (.int 0), some (.int a3), some (.int a4), none, none, none, none, none, none, none, none]) rfl ?_)
  refine J_aload_n dX12_post_0 rfl rfl ?_
  refine J_iload_n dX12_post_1 rfl rfl ?_
  refine J_callV (st := []) dX12_post_2 cv_X12_325 (c_X12_isHouse_2 hk98 hk100 hk111) hk98 rfl rfl (Nat.le_of_ble_eq_true rfl) ⟨(Nat.le_of_ble_eq_true rfl), (Nat.le_of_ble_eq_true rfl)⟩ ⟨(Nat.le_of_ble_eq_true rfl), (Nat.le_of_ble_eq_true rfl)⟩ (fun r h9 hp => ?_)
  obtain ⟨rfl, rfl⟩ := hp
  refine J_nf (nh2 := nh) (ck2 := 0) (sk2 := 0) (st2 := [.int 1]) rfl rfl rfl rfl ?_
  refine J_app (L3 := [(98, .inr (12, [.int 0, .int 0, .ref 99, .ref 100, .ref 101, .ref 102, .ref 103, .ref 104, .ref 105, .int 0, .int (-1), .ref 106, .ref 107, .ref 108, .int 0, .int 0, .int 0, .int 0, .int 0, .int 0, .int 0, .ref 109, .int 0, .int 0, .ref 110, .ref 111, .ref 112, .ref 113, .ref 114, .ref 115, .ref 116, .ref 117, .int 1, .int 0, .int 0, .int (-1), .ref 118, .ref 119, .ref 120, .ref 121, .ref 122, .ref 123, .ref 124, .ref 125, .ref 126, .ref 127, .ref 128, .ref 129, .int 0, .ref 130, .ref 131, .ref 132, .ref 133, .ref 134, .int 0, .int 0])), (111, .inl (0, 1260, .inl (upd (fun _ => 0) 0 0)))]) rfl ?_
  refine J_if_eq (tgt := 53) dX12_post_5 (by decide) (fun q => absurd q (by decide +kernel)) (fun _ => ?_)
  refine J_aload_n dX12_post_8 rfl rfl ?_
  refine J_iload_n dX12_post_9 rfl rfl ?_
  refine J_callV (st := []) dX12_post_10 cv_X12_325 (c_X12_isHouse_5 rfl) rfl rfl rfl (Nat.le_of_ble_eq_true rfl) ⟨(Nat.le_of_ble_eq_true rfl), (Nat.le_of_ble_eq_true rfl)⟩ ⟨(Nat.le_of_ble_eq_true rfl), (Nat.le_of_ble_eq_true rfl)⟩ (fun r h9 hp => ?_)
  obtain ⟨rfl, rfl⟩ := hp
  refine J_nf (nh2 := nh) (ck2 := 0) (sk2 := 0) (st2 := [.int 1]) rfl rfl rfl rfl ?_
  refine J_if_eq (tgt := 53) dX12_post_13 (by decide) (fun q => absurd q (by decide +kernel)) (fun _ => ?_)
  refine J_aload_n dX12_post_16 rfl rfl ?_
  refine J_iload_n dX12_post_17 rfl rfl ?_
  refine J_callV (st := []) dX12_post_18 cv_X12_325 (c_X12_isHouse_6 (a3) b_a3 rfl) rfl rfl rfl (Nat.le_of_ble_eq_true rfl) ⟨(Nat.le_of_ble_eq_true rfl), (Nat.le_of_ble_eq_true rfl)⟩ ⟨(Nat.le_of_ble_eq_true rfl), (Nat.le_of_ble_eq_true rfl)⟩ (fun r h9 hp => ?_)
  obtain ⟨rfl, rfl⟩ := hp
  refine J_nf (nh2 := nh) (ck2 := 0) (sk2 := 0) (st2 := [.int 0]) rfl rfl rfl rfl ?_
  refine J_if_eq (tgt := 53) dX12_post_21 (by decide) (fun _ => ?_) (fun q => absurd (by decide +kernel) q)
  refine J_iconst (v := (-1)) dX12_post_53 (by decide) ?_
  exact J_iret dX12_post_54 rfl rfl (Nat.le_of_ble_eq_true rfl) (Nat.le_of_ble_eq_true rfl) ⟨rfl, rfl⟩
set_option maxHeartbeats 4000000 in
set_option maxRecDepth 100000 in
theorem c_X11_post_8 {l : Launch} {G : jG} {nh : Nat} {fh : Nat → Option va_E} (a2 : Int32) (b_a2 : 1 ≤ a2.toInt ∧ a2.toInt ≤ 2147483647) (a3 : Int32) (b_a3 : (-2147483648) ≤ a3.toInt ∧ a3.toInt ≤ 2147483647) (a4 : Int32) (b_a4 : (-2147483648) ≤ a4.toInt ∧ a4.toInt ≤ 2147483647) (hk0 : fh 0 = some (.inr (11, [.ref 1, .ref 17, .ref 50, .ref 51, .ref 54, .ref 57, .ref 65, .ref 75, .ref 81, .ref 85, .ref 88, .ref 93, .ref 96, .int 0, .int (-1), .ref 97, .int 0]))) (hk51 : fh 51 = some (.inr (0, [.ref 52, .ref 53, .int 1, .int 0]))) : JM l G yX11_post MX11_post { frames := 1, cells := 0, slots := 0, locals := 21 } [.ref 0, .int 0, .int a2, .int a3, .int a4] (nh, fh) (fun r h9 => r = some (.int (-1)) ∧ h9 = (nh, fh)) := by
  refine JM.of (by decide) rfl (fun h => by cases h) (Nat.le_of_ble_eq_true rfl) ⟨0, rfl⟩ ?_
  refine J_hc0 (J_ls (ls2 := [some (.ref 0), some (.int 0), some (.int a2), some (.int a3), some (.int a4)]) rfl ?_)
  refine J_aload_n dX11_post_0 rfl rfl ?_
  refine J_get (v := .ref 51) dX11_post_1 fl_X11_27 hk0 rfl ?_
  refine J_callV (st := []) dX11_post_4 cv_X11_132 (c_X0_many_1 hk51) hk51 rfl rfl (Nat.le_of_ble_eq_true rfl) ⟨(Nat.le_of_ble_eq_true rfl), (Nat.le_of_ble_eq_true rfl)⟩ ⟨(Nat.le_of_ble_eq_true rfl), (Nat.le_of_ble_eq_true rfl)⟩ (fun r h9 hp => ?_)
  obtain ⟨rfl, rfl⟩ := hp
  refine J_nf (nh2 := nh) (ck2 := 0) (sk2 := 0) (st2 := [.int 1]) rfl rfl rfl rfl ?_
  refine J_bipush (v := 40) dX11_post_7 (by decide +kernel) ?_
  refine J_icmp_gt (tgt := 57) dX11_post_9 (by decide) (fun q => absurd q (by decide +kernel)) (fun _ => ?_)
  refine J_aload_n dX11_post_12 rfl rfl ?_
  refine J_get (v := .ref 51) dX11_post_13 fl_X11_27 hk0 rfl ?_
  refine J_iload_n dX11_post_16 rfl rfl ?_
  refine J_callV (st := []) dX11_post_17 cv_X11_135 (c_X0_has_2 hk51) hk51 rfl rfl (Nat.le_of_ble_eq_true rfl) ⟨(Nat.le_of_ble_eq_true rfl), (Nat.le_of_ble_eq_true rfl)⟩ ⟨(Nat.le_of_ble_eq_true rfl), (Nat.le_of_ble_eq_true rfl)⟩ (fun r h9 hp => ?_)
  obtain ⟨rfl, rfl⟩ := hp
  refine J_nf (nh2 := nh) (ck2 := 0) (sk2 := 0) (st2 := [.int 1]) rfl rfl rfl rfl ?_
  refine J_if_eq (tgt := 57) dX11_post_20 (by decide) (fun q => absurd q (by decide +kernel)) (fun _ => ?_)
  refine J_aload_n dX11_post_23 rfl rfl ?_
  refine J_get (v := .ref 51) dX11_post_24 fl_X11_27 hk0 rfl ?_
  refine J_iload_n dX11_post_27 rfl rfl ?_
  refine J_callV (st := []) dX11_post_28 cv_X11_135 (c_X0_has_3 (a2) b_a2 hk51) hk51 rfl rfl (Nat.le_of_ble_eq_true rfl) ⟨(Nat.le_of_ble_eq_true rfl), (Nat.le_of_ble_eq_true rfl)⟩ ⟨(Nat.le_of_ble_eq_true rfl), (Nat.le_of_ble_eq_true rfl)⟩ (fun r h9 hp => ?_)
  obtain ⟨rfl, rfl⟩ := hp
  refine J_nf (nh2 := nh) (ck2 := 0) (sk2 := 0) (st2 := [.int 0]) rfl rfl rfl rfl ?_
  refine J_if_eq (tgt := 57) dX11_post_31 (by decide) (fun _ => ?_) (fun q => absurd (by decide +kernel) q)
  refine J_iconst (v := (-1)) dX11_post_57 (by decide) ?_
  exact J_iret dX11_post_58 rfl rfl (Nat.le_of_ble_eq_true rfl) (Nat.le_of_ble_eq_true rfl) ⟨rfl, rfl⟩
set_option maxHeartbeats 4000000 in
set_option maxRecDepth 100000 in
theorem c_X12_post_8 {l : Launch} {G : jG} {nh : Nat} {fh : Nat → Option va_E} (a2 : Int32) (b_a2 : 1 ≤ a2.toInt ∧ a2.toInt ≤ 2147483647) (a3 : Int32) (b_a3 : (-2147483648) ≤ a3.toInt ∧ a3.toInt ≤ 2147483647) (a4 : Int32) (b_a4 : (-2147483648) ≤ a4.toInt ∧ a4.toInt ≤ 2147483647) (hk98 : fh 98 = some (.inr (12, [.int 0, .int 0, .ref 99, .ref 100, .ref 101, .ref 102, .ref 103, .ref 104, .ref 105, .int 0, .int (-1), .ref 106, .ref 107, .ref 108, .int 0, .int 0, .int 0, .int 0, .int 0, .int 0, .int 0, .ref 109, .int 0, .int 0, .ref 110, .ref 111, .ref 112, .ref 113, .ref 114, .ref 115, .ref 116, .ref 117, .int 0, .int 0, .int (-1), .int (-1), .ref 118, .ref 119, .ref 120, .ref 121, .ref 122, .ref 123, .ref 124, .ref 125, .ref 126, .ref 127, .ref 128, .ref 129, .int 0, .ref 130, .ref 131, .ref 132, .ref 133, .ref 134, .int 0, .int 0]))) (hk100 : fh 100 = some (.inl (0, 4870, .inl (upd (fun _ => 0) 63 (-1))))) (hk111 : fh 111 = some (.inl (0, 1260, .inl (fun _ => 0)))) : JM l G yX12_post MX12_post { frames := 3, cells := 0, slots := 0, locals := 69 } [.ref 98, .int 0, .int a2, .int a3, .int a4] (nh, fh) (fun r h9 => r = some (.int (-1)) ∧ h9 = (nh, hc fh [(98, .inr (12, [.int 0, .int 0, .ref 99, .ref 100, .ref 101, .ref 102, .ref 103, .ref 104, .ref 105, .int 0, .int (-1), .ref 106, .ref 107, .ref 108, .int 0, .int 0, .int 0, .int 0, .int 0, .int 0, .int 0, .ref 109, .int 0, .int 0, .ref 110, .ref 111, .ref 112, .ref 113, .ref 114, .ref 115, .ref 116, .ref 117, .int 1, .int 0, .int 0, .int (-1), .ref 118, .ref 119, .ref 120, .ref 121, .ref 122, .ref 123, .ref 124, .ref 125, .ref 126, .ref 127, .ref 128, .ref 129, .int 0, .ref 130, .ref 131, .ref 132, .ref 133, .ref 134, .int 0, .int 0])), (111, .inl (0, 1260, .inl (upd (fun _ => 0) 0 0)))])) := by
  refine JM.of (by decide) rfl (fun h => by cases h) (Nat.le_of_ble_eq_true rfl) ⟨8, rfl⟩ ?_
  refine J_hc0 (J_ls (ls2 := [some (.ref 98), some (.int 0), some (.int a2), some (.int a3), some (.int a4), none, none, none, none, none, none, none, none]) rfl ?_)
  refine J_aload_n dX12_post_0 rfl rfl ?_
  refine J_iload_n dX12_post_1 rfl rfl ?_
  refine J_callV (st := []) dX12_post_2 cv_X12_325 (c_X12_isHouse_2 hk98 hk100 hk111) hk98 rfl rfl (Nat.le_of_ble_eq_true rfl) ⟨(Nat.le_of_ble_eq_true rfl), (Nat.le_of_ble_eq_true rfl)⟩ ⟨(Nat.le_of_ble_eq_true rfl), (Nat.le_of_ble_eq_true rfl)⟩ (fun r h9 hp => ?_)
  obtain ⟨rfl, rfl⟩ := hp
  refine J_nf (nh2 := nh) (ck2 := 0) (sk2 := 0) (st2 := [.int 1]) rfl rfl rfl rfl ?_
  refine J_app (L3 := [(98, .inr (12, [.int 0, .int 0, .ref 99, .ref 100, .ref 101, .ref 102, .ref 103, .ref 104, .ref 105, .int 0, .int (-1), .ref 106, .ref 107, .ref 108, .int 0, .int 0, .int 0, .int 0, .int 0, .int 0, .int 0, .ref 109, .int 0, .int 0, .ref 110, .ref 111, .ref 112, .ref 113, .ref 114, .ref 115, .ref 116, .ref 117, .int 1, .int 0, .int 0, .int (-1), .ref 118, .ref 119, .ref 120, .ref 121, .ref 122, .ref 123, .ref 124, .ref 125, .ref 126, .ref 127, .ref 128, .ref 129, .int 0, .ref 130, .ref 131, .ref 132, .ref 133, .ref 134, .int 0, .int 0])), (111, .inl (0, 1260, .inl (upd (fun _ => 0) 0 0)))]) rfl ?_
  refine J_if_eq (tgt := 53) dX12_post_5 (by decide) (fun q => absurd q (by decide +kernel)) (fun _ => ?_)
  refine J_aload_n dX12_post_8 rfl rfl ?_
  refine J_iload_n dX12_post_9 rfl rfl ?_
  refine J_callV (st := []) dX12_post_10 cv_X12_325 (c_X12_isHouse_6 (a2) b_a2 rfl) rfl rfl rfl (Nat.le_of_ble_eq_true rfl) ⟨(Nat.le_of_ble_eq_true rfl), (Nat.le_of_ble_eq_true rfl)⟩ ⟨(Nat.le_of_ble_eq_true rfl), (Nat.le_of_ble_eq_true rfl)⟩ (fun r h9 hp => ?_)
  obtain ⟨rfl, rfl⟩ := hp
  refine J_nf (nh2 := nh) (ck2 := 0) (sk2 := 0) (st2 := [.int 0]) rfl rfl rfl rfl ?_
  refine J_if_eq (tgt := 53) dX12_post_13 (by decide) (fun _ => ?_) (fun q => absurd (by decide +kernel) q)
  refine J_iconst (v := (-1)) dX12_post_53 (by decide) ?_
  exact J_iret dX12_post_54 rfl rfl (Nat.le_of_ble_eq_true rfl) (Nat.le_of_ble_eq_true rfl) ⟨rfl, rfl⟩
set_option maxHeartbeats 4000000 in
set_option maxRecDepth 100000 in
theorem c_X11_post_9 {l : Launch} {G : jG} {nh : Nat} {fh : Nat → Option va_E} (a1 : Int32) (b_a1 : 1 ≤ a1.toInt ∧ a1.toInt ≤ 2147483647) (a2 : Int32) (b_a2 : (-2147483648) ≤ a2.toInt ∧ a2.toInt ≤ 2147483647) (a3 : Int32) (b_a3 : (-2147483648) ≤ a3.toInt ∧ a3.toInt ≤ 2147483647) (a4 : Int32) (b_a4 : (-2147483648) ≤ a4.toInt ∧ a4.toInt ≤ 2147483647) (hk0 : fh 0 = some (.inr (11, [.ref 1, .ref 17, .ref 50, .ref 51, .ref 54, .ref 57, .ref 65, .ref 75, .ref 81, .ref 85, .ref 88, .ref 93, .ref 96, .int 0, .int (-1), .ref 97, .int 0]))) (hk51 : fh 51 = some (.inr (0, [.ref 52, .ref 53, .int 1, .int 0]))) : JM l G yX11_post MX11_post { frames := 1, cells := 0, slots := 0, locals := 21 } [.ref 0, .int a1, .int a2, .int a3, .int a4] (nh, fh) (fun r h9 => r = some (.int (-1)) ∧ h9 = (nh, fh)) := by
  refine JM.of (by decide) rfl (fun h => by cases h) (Nat.le_of_ble_eq_true rfl) ⟨0, rfl⟩ ?_
  refine J_hc0 (J_ls (ls2 := [some (.ref 0), some (.int a1), some (.int a2), some (.int a3), some (.int a4)]) rfl ?_)
  refine J_aload_n dX11_post_0 rfl rfl ?_
  refine J_get (v := .ref 51) dX11_post_1 fl_X11_27 hk0 rfl ?_
  refine J_callV (st := []) dX11_post_4 cv_X11_132 (c_X0_many_1 hk51) hk51 rfl rfl (Nat.le_of_ble_eq_true rfl) ⟨(Nat.le_of_ble_eq_true rfl), (Nat.le_of_ble_eq_true rfl)⟩ ⟨(Nat.le_of_ble_eq_true rfl), (Nat.le_of_ble_eq_true rfl)⟩ (fun r h9 hp => ?_)
  obtain ⟨rfl, rfl⟩ := hp
  refine J_nf (nh2 := nh) (ck2 := 0) (sk2 := 0) (st2 := [.int 1]) rfl rfl rfl rfl ?_
  refine J_bipush (v := 40) dX11_post_7 (by decide +kernel) ?_
  refine J_icmp_gt (tgt := 57) dX11_post_9 (by decide) (fun q => absurd q (by decide +kernel)) (fun _ => ?_)
  refine J_aload_n dX11_post_12 rfl rfl ?_
  refine J_get (v := .ref 51) dX11_post_13 fl_X11_27 hk0 rfl ?_
  refine J_iload_n dX11_post_16 rfl rfl ?_
  refine J_callV (st := []) dX11_post_17 cv_X11_135 (c_X0_has_3 (a1) b_a1 hk51) hk51 rfl rfl (Nat.le_of_ble_eq_true rfl) ⟨(Nat.le_of_ble_eq_true rfl), (Nat.le_of_ble_eq_true rfl)⟩ ⟨(Nat.le_of_ble_eq_true rfl), (Nat.le_of_ble_eq_true rfl)⟩ (fun r h9 hp => ?_)
  obtain ⟨rfl, rfl⟩ := hp
  refine J_nf (nh2 := nh) (ck2 := 0) (sk2 := 0) (st2 := [.int 0]) rfl rfl rfl rfl ?_
  refine J_if_eq (tgt := 57) dX11_post_20 (by decide) (fun _ => ?_) (fun q => absurd (by decide +kernel) q)
  refine J_iconst (v := (-1)) dX11_post_57 (by decide) ?_
  exact J_iret dX11_post_58 rfl rfl (Nat.le_of_ble_eq_true rfl) (Nat.le_of_ble_eq_true rfl) ⟨rfl, rfl⟩
set_option maxHeartbeats 4000000 in
set_option maxRecDepth 100000 in
theorem c_X12_post_9 {l : Launch} {G : jG} {nh : Nat} {fh : Nat → Option va_E} (a1 : Int32) (b_a1 : 1 ≤ a1.toInt ∧ a1.toInt ≤ 2147483647) (a2 : Int32) (b_a2 : (-2147483648) ≤ a2.toInt ∧ a2.toInt ≤ 2147483647) (a3 : Int32) (b_a3 : (-2147483648) ≤ a3.toInt ∧ a3.toInt ≤ 2147483647) (a4 : Int32) (b_a4 : (-2147483648) ≤ a4.toInt ∧ a4.toInt ≤ 2147483647) (hk98 : fh 98 = some (.inr (12, [.int 0, .int 0, .ref 99, .ref 100, .ref 101, .ref 102, .ref 103, .ref 104, .ref 105, .int 0, .int (-1), .ref 106, .ref 107, .ref 108, .int 0, .int 0, .int 0, .int 0, .int 0, .int 0, .int 0, .ref 109, .int 0, .int 0, .ref 110, .ref 111, .ref 112, .ref 113, .ref 114, .ref 115, .ref 116, .ref 117, .int 0, .int 0, .int (-1), .int (-1), .ref 118, .ref 119, .ref 120, .ref 121, .ref 122, .ref 123, .ref 124, .ref 125, .ref 126, .ref 127, .ref 128, .ref 129, .int 0, .ref 130, .ref 131, .ref 132, .ref 133, .ref 134, .int 0, .int 0]))) (hk100 : fh 100 = some (.inl (0, 4870, .inl (upd (fun _ => 0) 63 (-1))))) (hk111 : fh 111 = some (.inl (0, 1260, .inl (fun _ => 0)))) : JM l G yX12_post MX12_post { frames := 3, cells := 0, slots := 0, locals := 69 } [.ref 98, .int a1, .int a2, .int a3, .int a4] (nh, fh) (fun r h9 => r = some (.int (-1)) ∧ h9 = (nh, hc fh [(98, .inr (12, [.int 0, .int 0, .ref 99, .ref 100, .ref 101, .ref 102, .ref 103, .ref 104, .ref 105, .int 0, .int (-1), .ref 106, .ref 107, .ref 108, .int 0, .int 0, .int 0, .int 0, .int 0, .int 0, .int 0, .ref 109, .int 0, .int 0, .ref 110, .ref 111, .ref 112, .ref 113, .ref 114, .ref 115, .ref 116, .ref 117, .int 1, .int 0, .int 0, .int (-1), .ref 118, .ref 119, .ref 120, .ref 121, .ref 122, .ref 123, .ref 124, .ref 125, .ref 126, .ref 127, .ref 128, .ref 129, .int 0, .ref 130, .ref 131, .ref 132, .ref 133, .ref 134, .int 0, .int 0])), (111, .inl (0, 1260, .inl (upd (fun _ => 0) 0 0)))])) := by
  refine JM.of (by decide) rfl (fun h => by cases h) (Nat.le_of_ble_eq_true rfl) ⟨8, rfl⟩ ?_
  refine J_hc0 (J_ls (ls2 := [some (.ref 98), some (.int a1), some (.int a2), some (.int a3), some (.int a4), none, none, none, none, none, none, none, none]) rfl ?_)
  refine J_aload_n dX12_post_0 rfl rfl ?_
  refine J_iload_n dX12_post_1 rfl rfl ?_
  refine J_callV (st := []) dX12_post_2 cv_X12_325 (c_X12_isHouse_3 (a1) b_a1 hk98 hk100 hk111) hk98 rfl rfl (Nat.le_of_ble_eq_true rfl) ⟨(Nat.le_of_ble_eq_true rfl), (Nat.le_of_ble_eq_true rfl)⟩ ⟨(Nat.le_of_ble_eq_true rfl), (Nat.le_of_ble_eq_true rfl)⟩ (fun r h9 hp => ?_)
  obtain ⟨rfl, rfl⟩ := hp
  refine J_nf (nh2 := nh) (ck2 := 0) (sk2 := 0) (st2 := [.int 0]) rfl rfl rfl rfl ?_
  refine J_app (L3 := [(98, .inr (12, [.int 0, .int 0, .ref 99, .ref 100, .ref 101, .ref 102, .ref 103, .ref 104, .ref 105, .int 0, .int (-1), .ref 106, .ref 107, .ref 108, .int 0, .int 0, .int 0, .int 0, .int 0, .int 0, .int 0, .ref 109, .int 0, .int 0, .ref 110, .ref 111, .ref 112, .ref 113, .ref 114, .ref 115, .ref 116, .ref 117, .int 1, .int 0, .int 0, .int (-1), .ref 118, .ref 119, .ref 120, .ref 121, .ref 122, .ref 123, .ref 124, .ref 125, .ref 126, .ref 127, .ref 128, .ref 129, .int 0, .ref 130, .ref 131, .ref 132, .ref 133, .ref 134, .int 0, .int 0])), (111, .inl (0, 1260, .inl (upd (fun _ => 0) 0 0)))]) rfl ?_
  refine J_if_eq (tgt := 53) dX12_post_5 (by decide) (fun _ => ?_) (fun q => absurd (by decide +kernel) q)
  refine J_iconst (v := (-1)) dX12_post_53 (by decide) ?_
  exact J_iret dX12_post_54 rfl rfl (Nat.le_of_ble_eq_true rfl) (Nat.le_of_ble_eq_true rfl) ⟨rfl, rfl⟩
set_option maxHeartbeats 4000000 in
set_option maxRecDepth 100000 in
theorem c_X11_drunk_1 {l : Launch} {G : jG} {nh : Nat} {fh : Nat → Option va_E} (a1 : Int32) (b_a1 : (-2147483648) ≤ a1.toInt ∧ a1.toInt ≤ (-1)) (a2 : Int32) (b_a2 : (-2147483648) ≤ a2.toInt ∧ a2.toInt ≤ 2147483647) (a3 : Int32) (b_a3 : (-2147483648) ≤ a3.toInt ∧ a3.toInt ≤ 2147483647) (hk0 : fh 0 = some (.inr (11, [.ref 1, .ref 17, .ref 50, .ref 51, .ref 54, .ref 57, .ref 65, .ref 75, .ref 81, .ref 85, .ref 88, .ref 93, .ref 96, .int 0, .int (-1), .ref 97, .int 0]))) (hk96 : fh 96 = some (.inl (0, 5, .inl (fun _ => 0)))) : JM l G yX11_drunk MX11_drunk { frames := 2, cells := 0, slots := 0, locals := 41 } [.ref 0, .int a1, .int a2, .int a3] (nh, fh) (fun r h9 => r = some (.int (-1)) ∧ h9 = (nh, hc fh [(96, .inl (0, 5, .inl (upd (fun _ => 0) 0 1))), (0, .inr (11, [.ref 1, .ref 17, .ref 50, .ref 51, .ref 54, .ref 57, .ref 65, .ref 75, .ref 81, .ref 85, .ref 88, .ref 93, .ref 96, .int (-1), .int (-1), .ref 97, .int 0]))])) := by
  refine JM.of (by decide) rfl (fun h => by cases h) (Nat.le_of_ble_eq_true rfl) ⟨4, rfl⟩ ?_
  refine J_hc0 (J_ls (ls2 := [some (.ref 0), some (.int a1), some (.int a2), some (.int a3), none, none, none, none]) rfl ?_)
  refine J_iload_n dX11_drunk_0 rfl rfl ?_
  refine J_if_lt (tgt := 22) dX11_drunk_1 (by decide) (fun _ => ?_) (fun q => absurd (by have hb0 := b_a1; simp only [fa_lt, fa_le, fa_eq, kc_0]; omega) q)
  refine J_aload_n dX11_drunk_22 rfl rfl ?_
  refine J_iconst (v := (-1)) dX11_drunk_23 (by decide) ?_
  refine J_callV (st := []) dX11_drunk_24 cv_X11_118 (c_X11_refuse_1 hk0 hk96) hk0 rfl rfl (Nat.le_of_ble_eq_true rfl) ⟨(Nat.le_of_ble_eq_true rfl), (Nat.le_of_ble_eq_true rfl)⟩ ⟨(Nat.le_of_ble_eq_true rfl), (Nat.le_of_ble_eq_true rfl)⟩ (fun r h9 hp => ?_)
  obtain ⟨rfl, rfl⟩ := hp
  refine J_nf (nh2 := nh) (ck2 := 0) (sk2 := 0) (st2 := [.int (-1)]) rfl rfl rfl rfl ?_
  refine J_app (L3 := [(96, .inl (0, 5, .inl (upd (fun _ => 0) 0 1))), (0, .inr (11, [.ref 1, .ref 17, .ref 50, .ref 51, .ref 54, .ref 57, .ref 65, .ref 75, .ref 81, .ref 85, .ref 88, .ref 93, .ref 96, .int (-1), .int (-1), .ref 97, .int 0]))]) rfl ?_
  exact J_iret dX11_drunk_27 rfl rfl (Nat.le_of_ble_eq_true rfl) (Nat.le_of_ble_eq_true rfl) ⟨rfl, rfl⟩
set_option maxHeartbeats 4000000 in
set_option maxRecDepth 100000 in
theorem c_X12_lies_63 {l : Launch} {G : jG} {nh : Nat} {fh : Nat → Option va_E} (a0 : Int32) (b_a0 : (-2147483648) ≤ a0.toInt ∧ a0.toInt ≤ (-1)) : JM l G yX12_lies MX12_lies { frames := 0, cells := 0, slots := 0, locals := 0 } [.int a0, .int 0, .int 1000000] (nh, fh) (fun r h9 => r = some (.int 0) ∧ h9 = (nh, fh)) := by
  refine JM.of (by decide) rfl (fun h => by cases h) (Nat.le_of_ble_eq_true rfl) ⟨0, rfl⟩ ?_
  refine J_hc0 (J_ls (ls2 := [some (.int a0), some (.int 0), some (.int 1000000)]) rfl ?_)
  refine J_iload_n dX12_lies_0 rfl rfl ?_
  refine J_iload_n dX12_lies_1 rfl rfl ?_
  refine J_icmp_lt (tgt := 14) dX12_lies_2 (by decide) (fun _ => ?_) (fun q => absurd (by have hb0 := b_a0; simp only [fa_lt, fa_le, fa_eq, kc_0]; omega) q)
  refine J_iconst (v := 0) dX12_lies_14 (by decide) ?_
  exact J_iret dX12_lies_15 rfl (by decide +kernel) (Nat.le_of_ble_eq_true rfl) (Nat.le_of_ble_eq_true rfl) ⟨rfl, rfl⟩
set_option maxHeartbeats 4000000 in
set_option maxRecDepth 100000 in
theorem c_X12_drunk_1 {l : Launch} {G : jG} {nh : Nat} {fh : Nat → Option va_E} (a1 : Int32) (b_a1 : (-2147483648) ≤ a1.toInt ∧ a1.toInt ≤ (-1)) (a2 : Int32) (b_a2 : (-2147483648) ≤ a2.toInt ∧ a2.toInt ≤ 2147483647) (a3 : Int32) (b_a3 : (-2147483648) ≤ a3.toInt ∧ a3.toInt ≤ 2147483647) (hk98 : fh 98 = some (.inr (12, [.int 0, .int 0, .ref 99, .ref 100, .ref 101, .ref 102, .ref 103, .ref 104, .ref 105, .int 0, .int (-1), .ref 106, .ref 107, .ref 108, .int 0, .int 0, .int 0, .int 0, .int 0, .int 0, .int 0, .ref 109, .int 0, .int 0, .ref 110, .ref 111, .ref 112, .ref 113, .ref 114, .ref 115, .ref 116, .ref 117, .int 0, .int 0, .int (-1), .int (-1), .ref 118, .ref 119, .ref 120, .ref 121, .ref 122, .ref 123, .ref 124, .ref 125, .ref 126, .ref 127, .ref 128, .ref 129, .int 0, .ref 130, .ref 131, .ref 132, .ref 133, .ref 134, .int 0, .int 0]))) (hk99 : fh 99 = some (.inl (0, 7, .inl (fun _ => 0)))) : JM l G yX12_drunk MX12_drunk { frames := 1, cells := 0, slots := 0, locals := 22 } [.ref 98, .int a1, .int a2, .int a3] (nh, fh) (fun r h9 => r = some (.int (-1)) ∧ h9 = (nh, hc fh [(99, .inl (0, 7, .inl (upd (fun _ => 0) 1 1))), (98, .inr (12, [.int (-1), .int 0, .ref 99, .ref 100, .ref 101, .ref 102, .ref 103, .ref 104, .ref 105, .int 0, .int (-1), .ref 106, .ref 107, .ref 108, .int 0, .int 0, .int 0, .int 0, .int 0, .int 0, .int 0, .ref 109, .int 0, .int 0, .ref 110, .ref 111, .ref 112, .ref 113, .ref 114, .ref 115, .ref 116, .ref 117, .int 0, .int 0, .int (-1), .int (-1), .ref 118, .ref 119, .ref 120, .ref 121, .ref 122, .ref 123, .ref 124, .ref 125, .ref 126, .ref 127, .ref 128, .ref 129, .int 0, .ref 130, .ref 131, .ref 132, .ref 133, .ref 134, .int 0, .int 0]))])) := by
  refine JM.of (by decide) rfl (fun h => by cases h) (Nat.le_of_ble_eq_true rfl) ⟨2, rfl⟩ ?_
  refine J_hc0 (J_ls (ls2 := [some (.ref 98), some (.int a1), some (.int a2), some (.int a3), none, none]) rfl ?_)
  refine J_iload_n dX12_drunk_0 rfl rfl ?_
  refine J_iconst (v := 0) dX12_drunk_1 (by decide) ?_
  refine J_ldc (v := 1000000) dX12_drunk_2 (jt7 88 rfl rfl) ?_
  refine J_callS (st := []) dX12_drunk_4 cs_X12_138 (c_X12_lies_63 (a1) b_a1) rfl rfl (Nat.le_of_ble_eq_true rfl) ⟨(Nat.le_of_ble_eq_true rfl), (Nat.le_of_ble_eq_true rfl)⟩ ⟨(Nat.le_of_ble_eq_true rfl), (Nat.le_of_ble_eq_true rfl)⟩ (fun r h9 hp => ?_)
  obtain ⟨rfl, rfl⟩ := hp
  refine J_nf (nh2 := nh) (ck2 := 0) (sk2 := 0) (st2 := [.int 0]) rfl rfl rfl rfl ?_
  refine J_if_eq (tgt := 21) dX12_drunk_7 (by decide) (fun _ => ?_) (fun q => absurd (by decide +kernel) q)
  refine J_aload_n dX12_drunk_21 rfl rfl ?_
  refine J_iconst (v := (-1)) dX12_drunk_22 (by decide) ?_
  refine J_callV (st := []) dX12_drunk_23 cv_X12_142 (c_X12_refuses_1 hk98 hk99) hk98 rfl rfl (Nat.le_of_ble_eq_true rfl) ⟨(Nat.le_of_ble_eq_true rfl), (Nat.le_of_ble_eq_true rfl)⟩ ⟨(Nat.le_of_ble_eq_true rfl), (Nat.le_of_ble_eq_true rfl)⟩ (fun r h9 hp => ?_)
  obtain ⟨rfl, rfl⟩ := hp
  refine J_nf (nh2 := nh) (ck2 := 0) (sk2 := 0) (st2 := [.int (-1)]) rfl rfl rfl rfl ?_
  refine J_app (L3 := [(99, .inl (0, 7, .inl (upd (fun _ => 0) 1 1))), (98, .inr (12, [.int (-1), .int 0, .ref 99, .ref 100, .ref 101, .ref 102, .ref 103, .ref 104, .ref 105, .int 0, .int (-1), .ref 106, .ref 107, .ref 108, .int 0, .int 0, .int 0, .int 0, .int 0, .int 0, .int 0, .ref 109, .int 0, .int 0, .ref 110, .ref 111, .ref 112, .ref 113, .ref 114, .ref 115, .ref 116, .ref 117, .int 0, .int 0, .int (-1), .int (-1), .ref 118, .ref 119, .ref 120, .ref 121, .ref 122, .ref 123, .ref 124, .ref 125, .ref 126, .ref 127, .ref 128, .ref 129, .int 0, .ref 130, .ref 131, .ref 132, .ref 133, .ref 134, .int 0, .int 0]))]) rfl ?_
  exact J_iret dX12_drunk_26 rfl rfl (Nat.le_of_ble_eq_true rfl) (Nat.le_of_ble_eq_true rfl) ⟨rfl, rfl⟩
set_option maxHeartbeats 4000000 in
set_option maxRecDepth 100000 in
theorem c_X11_drunk_2 {l : Launch} {G : jG} {nh : Nat} {fh : Nat → Option va_E} (a1 : Int32) (b_a1 : 0 ≤ a1.toInt ∧ a1.toInt ≤ 1000000) (a2 : Int32) (b_a2 : (-2147483648) ≤ a2.toInt ∧ a2.toInt ≤ 2147483647) (a3 : Int32) (b_a3 : (-2147483648) ≤ a3.toInt ∧ a3.toInt ≤ (-1)) (hk0 : fh 0 = some (.inr (11, [.ref 1, .ref 17, .ref 50, .ref 51, .ref 54, .ref 57, .ref 65, .ref 75, .ref 81, .ref 85, .ref 88, .ref 93, .ref 96, .int 0, .int (-1), .ref 97, .int 0]))) (hk96 : fh 96 = some (.inl (0, 5, .inl (fun _ => 0)))) : JM l G yX11_drunk MX11_drunk { frames := 2, cells := 0, slots := 0, locals := 41 } [.ref 0, .int a1, .int a2, .int a3] (nh, fh) (fun r h9 => r = some (.int (-1)) ∧ h9 = (nh, hc fh [(96, .inl (0, 5, .inl (upd (fun _ => 0) 0 1))), (0, .inr (11, [.ref 1, .ref 17, .ref 50, .ref 51, .ref 54, .ref 57, .ref 65, .ref 75, .ref 81, .ref 85, .ref 88, .ref 93, .ref 96, .int (-1), .int (-1), .ref 97, .int 0]))])) := by
  refine JM.of (by decide) rfl (fun h => by cases h) (Nat.le_of_ble_eq_true rfl) ⟨4, rfl⟩ ?_
  refine J_hc0 (J_ls (ls2 := [some (.ref 0), some (.int a1), some (.int a2), some (.int a3), none, none, none, none]) rfl ?_)
  refine J_iload_n dX11_drunk_0 rfl rfl ?_
  refine J_if_lt (tgt := 22) dX11_drunk_1 (by decide) (fun q => absurd q (by have hb0 := b_a1; simp only [fa_lt, fa_le, fa_eq, kc_0]; omega)) (fun _ => ?_)
  refine J_iload_n dX11_drunk_4 rfl rfl ?_
  refine J_ldcw (v := 1000000) dX11_drunk_5 (jt6 40 rfl rfl) ?_
  refine J_icmp_gt (tgt := 22) dX11_drunk_8 (by decide) (fun q => absurd q (by have hb0 := b_a1; simp only [fa_lt, fa_le, fa_eq, kc_1000000]; omega)) (fun _ => ?_)
  refine J_iload_n dX11_drunk_11 rfl rfl ?_
  refine J_if_lt (tgt := 22) dX11_drunk_12 (by decide) (fun _ => ?_) (fun q => absurd (by have hb0 := b_a3; simp only [fa_lt, fa_le, fa_eq, kc_0]; omega) q)
  refine J_aload_n dX11_drunk_22 rfl rfl ?_
  refine J_iconst (v := (-1)) dX11_drunk_23 (by decide) ?_
  refine J_callV (st := []) dX11_drunk_24 cv_X11_118 (c_X11_refuse_1 hk0 hk96) hk0 rfl rfl (Nat.le_of_ble_eq_true rfl) ⟨(Nat.le_of_ble_eq_true rfl), (Nat.le_of_ble_eq_true rfl)⟩ ⟨(Nat.le_of_ble_eq_true rfl), (Nat.le_of_ble_eq_true rfl)⟩ (fun r h9 hp => ?_)
  obtain ⟨rfl, rfl⟩ := hp
  refine J_nf (nh2 := nh) (ck2 := 0) (sk2 := 0) (st2 := [.int (-1)]) rfl rfl rfl rfl ?_
  refine J_app (L3 := [(96, .inl (0, 5, .inl (upd (fun _ => 0) 0 1))), (0, .inr (11, [.ref 1, .ref 17, .ref 50, .ref 51, .ref 54, .ref 57, .ref 65, .ref 75, .ref 81, .ref 85, .ref 88, .ref 93, .ref 96, .int (-1), .int (-1), .ref 97, .int 0]))]) rfl ?_
  exact J_iret dX11_drunk_27 rfl rfl (Nat.le_of_ble_eq_true rfl) (Nat.le_of_ble_eq_true rfl) ⟨rfl, rfl⟩
set_option maxHeartbeats 4000000 in
set_option maxRecDepth 100000 in
theorem c_X12_lies_64 {l : Launch} {G : jG} {nh : Nat} {fh : Nat → Option va_E} (a0 : Int32) (b_a0 : 0 ≤ a0.toInt ∧ a0.toInt ≤ 1000000) : JM l G yX12_lies MX12_lies { frames := 0, cells := 0, slots := 0, locals := 0 } [.int a0, .int 0, .int 1000000] (nh, fh) (fun r h9 => r = some (.int 1) ∧ h9 = (nh, fh)) := by
  refine JM.of (by decide) rfl (fun h => by cases h) (Nat.le_of_ble_eq_true rfl) ⟨0, rfl⟩ ?_
  refine J_hc0 (J_ls (ls2 := [some (.int a0), some (.int 0), some (.int 1000000)]) rfl ?_)
  refine J_iload_n dX12_lies_0 rfl rfl ?_
  refine J_iload_n dX12_lies_1 rfl rfl ?_
  refine J_icmp_lt (tgt := 14) dX12_lies_2 (by decide) (fun q => absurd q (by have hb0 := b_a0; simp only [fa_lt, fa_le, fa_eq, kc_0]; omega)) (fun _ => ?_)
  refine J_iload_n dX12_lies_5 rfl rfl ?_
  refine J_iload_n dX12_lies_6 rfl rfl ?_
  refine J_icmp_gt (tgt := 14) dX12_lies_7 (by decide) (fun q => absurd q (by have hb0 := b_a0; simp only [fa_lt, fa_le, fa_eq, kc_1000000]; omega)) (fun _ => ?_)
  refine J_iconst (v := 1) dX12_lies_10 (by decide) ?_
  refine J_goto (tgt := 15) dX12_lies_11 (by decide) ?_
  exact J_iret dX12_lies_15 rfl (by decide +kernel) (Nat.le_of_ble_eq_true rfl) (Nat.le_of_ble_eq_true rfl) ⟨rfl, rfl⟩
set_option maxHeartbeats 4000000 in
set_option maxRecDepth 100000 in
theorem c_X12_lies_65 {l : Launch} {G : jG} {nh : Nat} {fh : Nat → Option va_E} (a0 : Int32) (b_a0 : (-2147483648) ≤ a0.toInt ∧ a0.toInt ≤ (-1)) : JM l G yX12_lies MX12_lies { frames := 0, cells := 0, slots := 0, locals := 0 } [.int a0, .int 0, .int 500] (nh, fh) (fun r h9 => r = some (.int 0) ∧ h9 = (nh, fh)) := by
  refine JM.of (by decide) rfl (fun h => by cases h) (Nat.le_of_ble_eq_true rfl) ⟨0, rfl⟩ ?_
  refine J_hc0 (J_ls (ls2 := [some (.int a0), some (.int 0), some (.int 500)]) rfl ?_)
  refine J_iload_n dX12_lies_0 rfl rfl ?_
  refine J_iload_n dX12_lies_1 rfl rfl ?_
  refine J_icmp_lt (tgt := 14) dX12_lies_2 (by decide) (fun _ => ?_) (fun q => absurd (by have hb0 := b_a0; simp only [fa_lt, fa_le, fa_eq, kc_0]; omega) q)
  refine J_iconst (v := 0) dX12_lies_14 (by decide) ?_
  exact J_iret dX12_lies_15 rfl (by decide +kernel) (Nat.le_of_ble_eq_true rfl) (Nat.le_of_ble_eq_true rfl) ⟨rfl, rfl⟩
set_option maxHeartbeats 4000000 in
set_option maxRecDepth 100000 in
theorem c_X12_drunk_2 {l : Launch} {G : jG} {nh : Nat} {fh : Nat → Option va_E} (a1 : Int32) (b_a1 : 0 ≤ a1.toInt ∧ a1.toInt ≤ 1000000) (a2 : Int32) (b_a2 : (-2147483648) ≤ a2.toInt ∧ a2.toInt ≤ 2147483647) (a3 : Int32) (b_a3 : (-2147483648) ≤ a3.toInt ∧ a3.toInt ≤ (-1)) (hk98 : fh 98 = some (.inr (12, [.int 0, .int 0, .ref 99, .ref 100, .ref 101, .ref 102, .ref 103, .ref 104, .ref 105, .int 0, .int (-1), .ref 106, .ref 107, .ref 108, .int 0, .int 0, .int 0, .int 0, .int 0, .int 0, .int 0, .ref 109, .int 0, .int 0, .ref 110, .ref 111, .ref 112, .ref 113, .ref 114, .ref 115, .ref 116, .ref 117, .int 0, .int 0, .int (-1), .int (-1), .ref 118, .ref 119, .ref 120, .ref 121, .ref 122, .ref 123, .ref 124, .ref 125, .ref 126, .ref 127, .ref 128, .ref 129, .int 0, .ref 130, .ref 131, .ref 132, .ref 133, .ref 134, .int 0, .int 0]))) (hk99 : fh 99 = some (.inl (0, 7, .inl (fun _ => 0)))) : JM l G yX12_drunk MX12_drunk { frames := 1, cells := 0, slots := 0, locals := 22 } [.ref 98, .int a1, .int a2, .int a3] (nh, fh) (fun r h9 => r = some (.int (-1)) ∧ h9 = (nh, hc fh [(99, .inl (0, 7, .inl (upd (fun _ => 0) 1 1))), (98, .inr (12, [.int (-1), .int 0, .ref 99, .ref 100, .ref 101, .ref 102, .ref 103, .ref 104, .ref 105, .int 0, .int (-1), .ref 106, .ref 107, .ref 108, .int 0, .int 0, .int 0, .int 0, .int 0, .int 0, .int 0, .ref 109, .int 0, .int 0, .ref 110, .ref 111, .ref 112, .ref 113, .ref 114, .ref 115, .ref 116, .ref 117, .int 0, .int 0, .int (-1), .int (-1), .ref 118, .ref 119, .ref 120, .ref 121, .ref 122, .ref 123, .ref 124, .ref 125, .ref 126, .ref 127, .ref 128, .ref 129, .int 0, .ref 130, .ref 131, .ref 132, .ref 133, .ref 134, .int 0, .int 0]))])) := by
  refine JM.of (by decide) rfl (fun h => by cases h) (Nat.le_of_ble_eq_true rfl) ⟨2, rfl⟩ ?_
  refine J_hc0 (J_ls (ls2 := [some (.ref 98), some (.int a1), some (.int a2), some (.int a3), none, none]) rfl ?_)
  refine J_iload_n dX12_drunk_0 rfl rfl ?_
  refine J_iconst (v := 0) dX12_drunk_1 (by decide) ?_
  refine J_ldc (v := 1000000) dX12_drunk_2 (jt7 88 rfl rfl) ?_
  refine J_callS (st := []) dX12_drunk_4 cs_X12_138 (c_X12_lies_64 (a1) b_a1) rfl rfl (Nat.le_of_ble_eq_true rfl) ⟨(Nat.le_of_ble_eq_true rfl), (Nat.le_of_ble_eq_true rfl)⟩ ⟨(Nat.le_of_ble_eq_true rfl), (Nat.le_of_ble_eq_true rfl)⟩ (fun r h9 hp => ?_)
  obtain ⟨rfl, rfl⟩ := hp
  refine J_nf (nh2 := nh) (ck2 := 0) (sk2 := 0) (st2 := [.int 1]) rfl rfl rfl rfl ?_
  refine J_if_eq (tgt := 21) dX12_drunk_7 (by decide) (fun q => absurd q (by decide +kernel)) (fun _ => ?_)
  refine J_iload_n dX12_drunk_10 rfl rfl ?_
  refine J_iconst (v := 0) dX12_drunk_11 (by decide) ?_
  refine J_sipush (v := 500) dX12_drunk_12 (by decide +kernel) ?_
  refine J_callS (st := []) dX12_drunk_15 cs_X12_138 (c_X12_lies_65 (a3) b_a3) rfl rfl (Nat.le_of_ble_eq_true rfl) ⟨(Nat.le_of_ble_eq_true rfl), (Nat.le_of_ble_eq_true rfl)⟩ ⟨(Nat.le_of_ble_eq_true rfl), (Nat.le_of_ble_eq_true rfl)⟩ (fun r h9 hp => ?_)
  obtain ⟨rfl, rfl⟩ := hp
  refine J_nf (nh2 := nh) (ck2 := 0) (sk2 := 0) (st2 := [.int 0]) rfl rfl rfl rfl ?_
  refine J_if_ne (tgt := 27) dX12_drunk_18 (by decide) (fun q => absurd (by decide +kernel) q) (fun _ => ?_)
  refine J_aload_n dX12_drunk_21 rfl rfl ?_
  refine J_iconst (v := (-1)) dX12_drunk_22 (by decide) ?_
  refine J_callV (st := []) dX12_drunk_23 cv_X12_142 (c_X12_refuses_1 hk98 hk99) hk98 rfl rfl (Nat.le_of_ble_eq_true rfl) ⟨(Nat.le_of_ble_eq_true rfl), (Nat.le_of_ble_eq_true rfl)⟩ ⟨(Nat.le_of_ble_eq_true rfl), (Nat.le_of_ble_eq_true rfl)⟩ (fun r h9 hp => ?_)
  obtain ⟨rfl, rfl⟩ := hp
  refine J_nf (nh2 := nh) (ck2 := 0) (sk2 := 0) (st2 := [.int (-1)]) rfl rfl rfl rfl ?_
  refine J_app (L3 := [(99, .inl (0, 7, .inl (upd (fun _ => 0) 1 1))), (98, .inr (12, [.int (-1), .int 0, .ref 99, .ref 100, .ref 101, .ref 102, .ref 103, .ref 104, .ref 105, .int 0, .int (-1), .ref 106, .ref 107, .ref 108, .int 0, .int 0, .int 0, .int 0, .int 0, .int 0, .int 0, .ref 109, .int 0, .int 0, .ref 110, .ref 111, .ref 112, .ref 113, .ref 114, .ref 115, .ref 116, .ref 117, .int 0, .int 0, .int (-1), .int (-1), .ref 118, .ref 119, .ref 120, .ref 121, .ref 122, .ref 123, .ref 124, .ref 125, .ref 126, .ref 127, .ref 128, .ref 129, .int 0, .ref 130, .ref 131, .ref 132, .ref 133, .ref 134, .int 0, .int 0]))]) rfl ?_
  exact J_iret dX12_drunk_26 rfl rfl (Nat.le_of_ble_eq_true rfl) (Nat.le_of_ble_eq_true rfl) ⟨rfl, rfl⟩
set_option maxHeartbeats 4000000 in
set_option maxRecDepth 100000 in
theorem c_X11_drunk_3 {l : Launch} {G : jG} {nh : Nat} {fh : Nat → Option va_E} (a1 : Int32) (b_a1 : 0 ≤ a1.toInt ∧ a1.toInt ≤ 1000000) (a2 : Int32) (b_a2 : (-2147483648) ≤ a2.toInt ∧ a2.toInt ≤ (-1)) (a3 : Int32) (b_a3 : 0 ≤ a3.toInt ∧ a3.toInt ≤ 500) (hk0 : fh 0 = some (.inr (11, [.ref 1, .ref 17, .ref 50, .ref 51, .ref 54, .ref 57, .ref 65, .ref 75, .ref 81, .ref 85, .ref 88, .ref 93, .ref 96, .int 0, .int (-1), .ref 97, .int 0]))) (hk51 : fh 51 = some (.inr (0, [.ref 52, .ref 53, .int 1, .int 0]))) (hk96 : fh 96 = some (.inl (0, 5, .inl (fun _ => 0)))) : JM l G yX11_drunk MX11_drunk { frames := 2, cells := 0, slots := 0, locals := 41 } [.ref 0, .int a1, .int a2, .int a3] (nh, fh) (fun r h9 => r = some (.int (-2)) ∧ h9 = (nh, hc fh [(96, .inl (0, 5, .inl (upd (fun _ => 0) 1 1))), (0, .inr (11, [.ref 1, .ref 17, .ref 50, .ref 51, .ref 54, .ref 57, .ref 65, .ref 75, .ref 81, .ref 85, .ref 88, .ref 93, .ref 96, .int (-2), .int (-1), .ref 97, .int 0]))])) := by
  refine JM.of (by decide) rfl (fun h => by cases h) (Nat.le_of_ble_eq_true rfl) ⟨4, rfl⟩ ?_
  refine J_hc0 (J_ls (ls2 := [some (.ref 0), some (.int a1), some (.int a2), some (.int a3), none, none, none, none]) rfl ?_)
  refine J_iload_n dX11_drunk_0 rfl rfl ?_
  refine J_if_lt (tgt := 22) dX11_drunk_1 (by decide) (fun q => absurd q (by have hb0 := b_a1; simp only [fa_lt, fa_le, fa_eq, kc_0]; omega)) (fun _ => ?_)
  refine J_iload_n dX11_drunk_4 rfl rfl ?_
  refine J_ldcw (v := 1000000) dX11_drunk_5 (jt6 40 rfl rfl) ?_
  refine J_icmp_gt (tgt := 22) dX11_drunk_8 (by decide) (fun q => absurd q (by have hb0 := b_a1; simp only [fa_lt, fa_le, fa_eq, kc_1000000]; omega)) (fun _ => ?_)
  refine J_iload_n dX11_drunk_11 rfl rfl ?_
  refine J_if_lt (tgt := 22) dX11_drunk_12 (by decide) (fun q => absurd q (by have hb0 := b_a3; simp only [fa_lt, fa_le, fa_eq, kc_0]; omega)) (fun _ => ?_)
  refine J_iload_n dX11_drunk_15 rfl rfl ?_
  refine J_sipush (v := 500) dX11_drunk_16 (by decide +kernel) ?_
  refine J_icmp_le (tgt := 28) dX11_drunk_19 (by decide) (fun _ => ?_) (fun q => absurd (by have hb0 := b_a3; simp only [fa_lt, fa_le, fa_eq, kc_500]; omega) q)
  refine J_aload_n dX11_drunk_28 rfl rfl ?_
  refine J_get (v := .ref 51) dX11_drunk_29 fl_X11_27 hk0 rfl ?_
  refine J_iload_n dX11_drunk_32 rfl rfl ?_
  refine J_callV (st := []) dX11_drunk_33 cv_X11_135 (c_X0_has_1 (a2) b_a2) hk51 rfl rfl (Nat.le_of_ble_eq_true rfl) ⟨(Nat.le_of_ble_eq_true rfl), (Nat.le_of_ble_eq_true rfl)⟩ ⟨(Nat.le_of_ble_eq_true rfl), (Nat.le_of_ble_eq_true rfl)⟩ (fun r h9 hp => ?_)
  obtain ⟨rfl, rfl⟩ := hp
  refine J_nf (nh2 := nh) (ck2 := 0) (sk2 := 0) (st2 := [.int 0]) rfl rfl rfl rfl ?_
  refine J_if_ne (tgt := 46) dX11_drunk_36 (by decide) (fun q => absurd (by decide +kernel) q) (fun _ => ?_)
  refine J_aload_n dX11_drunk_39 rfl rfl ?_
  refine J_bipush (v := (-2)) dX11_drunk_40 (by decide +kernel) ?_
  refine J_callV (st := []) dX11_drunk_42 cv_X11_118 (c_X11_refuse_4 hk0 hk96) hk0 rfl rfl (Nat.le_of_ble_eq_true rfl) ⟨(Nat.le_of_ble_eq_true rfl), (Nat.le_of_ble_eq_true rfl)⟩ ⟨(Nat.le_of_ble_eq_true rfl), (Nat.le_of_ble_eq_true rfl)⟩ (fun r h9 hp => ?_)
  obtain ⟨rfl, rfl⟩ := hp
  refine J_nf (nh2 := nh) (ck2 := 0) (sk2 := 0) (st2 := [.int (-2)]) rfl rfl rfl rfl ?_
  refine J_app (L3 := [(96, .inl (0, 5, .inl (upd (fun _ => 0) 1 1))), (0, .inr (11, [.ref 1, .ref 17, .ref 50, .ref 51, .ref 54, .ref 57, .ref 65, .ref 75, .ref 81, .ref 85, .ref 88, .ref 93, .ref 96, .int (-2), .int (-1), .ref 97, .int 0]))]) rfl ?_
  exact J_iret dX11_drunk_45 rfl rfl (Nat.le_of_ble_eq_true rfl) (Nat.le_of_ble_eq_true rfl) ⟨rfl, rfl⟩
set_option maxHeartbeats 4000000 in
set_option maxRecDepth 100000 in
theorem c_X12_lies_66 {l : Launch} {G : jG} {nh : Nat} {fh : Nat → Option va_E} (a0 : Int32) (b_a0 : 0 ≤ a0.toInt ∧ a0.toInt ≤ 500) : JM l G yX12_lies MX12_lies { frames := 0, cells := 0, slots := 0, locals := 0 } [.int a0, .int 0, .int 500] (nh, fh) (fun r h9 => r = some (.int 1) ∧ h9 = (nh, fh)) := by
  refine JM.of (by decide) rfl (fun h => by cases h) (Nat.le_of_ble_eq_true rfl) ⟨0, rfl⟩ ?_
  refine J_hc0 (J_ls (ls2 := [some (.int a0), some (.int 0), some (.int 500)]) rfl ?_)
  refine J_iload_n dX12_lies_0 rfl rfl ?_
  refine J_iload_n dX12_lies_1 rfl rfl ?_
  refine J_icmp_lt (tgt := 14) dX12_lies_2 (by decide) (fun q => absurd q (by have hb0 := b_a0; simp only [fa_lt, fa_le, fa_eq, kc_0]; omega)) (fun _ => ?_)
  refine J_iload_n dX12_lies_5 rfl rfl ?_
  refine J_iload_n dX12_lies_6 rfl rfl ?_
  refine J_icmp_gt (tgt := 14) dX12_lies_7 (by decide) (fun q => absurd q (by have hb0 := b_a0; simp only [fa_lt, fa_le, fa_eq, kc_500]; omega)) (fun _ => ?_)
  refine J_iconst (v := 1) dX12_lies_10 (by decide) ?_
  refine J_goto (tgt := 15) dX12_lies_11 (by decide) ?_
  exact J_iret dX12_lies_15 rfl (by decide +kernel) (Nat.le_of_ble_eq_true rfl) (Nat.le_of_ble_eq_true rfl) ⟨rfl, rfl⟩
set_option maxHeartbeats 4000000 in
set_option maxRecDepth 100000 in
theorem c_X12_drunk_3 {l : Launch} {G : jG} {nh : Nat} {fh : Nat → Option va_E} (a1 : Int32) (b_a1 : 0 ≤ a1.toInt ∧ a1.toInt ≤ 1000000) (a2 : Int32) (b_a2 : (-2147483648) ≤ a2.toInt ∧ a2.toInt ≤ (-1)) (a3 : Int32) (b_a3 : 0 ≤ a3.toInt ∧ a3.toInt ≤ 500) (hk98 : fh 98 = some (.inr (12, [.int 0, .int 0, .ref 99, .ref 100, .ref 101, .ref 102, .ref 103, .ref 104, .ref 105, .int 0, .int (-1), .ref 106, .ref 107, .ref 108, .int 0, .int 0, .int 0, .int 0, .int 0, .int 0, .int 0, .ref 109, .int 0, .int 0, .ref 110, .ref 111, .ref 112, .ref 113, .ref 114, .ref 115, .ref 116, .ref 117, .int 0, .int 0, .int (-1), .int (-1), .ref 118, .ref 119, .ref 120, .ref 121, .ref 122, .ref 123, .ref 124, .ref 125, .ref 126, .ref 127, .ref 128, .ref 129, .int 0, .ref 130, .ref 131, .ref 132, .ref 133, .ref 134, .int 0, .int 0]))) (hk99 : fh 99 = some (.inl (0, 7, .inl (fun _ => 0)))) (hk100 : fh 100 = some (.inl (0, 4870, .inl (upd (fun _ => 0) 63 (-1))))) (hk111 : fh 111 = some (.inl (0, 1260, .inl (fun _ => 0)))) : JM l G yX12_drunk MX12_drunk { frames := 3, cells := 0, slots := 0, locals := 69 } [.ref 98, .int a1, .int a2, .int a3] (nh, fh) (fun r h9 => r = some (.int (-2)) ∧ h9 = (nh, hc fh [(99, .inl (0, 7, .inl (upd (fun _ => 0) 2 1))), (98, .inr (12, [.int (-2), .int 0, .ref 99, .ref 100, .ref 101, .ref 102, .ref 103, .ref 104, .ref 105, .int 0, .int (-1), .ref 106, .ref 107, .ref 108, .int 0, .int 0, .int 0, .int 0, .int 0, .int 0, .int 0, .ref 109, .int 0, .int 0, .ref 110, .ref 111, .ref 112, .ref 113, .ref 114, .ref 115, .ref 116, .ref 117, .int 1, .int 0, .int 0, .int (-1), .ref 118, .ref 119, .ref 120, .ref 121, .ref 122, .ref 123, .ref 124, .ref 125, .ref 126, .ref 127, .ref 128, .ref 129, .int 0, .ref 130, .ref 131, .ref 132, .ref 133, .ref 134, .int 0, .int 0])), (111, .inl (0, 1260, .inl (upd (fun _ => 0) 0 0)))])) := by
  refine JM.of (by decide) rfl (fun h => by cases h) (Nat.le_of_ble_eq_true rfl) ⟨2, rfl⟩ ?_
  refine J_hc0 (J_ls (ls2 := [some (.ref 98), some (.int a1), some (.int a2), some (.int a3), none, none]) rfl ?_)
  refine J_iload_n dX12_drunk_0 rfl rfl ?_
  refine J_iconst (v := 0) dX12_drunk_1 (by decide) ?_
  refine J_ldc (v := 1000000) dX12_drunk_2 (jt7 88 rfl rfl) ?_
  refine J_callS (st := []) dX12_drunk_4 cs_X12_138 (c_X12_lies_64 (a1) b_a1) rfl rfl (Nat.le_of_ble_eq_true rfl) ⟨(Nat.le_of_ble_eq_true rfl), (Nat.le_of_ble_eq_true rfl)⟩ ⟨(Nat.le_of_ble_eq_true rfl), (Nat.le_of_ble_eq_true rfl)⟩ (fun r h9 hp => ?_)
  obtain ⟨rfl, rfl⟩ := hp
  refine J_nf (nh2 := nh) (ck2 := 0) (sk2 := 0) (st2 := [.int 1]) rfl rfl rfl rfl ?_
  refine J_if_eq (tgt := 21) dX12_drunk_7 (by decide) (fun q => absurd q (by decide +kernel)) (fun _ => ?_)
  refine J_iload_n dX12_drunk_10 rfl rfl ?_
  refine J_iconst (v := 0) dX12_drunk_11 (by decide) ?_
  refine J_sipush (v := 500) dX12_drunk_12 (by decide +kernel) ?_
  refine J_callS (st := []) dX12_drunk_15 cs_X12_138 (c_X12_lies_66 (a3) b_a3) rfl rfl (Nat.le_of_ble_eq_true rfl) ⟨(Nat.le_of_ble_eq_true rfl), (Nat.le_of_ble_eq_true rfl)⟩ ⟨(Nat.le_of_ble_eq_true rfl), (Nat.le_of_ble_eq_true rfl)⟩ (fun r h9 hp => ?_)
  obtain ⟨rfl, rfl⟩ := hp
  refine J_nf (nh2 := nh) (ck2 := 0) (sk2 := 0) (st2 := [.int 1]) rfl rfl rfl rfl ?_
  refine J_if_ne (tgt := 27) dX12_drunk_18 (by decide) (fun _ => ?_) (fun q => absurd q (by decide +kernel))
  refine J_aload_n dX12_drunk_27 rfl rfl ?_
  refine J_iload_n dX12_drunk_28 rfl rfl ?_
  refine J_callV (st := []) dX12_drunk_29 cv_X12_325 (c_X12_isHouse_1 (a2) b_a2 hk98 hk100 hk111) hk98 rfl rfl (Nat.le_of_ble_eq_true rfl) ⟨(Nat.le_of_ble_eq_true rfl), (Nat.le_of_ble_eq_true rfl)⟩ ⟨(Nat.le_of_ble_eq_true rfl), (Nat.le_of_ble_eq_true rfl)⟩ (fun r h9 hp => ?_)
  obtain ⟨rfl, rfl⟩ := hp
  refine J_nf (nh2 := nh) (ck2 := 0) (sk2 := 0) (st2 := [.int 0]) rfl rfl rfl rfl ?_
  refine J_app (L3 := [(98, .inr (12, [.int 0, .int 0, .ref 99, .ref 100, .ref 101, .ref 102, .ref 103, .ref 104, .ref 105, .int 0, .int (-1), .ref 106, .ref 107, .ref 108, .int 0, .int 0, .int 0, .int 0, .int 0, .int 0, .int 0, .ref 109, .int 0, .int 0, .ref 110, .ref 111, .ref 112, .ref 113, .ref 114, .ref 115, .ref 116, .ref 117, .int 1, .int 0, .int 0, .int (-1), .ref 118, .ref 119, .ref 120, .ref 121, .ref 122, .ref 123, .ref 124, .ref 125, .ref 126, .ref 127, .ref 128, .ref 129, .int 0, .ref 130, .ref 131, .ref 132, .ref 133, .ref 134, .int 0, .int 0])), (111, .inl (0, 1260, .inl (upd (fun _ => 0) 0 0)))]) rfl ?_
  refine J_if_ne (tgt := 42) dX12_drunk_32 (by decide) (fun q => absurd (by decide +kernel) q) (fun _ => ?_)
  refine J_aload_n dX12_drunk_35 rfl rfl ?_
  refine J_bipush (v := (-2)) dX12_drunk_36 (by decide +kernel) ?_
  refine J_callV (st := []) dX12_drunk_38 cv_X12_142 (c_X12_refuses_5 rfl hk99) rfl rfl rfl (Nat.le_of_ble_eq_true rfl) ⟨(Nat.le_of_ble_eq_true rfl), (Nat.le_of_ble_eq_true rfl)⟩ ⟨(Nat.le_of_ble_eq_true rfl), (Nat.le_of_ble_eq_true rfl)⟩ (fun r h9 hp => ?_)
  obtain ⟨rfl, rfl⟩ := hp
  refine J_nf (nh2 := nh) (ck2 := 0) (sk2 := 0) (st2 := [.int (-2)]) rfl rfl rfl rfl ?_
  refine J_app (L3 := [(99, .inl (0, 7, .inl (upd (fun _ => 0) 2 1))), (98, .inr (12, [.int (-2), .int 0, .ref 99, .ref 100, .ref 101, .ref 102, .ref 103, .ref 104, .ref 105, .int 0, .int (-1), .ref 106, .ref 107, .ref 108, .int 0, .int 0, .int 0, .int 0, .int 0, .int 0, .int 0, .ref 109, .int 0, .int 0, .ref 110, .ref 111, .ref 112, .ref 113, .ref 114, .ref 115, .ref 116, .ref 117, .int 1, .int 0, .int 0, .int (-1), .ref 118, .ref 119, .ref 120, .ref 121, .ref 122, .ref 123, .ref 124, .ref 125, .ref 126, .ref 127, .ref 128, .ref 129, .int 0, .ref 130, .ref 131, .ref 132, .ref 133, .ref 134, .int 0, .int 0])), (98, .inr (12, [.int 0, .int 0, .ref 99, .ref 100, .ref 101, .ref 102, .ref 103, .ref 104, .ref 105, .int 0, .int (-1), .ref 106, .ref 107, .ref 108, .int 0, .int 0, .int 0, .int 0, .int 0, .int 0, .int 0, .ref 109, .int 0, .int 0, .ref 110, .ref 111, .ref 112, .ref 113, .ref 114, .ref 115, .ref 116, .ref 117, .int 1, .int 0, .int 0, .int (-1), .ref 118, .ref 119, .ref 120, .ref 121, .ref 122, .ref 123, .ref 124, .ref 125, .ref 126, .ref 127, .ref 128, .ref 129, .int 0, .ref 130, .ref 131, .ref 132, .ref 133, .ref 134, .int 0, .int 0])), (111, .inl (0, 1260, .inl (upd (fun _ => 0) 0 0)))]) rfl ?_
  refine J_mask (L2 := [(99, .inl (0, 7, .inl (upd (fun _ => 0) 2 1))), (98, .inr (12, [.int (-2), .int 0, .ref 99, .ref 100, .ref 101, .ref 102, .ref 103, .ref 104, .ref 105, .int 0, .int (-1), .ref 106, .ref 107, .ref 108, .int 0, .int 0, .int 0, .int 0, .int 0, .int 0, .int 0, .ref 109, .int 0, .int 0, .ref 110, .ref 111, .ref 112, .ref 113, .ref 114, .ref 115, .ref 116, .ref 117, .int 1, .int 0, .int 0, .int (-1), .ref 118, .ref 119, .ref 120, .ref 121, .ref 122, .ref 123, .ref 124, .ref 125, .ref 126, .ref 127, .ref 128, .ref 129, .int 0, .ref 130, .ref 131, .ref 132, .ref 133, .ref 134, .int 0, .int 0])), (111, .inl (0, 1260, .inl (upd (fun _ => 0) 0 0)))]) (ks := [99, 98, 98, 111]) [true, true, false, true] rfl (by decide +kernel) rfl ?_
  exact J_iret dX12_drunk_41 rfl rfl (Nat.le_of_ble_eq_true rfl) (Nat.le_of_ble_eq_true rfl) ⟨rfl, rfl⟩
set_option maxHeartbeats 4000000 in
set_option maxRecDepth 100000 in
theorem c_X11_accept_4 {l : Launch} {G : jG} {nh : Nat} {fh : Nat → Option va_E} (hk0 : fh 0 = some (.inr (11, [.ref 1, .ref 17, .ref 50, .ref 51, .ref 54, .ref 57, .ref 65, .ref 75, .ref 81, .ref 85, .ref 88, .ref 93, .ref 96, .int 0, .int (-1), .ref 97, .int 1]))) : JM l G yX11_accept MX11_accept { frames := 0, cells := 0, slots := 0, locals := 0 } [.ref 0, .int 0] (nh, fh) (fun r h9 => r = some (.int 0) ∧ h9 = (nh, hc fh [(0, .inr (11, [.ref 1, .ref 17, .ref 50, .ref 51, .ref 54, .ref 57, .ref 65, .ref 75, .ref 81, .ref 85, .ref 88, .ref 93, .ref 96, .int 0, .int (-1), .ref 97, .int 1]))])) := by
  refine JM.of (by decide) rfl (fun h => by cases h) (Nat.le_of_ble_eq_true rfl) ⟨0, rfl⟩ ?_
  refine J_hc0 (J_ls (ls2 := [some (.ref 0), some (.int 0)]) rfl ?_)
  refine J_aload_n dX11_accept_0 rfl rfl ?_
  refine J_iconst (v := 0) dX11_accept_1 (by decide) ?_
  refine K_put (fs2 := [.ref 1, .ref 17, .ref 50, .ref 51, .ref 54, .ref 57, .ref 65, .ref 75, .ref 81, .ref 85, .ref 88, .ref 93, .ref 96, .int 0, .int (-1), .ref 97, .int 1]) dX11_accept_2 fw_X11_97 hk0 (Nat.le_of_ble_eq_true rfl) (fun _ => ⟨rfl, rfl⟩) rfl ?_
  refine J_iload_n dX11_accept_5 rfl rfl ?_
  exact J_iret dX11_accept_6 rfl rfl (Nat.le_of_ble_eq_true rfl) (Nat.le_of_ble_eq_true rfl) ⟨rfl, rfl⟩
set_option maxHeartbeats 4000000 in
set_option maxRecDepth 100000 in
theorem c_X11_drunk_4 {l : Launch} {G : jG} {fh : Nat → Option va_E} (a1 : Int32) (b_a1 : 0 ≤ a1.toInt ∧ a1.toInt ≤ 1000000) (hk0 : fh 0 = some (.inr (11, [.ref 1, .ref 17, .ref 50, .ref 51, .ref 54, .ref 57, .ref 65, .ref 75, .ref 81, .ref 85, .ref 88, .ref 93, .ref 96, .int 0, .int (-1), .ref 97, .int 0]))) (hk1 : fh 1 = some (.inr (8, [.ref 2, .ref 3, .ref 4, .int 0, .int (-1), .ref 11, .ref 12, .int 0, .ref 13, .ref 14, .int 0, .ref 15, .ref 16, .int 0]))) (hk3 : fh 3 = some (.inl (0, 2, .inl (fun _ => 0)))) (hk51 : fh 51 = some (.inr (0, [.ref 52, .ref 53, .int 1, .int 0]))) (hk57 : fh 57 = some (.inr (9, [.ref 1, .ref 51, .ref 58, .ref 61, .ref 62, .ref 63, .ref 64, .int 0, .int 1, .int 1]))) (hk58 : fh 58 = some (.inr (1, [.ref 59, .ref 60, .int 0, .int 0, .int 0, .int 0, .int 0, .int 1]))) (hk59 : fh 59 = some (.inl (0, 8, .inl (fun _ => 0)))) (hk62 : fh 62 = some (.inl (0, 1260, .inl (fun _ => 0)))) (hk63 : fh 63 = some (.inl (0, 0, .inl (fun _ => 0)))) (hk97 : fh 97 = some (.inl (0, 1260, .inl (fun _ => 0)))) : JM l G yX11_drunk MX11_drunk { frames := 3, cells := 1, slots := 22, locals := 67 } [.ref 0, .int a1, .int 0, .int 0] (135, fh) (fun r h9 => r = some (.int 0) ∧ h9 = (136, hc fh [(0, .inr (11, [.ref 1, .ref 17, .ref 50, .ref 51, .ref 54, .ref 57, .ref 65, .ref 75, .ref 81, .ref 85, .ref 88, .ref 93, .ref 96, .int 0, .int (-1), .ref 97, .int 1])), (97, .inl (0, 1260, .inl (upd (fun _ => 0) 0 1))), (57, .inr (9, [.ref 1, .ref 51, .ref 58, .ref 61, .ref 62, .ref 135, .ref 64, .int 0, .int 0, .int 0])), (62, .inl (0, 1260, .inl (upd (fun _ => 0) 0 (-1)))), (135, .inl (0, 22, .inl (fun _ => 0))), (59, .inl (0, 8, .inl (upd (upd (fun _ => 0) 6 0) 7 0)))])) := by
  refine JM.of (by decide) rfl (fun h => by cases h) (Nat.le_of_ble_eq_true rfl) ⟨4, rfl⟩ ?_
  refine J_hc0 (J_ls (ls2 := [some (.ref 0), some (.int a1), some (.int 0), some (.int 0), none, none, none, none]) rfl ?_)
  refine J_iload_n dX11_drunk_0 rfl rfl ?_
  refine J_if_lt (tgt := 22) dX11_drunk_1 (by decide) (fun q => absurd q (by have hb0 := b_a1; simp only [fa_lt, fa_le, fa_eq, kc_0]; omega)) (fun _ => ?_)
  refine J_iload_n dX11_drunk_4 rfl rfl ?_
  refine J_ldcw (v := 1000000) dX11_drunk_5 (jt6 40 rfl rfl) ?_
  refine J_icmp_gt (tgt := 22) dX11_drunk_8 (by decide) (fun q => absurd q (by have hb0 := b_a1; simp only [fa_lt, fa_le, fa_eq, kc_1000000]; omega)) (fun _ => ?_)
  refine J_iload_n dX11_drunk_11 rfl rfl ?_
  refine J_if_lt (tgt := 22) dX11_drunk_12 (by decide) (fun q => absurd q (by decide +kernel)) (fun _ => ?_)
  refine J_iload_n dX11_drunk_15 rfl rfl ?_
  refine J_sipush (v := 500) dX11_drunk_16 (by decide +kernel) ?_
  refine J_icmp_le (tgt := 28) dX11_drunk_19 (by decide) (fun _ => ?_) (fun q => absurd (by decide +kernel) q)
  refine J_aload_n dX11_drunk_28 rfl rfl ?_
  refine J_get (v := .ref 51) dX11_drunk_29 fl_X11_27 hk0 rfl ?_
  refine J_iload_n dX11_drunk_32 rfl rfl ?_
  refine J_callV (st := []) dX11_drunk_33 cv_X11_135 (c_X0_has_2 hk51) hk51 rfl rfl (Nat.le_of_ble_eq_true rfl) ⟨(Nat.le_of_ble_eq_true rfl), (Nat.le_of_ble_eq_true rfl)⟩ ⟨(Nat.le_of_ble_eq_true rfl), (Nat.le_of_ble_eq_true rfl)⟩ (fun r h9 hp => ?_)
  obtain ⟨rfl, rfl⟩ := hp
  refine J_nf (nh2 := 135) (ck2 := 0) (sk2 := 0) (st2 := [.int 1]) rfl rfl rfl rfl ?_
  refine J_if_ne (tgt := 46) dX11_drunk_36 (by decide) (fun _ => ?_) (fun q => absurd q (by decide +kernel))
  refine J_aload_n dX11_drunk_46 rfl rfl ?_
  refine J_get (v := .ref 57) dX11_drunk_47 fl_X11_43 hk0 rfl ?_
  refine J_callV (st := []) dX11_drunk_50 cv_X11_217 (c_X9_prepare_1 hk1 hk3 hk51 hk57 hk58 hk59 hk62 hk63) hk57 rfl rfl (Nat.le_of_ble_eq_true rfl) ⟨(Nat.le_of_ble_eq_true rfl), (Nat.le_of_ble_eq_true rfl)⟩ ⟨(Nat.le_of_ble_eq_true rfl), (Nat.le_of_ble_eq_true rfl)⟩ (fun r h9 hp => ?_)
  obtain ⟨rfl, rfl⟩ := hp
  refine J_nf (nh2 := 136) (ck2 := 1) (sk2 := 22) (st2 := []) rfl rfl rfl rfl ?_
  refine J_app (L3 := [(57, .inr (9, [.ref 1, .ref 51, .ref 58, .ref 61, .ref 62, .ref 135, .ref 64, .int 0, .int 0, .int 0])), (62, .inl (0, 1260, .inl (upd (fun _ => 0) 0 (-1)))), (135, .inl (0, 22, .inl (fun _ => 0))), (59, .inl (0, 8, .inl (upd (upd (fun _ => 0) 6 0) 7 0)))]) rfl ?_
  refine J_aload_n dX11_drunk_53 rfl rfl ?_
  refine J_get (v := .ref 97) dX11_drunk_54 fl_X11_104 hk0 rfl ?_
  refine J_iconst (v := 0) dX11_drunk_57 (by decide) ?_
  refine J_callS (st := []) dX11_drunk_58 cs_X11_168 (c_fill (k := 97) (n := 1260) 0 (by decide) hk97) rfl rfl (Nat.le_of_ble_eq_true rfl) ⟨(Nat.le_of_ble_eq_true rfl), (Nat.le_of_ble_eq_true rfl)⟩ ⟨(Nat.le_of_ble_eq_true rfl), (Nat.le_of_ble_eq_true rfl)⟩ (fun r h9 hp => ?_)
  obtain ⟨rfl, rfl⟩ := hp
  refine J_nf (nh2 := 136) (ck2 := 1) (sk2 := 22) (st2 := []) rfl rfl rfl rfl ?_
  refine J_app (L3 := [(97, .inl (0, 1260, .inl (fun _ => 0))), (57, .inr (9, [.ref 1, .ref 51, .ref 58, .ref 61, .ref 62, .ref 135, .ref 64, .int 0, .int 0, .int 0])), (62, .inl (0, 1260, .inl (upd (fun _ => 0) 0 (-1)))), (135, .inl (0, 22, .inl (fun _ => 0))), (59, .inl (0, 8, .inl (upd (upd (fun _ => 0) 6 0) 7 0)))]) rfl ?_
  refine J_iload_n dX11_drunk_61 rfl rfl ?_
  refine J_istore dX11_drunk_62 (Nat.le_of_ble_eq_true rfl) rfl ?_
  refine J_iload_n dX11_drunk_64 rfl rfl ?_
  refine J_istore dX11_drunk_65 (Nat.le_of_ble_eq_true rfl) rfl ?_
  refine J_aload_n dX11_drunk_67 rfl rfl ?_
  refine J_get (v := .ref 97) dX11_drunk_68 fl_X11_104 hk0 rfl ?_
  refine J_iload dX11_drunk_71 rfl ?_
  refine J_dup2_11 dX11_drunk_73 rfl rfl ?_
  refine J_iald (i2 := 0) (v := 0) dX11_drunk_74 rfl rfl (jin (by decide +kernel)) (by decide +kernel) rfl ?_
  refine J_iconst (v := 1) dX11_drunk_75 (by decide) ?_
  refine J_iadd (z := 1) dX11_drunk_76 (by decide +kernel) ?_
  refine K_iast (i2 := 0) dX11_drunk_77 rfl rfl (jin (by decide +kernel)) (by decide +kernel) ?_
  refine J_iconst (v := 0) dX11_drunk_78 (by decide) ?_
  refine J_istore dX11_drunk_79 (Nat.le_of_ble_eq_true rfl) rfl ?_
  refine J_iload dX11_drunk_81 rfl ?_
  refine J_iload_n dX11_drunk_83 rfl rfl ?_
  refine J_icmp_ge (tgt := 152) dX11_drunk_84 (by decide) (fun _ => ?_) (fun q => absurd (by decide +kernel) q)
  refine J_aload_n dX11_drunk_152 rfl rfl ?_
  refine J_iconst (v := 1) dX11_drunk_153 (by decide) ?_
  refine K_put (fs2 := [.ref 1, .ref 17, .ref 50, .ref 51, .ref 54, .ref 57, .ref 65, .ref 75, .ref 81, .ref 85, .ref 88, .ref 93, .ref 96, .int 0, .int (-1), .ref 97, .int 1]) dX11_drunk_154 fw_X11_107 hk0 (Nat.le_of_ble_eq_true rfl) jb1 rfl ?_
  refine J_aload_n dX11_drunk_157 rfl rfl ?_
  refine J_iload dX11_drunk_158 rfl ?_
  refine J_callV (st := []) dX11_drunk_160 cv_X11_129 (c_X11_accept_4 rfl) rfl rfl rfl (Nat.le_of_ble_eq_true rfl) ⟨(Nat.le_of_ble_eq_true rfl), (Nat.le_of_ble_eq_true rfl)⟩ ⟨(Nat.le_of_ble_eq_true rfl), (Nat.le_of_ble_eq_true rfl)⟩ (fun r h9 hp => ?_)
  obtain ⟨rfl, rfl⟩ := hp
  refine J_nf (nh2 := 136) (ck2 := 1) (sk2 := 22) (st2 := [.int 0]) rfl rfl rfl rfl ?_
  refine J_app (L3 := [(0, .inr (11, [.ref 1, .ref 17, .ref 50, .ref 51, .ref 54, .ref 57, .ref 65, .ref 75, .ref 81, .ref 85, .ref 88, .ref 93, .ref 96, .int 0, .int (-1), .ref 97, .int 1])), (0, .inr (11, [.ref 1, .ref 17, .ref 50, .ref 51, .ref 54, .ref 57, .ref 65, .ref 75, .ref 81, .ref 85, .ref 88, .ref 93, .ref 96, .int 0, .int (-1), .ref 97, .int 1])), (97, .inl (0, 1260, .inl (upd (fun _ => 0) 0 1))), (97, .inl (0, 1260, .inl (fun _ => 0))), (57, .inr (9, [.ref 1, .ref 51, .ref 58, .ref 61, .ref 62, .ref 135, .ref 64, .int 0, .int 0, .int 0])), (62, .inl (0, 1260, .inl (upd (fun _ => 0) 0 (-1)))), (135, .inl (0, 22, .inl (fun _ => 0))), (59, .inl (0, 8, .inl (upd (upd (fun _ => 0) 6 0) 7 0)))]) rfl ?_
  refine J_mask (L2 := [(0, .inr (11, [.ref 1, .ref 17, .ref 50, .ref 51, .ref 54, .ref 57, .ref 65, .ref 75, .ref 81, .ref 85, .ref 88, .ref 93, .ref 96, .int 0, .int (-1), .ref 97, .int 1])), (97, .inl (0, 1260, .inl (upd (fun _ => 0) 0 1))), (57, .inr (9, [.ref 1, .ref 51, .ref 58, .ref 61, .ref 62, .ref 135, .ref 64, .int 0, .int 0, .int 0])), (62, .inl (0, 1260, .inl (upd (fun _ => 0) 0 (-1)))), (135, .inl (0, 22, .inl (fun _ => 0))), (59, .inl (0, 8, .inl (upd (upd (fun _ => 0) 6 0) 7 0)))]) (ks := [0, 0, 97, 97, 57, 62, 135, 59]) [true, false, true, false, true, true, true, true] rfl (by decide +kernel) rfl ?_
  exact J_iret dX11_drunk_163 rfl rfl (Nat.le_of_ble_eq_true rfl) (Nat.le_of_ble_eq_true rfl) ⟨rfl, rfl⟩
set_option maxHeartbeats 4000000 in
set_option maxRecDepth 100000 in
theorem c_X12_lies_67 {l : Launch} {G : jG} {nh : Nat} {fh : Nat → Option va_E}  : JM l G yX12_lies MX12_lies { frames := 0, cells := 0, slots := 0, locals := 0 } [.int 0, .int 0, .int 500] (nh, fh) (fun r h9 => r = some (.int 1) ∧ h9 = (nh, fh)) := by
  refine JM.of (by decide) rfl (fun h => by cases h) (Nat.le_of_ble_eq_true rfl) ⟨0, rfl⟩ ?_
  refine J_hc0 (J_ls (ls2 := [some (.int 0), some (.int 0), some (.int 500)]) rfl ?_)
  refine J_iload_n dX12_lies_0 rfl rfl ?_
  refine J_iload_n dX12_lies_1 rfl rfl ?_
  refine J_icmp_lt (tgt := 14) dX12_lies_2 (by decide) (fun q => absurd q (by decide +kernel)) (fun _ => ?_)
  refine J_iload_n dX12_lies_5 rfl rfl ?_
  refine J_iload_n dX12_lies_6 rfl rfl ?_
  refine J_icmp_gt (tgt := 14) dX12_lies_7 (by decide) (fun q => absurd q (by decide +kernel)) (fun _ => ?_)
  refine J_iconst (v := 1) dX12_lies_10 (by decide) ?_
  refine J_goto (tgt := 15) dX12_lies_11 (by decide) ?_
  exact J_iret dX12_lies_15 rfl (by decide +kernel) (Nat.le_of_ble_eq_true rfl) (Nat.le_of_ble_eq_true rfl) ⟨rfl, rfl⟩
set_option maxHeartbeats 4000000 in
set_option maxRecDepth 100000 in
theorem c_X12_good_4 {l : Launch} {G : jG} {nh : Nat} {fh : Nat → Option va_E} (s1 : Int32) (hk98 : fh 98 = some (.inr (12, [.int 0, .int 0, .ref 99, .ref 100, .ref 101, .ref 102, .ref 103, .ref 104, .ref 105, .int 0, .int (-1), .ref 106, .ref 107, .ref 108, .int 0, .int 0, .int 0, .int 0, .int 0, .int 0, .int 0, .ref 109, .int 0, .int 0, .ref 110, .ref 111, .ref 112, .ref 113, .ref 114, .ref 115, .ref 116, .ref 117, .int 1, .int 0, .int 0, .int 0, .ref 118, .ref 119, .ref 120, .ref 121, .ref 122, .ref 123, .ref 124, .ref 125, .ref 126, .ref 127, .ref 128, .ref 129, .int 0, .ref 130, .ref 131, .ref 132, .ref 133, .ref 134, .int 1, .int s1]))) : JM l G yX12_good MX12_good { frames := 0, cells := 0, slots := 0, locals := 0 } [.ref 98, .int 0] (nh, fh) (fun r h9 => r = some (.int 0) ∧ h9 = (nh, hc fh [(98, .inr (12, [.int 0, .int 1, .ref 99, .ref 100, .ref 101, .ref 102, .ref 103, .ref 104, .ref 105, .int 0, .int (-1), .ref 106, .ref 107, .ref 108, .int 0, .int 0, .int 0, .int 0, .int 0, .int 0, .int 0, .ref 109, .int 0, .int 0, .ref 110, .ref 111, .ref 112, .ref 113, .ref 114, .ref 115, .ref 116, .ref 117, .int 1, .int 0, .int 0, .int 0, .ref 118, .ref 119, .ref 120, .ref 121, .ref 122, .ref 123, .ref 124, .ref 125, .ref 126, .ref 127, .ref 128, .ref 129, .int 0, .ref 130, .ref 131, .ref 132, .ref 133, .ref 134, .int 1, .int s1]))])) := by
  refine JM.of (by decide) rfl (fun h => by cases h) (Nat.le_of_ble_eq_true rfl) ⟨0, rfl⟩ ?_
  refine J_hc0 (J_ls (ls2 := [some (.ref 98), some (.int 0)]) rfl ?_)
  refine J_aload_n dX12_good_0 rfl rfl ?_
  refine J_iconst (v := 0) dX12_good_1 (by decide) ?_
  refine K_put (fs2 := [.int 0, .int 0, .ref 99, .ref 100, .ref 101, .ref 102, .ref 103, .ref 104, .ref 105, .int 0, .int (-1), .ref 106, .ref 107, .ref 108, .int 0, .int 0, .int 0, .int 0, .int 0, .int 0, .int 0, .ref 109, .int 0, .int 0, .ref 110, .ref 111, .ref 112, .ref 113, .ref 114, .ref 115, .ref 116, .ref 117, .int 1, .int 0, .int 0, .int 0, .ref 118, .ref 119, .ref 120, .ref 121, .ref 122, .ref 123, .ref 124, .ref 125, .ref 126, .ref 127, .ref 128, .ref 129, .int 0, .ref 130, .ref 131, .ref 132, .ref 133, .ref 134, .int 1, .int s1]) dX12_good_2 fw_X12_3 hk98 (Nat.le_of_ble_eq_true rfl) (fun _ => ⟨rfl, rfl⟩) rfl ?_
  refine J_aload_n dX12_good_5 rfl rfl ?_
  refine J_dup dX12_good_6 rfl ?_
  refine J_get (v := .int 0) dX12_good_7 fl_X12_11 rfl rfl ?_
  refine J_iconst (v := 1) dX12_good_10 (by decide) ?_
  refine J_iadd (z := 1) dX12_good_11 (by decide +kernel) ?_
  refine K_put (fs2 := [.int 0, .int 1, .ref 99, .ref 100, .ref 101, .ref 102, .ref 103, .ref 104, .ref 105, .int 0, .int (-1), .ref 106, .ref 107, .ref 108, .int 0, .int 0, .int 0, .int 0, .int 0, .int 0, .int 0, .ref 109, .int 0, .int 0, .ref 110, .ref 111, .ref 112, .ref 113, .ref 114, .ref 115, .ref 116, .ref 117, .int 1, .int 0, .int 0, .int 0, .ref 118, .ref 119, .ref 120, .ref 121, .ref 122, .ref 123, .ref 124, .ref 125, .ref 126, .ref 127, .ref 128, .ref 129, .int 0, .ref 130, .ref 131, .ref 132, .ref 133, .ref 134, .int 1, .int s1]) dX12_good_12 fw_X12_11 rfl (Nat.le_of_ble_eq_true rfl) (fun _ => ⟨rfl, rfl⟩) rfl ?_
  refine J_iload_n dX12_good_15 rfl rfl ?_
  refine J_mask (L2 := [(98, .inr (12, [.int 0, .int 1, .ref 99, .ref 100, .ref 101, .ref 102, .ref 103, .ref 104, .ref 105, .int 0, .int (-1), .ref 106, .ref 107, .ref 108, .int 0, .int 0, .int 0, .int 0, .int 0, .int 0, .int 0, .ref 109, .int 0, .int 0, .ref 110, .ref 111, .ref 112, .ref 113, .ref 114, .ref 115, .ref 116, .ref 117, .int 1, .int 0, .int 0, .int 0, .ref 118, .ref 119, .ref 120, .ref 121, .ref 122, .ref 123, .ref 124, .ref 125, .ref 126, .ref 127, .ref 128, .ref 129, .int 0, .ref 130, .ref 131, .ref 132, .ref 133, .ref 134, .int 1, .int s1]))]) (ks := [98, 98]) [true, false] rfl (by decide +kernel) rfl ?_
  exact J_iret dX12_good_16 rfl rfl (Nat.le_of_ble_eq_true rfl) (Nat.le_of_ble_eq_true rfl) ⟨rfl, rfl⟩
set_option maxHeartbeats 4000000 in
set_option maxRecDepth 100000 in
theorem c_X12_drunk_4 {l : Launch} {G : jG} {nh : Nat} {fh : Nat → Option va_E} (a1 : Int32) (b_a1 : 0 ≤ a1.toInt ∧ a1.toInt ≤ 1000000) (hk98 : fh 98 = some (.inr (12, [.int 0, .int 0, .ref 99, .ref 100, .ref 101, .ref 102, .ref 103, .ref 104, .ref 105, .int 0, .int (-1), .ref 106, .ref 107, .ref 108, .int 0, .int 0, .int 0, .int 0, .int 0, .int 0, .int 0, .ref 109, .int 0, .int 0, .ref 110, .ref 111, .ref 112, .ref 113, .ref 114, .ref 115, .ref 116, .ref 117, .int 0, .int 0, .int (-1), .int (-1), .ref 118, .ref 119, .ref 120, .ref 121, .ref 122, .ref 123, .ref 124, .ref 125, .ref 126, .ref 127, .ref 128, .ref 129, .int 0, .ref 130, .ref 131, .ref 132, .ref 133, .ref 134, .int 0, .int 0]))) (hk100 : fh 100 = some (.inl (0, 4870, .inl (upd (fun _ => 0) 63 (-1))))) (hk111 : fh 111 = some (.inl (0, 1260, .inl (fun _ => 0)))) (hk114 : fh 114 = some (.inl (0, 1260, .inl (fun _ => 0)))) (hk116 : fh 116 = some (.inl (0, 1260, .inl (fun _ => 0)))) (hk134 : fh 134 = some (.inl (0, 1260, .inl (fun _ => 0)))) : JM l G yX12_drunk MX12_drunk { frames := 3, cells := 0, slots := 0, locals := 69 } [.ref 98, .int a1, .int 0, .int 0] (nh, fh) (fun r h9 => r = some (.int 0) ∧ h9 = (nh, hc fh [(98, .inr (12, [.int 0, .int 1, .ref 99, .ref 100, .ref 101, .ref 102, .ref 103, .ref 104, .ref 105, .int 0, .int (-1), .ref 106, .ref 107, .ref 108, .int 0, .int 0, .int 0, .int 0, .int 0, .int 0, .int 0, .ref 109, .int 0, .int 0, .ref 110, .ref 111, .ref 112, .ref 113, .ref 114, .ref 115, .ref 116, .ref 117, .int 1, .int 0, .int 0, .int 0, .ref 118, .ref 119, .ref 120, .ref 121, .ref 122, .ref 123, .ref 124, .ref 125, .ref 126, .ref 127, .ref 128, .ref 129, .int 0, .ref 130, .ref 131, .ref 132, .ref 133, .ref 134, .int 1, .int a1])), (134, .inl (0, 1260, .inl (upd (upd (fun _ => 0) 0 0) 0 1))), (114, .inl (0, 1260, .inl (upd (fun _ => 0) 0 0))), (116, .inl (0, 1260, .inl (upd (fun _ => 0) 0 0))), (111, .inl (0, 1260, .inl (upd (fun _ => 0) 0 0)))])) := by
  refine JM.of (by decide) rfl (fun h => by cases h) (Nat.le_of_ble_eq_true rfl) ⟨2, rfl⟩ ?_
  refine J_hc0 (J_ls (ls2 := [some (.ref 98), some (.int a1), some (.int 0), some (.int 0), none, none]) rfl ?_)
  refine J_iload_n dX12_drunk_0 rfl rfl ?_
  refine J_iconst (v := 0) dX12_drunk_1 (by decide) ?_
  refine J_ldc (v := 1000000) dX12_drunk_2 (jt7 88 rfl rfl) ?_
  refine J_callS (st := []) dX12_drunk_4 cs_X12_138 (c_X12_lies_64 (a1) b_a1) rfl rfl (Nat.le_of_ble_eq_true rfl) ⟨(Nat.le_of_ble_eq_true rfl), (Nat.le_of_ble_eq_true rfl)⟩ ⟨(Nat.le_of_ble_eq_true rfl), (Nat.le_of_ble_eq_true rfl)⟩ (fun r h9 hp => ?_)
  obtain ⟨rfl, rfl⟩ := hp
  refine J_nf (nh2 := nh) (ck2 := 0) (sk2 := 0) (st2 := [.int 1]) rfl rfl rfl rfl ?_
  refine J_if_eq (tgt := 21) dX12_drunk_7 (by decide) (fun q => absurd q (by decide +kernel)) (fun _ => ?_)
  refine J_iload_n dX12_drunk_10 rfl rfl ?_
  refine J_iconst (v := 0) dX12_drunk_11 (by decide) ?_
  refine J_sipush (v := 500) dX12_drunk_12 (by decide +kernel) ?_
  refine J_callS (st := []) dX12_drunk_15 cs_X12_138 (c_X12_lies_67 ) rfl rfl (Nat.le_of_ble_eq_true rfl) ⟨(Nat.le_of_ble_eq_true rfl), (Nat.le_of_ble_eq_true rfl)⟩ ⟨(Nat.le_of_ble_eq_true rfl), (Nat.le_of_ble_eq_true rfl)⟩ (fun r h9 hp => ?_)
  obtain ⟨rfl, rfl⟩ := hp
  refine J_nf (nh2 := nh) (ck2 := 0) (sk2 := 0) (st2 := [.int 1]) rfl rfl rfl rfl ?_
  refine J_if_ne (tgt := 27) dX12_drunk_18 (by decide) (fun _ => ?_) (fun q => absurd q (by decide +kernel))
  refine J_aload_n dX12_drunk_27 rfl rfl ?_
  refine J_iload_n dX12_drunk_28 rfl rfl ?_
  refine J_callV (st := []) dX12_drunk_29 cv_X12_325 (c_X12_isHouse_2 hk98 hk100 hk111) hk98 rfl rfl (Nat.le_of_ble_eq_true rfl) ⟨(Nat.le_of_ble_eq_true rfl), (Nat.le_of_ble_eq_true rfl)⟩ ⟨(Nat.le_of_ble_eq_true rfl), (Nat.le_of_ble_eq_true rfl)⟩ (fun r h9 hp => ?_)
  obtain ⟨rfl, rfl⟩ := hp
  refine J_nf (nh2 := nh) (ck2 := 0) (sk2 := 0) (st2 := [.int 1]) rfl rfl rfl rfl ?_
  refine J_app (L3 := [(98, .inr (12, [.int 0, .int 0, .ref 99, .ref 100, .ref 101, .ref 102, .ref 103, .ref 104, .ref 105, .int 0, .int (-1), .ref 106, .ref 107, .ref 108, .int 0, .int 0, .int 0, .int 0, .int 0, .int 0, .int 0, .ref 109, .int 0, .int 0, .ref 110, .ref 111, .ref 112, .ref 113, .ref 114, .ref 115, .ref 116, .ref 117, .int 1, .int 0, .int 0, .int (-1), .ref 118, .ref 119, .ref 120, .ref 121, .ref 122, .ref 123, .ref 124, .ref 125, .ref 126, .ref 127, .ref 128, .ref 129, .int 0, .ref 130, .ref 131, .ref 132, .ref 133, .ref 134, .int 0, .int 0])), (111, .inl (0, 1260, .inl (upd (fun _ => 0) 0 0)))]) rfl ?_
  refine J_if_ne (tgt := 42) dX12_drunk_32 (by decide) (fun _ => ?_) (fun q => absurd q (by decide +kernel))
  refine J_aload_n dX12_drunk_42 rfl rfl ?_
  refine J_callV (st := []) dX12_drunk_43 cv_X12_328 (c_X12_looks_1 rfl hk100 hk114 hk116) rfl rfl rfl (Nat.le_of_ble_eq_true rfl) ⟨(Nat.le_of_ble_eq_true rfl), (Nat.le_of_ble_eq_true rfl)⟩ ⟨(Nat.le_of_ble_eq_true rfl), (Nat.le_of_ble_eq_true rfl)⟩ (fun r h9 hp => ?_)
  obtain ⟨rfl, rfl⟩ := hp
  refine J_nf (nh2 := nh) (ck2 := 0) (sk2 := 0) (st2 := []) rfl rfl rfl rfl ?_
  refine J_app (L3 := [(114, .inl (0, 1260, .inl (upd (fun _ => 0) 0 0))), (116, .inl (0, 1260, .inl (upd (fun _ => 0) 0 0))), (98, .inr (12, [.int 0, .int 0, .ref 99, .ref 100, .ref 101, .ref 102, .ref 103, .ref 104, .ref 105, .int 0, .int (-1), .ref 106, .ref 107, .ref 108, .int 0, .int 0, .int 0, .int 0, .int 0, .int 0, .int 0, .ref 109, .int 0, .int 0, .ref 110, .ref 111, .ref 112, .ref 113, .ref 114, .ref 115, .ref 116, .ref 117, .int 1, .int 0, .int 0, .int 0, .ref 118, .ref 119, .ref 120, .ref 121, .ref 122, .ref 123, .ref 124, .ref 125, .ref 126, .ref 127, .ref 128, .ref 129, .int 0, .ref 130, .ref 131, .ref 132, .ref 133, .ref 134, .int 0, .int 0])), (98, .inr (12, [.int 0, .int 0, .ref 99, .ref 100, .ref 101, .ref 102, .ref 103, .ref 104, .ref 105, .int 0, .int (-1), .ref 106, .ref 107, .ref 108, .int 0, .int 0, .int 0, .int 0, .int 0, .int 0, .int 0, .ref 109, .int 0, .int 0, .ref 110, .ref 111, .ref 112, .ref 113, .ref 114, .ref 115, .ref 116, .ref 117, .int 1, .int 0, .int 0, .int (-1), .ref 118, .ref 119, .ref 120, .ref 121, .ref 122, .ref 123, .ref 124, .ref 125, .ref 126, .ref 127, .ref 128, .ref 129, .int 0, .ref 130, .ref 131, .ref 132, .ref 133, .ref 134, .int 0, .int 0])), (111, .inl (0, 1260, .inl (upd (fun _ => 0) 0 0)))]) rfl ?_
  refine J_aload_n dX12_drunk_46 rfl rfl ?_
  refine J_iload_n dX12_drunk_47 rfl rfl ?_
  refine K_put (fs2 := [.int 0, .int 0, .ref 99, .ref 100, .ref 101, .ref 102, .ref 103, .ref 104, .ref 105, .int 0, .int (-1), .ref 106, .ref 107, .ref 108, .int 0, .int 0, .int 0, .int 0, .int 0, .int 0, .int 0, .ref 109, .int 0, .int 0, .ref 110, .ref 111, .ref 112, .ref 113, .ref 114, .ref 115, .ref 116, .ref 117, .int 1, .int 0, .int 0, .int 0, .ref 118, .ref 119, .ref 120, .ref 121, .ref 122, .ref 123, .ref 124, .ref 125, .ref 126, .ref 127, .ref 128, .ref 129, .int 0, .ref 130, .ref 131, .ref 132, .ref 133, .ref 134, .int 0, .int a1]) dX12_drunk_48 fw_X12_368 rfl (Nat.le_of_ble_eq_true rfl) (fun _ => ⟨rfl, rfl⟩) rfl ?_
  refine J_aload_n dX12_drunk_51 rfl rfl ?_
  refine J_aload_n dX12_drunk_52 rfl rfl ?_
  refine J_get (v := .int 1) dX12_drunk_53 fl_X12_298 rfl rfl ?_
  refine K_put (fs2 := [.int 0, .int 0, .ref 99, .ref 100, .ref 101, .ref 102, .ref 103, .ref 104, .ref 105, .int 0, .int (-1), .ref 106, .ref 107, .ref 108, .int 0, .int 0, .int 0, .int 0, .int 0, .int 0, .int 0, .ref 109, .int 0, .int 0, .ref 110, .ref 111, .ref 112, .ref 113, .ref 114, .ref 115, .ref 116, .ref 117, .int 1, .int 0, .int 0, .int 0, .ref 118, .ref 119, .ref 120, .ref 121, .ref 122, .ref 123, .ref 124, .ref 125, .ref 126, .ref 127, .ref 128, .ref 129, .int 0, .ref 130, .ref 131, .ref 132, .ref 133, .ref 134, .int 1, .int a1]) dX12_drunk_56 fw_X12_375 rfl (Nat.le_of_ble_eq_true rfl) (fun _ => ⟨rfl, rfl⟩) rfl ?_
  refine J_iconst (v := 0) dX12_drunk_59 (by decide) ?_
  refine J_istore dX12_drunk_60 (Nat.le_of_ble_eq_true rfl) rfl ?_
  refine J_iload dX12_drunk_62 rfl ?_
  refine J_aload_n dX12_drunk_64 rfl rfl ?_
  refine J_get (v := .int 1) dX12_drunk_65 fl_X12_298 rfl rfl ?_
  refine J_icmp_ge (tgt := 85) dX12_drunk_68 (by decide) (fun q => absurd q (by decide +kernel)) (fun _ => ?_)
  refine J_aload_n dX12_drunk_71 rfl rfl ?_
  refine J_get (v := .ref 134) dX12_drunk_72 fl_X12_135 rfl rfl ?_
  refine J_iload dX12_drunk_75 rfl ?_
  refine J_iconst (v := 0) dX12_drunk_77 (by decide) ?_
  refine K_iast (i2 := 0) dX12_drunk_78 hk134 rfl (jin (by decide +kernel)) (by decide +kernel) ?_
  refine J_iinc (v := 1) dX12_drunk_79 rfl (by decide +kernel) (Nat.le_of_ble_eq_true rfl) rfl ?_
  refine J_ls (ls2 := [some (.ref 98), some (.int a1), some (.int 0), some (.int 0), some (.int 1), none]) rfl ?_
  refine J_goto (tgt := 62) dX12_drunk_82 (by decide) ?_
  refine J_iload dX12_drunk_62 rfl ?_
  refine J_aload_n dX12_drunk_64 rfl rfl ?_
  refine J_get (v := .int 1) dX12_drunk_65 fl_X12_298 rfl rfl ?_
  refine J_icmp_ge (tgt := 85) dX12_drunk_68 (by decide) (fun _ => ?_) (fun q => absurd (by decide +kernel) q)
  refine J_iload_n dX12_drunk_85 rfl rfl ?_
  refine J_istore dX12_drunk_86 (Nat.le_of_ble_eq_true rfl) rfl ?_
  refine J_aload_n dX12_drunk_88 rfl rfl ?_
  refine J_get (v := .ref 134) dX12_drunk_89 fl_X12_135 rfl rfl ?_
  refine J_iload dX12_drunk_92 rfl ?_
  refine J_dup2_11 dX12_drunk_94 rfl rfl ?_
  refine J_iald (i2 := 0) (v := 0) dX12_drunk_95 rfl rfl (jin (by decide +kernel)) (by decide +kernel) rfl ?_
  refine J_iconst (v := 1) dX12_drunk_96 (by decide) ?_
  refine J_iadd (z := 1) dX12_drunk_97 (by decide +kernel) ?_
  refine K_iast (i2 := 0) dX12_drunk_98 rfl rfl (jin (by decide +kernel)) (by decide +kernel) ?_
  refine J_iconst (v := 0) dX12_drunk_99 (by decide) ?_
  refine J_istore dX12_drunk_100 (Nat.le_of_ble_eq_true rfl) rfl ?_
  refine J_iload dX12_drunk_102 rfl ?_
  refine J_iload_n dX12_drunk_104 rfl rfl ?_
  refine J_icmp_ge (tgt := 159) dX12_drunk_105 (by decide) (fun _ => ?_) (fun q => absurd (by decide +kernel) q)
  refine J_aload_n dX12_drunk_159 rfl rfl ?_
  refine J_iload dX12_drunk_160 rfl ?_
  refine J_callV (st := []) dX12_drunk_162 cv_X12_146 (c_X12_good_4 (a1) rfl) rfl rfl rfl (Nat.le_of_ble_eq_true rfl) ⟨(Nat.le_of_ble_eq_true rfl), (Nat.le_of_ble_eq_true rfl)⟩ ⟨(Nat.le_of_ble_eq_true rfl), (Nat.le_of_ble_eq_true rfl)⟩ (fun r h9 hp => ?_)
  obtain ⟨rfl, rfl⟩ := hp
  refine J_nf (nh2 := nh) (ck2 := 0) (sk2 := 0) (st2 := [.int 0]) rfl rfl rfl rfl ?_
  refine J_app (L3 := [(98, .inr (12, [.int 0, .int 1, .ref 99, .ref 100, .ref 101, .ref 102, .ref 103, .ref 104, .ref 105, .int 0, .int (-1), .ref 106, .ref 107, .ref 108, .int 0, .int 0, .int 0, .int 0, .int 0, .int 0, .int 0, .ref 109, .int 0, .int 0, .ref 110, .ref 111, .ref 112, .ref 113, .ref 114, .ref 115, .ref 116, .ref 117, .int 1, .int 0, .int 0, .int 0, .ref 118, .ref 119, .ref 120, .ref 121, .ref 122, .ref 123, .ref 124, .ref 125, .ref 126, .ref 127, .ref 128, .ref 129, .int 0, .ref 130, .ref 131, .ref 132, .ref 133, .ref 134, .int 1, .int a1])), (134, .inl (0, 1260, .inl (upd (upd (fun _ => 0) 0 0) 0 1))), (134, .inl (0, 1260, .inl (upd (fun _ => 0) 0 0))), (98, .inr (12, [.int 0, .int 0, .ref 99, .ref 100, .ref 101, .ref 102, .ref 103, .ref 104, .ref 105, .int 0, .int (-1), .ref 106, .ref 107, .ref 108, .int 0, .int 0, .int 0, .int 0, .int 0, .int 0, .int 0, .ref 109, .int 0, .int 0, .ref 110, .ref 111, .ref 112, .ref 113, .ref 114, .ref 115, .ref 116, .ref 117, .int 1, .int 0, .int 0, .int 0, .ref 118, .ref 119, .ref 120, .ref 121, .ref 122, .ref 123, .ref 124, .ref 125, .ref 126, .ref 127, .ref 128, .ref 129, .int 0, .ref 130, .ref 131, .ref 132, .ref 133, .ref 134, .int 1, .int a1])), (98, .inr (12, [.int 0, .int 0, .ref 99, .ref 100, .ref 101, .ref 102, .ref 103, .ref 104, .ref 105, .int 0, .int (-1), .ref 106, .ref 107, .ref 108, .int 0, .int 0, .int 0, .int 0, .int 0, .int 0, .int 0, .ref 109, .int 0, .int 0, .ref 110, .ref 111, .ref 112, .ref 113, .ref 114, .ref 115, .ref 116, .ref 117, .int 1, .int 0, .int 0, .int 0, .ref 118, .ref 119, .ref 120, .ref 121, .ref 122, .ref 123, .ref 124, .ref 125, .ref 126, .ref 127, .ref 128, .ref 129, .int 0, .ref 130, .ref 131, .ref 132, .ref 133, .ref 134, .int 0, .int a1])), (114, .inl (0, 1260, .inl (upd (fun _ => 0) 0 0))), (116, .inl (0, 1260, .inl (upd (fun _ => 0) 0 0))), (98, .inr (12, [.int 0, .int 0, .ref 99, .ref 100, .ref 101, .ref 102, .ref 103, .ref 104, .ref 105, .int 0, .int (-1), .ref 106, .ref 107, .ref 108, .int 0, .int 0, .int 0, .int 0, .int 0, .int 0, .int 0, .ref 109, .int 0, .int 0, .ref 110, .ref 111, .ref 112, .ref 113, .ref 114, .ref 115, .ref 116, .ref 117, .int 1, .int 0, .int 0, .int 0, .ref 118, .ref 119, .ref 120, .ref 121, .ref 122, .ref 123, .ref 124, .ref 125, .ref 126, .ref 127, .ref 128, .ref 129, .int 0, .ref 130, .ref 131, .ref 132, .ref 133, .ref 134, .int 0, .int 0])), (98, .inr (12, [.int 0, .int 0, .ref 99, .ref 100, .ref 101, .ref 102, .ref 103, .ref 104, .ref 105, .int 0, .int (-1), .ref 106, .ref 107, .ref 108, .int 0, .int 0, .int 0, .int 0, .int 0, .int 0, .int 0, .ref 109, .int 0, .int 0, .ref 110, .ref 111, .ref 112, .ref 113, .ref 114, .ref 115, .ref 116, .ref 117, .int 1, .int 0, .int 0, .int (-1), .ref 118, .ref 119, .ref 120, .ref 121, .ref 122, .ref 123, .ref 124, .ref 125, .ref 126, .ref 127, .ref 128, .ref 129, .int 0, .ref 130, .ref 131, .ref 132, .ref 133, .ref 134, .int 0, .int 0])), (111, .inl (0, 1260, .inl (upd (fun _ => 0) 0 0)))]) rfl ?_
  refine J_mask (L2 := [(98, .inr (12, [.int 0, .int 1, .ref 99, .ref 100, .ref 101, .ref 102, .ref 103, .ref 104, .ref 105, .int 0, .int (-1), .ref 106, .ref 107, .ref 108, .int 0, .int 0, .int 0, .int 0, .int 0, .int 0, .int 0, .ref 109, .int 0, .int 0, .ref 110, .ref 111, .ref 112, .ref 113, .ref 114, .ref 115, .ref 116, .ref 117, .int 1, .int 0, .int 0, .int 0, .ref 118, .ref 119, .ref 120, .ref 121, .ref 122, .ref 123, .ref 124, .ref 125, .ref 126, .ref 127, .ref 128, .ref 129, .int 0, .ref 130, .ref 131, .ref 132, .ref 133, .ref 134, .int 1, .int a1])), (134, .inl (0, 1260, .inl (upd (upd (fun _ => 0) 0 0) 0 1))), (114, .inl (0, 1260, .inl (upd (fun _ => 0) 0 0))), (116, .inl (0, 1260, .inl (upd (fun _ => 0) 0 0))), (111, .inl (0, 1260, .inl (upd (fun _ => 0) 0 0)))]) (ks := [98, 134, 134, 98, 98, 114, 116, 98, 98, 111]) [true, true, false, false, false, true, true, false, false, true] rfl (by decide +kernel) rfl ?_
  exact J_iret dX12_drunk_165 rfl rfl (Nat.le_of_ble_eq_true rfl) (Nat.le_of_ble_eq_true rfl) ⟨rfl, rfl⟩
set_option maxHeartbeats 4000000 in
set_option maxRecDepth 100000 in
theorem c_X11_drunk_loop {l : Launch} {G : jG} {fh : Nat → Option va_E} (a1 : Int32) (b_a1 : 0 ≤ a1.toInt ∧ a1.toInt ≤ 1000000) (a3 : Int32) (b_a3 : 1 ≤ a3.toInt ∧ a3.toInt ≤ 500) (hk0 : fh 0 = some (.inr (11, [.ref 1, .ref 17, .ref 50, .ref 51, .ref 54, .ref 57, .ref 65, .ref 75, .ref 81, .ref 85, .ref 88, .ref 93, .ref 96, .int 0, .int (-1), .ref 97, .int 0]))) (hk1 : fh 1 = some (.inr (8, [.ref 2, .ref 3, .ref 4, .int 0, .int (-1), .ref 11, .ref 12, .int 0, .ref 13, .ref 14, .int 0, .ref 15, .ref 16, .int 0]))) (hk3 : fh 3 = some (.inl (0, 2, .inl (fun _ => 0)))) (hk51 : fh 51 = some (.inr (0, [.ref 52, .ref 53, .int 1, .int 0]))) (hk52 : fh 52 = some (.inl (0, 1260, .inl (upd (fun _ => 0) 0 0)))) (hk57 : fh 57 = some (.inr (9, [.ref 1, .ref 51, .ref 58, .ref 61, .ref 62, .ref 63, .ref 64, .int 0, .int 1, .int 1]))) (hk58 : fh 58 = some (.inr (1, [.ref 59, .ref 60, .int 0, .int 0, .int 0, .int 0, .int 0, .int 1]))) (hk59 : fh 59 = some (.inl (0, 8, .inl (fun _ => 0)))) (hk62 : fh 62 = some (.inl (0, 1260, .inl (fun _ => 0)))) (hk63 : fh 63 = some (.inl (0, 0, .inl (fun _ => 0)))) (hk97 : fh 97 = some (.inl (0, 1260, .inl (fun _ => 0)))) : JM l G yX11_drunk MX11_drunk { frames := 4, cells := 1, slots := 22, locals := 95 } [.ref 0, .int a1, .int 0, .int a3] (135, fh) (fun r h9 => r = some (.int 0) ∧ ∃ g : Nat → Int32, h9 = (136, hc fh [(0, .inr (11, [.ref 1, .ref 17, .ref 50, .ref 51, .ref 54, .ref 57, .ref 65, .ref 75, .ref 81, .ref 85, .ref 88, .ref 93, .ref 96, .int 0, .int (-1), .ref 97, .int 1])), (97, .inl (0, 1260, .inl g)), (62, .inl (0, 1260, .inl (upd (upd (fun _ => 0) 0 (-1)) 0 0))), (57, .inr (9, [.ref 1, .ref 51, .ref 58, .ref 61, .ref 62, .ref 135, .ref 64, .int 0, .int 0, .int 0])), (135, .inl (0, 22, .inl (fun _ => 0))), (59, .inl (0, 8, .inl (upd (upd (fun _ => 0) 6 0) 7 0)))])) := by
  refine JM.of (by decide) rfl (fun h => by cases h) (Nat.le_of_ble_eq_true rfl) ⟨4, rfl⟩ ?_
  refine J_hc0 (J_ls (ls2 := [some (.ref 0), some (.int a1), some (.int 0), some (.int a3), none, none, none, none]) rfl ?_)
  refine J_iload_n dX11_drunk_0 rfl rfl ?_
  refine J_if_lt (tgt := 22) dX11_drunk_1 (by decide) (fun q => absurd q (by have hb0 := b_a1; simp only [fa_lt, fa_le, fa_eq, kc_0]; omega)) (fun _ => ?_)
  refine J_iload_n dX11_drunk_4 rfl rfl ?_
  refine J_ldcw (v := 1000000) dX11_drunk_5 (jt6 40 rfl rfl) ?_
  refine J_icmp_gt (tgt := 22) dX11_drunk_8 (by decide) (fun q => absurd q (by have hb0 := b_a1; simp only [fa_lt, fa_le, fa_eq, kc_1000000]; omega)) (fun _ => ?_)
  refine J_iload_n dX11_drunk_11 rfl rfl ?_
  refine J_if_lt (tgt := 22) dX11_drunk_12 (by decide) (fun q => absurd q (by have hb0 := b_a3; simp only [fa_lt, fa_le, fa_eq, kc_0]; omega)) (fun _ => ?_)
  refine J_iload_n dX11_drunk_15 rfl rfl ?_
  refine J_sipush (v := 500) dX11_drunk_16 (by decide +kernel) ?_
  refine J_icmp_le (tgt := 28) dX11_drunk_19 (by decide) (fun _ => ?_) (fun q => absurd (by have hb0 := b_a3; simp only [fa_lt, fa_le, fa_eq, kc_500]; omega) q)
  refine J_aload_n dX11_drunk_28 rfl rfl ?_
  refine J_get (v := .ref 51) dX11_drunk_29 fl_X11_27 hk0 rfl ?_
  refine J_iload_n dX11_drunk_32 rfl rfl ?_
  refine J_callV (st := []) dX11_drunk_33 cv_X11_135 (c_X0_has_2 hk51) hk51 rfl rfl (Nat.le_of_ble_eq_true rfl) ⟨(Nat.le_of_ble_eq_true rfl), (Nat.le_of_ble_eq_true rfl)⟩ ⟨(Nat.le_of_ble_eq_true rfl), (Nat.le_of_ble_eq_true rfl)⟩ (fun r h9 hp => ?_)
  obtain ⟨rfl, rfl⟩ := hp
  refine J_nf (nh2 := 135) (ck2 := 0) (sk2 := 0) (st2 := [.int 1]) rfl rfl rfl rfl ?_
  refine J_if_ne (tgt := 46) dX11_drunk_36 (by decide) (fun _ => ?_) (fun q => absurd q (by decide +kernel))
  refine J_aload_n dX11_drunk_46 rfl rfl ?_
  refine J_get (v := .ref 57) dX11_drunk_47 fl_X11_43 hk0 rfl ?_
  refine J_callV (st := []) dX11_drunk_50 cv_X11_217 (c_X9_prepare_1 hk1 hk3 hk51 hk57 hk58 hk59 hk62 hk63) hk57 rfl rfl (Nat.le_of_ble_eq_true rfl) ⟨(Nat.le_of_ble_eq_true rfl), (Nat.le_of_ble_eq_true rfl)⟩ ⟨(Nat.le_of_ble_eq_true rfl), (Nat.le_of_ble_eq_true rfl)⟩ (fun r h9 hp => ?_)
  obtain ⟨rfl, rfl⟩ := hp
  refine J_nf (nh2 := 136) (ck2 := 1) (sk2 := 22) (st2 := []) rfl rfl rfl rfl ?_
  refine J_app (L3 := [(57, .inr (9, [.ref 1, .ref 51, .ref 58, .ref 61, .ref 62, .ref 135, .ref 64, .int 0, .int 0, .int 0])), (62, .inl (0, 1260, .inl (upd (fun _ => 0) 0 (-1)))), (135, .inl (0, 22, .inl (fun _ => 0))), (59, .inl (0, 8, .inl (upd (upd (fun _ => 0) 6 0) 7 0)))]) rfl ?_
  refine J_aload_n dX11_drunk_53 rfl rfl ?_
  refine J_get (v := .ref 97) dX11_drunk_54 fl_X11_104 hk0 rfl ?_
  refine J_iconst (v := 0) dX11_drunk_57 (by decide) ?_
  refine J_callS (st := []) dX11_drunk_58 cs_X11_168 (c_fill (k := 97) (n := 1260) 0 (by decide) hk97) rfl rfl (Nat.le_of_ble_eq_true rfl) ⟨(Nat.le_of_ble_eq_true rfl), (Nat.le_of_ble_eq_true rfl)⟩ ⟨(Nat.le_of_ble_eq_true rfl), (Nat.le_of_ble_eq_true rfl)⟩ (fun r h9 hp => ?_)
  obtain ⟨rfl, rfl⟩ := hp
  refine J_nf (nh2 := 136) (ck2 := 1) (sk2 := 22) (st2 := []) rfl rfl rfl rfl ?_
  refine J_app (L3 := [(97, .inl (0, 1260, .inl (fun _ => 0))), (57, .inr (9, [.ref 1, .ref 51, .ref 58, .ref 61, .ref 62, .ref 135, .ref 64, .int 0, .int 0, .int 0])), (62, .inl (0, 1260, .inl (upd (fun _ => 0) 0 (-1)))), (135, .inl (0, 22, .inl (fun _ => 0))), (59, .inl (0, 8, .inl (upd (upd (fun _ => 0) 6 0) 7 0)))]) rfl ?_
  refine J_iload_n dX11_drunk_61 rfl rfl ?_
  refine J_istore dX11_drunk_62 (Nat.le_of_ble_eq_true rfl) rfl ?_
  refine J_iload_n dX11_drunk_64 rfl rfl ?_
  refine J_istore dX11_drunk_65 (Nat.le_of_ble_eq_true rfl) rfl ?_
  refine J_aload_n dX11_drunk_67 rfl rfl ?_
  refine J_get (v := .ref 97) dX11_drunk_68 fl_X11_104 hk0 rfl ?_
  refine J_iload dX11_drunk_71 rfl ?_
  refine J_dup2_11 dX11_drunk_73 rfl rfl ?_
  refine J_iald (i2 := 0) (v := 0) dX11_drunk_74 rfl rfl (jin (by decide +kernel)) (by decide +kernel) rfl ?_
  refine J_iconst (v := 1) dX11_drunk_75 (by decide) ?_
  refine J_iadd (z := 1) dX11_drunk_76 (by decide +kernel) ?_
  refine K_iast (i2 := 0) dX11_drunk_77 rfl rfl (jin (by decide +kernel)) (by decide +kernel) ?_
  refine J_iconst (v := 0) dX11_drunk_78 (by decide) ?_
  refine J_istore dX11_drunk_79 (Nat.le_of_ble_eq_true rfl) rfl ?_
  refine J_iload dX11_drunk_81 rfl ?_
  refine J_iload_n dX11_drunk_83 rfl rfl ?_
  refine J_icmp_ge (tgt := 152) dX11_drunk_84 (by decide) (fun q => absurd q (by have hb0 := b_a3; simp only [fa_lt, fa_le, fa_eq, kc_0]; omega)) (fun _ => ?_)
  refine J_aload_n dX11_drunk_87 rfl rfl ?_
  refine J_get (v := .ref 57) dX11_drunk_88 fl_X11_43 hk0 rfl ?_
  refine J_iload dX11_drunk_91 rfl ?_
  refine J_callV (st := []) dX11_drunk_93 cv_X11_220 (c_X9_degree_1 hk1 hk3 hk51 hk52 rfl rfl) rfl rfl rfl (Nat.le_of_ble_eq_true rfl) ⟨(Nat.le_of_ble_eq_true rfl), (Nat.le_of_ble_eq_true rfl)⟩ ⟨(Nat.le_of_ble_eq_true rfl), (Nat.le_of_ble_eq_true rfl)⟩ (fun r h9 hp => ?_)
  obtain ⟨rfl, rfl⟩ := hp
  refine J_nf (nh2 := 136) (ck2 := 1) (sk2 := 22) (st2 := [.int 0]) rfl rfl rfl rfl ?_
  refine J_app (L3 := [(62, .inl (0, 1260, .inl (upd (upd (fun _ => 0) 0 (-1)) 0 0))), (97, .inl (0, 1260, .inl (upd (fun _ => 0) 0 1))), (97, .inl (0, 1260, .inl (fun _ => 0))), (57, .inr (9, [.ref 1, .ref 51, .ref 58, .ref 61, .ref 62, .ref 135, .ref 64, .int 0, .int 0, .int 0])), (62, .inl (0, 1260, .inl (upd (fun _ => 0) 0 (-1)))), (135, .inl (0, 22, .inl (fun _ => 0))), (59, .inl (0, 8, .inl (upd (upd (fun _ => 0) 6 0) 7 0)))]) rfl ?_
  refine J_istore dX11_drunk_96 (Nat.le_of_ble_eq_true rfl) rfl ?_
  refine J_iload dX11_drunk_98 rfl ?_
  refine J_if_le (tgt := 135) dX11_drunk_100 (by decide) (fun _ => ?_) (fun q => absurd (by decide +kernel) q)
  refine J_aload_n dX11_drunk_135 rfl rfl ?_
  refine J_get (v := .ref 97) dX11_drunk_136 fl_X11_104 hk0 rfl ?_
  refine J_iload dX11_drunk_139 rfl ?_
  refine J_dup2_11 dX11_drunk_141 rfl rfl ?_
  refine J_iald (i2 := 0) (v := 1) dX11_drunk_142 rfl rfl (jin (by decide +kernel)) (by decide +kernel) rfl ?_
  refine J_iconst (v := 1) dX11_drunk_143 (by decide) ?_
  refine J_iadd (z := 2) dX11_drunk_144 (by decide +kernel) ?_
  refine K_iast (i2 := 0) dX11_drunk_145 rfl rfl (jin (by decide +kernel)) (by decide +kernel) ?_
  refine J_iinc (v := 1) dX11_drunk_146 rfl (by decide +kernel) (Nat.le_of_ble_eq_true rfl) rfl ?_
  refine J_ls (ls2 := [some (.ref 0), some (.int a1), some (.int 0), some (.int a3), some (.int a1), some (.int 0), some (.int 1), some (.int 0)]) rfl ?_
  refine J_goto (tgt := 81) dX11_drunk_149 (by decide) ?_
  refine J_mask (L2 := [(97, .inl (0, 1260, .inl (upd (upd (fun _ => 0) 0 1) 0 2))), (62, .inl (0, 1260, .inl (upd (upd (fun _ => 0) 0 (-1)) 0 0))), (57, .inr (9, [.ref 1, .ref 51, .ref 58, .ref 61, .ref 62, .ref 135, .ref 64, .int 0, .int 0, .int 0])), (135, .inl (0, 22, .inl (fun _ => 0))), (59, .inl (0, 8, .inl (upd (upd (fun _ => 0) 6 0) 7 0)))]) (ks := [97, 62, 97, 97, 57, 62, 135, 59]) [true, true, false, false, true, false, true, true] rfl (by decide +kernel) rfl ?_
  have loop : ∀ (r j : Nat) (i : Int32) (g : Nat → Int32), (j : Int) + r = a3.toInt → i = nI j → J l G MX11_drunk { frames := 4, cells := 1, slots := 22, locals := 95 } jE (jMQ G { frames := 4, cells := 1, slots := 22, locals := 95 } (fun r h9 => r = some (.int 0) ∧ ∃ g : Nat → Int32, h9 = (136, hc fh [(0, .inr (11, [.ref 1, .ref 17, .ref 50, .ref 51, .ref 54, .ref 57, .ref 65, .ref 75, .ref 81, .ref 85, .ref 88, .ref 93, .ref 96, .int 0, .int (-1), .ref 97, .int 1])), (97, .inl (0, 1260, .inl g)), (62, .inl (0, 1260, .inl (upd (upd (fun _ => 0) 0 (-1)) 0 0))), (57, .inr (9, [.ref 1, .ref 51, .ref 58, .ref 61, .ref 62, .ref 135, .ref 64, .int 0, .int 0, .int 0])), (135, .inl (0, 22, .inl (fun _ => 0))), (59, .inl (0, 8, .inl (upd (upd (fun _ => 0) 6 0) 7 0)))]))) (136, hc fh [(97, .inl (0, 1260, .inl g)), (62, .inl (0, 1260, .inl (upd (upd (fun _ => 0) 0 (-1)) 0 0))), (57, .inr (9, [.ref 1, .ref 51, .ref 58, .ref 61, .ref 62, .ref 135, .ref 64, .int 0, .int 0, .int 0])), (135, .inl (0, 22, .inl (fun _ => 0))), (59, .inl (0, 8, .inl (upd (upd (fun _ => 0) 6 0) 7 0)))]) 1 22 81 [some (.ref 0), some (.int a1), some (.int 0), some (.int a3), some (.int a1), some (.int 0), some (.int i), some (.int 0)] [] := by
    intro r
    induction r with
    | zero =>
      intro j i g hj hi
      refine J_iload dX11_drunk_81 rfl ?_
      refine J_iload_n dX11_drunk_83 rfl rfl ?_
      refine J_icmp_ge (tgt := 152) dX11_drunk_84 (by decide) (fun _ => ?_) (fun q => absurd (by simp only [fa_le]; rw [hi, nI_toInt (by omega)]; omega) q)
      refine J_aload_n dX11_drunk_152 rfl rfl ?_
      refine J_iconst (v := 1) dX11_drunk_153 (by decide) ?_
      refine K_put (fs2 := [.ref 1, .ref 17, .ref 50, .ref 51, .ref 54, .ref 57, .ref 65, .ref 75, .ref 81, .ref 85, .ref 88, .ref 93, .ref 96, .int 0, .int (-1), .ref 97, .int 1]) dX11_drunk_154 fw_X11_107 hk0 (Nat.le_of_ble_eq_true rfl) jb1 rfl ?_
      refine J_aload_n dX11_drunk_157 rfl rfl ?_
      refine J_iload dX11_drunk_158 rfl ?_
      refine J_callV (st := []) dX11_drunk_160 cv_X11_129 (c_X11_accept_4 rfl) rfl rfl rfl (Nat.le_of_ble_eq_true rfl) ⟨(Nat.le_of_ble_eq_true rfl), (Nat.le_of_ble_eq_true rfl)⟩ ⟨(Nat.le_of_ble_eq_true rfl), (Nat.le_of_ble_eq_true rfl)⟩ (fun r h9 hp => ?_)
      obtain ⟨rfl, rfl⟩ := hp
      refine J_nf (nh2 := 136) (ck2 := 1) (sk2 := 22) (st2 := [.int 0]) rfl rfl rfl rfl ?_
      refine J_app (L3 := [(0, .inr (11, [.ref 1, .ref 17, .ref 50, .ref 51, .ref 54, .ref 57, .ref 65, .ref 75, .ref 81, .ref 85, .ref 88, .ref 93, .ref 96, .int 0, .int (-1), .ref 97, .int 1])), (0, .inr (11, [.ref 1, .ref 17, .ref 50, .ref 51, .ref 54, .ref 57, .ref 65, .ref 75, .ref 81, .ref 85, .ref 88, .ref 93, .ref 96, .int 0, .int (-1), .ref 97, .int 1])), (97, .inl (0, 1260, .inl g)), (62, .inl (0, 1260, .inl (upd (upd (fun _ => 0) 0 (-1)) 0 0))), (57, .inr (9, [.ref 1, .ref 51, .ref 58, .ref 61, .ref 62, .ref 135, .ref 64, .int 0, .int 0, .int 0])), (135, .inl (0, 22, .inl (fun _ => 0))), (59, .inl (0, 8, .inl (upd (upd (fun _ => 0) 6 0) 7 0)))]) rfl ?_
      refine J_mask (L2 := [(0, .inr (11, [.ref 1, .ref 17, .ref 50, .ref 51, .ref 54, .ref 57, .ref 65, .ref 75, .ref 81, .ref 85, .ref 88, .ref 93, .ref 96, .int 0, .int (-1), .ref 97, .int 1])), (97, .inl (0, 1260, .inl g)), (62, .inl (0, 1260, .inl (upd (upd (fun _ => 0) 0 (-1)) 0 0))), (57, .inr (9, [.ref 1, .ref 51, .ref 58, .ref 61, .ref 62, .ref 135, .ref 64, .int 0, .int 0, .int 0])), (135, .inl (0, 22, .inl (fun _ => 0))), (59, .inl (0, 8, .inl (upd (upd (fun _ => 0) 6 0) 7 0)))]) (ks := [0, 0, 97, 62, 57, 135, 59]) [true, false, true, true, true, true, true] rfl (by decide +kernel) rfl ?_
      exact J_iret dX11_drunk_163 rfl rfl (Nat.le_of_ble_eq_true rfl) (Nat.le_of_ble_eq_true rfl) ⟨rfl, g, rfl⟩
    | succ r ih =>
      intro j i g hj hi
      refine J_iload dX11_drunk_81 rfl ?_
      refine J_iload_n dX11_drunk_83 rfl rfl ?_
      refine J_icmp_ge (tgt := 152) dX11_drunk_84 (by decide) (fun q => absurd q (by simp only [fa_le]; rw [hi, nI_toInt (by omega)]; omega)) (fun _ => ?_)
      refine J_aload_n dX11_drunk_87 rfl rfl ?_
      refine J_get (v := .ref 57) dX11_drunk_88 fl_X11_43 hk0 rfl ?_
      refine J_iload dX11_drunk_91 rfl ?_
      refine J_callV (st := []) dX11_drunk_93 cv_X11_220 (c_X9_degree_2 rfl rfl) rfl rfl rfl (Nat.le_of_ble_eq_true rfl) ⟨(Nat.le_of_ble_eq_true rfl), (Nat.le_of_ble_eq_true rfl)⟩ ⟨(Nat.le_of_ble_eq_true rfl), (Nat.le_of_ble_eq_true rfl)⟩ (fun r h9 hp => ?_)
      obtain ⟨rfl, rfl⟩ := hp
      refine J_nf (nh2 := 136) (ck2 := 1) (sk2 := 22) (st2 := [.int 0]) rfl rfl rfl rfl ?_
      refine J_istore dX11_drunk_96 (Nat.le_of_ble_eq_true rfl) rfl ?_
      refine J_iload dX11_drunk_98 rfl ?_
      refine J_if_le (tgt := 135) dX11_drunk_100 (by decide) (fun _ => ?_) (fun q => absurd (by decide +kernel) q)
      refine J_aload_n dX11_drunk_135 rfl rfl ?_
      refine J_get (v := .ref 97) dX11_drunk_136 fl_X11_104 hk0 rfl ?_
      refine J_iload dX11_drunk_139 rfl ?_
      refine J_dup2_11 dX11_drunk_141 rfl rfl ?_
      refine J_iald (i2 := 0) (v := (g 0)) dX11_drunk_142 rfl rfl (jin (by decide +kernel)) (by decide +kernel) rfl ?_
      refine J_iconst (v := 1) dX11_drunk_143 (by decide) ?_
      refine J_iadd (z := ((g 0) + 1)) dX11_drunk_144 rfl ?_
      refine K_iast (i2 := 0) dX11_drunk_145 rfl rfl (jin (by decide +kernel)) (by decide +kernel) ?_
      refine J_iinc (v := (i + 1)) dX11_drunk_146 rfl rfl (Nat.le_of_ble_eq_true rfl) rfl ?_
      refine J_ls (ls2 := [some (.ref 0), some (.int a1), some (.int 0), some (.int a3), some (.int a1), some (.int 0), some (.int (i + 1)), some (.int 0)]) rfl ?_
      refine J_goto (tgt := 81) dX11_drunk_149 (by decide) ?_
      refine J_mask (L2 := [(97, .inl (0, 1260, .inl (upd g 0 ((g 0) + 1)))), (62, .inl (0, 1260, .inl (upd (upd (fun _ => 0) 0 (-1)) 0 0))), (57, .inr (9, [.ref 1, .ref 51, .ref 58, .ref 61, .ref 62, .ref 135, .ref 64, .int 0, .int 0, .int 0])), (135, .inl (0, 22, .inl (fun _ => 0))), (59, .inl (0, 8, .inl (upd (upd (fun _ => 0) 6 0) 7 0)))]) (ks := [97, 97, 62, 57, 135, 59]) [true, false, true, true, true, true] rfl (by decide +kernel) rfl ?_
      exact ih (j + 1) (i + 1) (upd g 0 ((g 0) + 1)) (by omega) (by rw [hi]; exact nI_1 j)
  exact loop (a3.toInt - 1).toNat 1 1 (upd (upd (fun _ => 0) 0 1) 0 2) (by omega) (by decide +kernel)
set_option maxHeartbeats 4000000 in
set_option maxRecDepth 100000 in
theorem c_X12_lies_68 {l : Launch} {G : jG} {nh : Nat} {fh : Nat → Option va_E} (a0 : Int32) (b_a0 : 1 ≤ a0.toInt ∧ a0.toInt ≤ 500) : JM l G yX12_lies MX12_lies { frames := 0, cells := 0, slots := 0, locals := 0 } [.int a0, .int 0, .int 500] (nh, fh) (fun r h9 => r = some (.int 1) ∧ h9 = (nh, fh)) := by
  refine JM.of (by decide) rfl (fun h => by cases h) (Nat.le_of_ble_eq_true rfl) ⟨0, rfl⟩ ?_
  refine J_hc0 (J_ls (ls2 := [some (.int a0), some (.int 0), some (.int 500)]) rfl ?_)
  refine J_iload_n dX12_lies_0 rfl rfl ?_
  refine J_iload_n dX12_lies_1 rfl rfl ?_
  refine J_icmp_lt (tgt := 14) dX12_lies_2 (by decide) (fun q => absurd q (by have hb0 := b_a0; simp only [fa_lt, fa_le, fa_eq, kc_0]; omega)) (fun _ => ?_)
  refine J_iload_n dX12_lies_5 rfl rfl ?_
  refine J_iload_n dX12_lies_6 rfl rfl ?_
  refine J_icmp_gt (tgt := 14) dX12_lies_7 (by decide) (fun q => absurd q (by have hb0 := b_a0; simp only [fa_lt, fa_le, fa_eq, kc_500]; omega)) (fun _ => ?_)
  refine J_iconst (v := 1) dX12_lies_10 (by decide) ?_
  refine J_goto (tgt := 15) dX12_lies_11 (by decide) ?_
  exact J_iret dX12_lies_15 rfl (by decide +kernel) (Nat.le_of_ble_eq_true rfl) (Nat.le_of_ble_eq_true rfl) ⟨rfl, rfl⟩
