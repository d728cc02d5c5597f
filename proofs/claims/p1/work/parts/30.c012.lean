/-! contracts at fresh objects: written by wip/tools/law.py -/
set_option maxHeartbeats 4000000 in
set_option maxRecDepth 100000 in
theorem c_X12_lies_46 {l : Launch} {G : jG} {nh : Nat} {fh : Nat → Option va_E} (a0 : Int32) (b_a0 : 4 ≤ a0.toInt ∧ a0.toInt ≤ 2147483647) : JM l G yX12_lies MX12_lies { frames := 0, cells := 0, slots := 0, locals := 0 } [.int a0, .int 0, .int 3] (nh, fh) (fun r h9 => r = some (.int 0) ∧ h9 = (nh, fh)) := by
  refine JM.of (by decide) rfl (fun h => by cases h) (Nat.le_of_ble_eq_true rfl) ⟨0, rfl⟩ ?_
  refine J_hc0 (J_ls (ls2 := [some (.int a0), some (.int 0), some (.int 3)]) rfl ?_)
  refine J_iload_n dX12_lies_0 rfl rfl ?_
  refine J_iload_n dX12_lies_1 rfl rfl ?_
  refine J_icmp_lt (tgt := 14) dX12_lies_2 (by decide) (fun q => absurd q (by have hb0 := b_a0; simp only [fa_lt, fa_le, fa_eq, kc_0]; omega)) (fun _ => ?_)
  refine J_iload_n dX12_lies_5 rfl rfl ?_
  refine J_iload_n dX12_lies_6 rfl rfl ?_
  refine J_icmp_gt (tgt := 14) dX12_lies_7 (by decide) (fun _ => ?_) (fun q => absurd (by have hb0 := b_a0; simp only [fa_lt, fa_le, fa_eq, kc_3]; omega) q)
  refine J_iconst (v := 0) dX12_lies_14 (by decide) ?_
  exact J_iret dX12_lies_15 rfl (by decide +kernel) (Nat.le_of_ble_eq_true rfl) (Nat.le_of_ble_eq_true rfl) ⟨rfl, rfl⟩
set_option maxHeartbeats 4000000 in
set_option maxRecDepth 100000 in
theorem c_X12_reach_7 {l : Launch} {G : jG} {nh : Nat} {fh : Nat → Option va_E} (a2 : Int32) (b_a2 : 4 ≤ a2.toInt ∧ a2.toInt ≤ 2147483647) (hk98 : fh 98 = some (.inr (12, [.int 0, .int 0, .ref 99, .ref 100, .ref 101, .ref 102, .ref 103, .ref 104, .ref 105, .int 0, .int (-1), .ref 106, .ref 107, .ref 108, .int 0, .int 0, .int 0, .int 0, .int 0, .int 0, .int 0, .ref 109, .int 0, .int 0, .ref 110, .ref 111, .ref 112, .ref 113, .ref 114, .ref 115, .ref 116, .ref 117, .int 0, .int 0, .int (-1), .int (-1), .ref 118, .ref 119, .ref 120, .ref 121, .ref 122, .ref 123, .ref 124, .ref 125, .ref 126, .ref 127, .ref 128, .ref 129, .int 0, .ref 130, .ref 131, .ref 132, .ref 133, .ref 134, .int 0, .int 0]))) (hk100 : fh 100 = some (.inl (0, 4870, .inl (upd (fun _ => 0) 63 (-1))))) (hk111 : fh 111 = some (.inl (0, 1260, .inl (fun _ => 0)))) : JM l G yX12_reach MX12_reach { frames := 3, cells := 0, slots := 0, locals := 69 } [.ref 98, .int 0, .int a2] (nh, fh) (fun r h9 => r = some (.int (-1)) ∧ h9 = (nh, hc fh [(98, .inr (12, [.int 0, .int 0, .ref 99, .ref 100, .ref 101, .ref 102, .ref 103, .ref 104, .ref 105, .int 0, .int (-1), .ref 106, .ref 107, .ref 108, .int 0, .int 0, .int 0, .int 0, .int 0, .int 0, .int 0, .ref 109, .int 0, .int 0, .ref 110, .ref 111, .ref 112, .ref 113, .ref 114, .ref 115, .ref 116, .ref 117, .int 1, .int 0, .int 0, .int (-1), .ref 118, .ref 119, .ref 120, .ref 121, .ref 122, .ref 123, .ref 124, .ref 125, .ref 126, .ref 127, .ref 128, .ref 129, .int 0, .ref 130, .ref 131, .ref 132, .ref 133, .ref 134, .int 0, .int 0])), (111, .inl (0, 1260, .inl (upd (fun _ => 0) 0 0)))])) := by
  refine JM.of (by decide) rfl (fun h => by cases h) (Nat.le_of_ble_eq_true rfl) ⟨5, rfl⟩ ?_
  refine J_hc0 (J_ls (ls2 := [some (.ref 98), some (.int 0), some (.int a2), none, none, none, none, none]) rfl ?_)
  refine J_aload_n dX12_reach_0 rfl rfl ?_
  refine J_iload_n dX12_reach_1 rfl rfl ?_
  refine J_callV (st := []) dX12_reach_2 cv_X12_325 (c_X12_isHouse_2 hk98 hk100 hk111) hk98 rfl rfl (Nat.le_of_ble_eq_true rfl) ⟨(Nat.le_of_ble_eq_true rfl), (Nat.le_of_ble_eq_true rfl)⟩ ⟨(Nat.le_of_ble_eq_true rfl), (Nat.le_of_ble_eq_true rfl)⟩ (fun r h9 hp => ?_)
  obtain ⟨rfl, rfl⟩ := hp
  refine J_nf (nh2 := nh) (ck2 := 0) (sk2 := 0) (st2 := [.int 1]) rfl rfl rfl rfl ?_
  refine J_app (L3 := [(98, .inr (12, [.int 0, .int 0, .ref 99, .ref 100, .ref 101, .ref 102, .ref 103, .ref 104, .ref 105, .int 0, .int (-1), .ref 106, .ref 107, .ref 108, .int 0, .int 0, .int 0, .int 0, .int 0, .int 0, .int 0, .ref 109, .int 0, .int 0, .ref 110, .ref 111, .ref 112, .ref 113, .ref 114, .ref 115, .ref 116, .ref 117, .int 1, .int 0, .int 0, .int (-1), .ref 118, .ref 119, .ref 120, .ref 121, .ref 122, .ref 123, .ref 124, .ref 125, .ref 126, .ref 127, .ref 128, .ref 129, .int 0, .ref 130, .ref 131, .ref 132, .ref 133, .ref 134, .int 0, .int 0])), (111, .inl (0, 1260, .inl (upd (fun _ => 0) 0 0)))]) rfl ?_
  refine J_if_eq (tgt := 17) dX12_reach_5 (by decide) (fun q => absurd q (by decide +kernel)) (fun _ => ?_)
  refine J_iload_n dX12_reach_8 rfl rfl ?_
  refine J_iconst (v := 0) dX12_reach_9 (by decide) ?_
  refine J_iconst (v := 3) dX12_reach_10 (by decide) ?_
  refine J_callS (st := []) dX12_reach_11 cs_X12_138 (c_X12_lies_46 (a2) b_a2) rfl rfl (Nat.le_of_ble_eq_true rfl) ⟨(Nat.le_of_ble_eq_true rfl), (Nat.le_of_ble_eq_true rfl)⟩ ⟨(Nat.le_of_ble_eq_true rfl), (Nat.le_of_ble_eq_true rfl)⟩ (fun r h9 hp => ?_)
  obtain ⟨rfl, rfl⟩ := hp
  refine J_nf (nh2 := nh) (ck2 := 0) (sk2 := 0) (st2 := [.int 0]) rfl rfl rfl rfl ?_
  refine J_if_ne (tgt := 19) dX12_reach_14 (by decide) (fun q => absurd (by decide +kernel) q) (fun _ => ?_)
  refine J_iconst (v := (-1)) dX12_reach_17 (by decide) ?_
  exact J_iret dX12_reach_18 rfl rfl (Nat.le_of_ble_eq_true rfl) (Nat.le_of_ble_eq_true rfl) ⟨rfl, rfl⟩
set_option maxHeartbeats 4000000 in
set_option maxRecDepth 100000 in
theorem c_X11_reach_8 {l : Launch} {G : jG} {nh : Nat} {fh : Nat → Option va_E} (a1 : Int32) (b_a1 : 1 ≤ a1.toInt ∧ a1.toInt ≤ 2147483647) (a2 : Int32) (b_a2 : (-2147483648) ≤ a2.toInt ∧ a2.toInt ≤ 2147483647) (hk0 : fh 0 = some (.inr (11, [.ref 1, .ref 17, .ref 50, .ref 51, .ref 54, .ref 57, .ref 65, .ref 75, .ref 81, .ref 85, .ref 88, .ref 93, .ref 96, .int 0, .int (-1), .ref 97, .int 0]))) (hk51 : fh 51 = some (.inr (0, [.ref 52, .ref 53, .int 1, .int 0]))) : JM l G yX11_reach MX11_reach { frames := 1, cells := 0, slots := 0, locals := 21 } [.ref 0, .int a1, .int a2] (nh, fh) (fun r h9 => r = some (.int (-1)) ∧ h9 = (nh, fh)) := by
  refine JM.of (by decide) rfl (fun h => by cases h) (Nat.le_of_ble_eq_true rfl) ⟨0, rfl⟩ ?_
  refine J_hc0 (J_ls (ls2 := [some (.ref 0), some (.int a1), some (.int a2)]) rfl ?_)
  refine J_aload_n dX11_reach_0 rfl rfl ?_
  refine J_get (v := .ref 51) dX11_reach_1 fl_X11_27 hk0 rfl ?_
  refine J_iload_n dX11_reach_4 rfl rfl ?_
  refine J_callV (st := []) dX11_reach_5 cv_X11_135 (c_X0_has_3 (a1) b_a1 hk51) hk51 rfl rfl (Nat.le_of_ble_eq_true rfl) ⟨(Nat.le_of_ble_eq_true rfl), (Nat.le_of_ble_eq_true rfl)⟩ ⟨(Nat.le_of_ble_eq_true rfl), (Nat.le_of_ble_eq_true rfl)⟩ (fun r h9 hp => ?_)
  obtain ⟨rfl, rfl⟩ := hp
  refine J_nf (nh2 := nh) (ck2 := 0) (sk2 := 0) (st2 := [.int 0]) rfl rfl rfl rfl ?_
  refine J_if_ne (tgt := 13) dX11_reach_8 (by decide) (fun q => absurd (by decide +kernel) q) (fun _ => ?_)
  refine J_iconst (v := (-1)) dX11_reach_11 (by decide) ?_
  exact J_iret dX11_reach_12 rfl rfl (Nat.le_of_ble_eq_true rfl) (Nat.le_of_ble_eq_true rfl) ⟨rfl, rfl⟩
set_option maxHeartbeats 4000000 in
set_option maxRecDepth 100000 in
theorem c_X12_reach_8 {l : Launch} {G : jG} {nh : Nat} {fh : Nat → Option va_E} (a1 : Int32) (b_a1 : 1 ≤ a1.toInt ∧ a1.toInt ≤ 2147483647) (a2 : Int32) (b_a2 : (-2147483648) ≤ a2.toInt ∧ a2.toInt ≤ 2147483647) (hk98 : fh 98 = some (.inr (12, [.int 0, .int 0, .ref 99, .ref 100, .ref 101, .ref 102, .ref 103, .ref 104, .ref 105, .int 0, .int (-1), .ref 106, .ref 107, .ref 108, .int 0, .int 0, .int 0, .int 0, .int 0, .int 0, .int 0, .ref 109, .int 0, .int 0, .ref 110, .ref 111, .ref 112, .ref 113, .ref 114, .ref 115, .ref 116, .ref 117, .int 0, .int 0, .int (-1), .int (-1), .ref 118, .ref 119, .ref 120, .ref 121, .ref 122, .ref 123, .ref 124, .ref 125, .ref 126, .ref 127, .ref 128, .ref 129, .int 0, .ref 130, .ref 131, .ref 132, .ref 133, .ref 134, .int 0, .int 0]))) (hk100 : fh 100 = some (.inl (0, 4870, .inl (upd (fun _ => 0) 63 (-1))))) (hk111 : fh 111 = some (.inl (0, 1260, .inl (fun _ => 0)))) : JM l G yX12_reach MX12_reach { frames := 3, cells := 0, slots := 0, locals := 69 } [.ref 98, .int a1, .int a2] (nh, fh) (fun r h9 => r = some (.int (-1)) ∧ h9 = (nh, hc fh [(98, .inr (12, [.int 0, .int 0, .ref 99, .ref 100, .ref 101, .ref 102, .ref 103, .ref 104, .ref 105, .int 0, .int (-1), .ref 106, .ref 107, .ref 108, .int 0, .int 0, .int 0, .int 0, .int 0, .int 0, .int 0, .ref 109, .int 0, .int 0, .ref 110, .ref 111, .ref 112, .ref 113, .ref 114, .ref 115, .ref 116, .ref 117, .int 1, .int 0, .int 0, .int (-1), .ref 118, .ref 119, .ref 120, .ref 121, .ref 122, .ref 123, .ref 124, .ref 125, .ref 126, .ref 127, .ref 128, .ref 129, .int 0, .ref 130, .ref 131, .ref 132, .ref 133, .ref 134, .int 0, .int 0])), (111, .inl (0, 1260, .inl (upd (fun _ => 0) 0 0)))])) := by
  refine JM.of (by decide) rfl (fun h => by cases h) (Nat.le_of_ble_eq_true rfl) ⟨5, rfl⟩ ?_
  refine J_hc0 (J_ls (ls2 := [some (.ref 98), some (.int a1), some (.int a2), none, none, none, none, none]) rfl ?_)
  refine J_aload_n dX12_reach_0 rfl rfl ?_
  refine J_iload_n dX12_reach_1 rfl rfl ?_
  refine J_callV (st := []) dX12_reach_2 cv_X12_325 (c_X12_isHouse_3 (a1) b_a1 hk98 hk100 hk111) hk98 rfl rfl (Nat.le_of_ble_eq_true rfl) ⟨(Nat.le_of_ble_eq_true rfl), (Nat.le_of_ble_eq_true rfl)⟩ ⟨(Nat.le_of_ble_eq_true rfl), (Nat.le_of_ble_eq_true rfl)⟩ (fun r h9 hp => ?_)
  obtain ⟨rfl, rfl⟩ := hp
  refine J_nf (nh2 := nh) (ck2 := 0) (sk2 := 0) (st2 := [.int 0]) rfl rfl rfl rfl ?_
  refine J_app (L3 := [(98, .inr (12, [.int 0, .int 0, .ref 99, .ref 100, .ref 101, .ref 102, .ref 103, .ref 104, .ref 105, .int 0, .int (-1), .ref 106, .ref 107, .ref 108, .int 0, .int 0, .int 0, .int 0, .int 0, .int 0, .int 0, .ref 109, .int 0, .int 0, .ref 110, .ref 111, .ref 112, .ref 113, .ref 114, .ref 115, .ref 116, .ref 117, .int 1, .int 0, .int 0, .int (-1), .ref 118, .ref 119, .ref 120, .ref 121, .ref 122, .ref 123, .ref 124, .ref 125, .ref 126, .ref 127, .ref 128, .ref 129, .int 0, .ref 130, .ref 131, .ref 132, .ref 133, .ref 134, .int 0, .int 0])), (111, .inl (0, 1260, .inl (upd (fun _ => 0) 0 0)))]) rfl ?_
  refine J_if_eq (tgt := 17) dX12_reach_5 (by decide) (fun _ => ?_) (fun q => absurd (by decide +kernel) q)
  refine J_iconst (v := (-1)) dX12_reach_17 (by decide) ?_
  exact J_iret dX12_reach_18 rfl rfl (Nat.le_of_ble_eq_true rfl) (Nat.le_of_ble_eq_true rfl) ⟨rfl, rfl⟩
set_option maxHeartbeats 4000000 in
set_option maxRecDepth 100000 in
theorem c_X11_read_1 {l : Launch} {G : jG} {nh : Nat} {fh : Nat → Option va_E} (a1 : Int32) (b_a1 : (-2147483648) ≤ a1.toInt ∧ a1.toInt ≤ (-1)) (a2 : Int32) (b_a2 : (-2147483648) ≤ a2.toInt ∧ a2.toInt ≤ 2147483647) (hk0 : fh 0 = some (.inr (11, [.ref 1, .ref 17, .ref 50, .ref 51, .ref 54, .ref 57, .ref 65, .ref 75, .ref 81, .ref 85, .ref 88, .ref 93, .ref 96, .int 0, .int (-1), .ref 97, .int 0]))) (hk51 : fh 51 = some (.inr (0, [.ref 52, .ref 53, .int 1, .int 0]))) : JM l G yX11_read MX11_read { frames := 1, cells := 0, slots := 0, locals := 21 } [.ref 0, .int a1, .int a2] (nh, fh) (fun r h9 => r = some (.int (-1)) ∧ h9 = (nh, fh)) := by
  refine JM.of (by decide) rfl (fun h => by cases h) (Nat.le_of_ble_eq_true rfl) ⟨0, rfl⟩ ?_
  refine J_hc0 (J_ls (ls2 := [some (.ref 0), some (.int a1), some (.int a2)]) rfl ?_)
  refine J_aload_n dX11_read_0 rfl rfl ?_
  refine J_get (v := .ref 51) dX11_read_1 fl_X11_27 hk0 rfl ?_
  refine J_iload_n dX11_read_4 rfl rfl ?_
  refine J_callV (st := []) dX11_read_5 cv_X11_135 (c_X0_has_1 (a1) b_a1) hk51 rfl rfl (Nat.le_of_ble_eq_true rfl) ⟨(Nat.le_of_ble_eq_true rfl), (Nat.le_of_ble_eq_true rfl)⟩ ⟨(Nat.le_of_ble_eq_true rfl), (Nat.le_of_ble_eq_true rfl)⟩ (fun r h9 hp => ?_)
  obtain ⟨rfl, rfl⟩ := hp
  refine J_nf (nh2 := nh) (ck2 := 0) (sk2 := 0) (st2 := [.int 0]) rfl rfl rfl rfl ?_
  refine J_if_ne (tgt := 13) dX11_read_8 (by decide) (fun q => absurd (by decide +kernel) q) (fun _ => ?_)
  refine J_iconst (v := (-1)) dX11_read_11 (by decide) ?_
  exact J_iret dX11_read_12 rfl rfl (Nat.le_of_ble_eq_true rfl) (Nat.le_of_ble_eq_true rfl) ⟨rfl, rfl⟩
set_option maxHeartbeats 4000000 in
set_option maxRecDepth 100000 in
theorem c_X12_read_1 {l : Launch} {G : jG} {nh : Nat} {fh : Nat → Option va_E} (a1 : Int32) (b_a1 : (-2147483648) ≤ a1.toInt ∧ a1.toInt ≤ (-1)) (a2 : Int32) (b_a2 : (-2147483648) ≤ a2.toInt ∧ a2.toInt ≤ 2147483647) (hk98 : fh 98 = some (.inr (12, [.int 0, .int 0, .ref 99, .ref 100, .ref 101, .ref 102, .ref 103, .ref 104, .ref 105, .int 0, .int (-1), .ref 106, .ref 107, .ref 108, .int 0, .int 0, .int 0, .int 0, .int 0, .int 0, .int 0, .ref 109, .int 0, .int 0, .ref 110, .ref 111, .ref 112, .ref 113, .ref 114, .ref 115, .ref 116, .ref 117, .int 0, .int 0, .int (-1), .int (-1), .ref 118, .ref 119, .ref 120, .ref 121, .ref 122, .ref 123, .ref 124, .ref 125, .ref 126, .ref 127, .ref 128, .ref 129, .int 0, .ref 130, .ref 131, .ref 132, .ref 133, .ref 134, .int 0, .int 0]))) (hk100 : fh 100 = some (.inl (0, 4870, .inl (upd (fun _ => 0) 63 (-1))))) (hk111 : fh 111 = some (.inl (0, 1260, .inl (fun _ => 0)))) : JM l G yX12_read MX12_read { frames := 3, cells := 0, slots := 0, locals := 69 } [.ref 98, .int a1, .int a2] (nh, fh) (fun r h9 => r = some (.int (-1)) ∧ h9 = (nh, hc fh [(98, .inr (12, [.int 0, .int 0, .ref 99, .ref 100, .ref 101, .ref 102, .ref 103, .ref 104, .ref 105, .int 0, .int (-1), .ref 106, .ref 107, .ref 108, .int 0, .int 0, .int 0, .int 0, .int 0, .int 0, .int 0, .ref 109, .int 0, .int 0, .ref 110, .ref 111, .ref 112, .ref 113, .ref 114, .ref 115, .ref 116, .ref 117, .int 1, .int 0, .int 0, .int (-1), .ref 118, .ref 119, .ref 120, .ref 121, .ref 122, .ref 123, .ref 124, .ref 125, .ref 126, .ref 127, .ref 128, .ref 129, .int 0, .ref 130, .ref 131, .ref 132, .ref 133, .ref 134, .int 0, .int 0])), (111, .inl (0, 1260, .inl (upd (fun _ => 0) 0 0)))])) := by
  refine JM.of (by decide) rfl (fun h => by cases h) (Nat.le_of_ble_eq_true rfl) ⟨3, rfl⟩ ?_
  refine J_hc0 (J_ls (ls2 := [some (.ref 98), some (.int a1), some (.int a2), none, none, none]) rfl ?_)
  refine J_aload_n dX12_read_0 rfl rfl ?_
  refine J_iload_n dX12_read_1 rfl rfl ?_
  refine J_callV (st := []) dX12_read_2 cv_X12_325 (c_X12_isHouse_1 (a1) b_a1 hk98 hk100 hk111) hk98 rfl rfl (Nat.le_of_ble_eq_true rfl) ⟨(Nat.le_of_ble_eq_true rfl), (Nat.le_of_ble_eq_true rfl)⟩ ⟨(Nat.le_of_ble_eq_true rfl), (Nat.le_of_ble_eq_true rfl)⟩ (fun r h9 hp => ?_)
  obtain ⟨rfl, rfl⟩ := hp
  refine J_nf (nh2 := nh) (ck2 := 0) (sk2 := 0) (st2 := [.int 0]) rfl rfl rfl rfl ?_
  refine J_app (L3 := [(98, .inr (12, [.int 0, .int 0, .ref 99, .ref 100, .ref 101, .ref 102, .ref 103, .ref 104, .ref 105, .int 0, .int (-1), .ref 106, .ref 107, .ref 108, .int 0, .int 0, .int 0, .int 0, .int 0, .int 0, .int 0, .ref 109, .int 0, .int 0, .ref 110, .ref 111, .ref 112, .ref 113, .ref 114, .ref 115, .ref 116, .ref 117, .int 1, .int 0, .int 0, .int (-1), .ref 118, .ref 119, .ref 120, .ref 121, .ref 122, .ref 123, .ref 124, .ref 125, .ref 126, .ref 127, .ref 128, .ref 129, .int 0, .ref 130, .ref 131, .ref 132, .ref 133, .ref 134, .int 0, .int 0])), (111, .inl (0, 1260, .inl (upd (fun _ => 0) 0 0)))]) rfl ?_
  refine J_if_eq (tgt := 17) dX12_read_5 (by decide) (fun _ => ?_) (fun q => absurd (by decide +kernel) q)
  refine J_iconst (v := (-1)) dX12_read_17 (by decide) ?_
  exact J_iret dX12_read_18 rfl rfl (Nat.le_of_ble_eq_true rfl) (Nat.le_of_ble_eq_true rfl) ⟨rfl, rfl⟩
set_option maxHeartbeats 4000000 in
set_option maxRecDepth 100000 in
theorem c_X11_read_2 {l : Launch} {G : jG} {nh : Nat} {fh : Nat → Option va_E} (a2 : Int32) (b_a2 : (-2147483648) ≤ a2.toInt ∧ a2.toInt ≤ (-1)) (hk0 : fh 0 = some (.inr (11, [.ref 1, .ref 17, .ref 50, .ref 51, .ref 54, .ref 57, .ref 65, .ref 75, .ref 81, .ref 85, .ref 88, .ref 93, .ref 96, .int 0, .int (-1), .ref 97, .int 0]))) (hk51 : fh 51 = some (.inr (0, [.ref 52, .ref 53, .int 1, .int 0]))) : JM l G yX11_read MX11_read { frames := 1, cells := 0, slots := 0, locals := 21 } [.ref 0, .int 0, .int a2] (nh, fh) (fun r h9 => r = some (.int (-1)) ∧ h9 = (nh, fh)) := by
  refine JM.of (by decide) rfl (fun h => by cases h) (Nat.le_of_ble_eq_true rfl) ⟨0, rfl⟩ ?_
  refine J_hc0 (J_ls (ls2 := [some (.ref 0), some (.int 0), some (.int a2)]) rfl ?_)
  refine J_aload_n dX11_read_0 rfl rfl ?_
  refine J_get (v := .ref 51) dX11_read_1 fl_X11_27 hk0 rfl ?_
  refine J_iload_n dX11_read_4 rfl rfl ?_
  refine J_callV (st := []) dX11_read_5 cv_X11_135 (c_X0_has_2 hk51) hk51 rfl rfl (Nat.le_of_ble_eq_true rfl) ⟨(Nat.le_of_ble_eq_true rfl), (Nat.le_of_ble_eq_true rfl)⟩ ⟨(Nat.le_of_ble_eq_true rfl), (Nat.le_of_ble_eq_true rfl)⟩ (fun r h9 hp => ?_)
  obtain ⟨rfl, rfl⟩ := hp
  refine J_nf (nh2 := nh) (ck2 := 0) (sk2 := 0) (st2 := [.int 1]) rfl rfl rfl rfl ?_
  refine J_if_ne (tgt := 13) dX11_read_8 (by decide) (fun _ => ?_) (fun q => absurd q (by decide +kernel))
  refine J_iload_n dX11_read_13 rfl rfl ?_
  refine J_lookup (tgt := 58) dX11_read_14 (by decide) (off := 44) (by have hb := b_a2; simp only [Op.lookupswitch.offset]; repeat rw [if_neg (by omega)]) (by decide) ?_
  refine J_iconst (v := (-1)) dX11_read_58 (by decide) ?_
  exact J_iret dX11_read_59 rfl rfl (Nat.le_of_ble_eq_true rfl) (Nat.le_of_ble_eq_true rfl) ⟨rfl, rfl⟩
set_option maxHeartbeats 4000000 in
set_option maxRecDepth 100000 in
theorem c_X12_read_2 {l : Launch} {G : jG} {nh : Nat} {fh : Nat → Option va_E} (a2 : Int32) (b_a2 : (-2147483648) ≤ a2.toInt ∧ a2.toInt ≤ (-1)) (hk98 : fh 98 = some (.inr (12, [.int 0, .int 0, .ref 99, .ref 100, .ref 101, .ref 102, .ref 103, .ref 104, .ref 105, .int 0, .int (-1), .ref 106, .ref 107, .ref 108, .int 0, .int 0, .int 0, .int 0, .int 0, .int 0, .int 0, .ref 109, .int 0, .int 0, .ref 110, .ref 111, .ref 112, .ref 113, .ref 114, .ref 115, .ref 116, .ref 117, .int 0, .int 0, .int (-1), .int (-1), .ref 118, .ref 119, .ref 120, .ref 121, .ref 122, .ref 123, .ref 124, .ref 125, .ref 126, .ref 127, .ref 128, .ref 129, .int 0, .ref 130, .ref 131, .ref 132, .ref 133, .ref 134, .int 0, .int 0]))) (hk100 : fh 100 = some (.inl (0, 4870, .inl (upd (fun _ => 0) 63 (-1))))) (hk111 : fh 111 = some (.inl (0, 1260, .inl (fun _ => 0)))) : JM l G yX12_read MX12_read { frames := 3, cells := 0, slots := 0, locals := 69 } [.ref 98, .int 0, .int a2] (nh, fh) (fun r h9 => r = some (.int (-1)) ∧ h9 = (nh, hc fh [(98, .inr (12, [.int 0, .int 0, .ref 99, .ref 100, .ref 101, .ref 102, .ref 103, .ref 104, .ref 105, .int 0, .int (-1), .ref 106, .ref 107, .ref 108, .int 0, .int 0, .int 0, .int 0, .int 0, .int 0, .int 0, .ref 109, .int 0, .int 0, .ref 110, .ref 111, .ref 112, .ref 113, .ref 114, .ref 115, .ref 116, .ref 117, .int 1, .int 0, .int 0, .int (-1), .ref 118, .ref 119, .ref 120, .ref 121, .ref 122, .ref 123, .ref 124, .ref 125, .ref 126, .ref 127, .ref 128, .ref 129, .int 0, .ref 130, .ref 131, .ref 132, .ref 133, .ref 134, .int 0, .int 0])), (111, .inl (0, 1260, .inl (upd (fun _ => 0) 0 0)))])) := by
  refine JM.of (by decide) rfl (fun h => by cases h) (Nat.le_of_ble_eq_true rfl) ⟨3, rfl⟩ ?_
  refine J_hc0 (J_ls (ls2 := [some (.ref 98), some (.int 0), some (.int a2), none, none, none]) rfl ?_)
  refine J_aload_n dX12_read_0 rfl rfl ?_
  refine J_iload_n dX12_read_1 rfl rfl ?_
  refine J_callV (st := []) dX12_read_2 cv_X12_325 (c_X12_isHouse_2 hk98 hk100 hk111) hk98 rfl rfl (Nat.le_of_ble_eq_true rfl) ⟨(Nat.le_of_ble_eq_true rfl), (Nat.le_of_ble_eq_true rfl)⟩ ⟨(Nat.le_of_ble_eq_true rfl), (Nat.le_of_ble_eq_true rfl)⟩ (fun r h9 hp => ?_)
  obtain ⟨rfl, rfl⟩ := hp
  refine J_nf (nh2 := nh) (ck2 := 0) (sk2 := 0) (st2 := [.int 1]) rfl rfl rfl rfl ?_
  refine J_app (L3 := [(98, .inr (12, [.int 0, .int 0, .ref 99, .ref 100, .ref 101, .ref 102, .ref 103, .ref 104, .ref 105, .int 0, .int (-1), .ref 106, .ref 107, .ref 108, .int 0, .int 0, .int 0, .int 0, .int 0, .int 0, .int 0, .ref 109, .int 0, .int 0, .ref 110, .ref 111, .ref 112, .ref 113, .ref 114, .ref 115, .ref 116, .ref 117, .int 1, .int 0, .int 0, .int (-1), .ref 118, .ref 119, .ref 120, .ref 121, .ref 122, .ref 123, .ref 124, .ref 125, .ref 126, .ref 127, .ref 128, .ref 129, .int 0, .ref 130, .ref 131, .ref 132, .ref 133, .ref 134, .int 0, .int 0])), (111, .inl (0, 1260, .inl (upd (fun _ => 0) 0 0)))]) rfl ?_
  refine J_if_eq (tgt := 17) dX12_read_5 (by decide) (fun q => absurd q (by decide +kernel)) (fun _ => ?_)
  refine J_iload_n dX12_read_8 rfl rfl ?_
  refine J_iconst (v := 0) dX12_read_9 (by decide) ?_
  refine J_iconst (v := 1) dX12_read_10 (by decide) ?_
  refine J_callS (st := []) dX12_read_11 cs_X12_138 (c_X12_lies_22 (a2) b_a2) rfl rfl (Nat.le_of_ble_eq_true rfl) ⟨(Nat.le_of_ble_eq_true rfl), (Nat.le_of_ble_eq_true rfl)⟩ ⟨(Nat.le_of_ble_eq_true rfl), (Nat.le_of_ble_eq_true rfl)⟩ (fun r h9 hp => ?_)
  obtain ⟨rfl, rfl⟩ := hp
  refine J_nf (nh2 := nh) (ck2 := 0) (sk2 := 0) (st2 := [.int 0]) rfl rfl rfl rfl ?_
  refine J_if_ne (tgt := 19) dX12_read_14 (by decide) (fun q => absurd (by decide +kernel) q) (fun _ => ?_)
  refine J_iconst (v := (-1)) dX12_read_17 (by decide) ?_
  exact J_iret dX12_read_18 rfl rfl (Nat.le_of_ble_eq_true rfl) (Nat.le_of_ble_eq_true rfl) ⟨rfl, rfl⟩
set_option maxHeartbeats 4000000 in
set_option maxRecDepth 100000 in
theorem c_X0_backwardOf_1 {l : Launch} {G : jG} {nh : Nat} {fh : Nat → Option va_E} (hk51 : fh 51 = some (.inr (0, [.ref 52, .ref 53, .int 1, .int 0]))) (hk52 : fh 52 = some (.inl (0, 1260, .inl (upd (fun _ => 0) 0 0)))) : JM l G yX0_backwardOf MX0_backwardOf { frames := 1, cells := 0, slots := 0, locals := 24 } [.ref 51, .int 0] (nh, fh) (fun r h9 => r = some (.int 0) ∧ h9 = (nh, fh)) := by
  refine JM.of (by decide) rfl (fun h => by cases h) (Nat.le_of_ble_eq_true rfl) ⟨2, rfl⟩ ?_
  refine J_hc0 (J_ls (ls2 := [some (.ref 51), some (.int 0), none, none]) rfl ?_)
  refine J_iconst (v := 0) dX0_backwardOf_0 (by decide) ?_
  refine J_istore_n dX0_backwardOf_1 rfl (Nat.le_of_ble_eq_true rfl) rfl ?_
  refine J_aload_n dX0_backwardOf_2 rfl rfl ?_
  refine J_get (v := .int 0) dX0_backwardOf_3 fl_X0_22 hk51 rfl ?_
  refine J_iconst (v := 1) dX0_backwardOf_6 (by decide) ?_
  refine J_isub (z := (-1)) dX0_backwardOf_7 (by decide +kernel) ?_
  refine J_istore_n dX0_backwardOf_8 rfl (Nat.le_of_ble_eq_true rfl) rfl ?_
  refine J_iload_n dX0_backwardOf_9 rfl rfl ?_
  refine J_if_lt (tgt := 37) dX0_backwardOf_10 (by decide) (fun _ => ?_) (fun q => absurd (by decide +kernel) q)
  refine J_aload_n dX0_backwardOf_37 rfl rfl ?_
  refine J_iload_n dX0_backwardOf_38 rfl rfl ?_
  refine J_callV (st := []) dX0_backwardOf_39 cv_X0_55 (c_X0_find_1 hk51 hk52) hk51 rfl rfl (Nat.le_of_ble_eq_true rfl) ⟨(Nat.le_of_ble_eq_true rfl), (Nat.le_of_ble_eq_true rfl)⟩ ⟨(Nat.le_of_ble_eq_true rfl), (Nat.le_of_ble_eq_true rfl)⟩ (fun r h9 hp => ?_)
  obtain ⟨rfl, rfl⟩ := hp
  refine J_nf (nh2 := nh) (ck2 := 0) (sk2 := 0) (st2 := [.int 0]) rfl rfl rfl rfl ?_
  exact J_iret dX0_backwardOf_42 rfl rfl (Nat.le_of_ble_eq_true rfl) (Nat.le_of_ble_eq_true rfl) ⟨rfl, rfl⟩
set_option maxHeartbeats 4000000 in
set_option maxRecDepth 100000 in
theorem c_X11_read_3 {l : Launch} {G : jG} {nh : Nat} {fh : Nat → Option va_E} (hk0 : fh 0 = some (.inr (11, [.ref 1, .ref 17, .ref 50, .ref 51, .ref 54, .ref 57, .ref 65, .ref 75, .ref 81, .ref 85, .ref 88, .ref 93, .ref 96, .int 0, .int (-1), .ref 97, .int 0]))) (hk51 : fh 51 = some (.inr (0, [.ref 52, .ref 53, .int 1, .int 0]))) (hk52 : fh 52 = some (.inl (0, 1260, .inl (upd (fun _ => 0) 0 0)))) : JM l G yX11_read MX11_read { frames := 2, cells := 0, slots := 0, locals := 47 } [.ref 0, .int 0, .int 0] (nh, fh) (fun r h9 => r = some (.int 0) ∧ h9 = (nh, fh)) := by
  refine JM.of (by decide) rfl (fun h => by cases h) (Nat.le_of_ble_eq_true rfl) ⟨0, rfl⟩ ?_
  refine J_hc0 (J_ls (ls2 := [some (.ref 0), some (.int 0), some (.int 0)]) rfl ?_)
  refine J_aload_n dX11_read_0 rfl rfl ?_
  refine J_get (v := .ref 51) dX11_read_1 fl_X11_27 hk0 rfl ?_
  refine J_iload_n dX11_read_4 rfl rfl ?_
  refine J_callV (st := []) dX11_read_5 cv_X11_135 (c_X0_has_2 hk51) hk51 rfl rfl (Nat.le_of_ble_eq_true rfl) ⟨(Nat.le_of_ble_eq_true rfl), (Nat.le_of_ble_eq_true rfl)⟩ ⟨(Nat.le_of_ble_eq_true rfl), (Nat.le_of_ble_eq_true rfl)⟩ (fun r h9 hp => ?_)
  obtain ⟨rfl, rfl⟩ := hp
  refine J_nf (nh2 := nh) (ck2 := 0) (sk2 := 0) (st2 := [.int 1]) rfl rfl rfl rfl ?_
  refine J_if_ne (tgt := 13) dX11_read_8 (by decide) (fun _ => ?_) (fun q => absurd q (by decide +kernel))
  refine J_iload_n dX11_read_13 rfl rfl ?_
  refine J_lookup (tgt := 40) dX11_read_14 (by decide) (off := 26) (by decide +kernel) (by decide) ?_
  refine J_aload_n dX11_read_40 rfl rfl ?_
  refine J_get (v := .ref 51) dX11_read_41 fl_X11_27 hk0 rfl ?_
  refine J_iload_n dX11_read_44 rfl rfl ?_
  refine J_callV (st := []) dX11_read_45 cv_X11_245 (c_X0_backwardOf_1 hk51 hk52) hk51 rfl rfl (Nat.le_of_ble_eq_true rfl) ⟨(Nat.le_of_ble_eq_true rfl), (Nat.le_of_ble_eq_true rfl)⟩ ⟨(Nat.le_of_ble_eq_true rfl), (Nat.le_of_ble_eq_true rfl)⟩ (fun r h9 hp => ?_)
  obtain ⟨rfl, rfl⟩ := hp
  refine J_nf (nh2 := nh) (ck2 := 0) (sk2 := 0) (st2 := [.int 0]) rfl rfl rfl rfl ?_
  exact J_iret dX11_read_48 rfl rfl (Nat.le_of_ble_eq_true rfl) (Nat.le_of_ble_eq_true rfl) ⟨rfl, rfl⟩
set_option maxHeartbeats 4000000 in
set_option maxRecDepth 100000 in
theorem c_X12_orderCode_1 {l : Launch} {G : jG} {nh : Nat} {fh : Nat → Option va_E} (hk98 : fh 98 = some (.inr (12, [.int 0, .int 0, .ref 99, .ref 100, .ref 101, .ref 102, .ref 103, .ref 104, .ref 105, .int 0, .int (-1), .ref 106, .ref 107, .ref 108, .int 0, .int 0, .int 0, .int 0, .int 0, .int 0, .int 0, .ref 109, .int 0, .int 0, .ref 110, .ref 111, .ref 112, .ref 113, .ref 114, .ref 115, .ref 116, .ref 117, .int 1, .int 0, .int 0, .int (-1), .ref 118, .ref 119, .ref 120, .ref 121, .ref 122, .ref 123, .ref 124, .ref 125, .ref 126, .ref 127, .ref 128, .ref 129, .int 0, .ref 130, .ref 131, .ref 132, .ref 133, .ref 134, .int 0, .int 0]))) : JM l G yX12_orderCode MX12_orderCode { frames := 0, cells := 0, slots := 0, locals := 0 } [.ref 98] (nh, fh) (fun r h9 => r = some (.int 0) ∧ h9 = (nh, fh)) := by
  refine JM.of (by decide) rfl (fun h => by cases h) (Nat.le_of_ble_eq_true rfl) ⟨2, rfl⟩ ?_
  refine J_hc0 (J_ls (ls2 := [some (.ref 98), none, none]) rfl ?_)
  refine J_iconst (v := 0) dX12_orderCode_0 (by decide) ?_
  refine J_istore_n dX12_orderCode_1 rfl (Nat.le_of_ble_eq_true rfl) rfl ?_
  refine J_iconst (v := 0) dX12_orderCode_2 (by decide) ?_
  refine J_istore_n dX12_orderCode_3 rfl (Nat.le_of_ble_eq_true rfl) rfl ?_
  refine J_iload_n dX12_orderCode_4 rfl rfl ?_
  refine J_aload_n dX12_orderCode_5 rfl rfl ?_
  refine J_get (v := .int 0) dX12_orderCode_6 fl_X12_293 hk98 rfl ?_
  refine J_icmp_ge (tgt := 29) dX12_orderCode_9 (by decide) (fun _ => ?_) (fun q => absurd (by decide +kernel) q)
  refine J_iload_n dX12_orderCode_29 rfl rfl ?_
  exact J_iret dX12_orderCode_30 rfl rfl (Nat.le_of_ble_eq_true rfl) (Nat.le_of_ble_eq_true rfl) ⟨rfl, rfl⟩
set_option maxHeartbeats 4000000 in
set_option maxRecDepth 100000 in
theorem c_X12_read_3 {l : Launch} {G : jG} {nh : Nat} {fh : Nat → Option va_E} (hk98 : fh 98 = some (.inr (12, [.int 0, .int 0, .ref 99, .ref 100, .ref 101, .ref 102, .ref 103, .ref 104, .ref 105, .int 0, .int (-1), .ref 106, .ref 107, .ref 108, .int 0, .int 0, .int 0, .int 0, .int 0, .int 0, .int 0, .ref 109, .int 0, .int 0, .ref 110, .ref 111, .ref 112, .ref 113, .ref 114, .ref 115, .ref 116, .ref 117, .int 0, .int 0, .int (-1), .int (-1), .ref 118, .ref 119, .ref 120, .ref 121, .ref 122, .ref 123, .ref 124, .ref 125, .ref 126, .ref 127, .ref 128, .ref 129, .int 0, .ref 130, .ref 131, .ref 132, .ref 133, .ref 134, .int 0, .int 0]))) (hk100 : fh 100 = some (.inl (0, 4870, .inl (upd (fun _ => 0) 63 (-1))))) (hk111 : fh 111 = some (.inl (0, 1260, .inl (fun _ => 0)))) : JM l G yX12_read MX12_read { frames := 3, cells := 0, slots := 0, locals := 69 } [.ref 98, .int 0, .int 0] (nh, fh) (fun r h9 => r = some (.int 0) ∧ h9 = (nh, hc fh [(98, .inr (12, [.int 0, .int 0, .ref 99, .ref 100, .ref 101, .ref 102, .ref 103, .ref 104, .ref 105, .int 0, .int (-1), .ref 106, .ref 107, .ref 108, .int 0, .int 0, .int 0, .int 0, .int 0, .int 0, .int 0, .ref 109, .int 0, .int 0, .ref 110, .ref 111, .ref 112, .ref 113, .ref 114, .ref 115, .ref 116, .ref 117, .int 1, .int 0, .int 0, .int (-1), .ref 118, .ref 119, .ref 120, .ref 121, .ref 122, .ref 123, .ref 124, .ref 125, .ref 126, .ref 127, .ref 128, .ref 129, .int 0, .ref 130, .ref 131, .ref 132, .ref 133, .ref 134, .int 0, .int 0])), (111, .inl (0, 1260, .inl (upd (fun _ => 0) 0 0)))])) := by
  refine JM.of (by decide) rfl (fun h => by cases h) (Nat.le_of_ble_eq_true rfl) ⟨3, rfl⟩ ?_
  refine J_hc0 (J_ls (ls2 := [some (.ref 98), some (.int 0), some (.int 0), none, none, none]) rfl ?_)
  refine J_aload_n dX12_read_0 rfl rfl ?_
  refine J_iload_n dX12_read_1 rfl rfl ?_
  refine J_callV (st := []) dX12_read_2 cv_X12_325 (c_X12_isHouse_2 hk98 hk100 hk111) hk98 rfl rfl (Nat.le_of_ble_eq_true rfl) ⟨(Nat.le_of_ble_eq_true rfl), (Nat.le_of_ble_eq_true rfl)⟩ ⟨(Nat.le_of_ble_eq_true rfl), (Nat.le_of_ble_eq_true rfl)⟩ (fun r h9 hp => ?_)
  obtain ⟨rfl, rfl⟩ := hp
  refine J_nf (nh2 := nh) (ck2 := 0) (sk2 := 0) (st2 := [.int 1]) rfl rfl rfl rfl ?_
  refine J_app (L3 := [(98, .inr (12, [.int 0, .int 0, .ref 99, .ref 100, .ref 101, .ref 102, .ref 103, .ref 104, .ref 105, .int 0, .int (-1), .ref 106, .ref 107, .ref 108, .int 0, .int 0, .int 0, .int 0, .int 0, .int 0, .int 0, .ref 109, .int 0, .int 0, .ref 110, .ref 111, .ref 112, .ref 113, .ref 114, .ref 115, .ref 116, .ref 117, .int 1, .int 0, .int 0, .int (-1), .ref 118, .ref 119, .ref 120, .ref 121, .ref 122, .ref 123, .ref 124, .ref 125, .ref 126, .ref 127, .ref 128, .ref 129, .int 0, .ref 130, .ref 131, .ref 132, .ref 133, .ref 134, .int 0, .int 0])), (111, .inl (0, 1260, .inl (upd (fun _ => 0) 0 0)))]) rfl ?_
  refine J_if_eq (tgt := 17) dX12_read_5 (by decide) (fun q => absurd q (by decide +kernel)) (fun _ => ?_)
  refine J_iload_n dX12_read_8 rfl rfl ?_
  refine J_iconst (v := 0) dX12_read_9 (by decide) ?_
  refine J_iconst (v := 1) dX12_read_10 (by decide) ?_
  refine J_callS (st := []) dX12_read_11 cs_X12_138 (c_X12_lies_23 ) rfl rfl (Nat.le_of_ble_eq_true rfl) ⟨(Nat.le_of_ble_eq_true rfl), (Nat.le_of_ble_eq_true rfl)⟩ ⟨(Nat.le_of_ble_eq_true rfl), (Nat.le_of_ble_eq_true rfl)⟩ (fun r h9 hp => ?_)
  obtain ⟨rfl, rfl⟩ := hp
  refine J_nf (nh2 := nh) (ck2 := 0) (sk2 := 0) (st2 := [.int 1]) rfl rfl rfl rfl ?_
  refine J_if_ne (tgt := 19) dX12_read_14 (by decide) (fun _ => ?_) (fun q => absurd q (by decide +kernel))
  refine J_iconst (v := 0) dX12_read_19 (by decide) ?_
  refine J_istore_n dX12_read_20 rfl (Nat.le_of_ble_eq_true rfl) rfl ?_
  refine J_iconst (v := 0) dX12_read_21 (by decide) ?_
  refine J_istore dX12_read_22 (Nat.le_of_ble_eq_true rfl) rfl ?_
  refine J_iload dX12_read_24 rfl ?_
  refine J_aload_n dX12_read_26 rfl rfl ?_
  refine J_get (v := .int 0) dX12_read_27 fl_X12_293 rfl rfl ?_
  refine J_icmp_ge (tgt := 85) dX12_read_30 (by decide) (fun _ => ?_) (fun q => absurd (by decide +kernel) q)
  refine J_iconst (v := 0) dX12_read_85 (by decide) ?_
  refine J_istore dX12_read_86 (Nat.le_of_ble_eq_true rfl) rfl ?_
  refine J_iload dX12_read_88 rfl ?_
  refine J_aload_n dX12_read_90 rfl rfl ?_
  refine J_get (v := .int 0) dX12_read_91 fl_X12_293 rfl rfl ?_
  refine J_icmp_ge (tgt := 124) dX12_read_94 (by decide) (fun _ => ?_) (fun q => absurd (by decide +kernel) q)
  refine J_iload_n dX12_read_124 rfl rfl ?_
  refine J_iconst (v := 1) dX12_read_125 (by decide) ?_
  refine J_icmp_ne (tgt := 133) dX12_read_126 (by decide) (fun _ => ?_) (fun q => absurd q (by decide +kernel))
  refine J_aload_n dX12_read_133 rfl rfl ?_
  refine J_aload_n dX12_read_134 rfl rfl ?_
  refine J_callV (st := [.ref 98]) dX12_read_135 cv_X12_319 (c_X12_orderCode_1 rfl) rfl rfl rfl (Nat.le_of_ble_eq_true rfl) ⟨(Nat.le_of_ble_eq_true rfl), (Nat.le_of_ble_eq_true rfl)⟩ ⟨(Nat.le_of_ble_eq_true rfl), (Nat.le_of_ble_eq_true rfl)⟩ (fun r h9 hp => ?_)
  obtain ⟨rfl, rfl⟩ := hp
  refine J_nf (nh2 := nh) (ck2 := 0) (sk2 := 0) (st2 := [.int 0, .ref 98]) rfl rfl rfl rfl ?_
  refine J_callV (st := []) dX12_read_138 cv_X12_162 (c_X12_houseOf_2 rfl rfl) rfl rfl rfl (Nat.le_of_ble_eq_true rfl) ⟨(Nat.le_of_ble_eq_true rfl), (Nat.le_of_ble_eq_true rfl)⟩ ⟨(Nat.le_of_ble_eq_true rfl), (Nat.le_of_ble_eq_true rfl)⟩ (fun r h9 hp => ?_)
  obtain ⟨rfl, rfl⟩ := hp
  refine J_nf (nh2 := nh) (ck2 := 0) (sk2 := 0) (st2 := [.int 0]) rfl rfl rfl rfl ?_
  exact J_iret dX12_read_141 rfl rfl (Nat.le_of_ble_eq_true rfl) (Nat.le_of_ble_eq_true rfl) ⟨rfl, rfl⟩
set_option maxHeartbeats 4000000 in
set_option maxRecDepth 100000 in
theorem c_X0_inversionsOf_1 {l : Launch} {G : jG} {nh : Nat} {fh : Nat → Option va_E} (hk51 : fh 51 = some (.inr (0, [.ref 52, .ref 53, .int 1, .int 0]))) (hk52 : fh 52 = some (.inl (0, 1260, .inl (upd (fun _ => 0) 0 0)))) : JM l G yX0_inversionsOf MX0_inversionsOf { frames := 2, cells := 0, slots := 0, locals := 42 } [.ref 51, .int 0] (nh, fh) (fun r h9 => r = some (.int 0) ∧ h9 = (nh, fh)) := by
  refine JM.of (by decide) rfl (fun h => by cases h) (Nat.le_of_ble_eq_true rfl) ⟨5, rfl⟩ ?_
  refine J_hc0 (J_ls (ls2 := [some (.ref 51), some (.int 0), none, none, none, none, none]) rfl ?_)
  refine J_aload_n dX0_inversionsOf_0 rfl rfl ?_
  refine J_iload_n dX0_inversionsOf_1 rfl rfl ?_
  refine J_callV (st := []) dX0_inversionsOf_2 cv_X0_52 (c_X0_rowOf_1 hk51 hk52) hk51 rfl rfl (Nat.le_of_ble_eq_true rfl) ⟨(Nat.le_of_ble_eq_true rfl), (Nat.le_of_ble_eq_true rfl)⟩ ⟨(Nat.le_of_ble_eq_true rfl), (Nat.le_of_ble_eq_true rfl)⟩ (fun r h9 hp => ?_)
  obtain ⟨rfl, rfl⟩ := hp
  refine J_nf (nh2 := nh) (ck2 := 0) (sk2 := 0) (st2 := [.int 0]) rfl rfl rfl rfl ?_
  refine J_istore_n dX0_inversionsOf_5 rfl (Nat.le_of_ble_eq_true rfl) rfl ?_
  refine J_iconst (v := 0) dX0_inversionsOf_6 (by decide) ?_
  refine J_istore_n dX0_inversionsOf_7 rfl (Nat.le_of_ble_eq_true rfl) rfl ?_
  refine J_iconst (v := 0) dX0_inversionsOf_8 (by decide) ?_
  refine J_istore dX0_inversionsOf_9 (Nat.le_of_ble_eq_true rfl) rfl ?_
  refine J_iload dX0_inversionsOf_11 rfl ?_
  refine J_aload_n dX0_inversionsOf_13 rfl rfl ?_
  refine J_get (v := .int 0) dX0_inversionsOf_14 fl_X0_22 hk51 rfl ?_
  refine J_icmp_ge (tgt := 77) dX0_inversionsOf_17 (by decide) (fun _ => ?_) (fun q => absurd (by decide +kernel) q)
  refine J_iload_n dX0_inversionsOf_77 rfl rfl ?_
  exact J_iret dX0_inversionsOf_78 rfl rfl (Nat.le_of_ble_eq_true rfl) (Nat.le_of_ble_eq_true rfl) ⟨rfl, rfl⟩
set_option maxHeartbeats 4000000 in
set_option maxRecDepth 100000 in
theorem c_X11_read_4 {l : Launch} {G : jG} {nh : Nat} {fh : Nat → Option va_E} (hk0 : fh 0 = some (.inr (11, [.ref 1, .ref 17, .ref 50, .ref 51, .ref 54, .ref 57, .ref 65, .ref 75, .ref 81, .ref 85, .ref 88, .ref 93, .ref 96, .int 0, .int (-1), .ref 97, .int 0]))) (hk51 : fh 51 = some (.inr (0, [.ref 52, .ref 53, .int 1, .int 0]))) (hk52 : fh 52 = some (.inl (0, 1260, .inl (upd (fun _ => 0) 0 0)))) : JM l G yX11_read MX11_read { frames := 3, cells := 0, slots := 0, locals := 68 } [.ref 0, .int 0, .int 1] (nh, fh) (fun r h9 => r = some (.int 0) ∧ h9 = (nh, fh)) := by
  refine JM.of (by decide) rfl (fun h => by cases h) (Nat.le_of_ble_eq_true rfl) ⟨0, rfl⟩ ?_
  refine J_hc0 (J_ls (ls2 := [some (.ref 0), some (.int 0), some (.int 1)]) rfl ?_)
  refine J_aload_n dX11_read_0 rfl rfl ?_
  refine J_get (v := .ref 51) dX11_read_1 fl_X11_27 hk0 rfl ?_
  refine J_iload_n dX11_read_4 rfl rfl ?_
  refine J_callV (st := []) dX11_read_5 cv_X11_135 (c_X0_has_2 hk51) hk51 rfl rfl (Nat.le_of_ble_eq_true rfl) ⟨(Nat.le_of_ble_eq_true rfl), (Nat.le_of_ble_eq_true rfl)⟩ ⟨(Nat.le_of_ble_eq_true rfl), (Nat.le_of_ble_eq_true rfl)⟩ (fun r h9 hp => ?_)
  obtain ⟨rfl, rfl⟩ := hp
  refine J_nf (nh2 := nh) (ck2 := 0) (sk2 := 0) (st2 := [.int 1]) rfl rfl rfl rfl ?_
  refine J_if_ne (tgt := 13) dX11_read_8 (by decide) (fun _ => ?_) (fun q => absurd q (by decide +kernel))
  refine J_iload_n dX11_read_13 rfl rfl ?_
  refine J_lookup (tgt := 49) dX11_read_14 (by decide) (off := 35) (by decide +kernel) (by decide) ?_
  refine J_aload_n dX11_read_49 rfl rfl ?_
  refine J_get (v := .ref 51) dX11_read_50 fl_X11_27 hk0 rfl ?_
  refine J_iload_n dX11_read_53 rfl rfl ?_
  refine J_callV (st := []) dX11_read_54 cv_X11_248 (c_X0_inversionsOf_1 hk51 hk52) hk51 rfl rfl (Nat.le_of_ble_eq_true rfl) ⟨(Nat.le_of_ble_eq_true rfl), (Nat.le_of_ble_eq_true rfl)⟩ ⟨(Nat.le_of_ble_eq_true rfl), (Nat.le_of_ble_eq_true rfl)⟩ (fun r h9 hp => ?_)
  obtain ⟨rfl, rfl⟩ := hp
  refine J_nf (nh2 := nh) (ck2 := 0) (sk2 := 0) (st2 := [.int 0]) rfl rfl rfl rfl ?_
  exact J_iret dX11_read_57 rfl rfl (Nat.le_of_ble_eq_true rfl) (Nat.le_of_ble_eq_true rfl) ⟨rfl, rfl⟩
set_option maxHeartbeats 4000000 in
set_option maxRecDepth 100000 in
theorem c_X12_read_4 {l : Launch} {G : jG} {nh : Nat} {fh : Nat → Option va_E} (hk98 : fh 98 = some (.inr (12, [.int 0, .int 0, .ref 99, .ref 100, .ref 101, .ref 102, .ref 103, .ref 104, .ref 105, .int 0, .int (-1), .ref 106, .ref 107, .ref 108, .int 0, .int 0, .int 0, .int 0, .int 0, .int 0, .int 0, .ref 109, .int 0, .int 0, .ref 110, .ref 111, .ref 112, .ref 113, .ref 114, .ref 115, .ref 116, .ref 117, .int 0, .int 0, .int (-1), .int (-1), .ref 118, .ref 119, .ref 120, .ref 121, .ref 122, .ref 123, .ref 124, .ref 125, .ref 126, .ref 127, .ref 128, .ref 129, .int 0, .ref 130, .ref 131, .ref 132, .ref 133, .ref 134, .int 0, .int 0]))) (hk100 : fh 100 = some (.inl (0, 4870, .inl (upd (fun _ => 0) 63 (-1))))) (hk111 : fh 111 = some (.inl (0, 1260, .inl (fun _ => 0)))) : JM l G yX12_read MX12_read { frames := 3, cells := 0, slots := 0, locals := 69 } [.ref 98, .int 0, .int 1] (nh, fh) (fun r h9 => r = some (.int 0) ∧ h9 = (nh, hc fh [(98, .inr (12, [.int 0, .int 0, .ref 99, .ref 100, .ref 101, .ref 102, .ref 103, .ref 104, .ref 105, .int 0, .int (-1), .ref 106, .ref 107, .ref 108, .int 0, .int 0, .int 0, .int 0, .int 0, .int 0, .int 0, .ref 109, .int 0, .int 0, .ref 110, .ref 111, .ref 112, .ref 113, .ref 114, .ref 115, .ref 116, .ref 117, .int 1, .int 0, .int 0, .int (-1), .ref 118, .ref 119, .ref 120, .ref 121, .ref 122, .ref 123, .ref 124, .ref 125, .ref 126, .ref 127, .ref 128, .ref 129, .int 0, .ref 130, .ref 131, .ref 132, .ref 133, .ref 134, .int 0, .int 0])), (111, .inl (0, 1260, .inl (upd (fun _ => 0) 0 0)))])) := by
  refine JM.of (by decide) rfl (fun h => by cases h) (Nat.le_of_ble_eq_true rfl) ⟨3, rfl⟩ ?_
  refine J_hc0 (J_ls (ls2 := [some (.ref 98), some (.int 0), some (.int 1), none, none, none]) rfl ?_)
  refine J_aload_n dX12_read_0 rfl rfl ?_
  refine J_iload_n dX12_read_1 rfl rfl ?_
  refine J_callV (st := []) dX12_read_2 cv_X12_325 (c_X12_isHouse_2 hk98 hk100 hk111) hk98 rfl rfl (Nat.le_of_ble_eq_true rfl) ⟨(Nat.le_of_ble_eq_true rfl), (Nat.le_of_ble_eq_true rfl)⟩ ⟨(Nat.le_of_ble_eq_true rfl), (Nat.le_of_ble_eq_true rfl)⟩ (fun r h9 hp => ?_)
  obtain ⟨rfl, rfl⟩ := hp
  refine J_nf (nh2 := nh) (ck2 := 0) (sk2 := 0) (st2 := [.int 1]) rfl rfl rfl rfl ?_
  refine J_app (L3 := [(98, .inr (12, [.int 0, .int 0, .ref 99, .ref 100, .ref 101, .ref 102, .ref 103, .ref 104, .ref 105, .int 0, .int (-1), .ref 106, .ref 107, .ref 108, .int 0, .int 0, .int 0, .int 0, .int 0, .int 0, .int 0, .ref 109, .int 0, .int 0, .ref 110, .ref 111, .ref 112, .ref 113, .ref 114, .ref 115, .ref 116, .ref 117, .int 1, .int 0, .int 0, .int (-1), .ref 118, .ref 119, .ref 120, .ref 121, .ref 122, .ref 123, .ref 124, .ref 125, .ref 126, .ref 127, .ref 128, .ref 129, .int 0, .ref 130, .ref 131, .ref 132, .ref 133, .ref 134, .int 0, .int 0])), (111, .inl (0, 1260, .inl (upd (fun _ => 0) 0 0)))]) rfl ?_
  refine J_if_eq (tgt := 17) dX12_read_5 (by decide) (fun q => absurd q (by decide +kernel)) (fun _ => ?_)
  refine J_iload_n dX12_read_8 rfl rfl ?_
  refine J_iconst (v := 0) dX12_read_9 (by decide) ?_
  refine J_iconst (v := 1) dX12_read_10 (by decide) ?_
  refine J_callS (st := []) dX12_read_11 cs_X12_138 (c_X12_lies_26 ) rfl rfl (Nat.le_of_ble_eq_true rfl) ⟨(Nat.le_of_ble_eq_true rfl), (Nat.le_of_ble_eq_true rfl)⟩ ⟨(Nat.le_of_ble_eq_true rfl), (Nat.le_of_ble_eq_true rfl)⟩ (fun r h9 hp => ?_)
  obtain ⟨rfl, rfl⟩ := hp
  refine J_nf (nh2 := nh) (ck2 := 0) (sk2 := 0) (st2 := [.int 1]) rfl rfl rfl rfl ?_
  refine J_if_ne (tgt := 19) dX12_read_14 (by decide) (fun _ => ?_) (fun q => absurd q (by decide +kernel))
  refine J_iconst (v := 0) dX12_read_19 (by decide) ?_
  refine J_istore_n dX12_read_20 rfl (Nat.le_of_ble_eq_true rfl) rfl ?_
  refine J_iconst (v := 0) dX12_read_21 (by decide) ?_
  refine J_istore dX12_read_22 (Nat.le_of_ble_eq_true rfl) rfl ?_
  refine J_iload dX12_read_24 rfl ?_
  refine J_aload_n dX12_read_26 rfl rfl ?_
  refine J_get (v := .int 0) dX12_read_27 fl_X12_293 rfl rfl ?_
  refine J_icmp_ge (tgt := 85) dX12_read_30 (by decide) (fun _ => ?_) (fun q => absurd (by decide +kernel) q)
  refine J_iconst (v := 0) dX12_read_85 (by decide) ?_
  refine J_istore dX12_read_86 (Nat.le_of_ble_eq_true rfl) rfl ?_
  refine J_iload dX12_read_88 rfl ?_
  refine J_aload_n dX12_read_90 rfl rfl ?_
  refine J_get (v := .int 0) dX12_read_91 fl_X12_293 rfl rfl ?_
  refine J_icmp_ge (tgt := 124) dX12_read_94 (by decide) (fun _ => ?_) (fun q => absurd (by decide +kernel) q)
  refine J_iload_n dX12_read_124 rfl rfl ?_
  refine J_iconst (v := 1) dX12_read_125 (by decide) ?_
  refine J_icmp_ne (tgt := 133) dX12_read_126 (by decide) (fun q => absurd (by decide +kernel) q) (fun _ => ?_)
  refine J_iload_n dX12_read_129 rfl rfl ?_
  refine J_goto (tgt := 141) dX12_read_130 (by decide) ?_
  exact J_iret dX12_read_141 rfl rfl (Nat.le_of_ble_eq_true rfl) (Nat.le_of_ble_eq_true rfl) ⟨rfl, rfl⟩
set_option maxHeartbeats 4000000 in
set_option maxRecDepth 100000 in
theorem c_X11_read_5 {l : Launch} {G : jG} {nh : Nat} {fh : Nat → Option va_E} (a2 : Int32) (b_a2 : 2 ≤ a2.toInt ∧ a2.toInt ≤ 2147483647) (hk0 : fh 0 = some (.inr (11, [.ref 1, .ref 17, .ref 50, .ref 51, .ref 54, .ref 57, .ref 65, .ref 75, .ref 81, .ref 85, .ref 88, .ref 93, .ref 96, .int 0, .int (-1), .ref 97, .int 0]))) (hk51 : fh 51 = some (.inr (0, [.ref 52, .ref 53, .int 1, .int 0]))) : JM l G yX11_read MX11_read { frames := 1, cells := 0, slots := 0, locals := 21 } [.ref 0, .int 0, .int a2] (nh, fh) (fun r h9 => r = some (.int (-1)) ∧ h9 = (nh, fh)) := by
  refine JM.of (by decide) rfl (fun h => by cases h) (Nat.le_of_ble_eq_true rfl) ⟨0, rfl⟩ ?_
  refine J_hc0 (J_ls (ls2 := [some (.ref 0), some (.int 0), some (.int a2)]) rfl ?_)
  refine J_aload_n dX11_read_0 rfl rfl ?_
  refine J_get (v := .ref 51) dX11_read_1 fl_X11_27 hk0 rfl ?_
  refine J_iload_n dX11_read_4 rfl rfl ?_
  refine J_callV (st := []) dX11_read_5 cv_X11_135 (c_X0_has_2 hk51) hk51 rfl rfl (Nat.le_of_ble_eq_true rfl) ⟨(Nat.le_of_ble_eq_true rfl), (Nat.le_of_ble_eq_true rfl)⟩ ⟨(Nat.le_of_ble_eq_true rfl), (Nat.le_of_ble_eq_true rfl)⟩ (fun r h9 hp => ?_)
  obtain ⟨rfl, rfl⟩ := hp
  refine J_nf (nh2 := nh) (ck2 := 0) (sk2 := 0) (st2 := [.int 1]) rfl rfl rfl rfl ?_
  refine J_if_ne (tgt := 13) dX11_read_8 (by decide) (fun _ => ?_) (fun q => absurd q (by decide +kernel))
  refine J_iload_n dX11_read_13 rfl rfl ?_
  refine J_lookup (tgt := 58) dX11_read_14 (by decide) (off := 44) (by have hb := b_a2; simp only [Op.lookupswitch.offset]; repeat rw [if_neg (by omega)]) (by decide) ?_
  refine J_iconst (v := (-1)) dX11_read_58 (by decide) ?_
  exact J_iret dX11_read_59 rfl rfl (Nat.le_of_ble_eq_true rfl) (Nat.le_of_ble_eq_true rfl) ⟨rfl, rfl⟩
set_option maxHeartbeats 4000000 in
set_option maxRecDepth 100000 in
theorem c_X12_read_5 {l : Launch} {G : jG} {nh : Nat} {fh : Nat → Option va_E} (a2 : Int32) (b_a2 : 2 ≤ a2.toInt ∧ a2.toInt ≤ 2147483647) (hk98 : fh 98 = some (.inr (12, [.int 0, .int 0, .ref 99, .ref 100, .ref 101, .ref 102, .ref 103, .ref 104, .ref 105, .int 0, .int (-1), .ref 106, .ref 107, .ref 108, .int 0, .int 0, .int 0, .int 0, .int 0, .int 0, .int 0, .ref 109, .int 0, .int 0, .ref 110, .ref 111, .ref 112, .ref 113, .ref 114, .ref 115, .ref 116, .ref 117, .int 0, .int 0, .int (-1), .int (-1), .ref 118, .ref 119, .ref 120, .ref 121, .ref 122, .ref 123, .ref 124, .ref 125, .ref 126, .ref 127, .ref 128, .ref 129, .int 0, .ref 130, .ref 131, .ref 132, .ref 133, .ref 134, .int 0, .int 0]))) (hk100 : fh 100 = some (.inl (0, 4870, .inl (upd (fun _ => 0) 63 (-1))))) (hk111 : fh 111 = some (.inl (0, 1260, .inl (fun _ => 0)))) : JM l G yX12_read MX12_read { frames := 3, cells := 0, slots := 0, locals := 69 } [.ref 98, .int 0, .int a2] (nh, fh) (fun r h9 => r = some (.int (-1)) ∧ h9 = (nh, hc fh [(98, .inr (12, [.int 0, .int 0, .ref 99, .ref 100, .ref 101, .ref 102, .ref 103, .ref 104, .ref 105, .int 0, .int (-1), .ref 106, .ref 107, .ref 108, .int 0, .int 0, .int 0, .int 0, .int 0, .int 0, .int 0, .ref 109, .int 0, .int 0, .ref 110, .ref 111, .ref 112, .ref 113, .ref 114, .ref 115, .ref 116, .ref 117, .int 1, .int 0, .int 0, .int (-1), .ref 118, .ref 119, .ref 120, .ref 121, .ref 122, .ref 123, .ref 124, .ref 125, .ref 126, .ref 127, .ref 128, .ref 129, .int 0, .ref 130, .ref 131, .ref 132, .ref 133, .ref 134, .int 0, .int 0])), (111, .inl (0, 1260, .inl (upd (fun _ => 0) 0 0)))])) := by
  refine JM.of (by decide) rfl (fun h => by cases h) (Nat.le_of_ble_eq_true rfl) ⟨3, rfl⟩ ?_
  refine J_hc0 (J_ls (ls2 := [some (.ref 98), some (.int 0), some (.int a2), none, none, none]) rfl ?_)
  refine J_aload_n dX12_read_0 rfl rfl ?_
  refine J_iload_n dX12_read_1 rfl rfl ?_
  refine J_callV (st := []) dX12_read_2 cv_X12_325 (c_X12_isHouse_2 hk98 hk100 hk111) hk98 rfl rfl (Nat.le_of_ble_eq_true rfl) ⟨(Nat.le_of_ble_eq_true rfl), (Nat.le_of_ble_eq_true rfl)⟩ ⟨(Nat.le_of_ble_eq_true rfl), (Nat.le_of_ble_eq_true rfl)⟩ (fun r h9 hp => ?_)
  obtain ⟨rfl, rfl⟩ := hp
  refine J_nf (nh2 := nh) (ck2 := 0) (sk2 := 0) (st2 := [.int 1]) rfl rfl rfl rfl ?_
  refine J_app (L3 := [(98, .inr (12, [.int 0, .int 0, .ref 99, .ref 100, .ref 101, .ref 102, .ref 103, .ref 104, .ref 105, .int 0, .int (-1), .ref 106, .ref 107, .ref 108, .int 0, .int 0, .int 0, .int 0, .int 0, .int 0, .int 0, .ref 109, .int 0, .int 0, .ref 110, .ref 111, .ref 112, .ref 113, .ref 114, .ref 115, .ref 116, .ref 117, .int 1, .int 0, .int 0, .int (-1), .ref 118, .ref 119, .ref 120, .ref 121, .ref 122, .ref 123, .ref 124, .ref 125, .ref 126, .ref 127, .ref 128, .ref 129, .int 0, .ref 130, .ref 131, .ref 132, .ref 133, .ref 134, .int 0, .int 0])), (111, .inl (0, 1260, .inl (upd (fun _ => 0) 0 0)))]) rfl ?_
  refine J_if_eq (tgt := 17) dX12_read_5 (by decide) (fun q => absurd q (by decide +kernel)) (fun _ => ?_)
  refine J_iload_n dX12_read_8 rfl rfl ?_
  refine J_iconst (v := 0) dX12_read_9 (by decide) ?_
  refine J_iconst (v := 1) dX12_read_10 (by decide) ?_
  refine J_callS (st := []) dX12_read_11 cs_X12_138 (c_X12_lies_25 (a2) b_a2) rfl rfl (Nat.le_of_ble_eq_true rfl) ⟨(Nat.le_of_ble_eq_true rfl), (Nat.le_of_ble_eq_true rfl)⟩ ⟨(Nat.le_of_ble_eq_true rfl), (Nat.le_of_ble_eq_true rfl)⟩ (fun r h9 hp => ?_)
  obtain ⟨rfl, rfl⟩ := hp
  refine J_nf (nh2 := nh) (ck2 := 0) (sk2 := 0) (st2 := [.int 0]) rfl rfl rfl rfl ?_
  refine J_if_ne (tgt := 19) dX12_read_14 (by decide) (fun q => absurd (by decide +kernel) q) (fun _ => ?_)
  refine J_iconst (v := (-1)) dX12_read_17 (by decide) ?_
  exact J_iret dX12_read_18 rfl rfl (Nat.le_of_ble_eq_true rfl) (Nat.le_of_ble_eq_true rfl) ⟨rfl, rfl⟩
set_option maxHeartbeats 4000000 in
set_option maxRecDepth 100000 in
theorem c_X11_read_6 {l : Launch} {G : jG} {nh : Nat} {fh : Nat → Option va_E} (a1 : Int32) (b_a1 : 1 ≤ a1.toInt ∧ a1.toInt ≤ 2147483647) (a2 : Int32) (b_a2 : (-2147483648) ≤ a2.toInt ∧ a2.toInt ≤ 2147483647) (hk0 : fh 0 = some (.inr (11, [.ref 1, .ref 17, .ref 50, .ref 51, .ref 54, .ref 57, .ref 65, .ref 75, .ref 81, .ref 85, .ref 88, .ref 93, .ref 96, .int 0, .int (-1), .ref 97, .int 0]))) (hk51 : fh 51 = some (.inr (0, [.ref 52, .ref 53, .int 1, .int 0]))) : JM l G yX11_read MX11_read { frames := 1, cells := 0, slots := 0, locals := 21 } [.ref 0, .int a1, .int a2] (nh, fh) (fun r h9 => r = some (.int (-1)) ∧ h9 = (nh, fh)) := by
  refine JM.of (by decide) rfl (fun h => by cases h) (Nat.le_of_ble_eq_true rfl) ⟨0, rfl⟩ ?_
  refine J_hc0 (J_ls (ls2 := [some (.ref 0), some (.int a1), some (.int a2)]) rfl ?_)
  refine J_aload_n dX11_read_0 rfl rfl ?_
  refine J_get (v := .ref 51) dX11_read_1 fl_X11_27 hk0 rfl ?_
  refine J_iload_n dX11_read_4 rfl rfl ?_
  refine J_callV (st := []) dX11_read_5 cv_X11_135 (c_X0_has_3 (a1) b_a1 hk51) hk51 rfl rfl (Nat.le_of_ble_eq_true rfl) ⟨(Nat.le_of_ble_eq_true rfl), (Nat.le_of_ble_eq_true rfl)⟩ ⟨(Nat.le_of_ble_eq_true rfl), (Nat.le_of_ble_eq_true rfl)⟩ (fun r h9 hp => ?_)
  obtain ⟨rfl, rfl⟩ := hp
  refine J_nf (nh2 := nh) (ck2 := 0) (sk2 := 0) (st2 := [.int 0]) rfl rfl rfl rfl ?_
  refine J_if_ne (tgt := 13) dX11_read_8 (by decide) (fun q => absurd (by decide +kernel) q) (fun _ => ?_)
  refine J_iconst (v := (-1)) dX11_read_11 (by decide) ?_
  exact J_iret dX11_read_12 rfl rfl (Nat.le_of_ble_eq_true rfl) (Nat.le_of_ble_eq_true rfl) ⟨rfl, rfl⟩
set_option maxHeartbeats 4000000 in
set_option maxRecDepth 100000 in
theorem c_X12_read_6 {l : Launch} {G : jG} {nh : Nat} {fh : Nat → Option va_E} (a1 : Int32) (b_a1 : 1 ≤ a1.toInt ∧ a1.toInt ≤ 2147483647) (a2 : Int32) (b_a2 : (-2147483648) ≤ a2.toInt ∧ a2.toInt ≤ 2147483647) (hk98 : fh 98 = some (.inr (12, [.int 0, .int 0, .ref 99, .ref 100, .ref 101, .ref 102, .ref 103, .ref 104, .ref 105, .int 0, .int (-1), .ref 106, .ref 107, .ref 108, .int 0, .int 0, .int 0, .int 0, .int 0, .int 0, .int 0, .ref 109, .int 0, .int 0, .ref 110, .ref 111, .ref 112, .ref 113, .ref 114, .ref 115, .ref 116, .ref 117, .int 0, .int 0, .int (-1), .int (-1), .ref 118, .ref 119, .ref 120, .ref 121, .ref 122, .ref 123, .ref 124, .ref 125, .ref 126, .ref 127, .ref 128, .ref 129, .int 0, .ref 130, .ref 131, .ref 132, .ref 133, .ref 134, .int 0, .int 0]))) (hk100 : fh 100 = some (.inl (0, 4870, .inl (upd (fun _ => 0) 63 (-1))))) (hk111 : fh 111 = some (.inl (0, 1260, .inl (fun _ => 0)))) : JM l G yX12_read MX12_read { frames := 3, cells := 0, slots := 0, locals := 69 } [.ref 98, .int a1, .int a2] (nh, fh) (fun r h9 => r = some (.int (-1)) ∧ h9 = (nh, hc fh [(98, .inr (12, [.int 0, .int 0, .ref 99, .ref 100, .ref 101, .ref 102, .ref 103, .ref 104, .ref 105, .int 0, .int (-1), .ref 106, .ref 107, .ref 108, .int 0, .int 0, .int 0, .int 0, .int 0, .int 0, .int 0, .ref 109, .int 0, .int 0, .ref 110, .ref 111, .ref 112, .ref 113, .ref 114, .ref 115, .ref 116, .ref 117, .int 1, .int 0, .int 0, .int (-1), .ref 118, .ref 119, .ref 120, .ref 121, .ref 122, .ref 123, .ref 124, .ref 125, .ref 126, .ref 127, .ref 128, .ref 129, .int 0, .ref 130, .ref 131, .ref 132, .ref 133, .ref 134, .int 0, .int 0])), (111, .inl (0, 1260, .inl (upd (fun _ => 0) 0 0)))])) := by
  refine JM.of (by decide) rfl (fun h => by cases h) (Nat.le_of_ble_eq_true rfl) ⟨3, rfl⟩ ?_
  refine J_hc0 (J_ls (ls2 := [some (.ref 98), some (.int a1), some (.int a2), none, none, none]) rfl ?_)
  refine J_aload_n dX12_read_0 rfl rfl ?_
  refine J_iload_n dX12_read_1 rfl rfl ?_
  refine J_callV (st := []) dX12_read_2 cv_X12_325 (c_X12_isHouse_3 (a1) b_a1 hk98 hk100 hk111) hk98 rfl rfl (Nat.le_of_ble_eq_true rfl) ⟨(Nat.le_of_ble_eq_true rfl), (Nat.le_of_ble_eq_true rfl)⟩ ⟨(Nat.le_of_ble_eq_true rfl), (Nat.le_of_ble_eq_true rfl)⟩ (fun r h9 hp => ?_)
  obtain ⟨rfl, rfl⟩ := hp
  refine J_nf (nh2 := nh) (ck2 := 0) (sk2 := 0) (st2 := [.int 0]) rfl rfl rfl rfl ?_
  refine J_app (L3 := [(98, .inr (12, [.int 0, .int 0, .ref 99, .ref 100, .ref 101, .ref 102, .ref 103, .ref 104, .ref 105, .int 0, .int (-1), .ref 106, .ref 107, .ref 108, .int 0, .int 0, .int 0, .int 0, .int 0, .int 0, .int 0, .ref 109, .int 0, .int 0, .ref 110, .ref 111, .ref 112, .ref 113, .ref 114, .ref 115, .ref 116, .ref 117, .int 1, .int 0, .int 0, .int (-1), .ref 118, .ref 119, .ref 120, .ref 121, .ref 122, .ref 123, .ref 124, .ref 125, .ref 126, .ref 127, .ref 128, .ref 129, .int 0, .ref 130, .ref 131, .ref 132, .ref 133, .ref 134, .int 0, .int 0])), (111, .inl (0, 1260, .inl (upd (fun _ => 0) 0 0)))]) rfl ?_
  refine J_if_eq (tgt := 17) dX12_read_5 (by decide) (fun _ => ?_) (fun q => absurd (by decide +kernel) q)
  refine J_iconst (v := (-1)) dX12_read_17 (by decide) ?_
  exact J_iret dX12_read_18 rfl rfl (Nat.le_of_ble_eq_true rfl) (Nat.le_of_ble_eq_true rfl) ⟨rfl, rfl⟩
set_option maxHeartbeats 4000000 in
set_option maxRecDepth 100000 in
theorem c_X11_parted_1 {l : Launch} {G : jG} {nh : Nat} {fh : Nat → Option va_E} (a1 : Int32) (b_a1 : (-2147483648) ≤ a1.toInt ∧ a1.toInt ≤ (-1)) (a2 : Int32) (b_a2 : (-2147483648) ≤ a2.toInt ∧ a2.toInt ≤ 2147483647) (hk0 : fh 0 = some (.inr (11, [.ref 1, .ref 17, .ref 50, .ref 51, .ref 54, .ref 57, .ref 65, .ref 75, .ref 81, .ref 85, .ref 88, .ref 93, .ref 96, .int 0, .int (-1), .ref 97, .int 0]))) (hk51 : fh 51 = some (.inr (0, [.ref 52, .ref 53, .int 1, .int 0]))) : JM l G yX11_parted MX11_parted { frames := 1, cells := 0, slots := 0, locals := 21 } [.ref 0, .int a1, .int a2] (nh, fh) (fun r h9 => r = some (.int (-1)) ∧ h9 = (nh, fh)) := by
  refine JM.of (by decide) rfl (fun h => by cases h) (Nat.le_of_ble_eq_true rfl) ⟨0, rfl⟩ ?_
  refine J_hc0 (J_ls (ls2 := [some (.ref 0), some (.int a1), some (.int a2)]) rfl ?_)
  refine J_aload_n dX11_parted_0 rfl rfl ?_
  refine J_get (v := .ref 51) dX11_parted_1 fl_X11_27 hk0 rfl ?_
  refine J_iload_n dX11_parted_4 rfl rfl ?_
  refine J_callV (st := []) dX11_parted_5 cv_X11_135 (c_X0_has_1 (a1) b_a1) hk51 rfl rfl (Nat.le_of_ble_eq_true rfl) ⟨(Nat.le_of_ble_eq_true rfl), (Nat.le_of_ble_eq_true rfl)⟩ ⟨(Nat.le_of_ble_eq_true rfl), (Nat.le_of_ble_eq_true rfl)⟩ (fun r h9 hp => ?_)
  obtain ⟨rfl, rfl⟩ := hp
  refine J_nf (nh2 := nh) (ck2 := 0) (sk2 := 0) (st2 := [.int 0]) rfl rfl rfl rfl ?_
  refine J_if_eq (tgt := 27) dX11_parted_8 (by decide) (fun _ => ?_) (fun q => absurd (by decide +kernel) q)
  refine J_iconst (v := (-1)) dX11_parted_27 (by decide) ?_
  exact J_iret dX11_parted_28 rfl rfl (Nat.le_of_ble_eq_true rfl) (Nat.le_of_ble_eq_true rfl) ⟨rfl, rfl⟩
set_option maxHeartbeats 4000000 in
set_option maxRecDepth 100000 in
theorem c_X12_parted_1 {l : Launch} {G : jG} {nh : Nat} {fh : Nat → Option va_E} (a1 : Int32) (b_a1 : (-2147483648) ≤ a1.toInt ∧ a1.toInt ≤ (-1)) (a2 : Int32) (b_a2 : (-2147483648) ≤ a2.toInt ∧ a2.toInt ≤ 2147483647) (hk98 : fh 98 = some (.inr (12, [.int 0, .int 0, .ref 99, .ref 100, .ref 101, .ref 102, .ref 103, .ref 104, .ref 105, .int 0, .int (-1), .ref 106, .ref 107, .ref 108, .int 0, .int 0, .int 0, .int 0, .int 0, .int 0, .int 0, .ref 109, .int 0, .int 0, .ref 110, .ref 111, .ref 112, .ref 113, .ref 114, .ref 115, .ref 116, .ref 117, .int 0, .int 0, .int (-1), .int (-1), .ref 118, .ref 119, .ref 120, .ref 121, .ref 122, .ref 123, .ref 124, .ref 125, .ref 126, .ref 127, .ref 128, .ref 129, .int 0, .ref 130, .ref 131, .ref 132, .ref 133, .ref 134, .int 0, .int 0]))) (hk100 : fh 100 = some (.inl (0, 4870, .inl (upd (fun _ => 0) 63 (-1))))) (hk111 : fh 111 = some (.inl (0, 1260, .inl (fun _ => 0)))) : JM l G yX12_parted MX12_parted { frames := 3, cells := 0, slots := 0, locals := 69 } [.ref 98, .int a1, .int a2] (nh, fh) (fun r h9 => r = some (.int (-1)) ∧ h9 = (nh, hc fh [(98, .inr (12, [.int 0, .int 0, .ref 99, .ref 100, .ref 101, .ref 102, .ref 103, .ref 104, .ref 105, .int 0, .int (-1), .ref 106, .ref 107, .ref 108, .int 0, .int 0, .int 0, .int 0, .int 0, .int 0, .int 0, .ref 109, .int 0, .int 0, .ref 110, .ref 111, .ref 112, .ref 113, .ref 114, .ref 115, .ref 116, .ref 117, .int 1, .int 0, .int 0, .int (-1), .ref 118, .ref 119, .ref 120, .ref 121, .ref 122, .ref 123, .ref 124, .ref 125, .ref 126, .ref 127, .ref 128, .ref 129, .int 0, .ref 130, .ref 131, .ref 132, .ref 133, .ref 134, .int 0, .int 0])), (111, .inl (0, 1260, .inl (upd (fun _ => 0) 0 0)))])) := by
  refine JM.of (by decide) rfl (fun h => by cases h) (Nat.le_of_ble_eq_true rfl) ⟨1, rfl⟩ ?_
  refine J_hc0 (J_ls (ls2 := [some (.ref 98), some (.int a1), some (.int a2), none]) rfl ?_)
  refine J_aload_n dX12_parted_0 rfl rfl ?_
  refine J_iload_n dX12_parted_1 rfl rfl ?_
  refine J_callV (st := []) dX12_parted_2 cv_X12_325 (c_X12_isHouse_1 (a1) b_a1 hk98 hk100 hk111) hk98 rfl rfl (Nat.le_of_ble_eq_true rfl) ⟨(Nat.le_of_ble_eq_true rfl), (Nat.le_of_ble_eq_true rfl)⟩ ⟨(Nat.le_of_ble_eq_true rfl), (Nat.le_of_ble_eq_true rfl)⟩ (fun r h9 hp => ?_)
  obtain ⟨rfl, rfl⟩ := hp
  refine J_nf (nh2 := nh) (ck2 := 0) (sk2 := 0) (st2 := [.int 0]) rfl rfl rfl rfl ?_
  refine J_app (L3 := [(98, .inr (12, [.int 0, .int 0, .ref 99, .ref 100, .ref 101, .ref 102, .ref 103, .ref 104, .ref 105, .int 0, .int (-1), .ref 106, .ref 107, .ref 108, .int 0, .int 0, .int 0, .int 0, .int 0, .int 0, .int 0, .ref 109, .int 0, .int 0, .ref 110, .ref 111, .ref 112, .ref 113, .ref 114, .ref 115, .ref 116, .ref 117, .int 1, .int 0, .int 0, .int (-1), .ref 118, .ref 119, .ref 120, .ref 121, .ref 122, .ref 123, .ref 124, .ref 125, .ref 126, .ref 127, .ref 128, .ref 129, .int 0, .ref 130, .ref 131, .ref 132, .ref 133, .ref 134, .int 0, .int 0])), (111, .inl (0, 1260, .inl (upd (fun _ => 0) 0 0)))]) rfl ?_
  refine J_if_eq (tgt := 21) dX12_parted_5 (by decide) (fun _ => ?_) (fun q => absurd (by decide +kernel) q)
  refine J_iconst (v := (-1)) dX12_parted_21 (by decide) ?_
  exact J_iret dX12_parted_22 rfl rfl (Nat.le_of_ble_eq_true rfl) (Nat.le_of_ble_eq_true rfl) ⟨rfl, rfl⟩
set_option maxHeartbeats 4000000 in
set_option maxRecDepth 100000 in
theorem c_X11_parted_2 {l : Launch} {G : jG} {nh : Nat} {fh : Nat → Option va_E} (a2 : Int32) (b_a2 : (-2147483648) ≤ a2.toInt ∧ a2.toInt ≤ (-1)) (hk0 : fh 0 = some (.inr (11, [.ref 1, .ref 17, .ref 50, .ref 51, .ref 54, .ref 57, .ref 65, .ref 75, .ref 81, .ref 85, .ref 88, .ref 93, .ref 96, .int 0, .int (-1), .ref 97, .int 0]))) (hk51 : fh 51 = some (.inr (0, [.ref 52, .ref 53, .int 1, .int 0]))) : JM l G yX11_parted MX11_parted { frames := 1, cells := 0, slots := 0, locals := 21 } [.ref 0, .int 0, .int a2] (nh, fh) (fun r h9 => r = some (.int (-1)) ∧ h9 = (nh, fh)) := by
  refine JM.of (by decide) rfl (fun h => by cases h) (Nat.le_of_ble_eq_true rfl) ⟨0, rfl⟩ ?_
  refine J_hc0 (J_ls (ls2 := [some (.ref 0), some (.int 0), some (.int a2)]) rfl ?_)
  refine J_aload_n dX11_parted_0 rfl rfl ?_
  refine J_get (v := .ref 51) dX11_parted_1 fl_X11_27 hk0 rfl ?_
  refine J_iload_n dX11_parted_4 rfl rfl ?_
  refine J_callV (st := []) dX11_parted_5 cv_X11_135 (c_X0_has_2 hk51) hk51 rfl rfl (Nat.le_of_ble_eq_true rfl) ⟨(Nat.le_of_ble_eq_true rfl), (Nat.le_of_ble_eq_true rfl)⟩ ⟨(Nat.le_of_ble_eq_true rfl), (Nat.le_of_ble_eq_true rfl)⟩ (fun r h9 hp => ?_)
  obtain ⟨rfl, rfl⟩ := hp
  refine J_nf (nh2 := nh) (ck2 := 0) (sk2 := 0) (st2 := [.int 1]) rfl rfl rfl rfl ?_
  refine J_if_eq (tgt := 27) dX11_parted_8 (by decide) (fun q => absurd q (by decide +kernel)) (fun _ => ?_)
  refine J_aload_n dX11_parted_11 rfl rfl ?_
  refine J_get (v := .ref 51) dX11_parted_12 fl_X11_27 hk0 rfl ?_
  refine J_iload_n dX11_parted_15 rfl rfl ?_
  refine J_callV (st := []) dX11_parted_16 cv_X11_135 (c_X0_has_1 (a2) b_a2) hk51 rfl rfl (Nat.le_of_ble_eq_true rfl) ⟨(Nat.le_of_ble_eq_true rfl), (Nat.le_of_ble_eq_true rfl)⟩ ⟨(Nat.le_of_ble_eq_true rfl), (Nat.le_of_ble_eq_true rfl)⟩ (fun r h9 hp => ?_)
  obtain ⟨rfl, rfl⟩ := hp
  refine J_nf (nh2 := nh) (ck2 := 0) (sk2 := 0) (st2 := [.int 0]) rfl rfl rfl rfl ?_
  refine J_if_eq (tgt := 27) dX11_parted_19 (by decide) (fun _ => ?_) (fun q => absurd (by decide +kernel) q)
  refine J_iconst (v := (-1)) dX11_parted_27 (by decide) ?_
  exact J_iret dX11_parted_28 rfl rfl (Nat.le_of_ble_eq_true rfl) (Nat.le_of_ble_eq_true rfl) ⟨rfl, rfl⟩
set_option maxHeartbeats 4000000 in
set_option maxRecDepth 100000 in
theorem c_X12_parted_2 {l : Launch} {G : jG} {nh : Nat} {fh : Nat → Option va_E} (a2 : Int32) (b_a2 : (-2147483648) ≤ a2.toInt ∧ a2.toInt ≤ (-1)) (hk98 : fh 98 = some (.inr (12, [.int 0, .int 0, .ref 99, .ref 100, .ref 101, .ref 102, .ref 103, .ref 104, .ref 105, .int 0, .int (-1), .ref 106, .ref 107, .ref 108, .int 0, .int 0, .int 0, .int 0, .int 0, .int 0, .int 0, .ref 109, .int 0, .int 0, .ref 110, .ref 111, .ref 112, .ref 113, .ref 114, .ref 115, .ref 116, .ref 117, .int 0, .int 0, .int (-1), .int (-1), .ref 118, .ref 119, .ref 120, .ref 121, .ref 122, .ref 123, .ref 124, .ref 125, .ref 126, .ref 127, .ref 128, .ref 129, .int 0, .ref 130, .ref 131, .ref 132, .ref 133, .ref 134, .int 0, .int 0]))) (hk100 : fh 100 = some (.inl (0, 4870, .inl (upd (fun _ => 0) 63 (-1))))) (hk111 : fh 111 = some (.inl (0, 1260, .inl (fun _ => 0)))) : JM l G yX12_parted MX12_parted { frames := 3, cells := 0, slots := 0, locals := 69 } [.ref 98, .int 0, .int a2] (nh, fh) (fun r h9 => r = some (.int (-1)) ∧ h9 = (nh, hc fh [(98, .inr (12, [.int 0, .int 0, .ref 99, .ref 100, .ref 101, .ref 102, .ref 103, .ref 104, .ref 105, .int 0, .int (-1), .ref 106, .ref 107, .ref 108, .int 0, .int 0, .int 0, .int 0, .int 0, .int 0, .int 0, .ref 109, .int 0, .int 0, .ref 110, .ref 111, .ref 112, .ref 113, .ref 114, .ref 115, .ref 116, .ref 117, .int 1, .int 0, .int 0, .int (-1), .ref 118, .ref 119, .ref 120, .ref 121, .ref 122, .ref 123, .ref 124, .ref 125, .ref 126, .ref 127, .ref 128, .ref 129, .int 0, .ref 130, .ref 131, .ref 132, .ref 133, .ref 134, .int 0, .int 0])), (111, .inl (0, 1260, .inl (upd (fun _ => 0) 0 0)))])) := by
  refine JM.of (by decide) rfl (fun h => by cases h) (Nat.le_of_ble_eq_true rfl) ⟨1, rfl⟩ ?_
  refine J_hc0 (J_ls (ls2 := [some (.ref 98), some (.int 0), some (.int a2), none]) rfl ?_)
  refine J_aload_n dX12_parted_0 rfl rfl ?_
  refine J_iload_n dX12_parted_1 rfl rfl ?_
  refine J_callV (st := []) dX12_parted_2 cv_X12_325 (c_X12_isHouse_2 hk98 hk100 hk111) hk98 rfl rfl (Nat.le_of_ble_eq_true rfl) ⟨(Nat.le_of_ble_eq_true rfl), (Nat.le_of_ble_eq_true rfl)⟩ ⟨(Nat.le_of_ble_eq_true rfl), (Nat.le_of_ble_eq_true rfl)⟩ (fun r h9 hp => ?_)
  obtain ⟨rfl, rfl⟩ := hp
  refine J_nf (nh2 := nh) (ck2 := 0) (sk2 := 0) (st2 := [.int 1]) rfl rfl rfl rfl ?_
  refine J_app (L3 := [(98, .inr (12, [.int 0, .int 0, .ref 99, .ref 100, .ref 101, .ref 102, .ref 103, .ref 104, .ref 105, .int 0, .int (-1), .ref 106, .ref 107, .ref 108, .int 0, .int 0, .int 0, .int 0, .int 0, .int 0, .int 0, .ref 109, .int 0, .int 0, .ref 110, .ref 111, .ref 112, .ref 113, .ref 114, .ref 115, .ref 116, .ref 117, .int 1, .int 0, .int 0, .int (-1), .ref 118, .ref 119, .ref 120, .ref 121, .ref 122, .ref 123, .ref 124, .ref 125, .ref 126, .ref 127, .ref 128, .ref 129, .int 0, .ref 130, .ref 131, .ref 132, .ref 133, .ref 134, .int 0, .int 0])), (111, .inl (0, 1260, .inl (upd (fun _ => 0) 0 0)))]) rfl ?_
  refine J_if_eq (tgt := 21) dX12_parted_5 (by decide) (fun q => absurd q (by decide +kernel)) (fun _ => ?_)
  refine J_aload_n dX12_parted_8 rfl rfl ?_
  refine J_iload_n dX12_parted_9 rfl rfl ?_
  refine J_callV (st := []) dX12_parted_10 cv_X12_325 (c_X12_isHouse_4 (a2) b_a2 rfl) rfl rfl rfl (Nat.le_of_ble_eq_true rfl) ⟨(Nat.le_of_ble_eq_true rfl), (Nat.le_of_ble_eq_true rfl)⟩ ⟨(Nat.le_of_ble_eq_true rfl), (Nat.le_of_ble_eq_true rfl)⟩ (fun r h9 hp => ?_)
  obtain ⟨rfl, rfl⟩ := hp
  refine J_nf (nh2 := nh) (ck2 := 0) (sk2 := 0) (st2 := [.int 0]) rfl rfl rfl rfl ?_
  refine J_if_eq (tgt := 21) dX12_parted_13 (by decide) (fun _ => ?_) (fun q => absurd (by decide +kernel) q)
  refine J_iconst (v := (-1)) dX12_parted_21 (by decide) ?_
  exact J_iret dX12_parted_22 rfl rfl (Nat.le_of_ble_eq_true rfl) (Nat.le_of_ble_eq_true rfl) ⟨rfl, rfl⟩
set_option maxHeartbeats 4000000 in
set_option maxRecDepth 100000 in
theorem c_X11_parted_3 {l : Launch} {G : jG} {nh : Nat} {fh : Nat → Option va_E} (hk0 : fh 0 = some (.inr (11, [.ref 1, .ref 17, .ref 50, .ref 51, .ref 54, .ref 57, .ref 65, .ref 75, .ref 81, .ref 85, .ref 88, .ref 93, .ref 96, .int 0, .int (-1), .ref 97, .int 0]))) (hk51 : fh 51 = some (.inr (0, [.ref 52, .ref 53, .int 1, .int 0]))) : JM l G yX11_parted MX11_parted { frames := 1, cells := 0, slots := 0, locals := 21 } [.ref 0, .int 0, .int 0] (nh, fh) (fun r h9 => r = some (.int (-1)) ∧ h9 = (nh, fh)) := by
  refine JM.of (by decide) rfl (fun h => by cases h) (Nat.le_of_ble_eq_true rfl) ⟨0, rfl⟩ ?_
  refine J_hc0 (J_ls (ls2 := [some (.ref 0), some (.int 0), some (.int 0)]) rfl ?_)
  refine J_aload_n dX11_parted_0 rfl rfl ?_
  refine J_get (v := .ref 51) dX11_parted_1 fl_X11_27 hk0 rfl ?_
  refine J_iload_n dX11_parted_4 rfl rfl ?_
  refine J_callV (st := []) dX11_parted_5 cv_X11_135 (c_X0_has_2 hk51) hk51 rfl rfl (Nat.le_of_ble_eq_true rfl) ⟨(Nat.le_of_ble_eq_true rfl), (Nat.le_of_ble_eq_true rfl)⟩ ⟨(Nat.le_of_ble_eq_true rfl), (Nat.le_of_ble_eq_true rfl)⟩ (fun r h9 hp => ?_)
  obtain ⟨rfl, rfl⟩ := hp
  refine J_nf (nh2 := nh) (ck2 := 0) (sk2 := 0) (st2 := [.int 1]) rfl rfl rfl rfl ?_
  refine J_if_eq (tgt := 27) dX11_parted_8 (by decide) (fun q => absurd q (by decide +kernel)) (fun _ => ?_)
  refine J_aload_n dX11_parted_11 rfl rfl ?_
  refine J_get (v := .ref 51) dX11_parted_12 fl_X11_27 hk0 rfl ?_
  refine J_iload_n dX11_parted_15 rfl rfl ?_
  refine J_callV (st := []) dX11_parted_16 cv_X11_135 (c_X0_has_2 hk51) hk51 rfl rfl (Nat.le_of_ble_eq_true rfl) ⟨(Nat.le_of_ble_eq_true rfl), (Nat.le_of_ble_eq_true rfl)⟩ ⟨(Nat.le_of_ble_eq_true rfl), (Nat.le_of_ble_eq_true rfl)⟩ (fun r h9 hp => ?_)
  obtain ⟨rfl, rfl⟩ := hp
  refine J_nf (nh2 := nh) (ck2 := 0) (sk2 := 0) (st2 := [.int 1]) rfl rfl rfl rfl ?_
  refine J_if_eq (tgt := 27) dX11_parted_19 (by decide) (fun q => absurd q (by decide +kernel)) (fun _ => ?_)
  refine J_iload_n dX11_parted_22 rfl rfl ?_
  refine J_iload_n dX11_parted_23 rfl rfl ?_
  refine J_icmp_ne (tgt := 29) dX11_parted_24 (by decide) (fun q => absurd (by decide +kernel) q) (fun _ => ?_)
  refine J_iconst (v := (-1)) dX11_parted_27 (by decide) ?_
  exact J_iret dX11_parted_28 rfl rfl (Nat.le_of_ble_eq_true rfl) (Nat.le_of_ble_eq_true rfl) ⟨rfl, rfl⟩
set_option maxHeartbeats 4000000 in
set_option maxRecDepth 100000 in
theorem c_X12_parted_3 {l : Launch} {G : jG} {nh : Nat} {fh : Nat → Option va_E} (hk98 : fh 98 = some (.inr (12, [.int 0, .int 0, .ref 99, .ref 100, .ref 101, .ref 102, .ref 103, .ref 104, .ref 105, .int 0, .int (-1), .ref 106, .ref 107, .ref 108, .int 0, .int 0, .int 0, .int 0, .int 0, .int 0, .int 0, .ref 109, .int 0, .int 0, .ref 110, .ref 111, .ref 112, .ref 113, .ref 114, .ref 115, .ref 116, .ref 117, .int 0, .int 0, .int (-1), .int (-1), .ref 118, .ref 119, .ref 120, .ref 121, .ref 122, .ref 123, .ref 124, .ref 125, .ref 126, .ref 127, .ref 128, .ref 129, .int 0, .ref 130, .ref 131, .ref 132, .ref 133, .ref 134, .int 0, .int 0]))) (hk100 : fh 100 = some (.inl (0, 4870, .inl (upd (fun _ => 0) 63 (-1))))) (hk111 : fh 111 = some (.inl (0, 1260, .inl (fun _ => 0)))) : JM l G yX12_parted MX12_parted { frames := 3, cells := 0, slots := 0, locals := 69 } [.ref 98, .int 0, .int 0] (nh, fh) (fun r h9 => r = some (.int (-1)) ∧ h9 = (nh, hc fh [(98, .inr (12, [.int 0, .int 0, .ref 99, .ref 100, .ref 101, .ref 102, .ref 103, .ref 104, .ref 105, .int 0, .int (-1), .ref 106, .ref 107, .ref 108, .int 0, .int 0, .int 0, .int 0, .int 0, .int 0, .int 0, .ref 109, .int 0, .int 0, .ref 110, .ref 111, .ref 112, .ref 113, .ref 114, .ref 115, .ref 116, .ref 117, .int 1, .int 0, .int 0, .int (-1), .ref 118, .ref 119, .ref 120, .ref 121, .ref 122, .ref 123, .ref 124, .ref 125, .ref 126, .ref 127, .ref 128, .ref 129, .int 0, .ref 130, .ref 131, .ref 132, .ref 133, .ref 134, .int 0, .int 0])), (111, .inl (0, 1260, .inl (upd (fun _ => 0) 0 0)))])) := by
  refine JM.of (by decide) rfl (fun h => by cases h) (Nat.le_of_ble_eq_true rfl) ⟨1, rfl⟩ ?_
  refine J_hc0 (J_ls (ls2 := [some (.ref 98), some (.int 0), some (.int 0), none]) rfl ?_)
  refine J_aload_n dX12_parted_0 rfl rfl ?_
  refine J_iload_n dX12_parted_1 rfl rfl ?_
  refine J_callV (st := []) dX12_parted_2 cv_X12_325 (c_X12_isHouse_2 hk98 hk100 hk111) hk98 rfl rfl (Nat.le_of_ble_eq_true rfl) ⟨(Nat.le_of_ble_eq_true rfl), (Nat.le_of_ble_eq_true rfl)⟩ ⟨(Nat.le_of_ble_eq_true rfl), (Nat.le_of_ble_eq_true rfl)⟩ (fun r h9 hp => ?_)
  obtain ⟨rfl, rfl⟩ := hp
  refine J_nf (nh2 := nh) (ck2 := 0) (sk2 := 0) (st2 := [.int 1]) rfl rfl rfl rfl ?_
  refine J_app (L3 := [(98, .inr (12, [.int 0, .int 0, .ref 99, .ref 100, .ref 101, .ref 102, .ref 103, .ref 104, .ref 105, .int 0, .int (-1), .ref 106, .ref 107, .ref 108, .int 0, .int 0, .int 0, .int 0, .int 0, .int 0, .int 0, .ref 109, .int 0, .int 0, .ref 110, .ref 111, .ref 112, .ref 113, .ref 114, .ref 115, .ref 116, .ref 117, .int 1, .int 0, .int 0, .int (-1), .ref 118, .ref 119, .ref 120, .ref 121, .ref 122, .ref 123, .ref 124, .ref 125, .ref 126, .ref 127, .ref 128, .ref 129, .int 0, .ref 130, .ref 131, .ref 132, .ref 133, .ref 134, .int 0, .int 0])), (111, .inl (0, 1260, .inl (upd (fun _ => 0) 0 0)))]) rfl ?_
  refine J_if_eq (tgt := 21) dX12_parted_5 (by decide) (fun q => absurd q (by decide +kernel)) (fun _ => ?_)
  refine J_aload_n dX12_parted_8 rfl rfl ?_
  refine J_iload_n dX12_parted_9 rfl rfl ?_
  refine J_callV (st := []) dX12_parted_10 cv_X12_325 (c_X12_isHouse_5 rfl) rfl rfl rfl (Nat.le_of_ble_eq_true rfl) ⟨(Nat.le_of_ble_eq_true rfl), (Nat.le_of_ble_eq_true rfl)⟩ ⟨(Nat.le_of_ble_eq_true rfl), (Nat.le_of_ble_eq_true rfl)⟩ (fun r h9 hp => ?_)
  obtain ⟨rfl, rfl⟩ := hp
  refine J_nf (nh2 := nh) (ck2 := 0) (sk2 := 0) (st2 := [.int 1]) rfl rfl rfl rfl ?_
  refine J_if_eq (tgt := 21) dX12_parted_13 (by decide) (fun q => absurd q (by decide +kernel)) (fun _ => ?_)
  refine J_iload_n dX12_parted_16 rfl rfl ?_
  refine J_iload_n dX12_parted_17 rfl rfl ?_
  refine J_icmp_ne (tgt := 23) dX12_parted_18 (by decide) (fun q => absurd (by decide +kernel) q) (fun _ => ?_)
  refine J_iconst (v := (-1)) dX12_parted_21 (by decide) ?_
  exact J_iret dX12_parted_22 rfl rfl (Nat.le_of_ble_eq_true rfl) (Nat.le_of_ble_eq_true rfl) ⟨rfl, rfl⟩
set_option maxHeartbeats 4000000 in
set_option maxRecDepth 100000 in
theorem c_X11_parted_4 {l : Launch} {G : jG} {nh : Nat} {fh : Nat → Option va_E} (a2 : Int32) (b_a2 : 1 ≤ a2.toInt ∧ a2.toInt ≤ 2147483647) (hk0 : fh 0 = some (.inr (11, [.ref 1, .ref 17, .ref 50, .ref 51, .ref 54, .ref 57, .ref 65, .ref 75, .ref 81, .ref 85, .ref 88, .ref 93, .ref 96, .int 0, .int (-1), .ref 97, .int 0]))) (hk51 : fh 51 = some (.inr (0, [.ref 52, .ref 53, .int 1, .int 0]))) : JM l G yX11_parted MX11_parted { frames := 1, cells := 0, slots := 0, locals := 21 } [.ref 0, .int 0, .int a2] (nh, fh) (fun r h9 => r = some (.int (-1)) ∧ h9 = (nh, fh)) := by
  refine JM.of (by decide) rfl (fun h => by cases h) (Nat.le_of_ble_eq_true rfl) ⟨0, rfl⟩ ?_
  refine J_hc0 (J_ls (ls2 := [some (.ref 0), some (.int 0), some (.int a2)]) rfl ?_)
  refine J_aload_n dX11_parted_0 rfl rfl ?_
  refine J_get (v := .ref 51) dX11_parted_1 fl_X11_27 hk0 rfl ?_
  refine J_iload_n dX11_parted_4 rfl rfl ?_
  refine J_callV (st := []) dX11_parted_5 cv_X11_135 (c_X0_has_2 hk51) hk51 rfl rfl (Nat.le_of_ble_eq_true rfl) ⟨(Nat.le_of_ble_eq_true rfl), (Nat.le_of_ble_eq_true rfl)⟩ ⟨(Nat.le_of_ble_eq_true rfl), (Nat.le_of_ble_eq_true rfl)⟩ (fun r h9 hp => ?_)
  obtain ⟨rfl, rfl⟩ := hp
  refine J_nf (nh2 := nh) (ck2 := 0) (sk2 := 0) (st2 := [.int 1]) rfl rfl rfl rfl ?_
  refine J_if_eq (tgt := 27) dX11_parted_8 (by decide) (fun q => absurd q (by decide +kernel)) (fun _ => ?_)
  refine J_aload_n dX11_parted_11 rfl rfl ?_
  refine J_get (v := .ref 51) dX11_parted_12 fl_X11_27 hk0 rfl ?_
  refine J_iload_n dX11_parted_15 rfl rfl ?_
  refine J_callV (st := []) dX11_parted_16 cv_X11_135 (c_X0_has_3 (a2) b_a2 hk51) hk51 rfl rfl (Nat.le_of_ble_eq_true rfl) ⟨(Nat.le_of_ble_eq_true rfl), (Nat.le_of_ble_eq_true rfl)⟩ ⟨(Nat.le_of_ble_eq_true rfl), (Nat.le_of_ble_eq_true rfl)⟩ (fun r h9 hp => ?_)
  obtain ⟨rfl, rfl⟩ := hp
  refine J_nf (nh2 := nh) (ck2 := 0) (sk2 := 0) (st2 := [.int 0]) rfl rfl rfl rfl ?_
  refine J_if_eq (tgt := 27) dX11_parted_19 (by decide) (fun _ => ?_) (fun q => absurd (by decide +kernel) q)
  refine J_iconst (v := (-1)) dX11_parted_27 (by decide) ?_
  exact J_iret dX11_parted_28 rfl rfl (Nat.le_of_ble_eq_true rfl) (Nat.le_of_ble_eq_true rfl) ⟨rfl, rfl⟩
set_option maxHeartbeats 4000000 in
set_option maxRecDepth 100000 in
theorem c_X12_parted_4 {l : Launch} {G : jG} {nh : Nat} {fh : Nat → Option va_E} (a2 : Int32) (b_a2 : 1 ≤ a2.toInt ∧ a2.toInt ≤ 2147483647) (hk98 : fh 98 = some (.inr (12, [.int 0, .int 0, .ref 99, .ref 100, .ref 101, .ref 102, .ref 103, .ref 104, .ref 105, .int 0, .int (-1), .ref 106, .ref 107, .ref 108, .int 0, .int 0, .int 0, .int 0, .int 0, .int 0, .int 0, .ref 109, .int 0, .int 0, .ref 110, .ref 111, .ref 112, .ref 113, .ref 114, .ref 115, .ref 116, .ref 117, .int 0, .int 0, .int (-1), .int (-1), .ref 118, .ref 119, .ref 120, .ref 121, .ref 122, .ref 123, .ref 124, .ref 125, .ref 126, .ref 127, .ref 128, .ref 129, .int 0, .ref 130, .ref 131, .ref 132, .ref 133, .ref 134, .int 0, .int 0]))) (hk100 : fh 100 = some (.inl (0, 4870, .inl (upd (fun _ => 0) 63 (-1))))) (hk111 : fh 111 = some (.inl (0, 1260, .inl (fun _ => 0)))) : JM l G yX12_parted MX12_parted { frames := 3, cells := 0, slots := 0, locals := 69 } [.ref 98, .int 0, .int a2] (nh, fh) (fun r h9 => r = some (.int (-1)) ∧ h9 = (nh, hc fh [(98, .inr (12, [.int 0, .int 0, .ref 99, .ref 100, .ref 101, .ref 102, .ref 103, .ref 104, .ref 105, .int 0, .int (-1), .ref 106, .ref 107, .ref 108, .int 0, .int 0, .int 0, .int 0, .int 0, .int 0, .int 0, .ref 109, .int 0, .int 0, .ref 110, .ref 111, .ref 112, .ref 113, .ref 114, .ref 115, .ref 116, .ref 117, .int 1, .int 0, .int 0, .int (-1), .ref 118, .ref 119, .ref 120, .ref 121, .ref 122, .ref 123, .ref 124, .ref 125, .ref 126, .ref 127, .ref 128, .ref 129, .int 0, .ref 130, .ref 131, .ref 132, .ref 133, .ref 134, .int 0, .int 0])), (111, .inl (0, 1260, .inl (upd (fun _ => 0) 0 0)))])) := by
  refine JM.of (by decide) rfl (fun h => by cases h) (Nat.le_of_ble_eq_true rfl) ⟨1, rfl⟩ ?_
  refine J_hc0 (J_ls (ls2 := [some (.ref 98), some (.int 0), some (.int a2), none]) rfl ?_)
  refine J_aload_n dX12_parted_0 rfl rfl ?_
  refine J_iload_n dX12_parted_1 rfl rfl ?_
  refine J_callV (st := []) dX12_parted_2 cv_X12_325 (c_X12_isHouse_2 hk98 hk100 hk111) hk98 rfl rfl (Nat.le_of_ble_eq_true rfl) ⟨(Nat.le_of_ble_eq_true rfl), (Nat.le_of_ble_eq_true rfl)⟩ ⟨(Nat.le_of_ble_eq_true rfl), (Nat.le_of_ble_eq_true rfl)⟩ (fun r h9 hp => ?_)
  obtain ⟨rfl, rfl⟩ := hp
  refine J_nf (nh2 := nh) (ck2 := 0) (sk2 := 0) (st2 := [.int 1]) rfl rfl rfl rfl ?_
  refine J_app (L3 := [(98, .inr (12, [.int 0, .int 0, .ref 99, .ref 100, .ref 101, .ref 102, .ref 103, .ref 104, .ref 105, .int 0, .int (-1), .ref 106, .ref 107, .ref 108, .int 0, .int 0, .int 0, .int 0, .int 0, .int 0, .int 0, .ref 109, .int 0, .int 0, .ref 110, .ref 111, .ref 112, .ref 113, .ref 114, .ref 115, .ref 116, .ref 117, .int 1, .int 0, .int 0, .int (-1), .ref 118, .ref 119, .ref 120, .ref 121, .ref 122, .ref 123, .ref 124, .ref 125, .ref 126, .ref 127, .ref 128, .ref 129, .int 0, .ref 130, .ref 131, .ref 132, .ref 133, .ref 134, .int 0, .int 0])), (111, .inl (0, 1260, .inl (upd (fun _ => 0) 0 0)))]) rfl ?_
  refine J_if_eq (tgt := 21) dX12_parted_5 (by decide) (fun q => absurd q (by decide +kernel)) (fun _ => ?_)
  refine J_aload_n dX12_parted_8 rfl rfl ?_
  refine J_iload_n dX12_parted_9 rfl rfl ?_
  refine J_callV (st := []) dX12_parted_10 cv_X12_325 (c_X12_isHouse_6 (a2) b_a2 rfl) rfl rfl rfl (Nat.le_of_ble_eq_true rfl) ⟨(Nat.le_of_ble_eq_true rfl), (Nat.le_of_ble_eq_true rfl)⟩ ⟨(Nat.le_of_ble_eq_true rfl), (Nat.le_of_ble_eq_true rfl)⟩ (fun r h9 hp => ?_)
  obtain ⟨rfl, rfl⟩ := hp
  refine J_nf (nh2 := nh) (ck2 := 0) (sk2 := 0) (st2 := [.int 0]) rfl rfl rfl rfl ?_
  refine J_if_eq (tgt := 21) dX12_parted_13 (by decide) (fun _ => ?_) (fun q => absurd (by decide +kernel) q)
  refine J_iconst (v := (-1)) dX12_parted_21 (by decide) ?_
  exact J_iret dX12_parted_22 rfl rfl (Nat.le_of_ble_eq_true rfl) (Nat.le_of_ble_eq_true rfl) ⟨rfl, rfl⟩
set_option maxHeartbeats 4000000 in
set_option maxRecDepth 100000 in
theorem c_X11_parted_5 {l : Launch} {G : jG} {nh : Nat} {fh : Nat → Option va_E} (a1 : Int32) (b_a1 : 1 ≤ a1.toInt ∧ a1.toInt ≤ 2147483647) (a2 : Int32) (b_a2 : (-2147483648) ≤ a2.toInt ∧ a2.toInt ≤ 2147483647) (hk0 : fh 0 = some (.inr (11, [.ref 1, .ref 17, .ref 50, .ref 51, .ref 54, .ref 57, .ref 65, .ref 75, .ref 81, .ref 85, .ref 88, .ref 93, .ref 96, .int 0, .int (-1), .ref 97, .int 0]))) (hk51 : fh 51 = some (.inr (0, [.ref 52, .ref 53, .int 1, .int 0]))) : JM l G yX11_parted MX11_parted { frames := 1, cells := 0, slots := 0, locals := 21 } [.ref 0, .int a1, .int a2] (nh, fh) (fun r h9 => r = some (.int (-1)) ∧ h9 = (nh, fh)) := by
  refine JM.of (by decide) rfl (fun h => by cases h) (Nat.le_of_ble_eq_true rfl) ⟨0, rfl⟩ ?_
  refine J_hc0 (J_ls (ls2 := [some (.ref 0), some (.int a1), some (.int a2)]) rfl ?_)
  refine J_aload_n dX11_parted_0 rfl rfl ?_
  refine J_get (v := .ref 51) dX11_parted_1 fl_X11_27 hk0 rfl ?_
  refine J_iload_n dX11_parted_4 rfl rfl ?_
  refine J_callV (st := []) dX11_parted_5 cv_X11_135 (c_X0_has_3 (a1) b_a1 hk51) hk51 rfl rfl (Nat.le_of_ble_eq_true rfl) ⟨(Nat.le_of_ble_eq_true rfl), (Nat.le_of_ble_eq_true rfl)⟩ ⟨(Nat.le_of_ble_eq_true rfl), (Nat.le_of_ble_eq_true rfl)⟩ (fun r h9 hp => ?_)
  obtain ⟨rfl, rfl⟩ := hp
  refine J_nf (nh2 := nh) (ck2 := 0) (sk2 := 0) (st2 := [.int 0]) rfl rfl rfl rfl ?_
  refine J_if_eq (tgt := 27) dX11_parted_8 (by decide) (fun _ => ?_) (fun q => absurd (by decide +kernel) q)
  refine J_iconst (v := (-1)) dX11_parted_27 (by decide) ?_
  exact J_iret dX11_parted_28 rfl rfl (Nat.le_of_ble_eq_true rfl) (Nat.le_of_ble_eq_true rfl) ⟨rfl, rfl⟩
set_option maxHeartbeats 4000000 in
set_option maxRecDepth 100000 in
theorem c_X12_parted_5 {l : Launch} {G : jG} {nh : Nat} {fh : Nat → Option va_E} (a1 : Int32) (b_a1 : 1 ≤ a1.toInt ∧ a1.toInt ≤ 2147483647) (a2 : Int32) (b_a2 : (-2147483648) ≤ a2.toInt ∧ a2.toInt ≤ 2147483647) (hk98 : fh 98 = some (.inr (12, [.int 0, .int 0, .ref 99, .ref 100, .ref 101, .ref 102, .ref 103, .ref 104, .ref 105, .int 0, .int (-1), .ref 106, .ref 107, .ref 108, .int 0, .int 0, .int 0, .int 0, .int 0, .int 0, .int 0, .ref 109, .int 0, .int 0, .ref 110, .ref 111, .ref 112, .ref 113, .ref 114, .ref 115, .ref 116, .ref 117, .int 0, .int 0, .int (-1), .int (-1), .ref 118, .ref 119, .ref 120, .ref 121, .ref 122, .ref 123, .ref 124, .ref 125, .ref 126, .ref 127, .ref 128, .ref 129, .int 0, .ref 130, .ref 131, .ref 132, .ref 133, .ref 134, .int 0, .int 0]))) (hk100 : fh 100 = some (.inl (0, 4870, .inl (upd (fun _ => 0) 63 (-1))))) (hk111 : fh 111 = some (.inl (0, 1260, .inl (fun _ => 0)))) : JM l G yX12_parted MX12_parted { frames := 3, cells := 0, slots := 0, locals := 69 } [.ref 98, .int a1, .int a2] (nh, fh) (fun r h9 => r = some (.int (-1)) ∧ h9 = (nh, hc fh [(98, .inr (12, [.int 0, .int 0, .ref 99, .ref 100, .ref 101, .ref 102, .ref 103, .ref 104, .ref 105, .int 0, .int (-1), .ref 106, .ref 107, .ref 108, .int 0, .int 0, .int 0, .int 0, .int 0, .int 0, .int 0, .ref 109, .int 0, .int 0, .ref 110, .ref 111, .ref 112, .ref 113, .ref 114, .ref 115, .ref 116, .ref 117, .int 1, .int 0, .int 0, .int (-1), .ref 118, .ref 119, .ref 120, .ref 121, .ref 122, .ref 123, .ref 124, .ref 125, .ref 126, .ref 127, .ref 128, .ref 129, .int 0, .ref 130, .ref 131, .ref 132, .ref 133, .ref 134, .int 0, .int 0])), (111, .inl (0, 1260, .inl (upd (fun _ => 0) 0 0)))])) := by
  refine JM.of (by decide) rfl (fun h => by cases h) (Nat.le_of_ble_eq_true rfl) ⟨1, rfl⟩ ?_
  refine J_hc0 (J_ls (ls2 := [some (.ref 98), some (.int a1), some (.int a2), none]) rfl ?_)
  refine J_aload_n dX12_parted_0 rfl rfl ?_
  refine J_iload_n dX12_parted_1 rfl rfl ?_
  refine J_callV (st := []) dX12_parted_2 cv_X12_325 (c_X12_isHouse_3 (a1) b_a1 hk98 hk100 hk111) hk98 rfl rfl (Nat.le_of_ble_eq_true rfl) ⟨(Nat.le_of_ble_eq_true rfl), (Nat.le_of_ble_eq_true rfl)⟩ ⟨(Nat.le_of_ble_eq_true rfl), (Nat.le_of_ble_eq_true rfl)⟩ (fun r h9 hp => ?_)
  obtain ⟨rfl, rfl⟩ := hp
  refine J_nf (nh2 := nh) (ck2 := 0) (sk2 := 0) (st2 := [.int 0]) rfl rfl rfl rfl ?_
  refine J_app (L3 := [(98, .inr (12, [.int 0, .int 0, .ref 99, .ref 100, .ref 101, .ref 102, .ref 103, .ref 104, .ref 105, .int 0, .int (-1), .ref 106, .ref 107, .ref 108, .int 0, .int 0, .int 0, .int 0, .int 0, .int 0, .int 0, .ref 109, .int 0, .int 0, .ref 110, .ref 111, .ref 112, .ref 113, .ref 114, .ref 115, .ref 116, .ref 117, .int 1, .int 0, .int 0, .int (-1), .ref 118, .ref 119, .ref 120, .ref 121, .ref 122, .ref 123, .ref 124, .ref 125, .ref 126, .ref 127, .ref 128, .ref 129, .int 0, .ref 130, .ref 131, .ref 132, .ref 133, .ref 134, .int 0, .int 0])), (111, .inl (0, 1260, .inl (upd (fun _ => 0) 0 0)))]) rfl ?_
  refine J_if_eq (tgt := 21) dX12_parted_5 (by decide) (fun _ => ?_) (fun q => absurd (by decide +kernel) q)
  refine J_iconst (v := (-1)) dX12_parted_21 (by decide) ?_
  exact J_iret dX12_parted_22 rfl rfl (Nat.le_of_ble_eq_true rfl) (Nat.le_of_ble_eq_true rfl) ⟨rfl, rfl⟩
set_option maxHeartbeats 4000000 in
set_option maxRecDepth 100000 in
theorem c_X11_rows_1 {l : Launch} {G : jG} {nh : Nat} {fh : Nat → Option va_E} (a1 : Int32) (b_a1 : (-2147483648) ≤ a1.toInt ∧ a1.toInt ≤ (-1)) (a2 : Int32) (b_a2 : (-2147483648) ≤ a2.toInt ∧ a2.toInt ≤ 2147483647) (a3 : Int32) (b_a3 : (-2147483648) ≤ a3.toInt ∧ a3.toInt ≤ 2147483647) (hk0 : fh 0 = some (.inr (11, [.ref 1, .ref 17, .ref 50, .ref 51, .ref 54, .ref 57, .ref 65, .ref 75, .ref 81, .ref 85, .ref 88, .ref 93, .ref 96, .int 0, .int (-1), .ref 97, .int 0]))) (hk51 : fh 51 = some (.inr (0, [.ref 52, .ref 53, .int 1, .int 0]))) : JM l G yX11_rows MX11_rows { frames := 1, cells := 0, slots := 0, locals := 21 } [.ref 0, .int a1, .int a2, .int a3] (nh, fh) (fun r h9 => r = some (.long (-1)) ∧ h9 = (nh, fh)) := by
  refine JM.of (by decide) rfl (fun h => by cases h) (Nat.le_of_ble_eq_true rfl) ⟨0, rfl⟩ ?_
  refine J_hc0 (J_ls (ls2 := [some (.ref 0), some (.int a1), some (.int a2), some (.int a3)]) rfl ?_)
  refine J_aload_n dX11_rows_0 rfl rfl ?_
  refine J_get (v := .ref 51) dX11_rows_1 fl_X11_27 hk0 rfl ?_
  refine J_iload_n dX11_rows_4 rfl rfl ?_
  refine J_callV (st := []) dX11_rows_5 cv_X11_135 (c_X0_has_1 (a1) b_a1) hk51 rfl rfl (Nat.le_of_ble_eq_true rfl) ⟨(Nat.le_of_ble_eq_true rfl), (Nat.le_of_ble_eq_true rfl)⟩ ⟨(Nat.le_of_ble_eq_true rfl), (Nat.le_of_ble_eq_true rfl)⟩ (fun r h9 hp => ?_)
  obtain ⟨rfl, rfl⟩ := hp
  refine J_nf (nh2 := nh) (ck2 := 0) (sk2 := 0) (st2 := [.int 0]) rfl rfl rfl rfl ?_
  refine J_if_eq (tgt := 37) dX11_rows_8 (by decide) (fun _ => ?_) (fun q => absurd (by decide +kernel) q)
  refine J_ldc2 (v := (-1)) dX11_rows_37 (jt5 93 rfl rfl) ?_
  exact J_lret dX11_rows_40 rfl (Nat.le_of_ble_eq_true rfl) (Nat.le_of_ble_eq_true rfl) ⟨rfl, rfl⟩
set_option maxHeartbeats 4000000 in
set_option maxRecDepth 100000 in
theorem c_X12_rows_1 {l : Launch} {G : jG} {nh : Nat} {fh : Nat → Option va_E} (a1 : Int32) (b_a1 : (-2147483648) ≤ a1.toInt ∧ a1.toInt ≤ (-1)) (a2 : Int32) (b_a2 : (-2147483648) ≤ a2.toInt ∧ a2.toInt ≤ 2147483647) (a3 : Int32) (b_a3 : (-2147483648) ≤ a3.toInt ∧ a3.toInt ≤ 2147483647) (hk98 : fh 98 = some (.inr (12, [.int 0, .int 0, .ref 99, .ref 100, .ref 101, .ref 102, .ref 103, .ref 104, .ref 105, .int 0, .int (-1), .ref 106, .ref 107, .ref 108, .int 0, .int 0, .int 0, .int 0, .int 0, .int 0, .int 0, .ref 109, .int 0, .int 0, .ref 110, .ref 111, .ref 112, .ref 113, .ref 114, .ref 115, .ref 116, .ref 117, .int 0, .int 0, .int (-1), .int (-1), .ref 118, .ref 119, .ref 120, .ref 121, .ref 122, .ref 123, .ref 124, .ref 125, .ref 126, .ref 127, .ref 128, .ref 129, .int 0, .ref 130, .ref 131, .ref 132, .ref 133, .ref 134, .int 0, .int 0]))) (hk100 : fh 100 = some (.inl (0, 4870, .inl (upd (fun _ => 0) 63 (-1))))) (hk111 : fh 111 = some (.inl (0, 1260, .inl (fun _ => 0)))) : JM l G yX12_rows MX12_rows { frames := 3, cells := 0, slots := 0, locals := 69 } [.ref 98, .int a1, .int a2, .int a3] (nh, fh) (fun r h9 => r = some (.long (-1)) ∧ h9 = (nh, hc fh [(98, .inr (12, [.int 0, .int 0, .ref 99, .ref 100, .ref 101, .ref 102, .ref 103, .ref 104, .ref 105, .int 0, .int (-1), .ref 106, .ref 107, .ref 108, .int 0, .int 0, .int 0, .int 0, .int 0, .int 0, .int 0, .ref 109, .int 0, .int 0, .ref 110, .ref 111, .ref 112, .ref 113, .ref 114, .ref 115, .ref 116, .ref 117, .int 1, .int 0, .int 0, .int (-1), .ref 118, .ref 119, .ref 120, .ref 121, .ref 122, .ref 123, .ref 124, .ref 125, .ref 126, .ref 127, .ref 128, .ref 129, .int 0, .ref 130, .ref 131, .ref 132, .ref 133, .ref 134, .int 0, .int 0])), (111, .inl (0, 1260, .inl (upd (fun _ => 0) 0 0)))])) := by
  refine JM.of (by decide) rfl (fun h => by cases h) (Nat.le_of_ble_eq_true rfl) ⟨3, rfl⟩ ?_
  refine J_hc0 (J_ls (ls2 := [some (.ref 98), some (.int a1), some (.int a2), some (.int a3), none, none, none]) rfl ?_)
  refine J_aload_n dX12_rows_0 rfl rfl ?_
  refine J_iload_n dX12_rows_1 rfl rfl ?_
  refine J_callV (st := []) dX12_rows_2 cv_X12_325 (c_X12_isHouse_1 (a1) b_a1 hk98 hk100 hk111) hk98 rfl rfl (Nat.le_of_ble_eq_true rfl) ⟨(Nat.le_of_ble_eq_true rfl), (Nat.le_of_ble_eq_true rfl)⟩ ⟨(Nat.le_of_ble_eq_true rfl), (Nat.le_of_ble_eq_true rfl)⟩ (fun r h9 hp => ?_)
  obtain ⟨rfl, rfl⟩ := hp
  refine J_nf (nh2 := nh) (ck2 := 0) (sk2 := 0) (st2 := [.int 0]) rfl rfl rfl rfl ?_
  refine J_app (L3 := [(98, .inr (12, [.int 0, .int 0, .ref 99, .ref 100, .ref 101, .ref 102, .ref 103, .ref 104, .ref 105, .int 0, .int (-1), .ref 106, .ref 107, .ref 108, .int 0, .int 0, .int 0, .int 0, .int 0, .int 0, .int 0, .ref 109, .int 0, .int 0, .ref 110, .ref 111, .ref 112, .ref 113, .ref 114, .ref 115, .ref 116, .ref 117, .int 1, .int 0, .int 0, .int (-1), .ref 118, .ref 119, .ref 120, .ref 121, .ref 122, .ref 123, .ref 124, .ref 125, .ref 126, .ref 127, .ref 128, .ref 129, .int 0, .ref 130, .ref 131, .ref 132, .ref 133, .ref 134, .int 0, .int 0])), (111, .inl (0, 1260, .inl (upd (fun _ => 0) 0 0)))]) rfl ?_
  refine J_if_eq (tgt := 31) dX12_rows_5 (by decide) (fun _ => ?_) (fun q => absurd (by decide +kernel) q)
  refine J_ldc2 (v := (-1)) dX12_rows_31 (jt8 51 rfl rfl) ?_
  exact J_lret dX12_rows_34 rfl (Nat.le_of_ble_eq_true rfl) (Nat.le_of_ble_eq_true rfl) ⟨rfl, rfl⟩
set_option maxHeartbeats 4000000 in
set_option maxRecDepth 100000 in
theorem c_X0_has_4 {l : Launch} {G : jG} {nh : Nat} {fh : Nat → Option va_E} (a1 : Int32) (b_a1 : (-2147483648) ≤ a1.toInt ∧ a1.toInt ≤ (-2)) : JM l G yX0_has MX0_has { frames := 0, cells := 0, slots := 0, locals := 0 } [.ref 51, .int a1] (nh, fh) (fun r h9 => r = some (.int 0) ∧ h9 = (nh, fh)) := by
  refine JM.of (by decide) rfl (fun h => by cases h) (Nat.le_of_ble_eq_true rfl) ⟨0, rfl⟩ ?_
  refine J_hc0 (J_ls (ls2 := [some (.ref 51), some (.int a1)]) rfl ?_)
  refine J_iload_n dX0_has_0 rfl rfl ?_
  refine J_if_lt (tgt := 16) dX0_has_1 (by decide) (fun _ => ?_) (fun q => absurd (by have hb0 := b_a1; simp only [fa_lt, fa_le, fa_eq, kc_0]; omega) q)
  refine J_iconst (v := 0) dX0_has_16 (by decide) ?_
  exact J_iret dX0_has_17 rfl (by decide +kernel) (Nat.le_of_ble_eq_true rfl) (Nat.le_of_ble_eq_true rfl) ⟨rfl, rfl⟩
set_option maxHeartbeats 4000000 in
set_option maxRecDepth 100000 in
theorem c_X11_rows_2 {l : Launch} {G : jG} {nh : Nat} {fh : Nat → Option va_E} (a2 : Int32) (b_a2 : (-2147483648) ≤ a2.toInt ∧ a2.toInt ≤ (-2)) (a3 : Int32) (b_a3 : (-2147483648) ≤ a3.toInt ∧ a3.toInt ≤ 2147483647) (hk0 : fh 0 = some (.inr (11, [.ref 1, .ref 17, .ref 50, .ref 51, .ref 54, .ref 57, .ref 65, .ref 75, .ref 81, .ref 85, .ref 88, .ref 93, .ref 96, .int 0, .int (-1), .ref 97, .int 0]))) (hk51 : fh 51 = some (.inr (0, [.ref 52, .ref 53, .int 1, .int 0]))) : JM l G yX11_rows MX11_rows { frames := 1, cells := 0, slots := 0, locals := 21 } [.ref 0, .int 0, .int a2, .int a3] (nh, fh) (fun r h9 => r = some (.long (-1)) ∧ h9 = (nh, fh)) := by
  refine JM.of (by decide) rfl (fun h => by cases h) (Nat.le_of_ble_eq_true rfl) ⟨0, rfl⟩ ?_
  refine J_hc0 (J_ls (ls2 := [some (.ref 0), some (.int 0), some (.int a2), some (.int a3)]) rfl ?_)
  refine J_aload_n dX11_rows_0 rfl rfl ?_
  refine J_get (v := .ref 51) dX11_rows_1 fl_X11_27 hk0 rfl ?_
  refine J_iload_n dX11_rows_4 rfl rfl ?_
  refine J_callV (st := []) dX11_rows_5 cv_X11_135 (c_X0_has_2 hk51) hk51 rfl rfl (Nat.le_of_ble_eq_true rfl) ⟨(Nat.le_of_ble_eq_true rfl), (Nat.le_of_ble_eq_true rfl)⟩ ⟨(Nat.le_of_ble_eq_true rfl), (Nat.le_of_ble_eq_true rfl)⟩ (fun r h9 hp => ?_)
  obtain ⟨rfl, rfl⟩ := hp
  refine J_nf (nh2 := nh) (ck2 := 0) (sk2 := 0) (st2 := [.int 1]) rfl rfl rfl rfl ?_
  refine J_if_eq (tgt := 37) dX11_rows_8 (by decide) (fun q => absurd q (by decide +kernel)) (fun _ => ?_)
  refine J_iload_n dX11_rows_11 rfl rfl ?_
  refine J_iconst (v := (-1)) dX11_rows_12 (by decide) ?_
  refine J_icmp_eq (tgt := 27) dX11_rows_13 (by decide) (fun q => absurd q (by have hb0 := b_a2; simp only [fa_lt, fa_le, fa_eq, kc_m1]; omega)) (fun _ => ?_)
  refine J_aload_n dX11_rows_16 rfl rfl ?_
  refine J_get (v := .ref 51) dX11_rows_17 fl_X11_27 hk0 rfl ?_
  refine J_iload_n dX11_rows_20 rfl rfl ?_
  refine J_callV (st := []) dX11_rows_21 cv_X11_135 (c_X0_has_4 (a2) b_a2) hk51 rfl rfl (Nat.le_of_ble_eq_true rfl) ⟨(Nat.le_of_ble_eq_true rfl), (Nat.le_of_ble_eq_true rfl)⟩ ⟨(Nat.le_of_ble_eq_true rfl), (Nat.le_of_ble_eq_true rfl)⟩ (fun r h9 hp => ?_)
  obtain ⟨rfl, rfl⟩ := hp
  refine J_nf (nh2 := nh) (ck2 := 0) (sk2 := 0) (st2 := [.int 0]) rfl rfl rfl rfl ?_
  refine J_if_eq (tgt := 37) dX11_rows_24 (by decide) (fun _ => ?_) (fun q => absurd (by decide +kernel) q)
  refine J_ldc2 (v := (-1)) dX11_rows_37 (jt5 93 rfl rfl) ?_
  exact J_lret dX11_rows_40 rfl (Nat.le_of_ble_eq_true rfl) (Nat.le_of_ble_eq_true rfl) ⟨rfl, rfl⟩
set_option maxHeartbeats 4000000 in
set_option maxRecDepth 100000 in
theorem c_X12_lies_47 {l : Launch} {G : jG} {nh : Nat} {fh : Nat → Option va_E} (a0 : Int32) (b_a0 : (-2147483648) ≤ a0.toInt ∧ a0.toInt ≤ (-2)) : JM l G yX12_lies MX12_lies { frames := 0, cells := 0, slots := 0, locals := 0 } [.int a0, .int 0, .int 0] (nh, fh) (fun r h9 => r = some (.int 0) ∧ h9 = (nh, fh)) := by
  refine JM.of (by decide) rfl (fun h => by cases h) (Nat.le_of_ble_eq_true rfl) ⟨0, rfl⟩ ?_
  refine J_hc0 (J_ls (ls2 := [some (.int a0), some (.int 0), some (.int 0)]) rfl ?_)
  refine J_iload_n dX12_lies_0 rfl rfl ?_
  refine J_iload_n dX12_lies_1 rfl rfl ?_
  refine J_icmp_lt (tgt := 14) dX12_lies_2 (by decide) (fun _ => ?_) (fun q => absurd (by have hb0 := b_a0; simp only [fa_lt, fa_le, fa_eq, kc_0]; omega) q)
  refine J_iconst (v := 0) dX12_lies_14 (by decide) ?_
  exact J_iret dX12_lies_15 rfl (by decide +kernel) (Nat.le_of_ble_eq_true rfl) (Nat.le_of_ble_eq_true rfl) ⟨rfl, rfl⟩
set_option maxHeartbeats 4000000 in
set_option maxRecDepth 100000 in
theorem c_X12_isHouse_7 {l : Launch} {G : jG} {nh : Nat} {fh : Nat → Option va_E} (a1 : Int32) (b_a1 : (-2147483648) ≤ a1.toInt ∧ a1.toInt ≤ (-2)) (hk98 : fh 98 = some (.inr (12, [.int 0, .int 0, .ref 99, .ref 100, .ref 101, .ref 102, .ref 103, .ref 104, .ref 105, .int 0, .int (-1), .ref 106, .ref 107, .ref 108, .int 0, .int 0, .int 0, .int 0, .int 0, .int 0, .int 0, .ref 109, .int 0, .int 0, .ref 110, .ref 111, .ref 112, .ref 113, .ref 114, .ref 115, .ref 116, .ref 117, .int 1, .int 0, .int 0, .int (-1), .ref 118, .ref 119, .ref 120, .ref 121, .ref 122, .ref 123, .ref 124, .ref 125, .ref 126, .ref 127, .ref 128, .ref 129, .int 0, .ref 130, .ref 131, .ref 132, .ref 133, .ref 134, .int 0, .int 0]))) : JM l G yX12_isHouse MX12_isHouse { frames := 1, cells := 0, slots := 0, locals := 24 } [.ref 98, .int a1] (nh, fh) (fun r h9 => r = some (.int 0) ∧ h9 = (nh, fh)) := by
  refine JM.of (by decide) rfl (fun h => by cases h) (Nat.le_of_ble_eq_true rfl) ⟨0, rfl⟩ ?_
  refine J_hc0 (J_ls (ls2 := [some (.ref 98), some (.int a1)]) rfl ?_)
  refine J_aload_n dX12_isHouse_0 rfl rfl ?_
  refine J_callV (st := []) dX12_isHouse_1 cv_X12_159 (c_X12_laysHouses_2 hk98) hk98 rfl rfl (Nat.le_of_ble_eq_true rfl) ⟨(Nat.le_of_ble_eq_true rfl), (Nat.le_of_ble_eq_true rfl)⟩ ⟨(Nat.le_of_ble_eq_true rfl), (Nat.le_of_ble_eq_true rfl)⟩ (fun r h9 hp => ?_)
  obtain ⟨rfl, rfl⟩ := hp
  refine J_nf (nh2 := nh) (ck2 := 0) (sk2 := 0) (st2 := []) rfl rfl rfl rfl ?_
  refine J_iload_n dX12_isHouse_4 rfl rfl ?_
  refine J_iconst (v := 0) dX12_isHouse_5 (by decide) ?_
  refine J_aload_n dX12_isHouse_6 rfl rfl ?_
  refine J_get (v := .int 1) dX12_isHouse_7 fl_X12_298 hk98 rfl ?_
  refine J_iconst (v := 1) dX12_isHouse_10 (by decide) ?_
  refine J_isub (z := 0) dX12_isHouse_11 (by decide +kernel) ?_
  refine J_callS (st := []) dX12_isHouse_12 cs_X12_138 (c_X12_lies_47 (a1) b_a1) rfl rfl (Nat.le_of_ble_eq_true rfl) ⟨(Nat.le_of_ble_eq_true rfl), (Nat.le_of_ble_eq_true rfl)⟩ ⟨(Nat.le_of_ble_eq_true rfl), (Nat.le_of_ble_eq_true rfl)⟩ (fun r h9 hp => ?_)
  obtain ⟨rfl, rfl⟩ := hp
  refine J_nf (nh2 := nh) (ck2 := 0) (sk2 := 0) (st2 := [.int 0]) rfl rfl rfl rfl ?_
  exact J_iret dX12_isHouse_15 rfl (by decide +kernel) (Nat.le_of_ble_eq_true rfl) (Nat.le_of_ble_eq_true rfl) ⟨rfl, rfl⟩
set_option maxHeartbeats 4000000 in
set_option maxRecDepth 100000 in
theorem c_X12_rows_2 {l : Launch} {G : jG} {nh : Nat} {fh : Nat → Option va_E} (a2 : Int32) (b_a2 : (-2147483648) ≤ a2.toInt ∧ a2.toInt ≤ (-2)) (a3 : Int32) (b_a3 : (-2147483648) ≤ a3.toInt ∧ a3.toInt ≤ 2147483647) (hk98 : fh 98 = some (.inr (12, [.int 0, .int 0, .ref 99, .ref 100, .ref 101, .ref 102, .ref 103, .ref 104, .ref 105, .int 0, .int (-1), .ref 106, .ref 107, .ref 108, .int 0, .int 0, .int 0, .int 0, .int 0, .int 0, .int 0, .ref 109, .int 0, .int 0, .ref 110, .ref 111, .ref 112, .ref 113, .ref 114, .ref 115, .ref 116, .ref 117, .int 0, .int 0, .int (-1), .int (-1), .ref 118, .ref 119, .ref 120, .ref 121, .ref 122, .ref 123, .ref 124, .ref 125, .ref 126, .ref 127, .ref 128, .ref 129, .int 0, .ref 130, .ref 131, .ref 132, .ref 133, .ref 134, .int 0, .int 0]))) (hk100 : fh 100 = some (.inl (0, 4870, .inl (upd (fun _ => 0) 63 (-1))))) (hk111 : fh 111 = some (.inl (0, 1260, .inl (fun _ => 0)))) : JM l G yX12_rows MX12_rows { frames := 3, cells := 0, slots := 0, locals := 69 } [.ref 98, .int 0, .int a2, .int a3] (nh, fh) (fun r h9 => r = some (.long (-1)) ∧ h9 = (nh, hc fh [(98, .inr (12, [.int 0, .int 0, .ref 99, .ref 100, .ref 101, .ref 102, .ref 103, .ref 104, .ref 105, .int 0, .int (-1), .ref 106, .ref 107, .ref 108, .int 0, .int 0, .int 0, .int 0, .int 0, .int 0, .int 0, .ref 109, .int 0, .int 0, .ref 110, .ref 111, .ref 112, .ref 113, .ref 114, .ref 115, .ref 116, .ref 117, .int 1, .int 0, .int 0, .int (-1), .ref 118, .ref 119, .ref 120, .ref 121, .ref 122, .ref 123, .ref 124, .ref 125, .ref 126, .ref 127, .ref 128, .ref 129, .int 0, .ref 130, .ref 131, .ref 132, .ref 133, .ref 134, .int 0, .int 0])), (111, .inl (0, 1260, .inl (upd (fun _ => 0) 0 0)))])) := by
  refine JM.of (by decide) rfl (fun h => by cases h) (Nat.le_of_ble_eq_true rfl) ⟨3, rfl⟩ ?_
  refine J_hc0 (J_ls (ls2 := [some (.ref 98), some (.int 0), some (.int a2), some (.int a3), none, none, none]) rfl ?_)
  refine J_aload_n dX12_rows_0 rfl rfl ?_
  refine J_iload_n dX12_rows_1 rfl rfl ?_
  refine J_callV (st := []) dX12_rows_2 cv_X12_325 (c_X12_isHouse_2 hk98 hk100 hk111) hk98 rfl rfl (Nat.le_of_ble_eq_true rfl) ⟨(Nat.le_of_ble_eq_true rfl), (Nat.le_of_ble_eq_true rfl)⟩ ⟨(Nat.le_of_ble_eq_true rfl), (Nat.le_of_ble_eq_true rfl)⟩ (fun r h9 hp => ?_)
  obtain ⟨rfl, rfl⟩ := hp
  refine J_nf (nh2 := nh) (ck2 := 0) (sk2 := 0) (st2 := [.int 1]) rfl rfl rfl rfl ?_
  refine J_app (L3 := [(98, .inr (12, [.int 0, .int 0, .ref 99, .ref 100, .ref 101, .ref 102, .ref 103, .ref 104, .ref 105, .int 0, .int (-1), .ref 106, .ref 107, .ref 108, .int 0, .int 0, .int 0, .int 0, .int 0, .int 0, .int 0, .ref 109, .int 0, .int 0, .ref 110, .ref 111, .ref 112, .ref 113, .ref 114, .ref 115, .ref 116, .ref 117, .int 1, .int 0, .int 0, .int (-1), .ref 118, .ref 119, .ref 120, .ref 121, .ref 122, .ref 123, .ref 124, .ref 125, .ref 126, .ref 127, .ref 128, .ref 129, .int 0, .ref 130, .ref 131, .ref 132, .ref 133, .ref 134, .int 0, .int 0])), (111, .inl (0, 1260, .inl (upd (fun _ => 0) 0 0)))]) rfl ?_
  refine J_if_eq (tgt := 31) dX12_rows_5 (by decide) (fun q => absurd q (by decide +kernel)) (fun _ => ?_)
  refine J_iload_n dX12_rows_8 rfl rfl ?_
  refine J_iconst (v := (-1)) dX12_rows_9 (by decide) ?_
  refine J_icmp_eq (tgt := 21) dX12_rows_10 (by decide) (fun q => absurd q (by have hb0 := b_a2; simp only [fa_lt, fa_le, fa_eq, kc_m1]; omega)) (fun _ => ?_)
  refine J_aload_n dX12_rows_13 rfl rfl ?_
  refine J_iload_n dX12_rows_14 rfl rfl ?_
  refine J_callV (st := []) dX12_rows_15 cv_X12_325 (c_X12_isHouse_7 (a2) b_a2 rfl) rfl rfl rfl (Nat.le_of_ble_eq_true rfl) ⟨(Nat.le_of_ble_eq_true rfl), (Nat.le_of_ble_eq_true rfl)⟩ ⟨(Nat.le_of_ble_eq_true rfl), (Nat.le_of_ble_eq_true rfl)⟩ (fun r h9 hp => ?_)
  obtain ⟨rfl, rfl⟩ := hp
  refine J_nf (nh2 := nh) (ck2 := 0) (sk2 := 0) (st2 := [.int 0]) rfl rfl rfl rfl ?_
  refine J_if_eq (tgt := 31) dX12_rows_18 (by decide) (fun _ => ?_) (fun q => absurd (by decide +kernel) q)
  refine J_ldc2 (v := (-1)) dX12_rows_31 (jt8 51 rfl rfl) ?_
  exact J_lret dX12_rows_34 rfl (Nat.le_of_ble_eq_true rfl) (Nat.le_of_ble_eq_true rfl) ⟨rfl, rfl⟩
set_option maxHeartbeats 4000000 in
set_option maxRecDepth 100000 in
theorem c_X11_rows_3 {l : Launch} {G : jG} {nh : Nat} {fh : Nat → Option va_E} (a3 : Int32) (b_a3 : (-2147483648) ≤ a3.toInt ∧ a3.toInt ≤ (-1)) (hk0 : fh 0 = some (.inr (11, [.ref 1, .ref 17, .ref 50, .ref 51, .ref 54, .ref 57, .ref 65, .ref 75, .ref 81, .ref 85, .ref 88, .ref 93, .ref 96, .int 0, .int (-1), .ref 97, .int 0]))) (hk51 : fh 51 = some (.inr (0, [.ref 52, .ref 53, .int 1, .int 0]))) : JM l G yX11_rows MX11_rows { frames := 1, cells := 0, slots := 0, locals := 21 } [.ref 0, .int 0, .int (-1), .int a3] (nh, fh) (fun r h9 => r = some (.long (-1)) ∧ h9 = (nh, fh)) := by
  refine JM.of (by decide) rfl (fun h => by cases h) (Nat.le_of_ble_eq_true rfl) ⟨0, rfl⟩ ?_
  refine J_hc0 (J_ls (ls2 := [some (.ref 0), some (.int 0), some (.int (-1)), some (.int a3)]) rfl ?_)
  refine J_aload_n dX11_rows_0 rfl rfl ?_
  refine J_get (v := .ref 51) dX11_rows_1 fl_X11_27 hk0 rfl ?_
  refine J_iload_n dX11_rows_4 rfl rfl ?_
  refine J_callV (st := []) dX11_rows_5 cv_X11_135 (c_X0_has_2 hk51) hk51 rfl rfl (Nat.le_of_ble_eq_true rfl) ⟨(Nat.le_of_ble_eq_true rfl), (Nat.le_of_ble_eq_true rfl)⟩ ⟨(Nat.le_of_ble_eq_true rfl), (Nat.le_of_ble_eq_true rfl)⟩ (fun r h9 hp => ?_)
  obtain ⟨rfl, rfl⟩ := hp
  refine J_nf (nh2 := nh) (ck2 := 0) (sk2 := 0) (st2 := [.int 1]) rfl rfl rfl rfl ?_
  refine J_if_eq (tgt := 37) dX11_rows_8 (by decide) (fun q => absurd q (by decide +kernel)) (fun _ => ?_)
  refine J_iload_n dX11_rows_11 rfl rfl ?_
  refine J_iconst (v := (-1)) dX11_rows_12 (by decide) ?_
  refine J_icmp_eq (tgt := 27) dX11_rows_13 (by decide) (fun _ => ?_) (fun q => absurd (by decide +kernel) q)
  refine J_iload_n dX11_rows_27 rfl rfl ?_
  refine J_if_lt (tgt := 37) dX11_rows_28 (by decide) (fun _ => ?_) (fun q => absurd (by have hb0 := b_a3; simp only [fa_lt, fa_le, fa_eq, kc_0]; omega) q)
  refine J_ldc2 (v := (-1)) dX11_rows_37 (jt5 93 rfl rfl) ?_
  exact J_lret dX11_rows_40 rfl (Nat.le_of_ble_eq_true rfl) (Nat.le_of_ble_eq_true rfl) ⟨rfl, rfl⟩
set_option maxHeartbeats 4000000 in
set_option maxRecDepth 100000 in
theorem c_X12_lies_48 {l : Launch} {G : jG} {nh : Nat} {fh : Nat → Option va_E} (a0 : Int32) (b_a0 : (-2147483648) ≤ a0.toInt ∧ a0.toInt ≤ (-1)) : JM l G yX12_lies MX12_lies { frames := 0, cells := 0, slots := 0, locals := 0 } [.int a0, .int 0, .int 12] (nh, fh) (fun r h9 => r = some (.int 0) ∧ h9 = (nh, fh)) := by
  refine JM.of (by decide) rfl (fun h => by cases h) (Nat.le_of_ble_eq_true rfl) ⟨0, rfl⟩ ?_
  refine J_hc0 (J_ls (ls2 := [some (.int a0), some (.int 0), some (.int 12)]) rfl ?_)
  refine J_iload_n dX12_lies_0 rfl rfl ?_
  refine J_iload_n dX12_lies_1 rfl rfl ?_
  refine J_icmp_lt (tgt := 14) dX12_lies_2 (by decide) (fun _ => ?_) (fun q => absurd (by have hb0 := b_a0; simp only [fa_lt, fa_le, fa_eq, kc_0]; omega) q)
  refine J_iconst (v := 0) dX12_lies_14 (by decide) ?_
  exact J_iret dX12_lies_15 rfl (by decide +kernel) (Nat.le_of_ble_eq_true rfl) (Nat.le_of_ble_eq_true rfl) ⟨rfl, rfl⟩
set_option maxHeartbeats 4000000 in
set_option maxRecDepth 100000 in
theorem c_X12_rows_3 {l : Launch} {G : jG} {nh : Nat} {fh : Nat → Option va_E} (a3 : Int32) (b_a3 : (-2147483648) ≤ a3.toInt ∧ a3.toInt ≤ (-1)) (hk98 : fh 98 = some (.inr (12, [.int 0, .int 0, .ref 99, .ref 100, .ref 101, .ref 102, .ref 103, .ref 104, .ref 105, .int 0, .int (-1), .ref 106, .ref 107, .ref 108, .int 0, .int 0, .int 0, .int 0, .int 0, .int 0, .int 0, .ref 109, .int 0, .int 0, .ref 110, .ref 111, .ref 112, .ref 113, .ref 114, .ref 115, .ref 116, .ref 117, .int 0, .int 0, .int (-1), .int (-1), .ref 118, .ref 119, .ref 120, .ref 121, .ref 122, .ref 123, .ref 124, .ref 125, .ref 126, .ref 127, .ref 128, .ref 129, .int 0, .ref 130, .ref 131, .ref 132, .ref 133, .ref 134, .int 0, .int 0]))) (hk100 : fh 100 = some (.inl (0, 4870, .inl (upd (fun _ => 0) 63 (-1))))) (hk111 : fh 111 = some (.inl (0, 1260, .inl (fun _ => 0)))) : JM l G yX12_rows MX12_rows { frames := 3, cells := 0, slots := 0, locals := 69 } [.ref 98, .int 0, .int (-1), .int a3] (nh, fh) (fun r h9 => r = some (.long (-1)) ∧ h9 = (nh, hc fh [(98, .inr (12, [.int 0, .int 0, .ref 99, .ref 100, .ref 101, .ref 102, .ref 103, .ref 104, .ref 105, .int 0, .int (-1), .ref 106, .ref 107, .ref 108, .int 0, .int 0, .int 0, .int 0, .int 0, .int 0, .int 0, .ref 109, .int 0, .int 0, .ref 110, .ref 111, .ref 112, .ref 113, .ref 114, .ref 115, .ref 116, .ref 117, .int 1, .int 0, .int 0, .int (-1), .ref 118, .ref 119, .ref 120, .ref 121, .ref 122, .ref 123, .ref 124, .ref 125, .ref 126, .ref 127, .ref 128, .ref 129, .int 0, .ref 130, .ref 131, .ref 132, .ref 133, .ref 134, .int 0, .int 0])), (111, .inl (0, 1260, .inl (upd (fun _ => 0) 0 0)))])) := by
  refine JM.of (by decide) rfl (fun h => by cases h) (Nat.le_of_ble_eq_true rfl) ⟨3, rfl⟩ ?_
  refine J_hc0 (J_ls (ls2 := [some (.ref 98), some (.int 0), some (.int (-1)), some (.int a3), none, none, none]) rfl ?_)
  refine J_aload_n dX12_rows_0 rfl rfl ?_
  refine J_iload_n dX12_rows_1 rfl rfl ?_
  refine J_callV (st := []) dX12_rows_2 cv_X12_325 (c_X12_isHouse_2 hk98 hk100 hk111) hk98 rfl rfl (Nat.le_of_ble_eq_true rfl) ⟨(Nat.le_of_ble_eq_true rfl), (Nat.le_of_ble_eq_true rfl)⟩ ⟨(Nat.le_of_ble_eq_true rfl), (Nat.le_of_ble_eq_true rfl)⟩ (fun r h9 hp => ?_)
  obtain ⟨rfl, rfl⟩ := hp
  refine J_nf (nh2 := nh) (ck2 := 0) (sk2 := 0) (st2 := [.int 1]) rfl rfl rfl rfl ?_
  refine J_app (L3 := [(98, .inr (12, [.int 0, .int 0, .ref 99, .ref 100, .ref 101, .ref 102, .ref 103, .ref 104, .ref 105, .int 0, .int (-1), .ref 106, .ref 107, .ref 108, .int 0, .int 0, .int 0, .int 0, .int 0, .int 0, .int 0, .ref 109, .int 0, .int 0, .ref 110, .ref 111, .ref 112, .ref 113, .ref 114, .ref 115, .ref 116, .ref 117, .int 1, .int 0, .int 0, .int (-1), .ref 118, .ref 119, .ref 120, .ref 121, .ref 122, .ref 123, .ref 124, .ref 125, .ref 126, .ref 127, .ref 128, .ref 129, .int 0, .ref 130, .ref 131, .ref 132, .ref 133, .ref 134, .int 0, .int 0])), (111, .inl (0, 1260, .inl (upd (fun _ => 0) 0 0)))]) rfl ?_
  refine J_if_eq (tgt := 31) dX12_rows_5 (by decide) (fun q => absurd q (by decide +kernel)) (fun _ => ?_)
  refine J_iload_n dX12_rows_8 rfl rfl ?_
  refine J_iconst (v := (-1)) dX12_rows_9 (by decide) ?_
  refine J_icmp_eq (tgt := 21) dX12_rows_10 (by decide) (fun _ => ?_) (fun q => absurd (by decide +kernel) q)
  refine J_iload_n dX12_rows_21 rfl rfl ?_
  refine J_iconst (v := 0) dX12_rows_22 (by decide) ?_
  refine J_bipush (v := 12) dX12_rows_23 (by decide +kernel) ?_
  refine J_callS (st := []) dX12_rows_25 cs_X12_138 (c_X12_lies_48 (a3) b_a3) rfl rfl (Nat.le_of_ble_eq_true rfl) ⟨(Nat.le_of_ble_eq_true rfl), (Nat.le_of_ble_eq_true rfl)⟩ ⟨(Nat.le_of_ble_eq_true rfl), (Nat.le_of_ble_eq_true rfl)⟩ (fun r h9 hp => ?_)
  obtain ⟨rfl, rfl⟩ := hp
  refine J_nf (nh2 := nh) (ck2 := 0) (sk2 := 0) (st2 := [.int 0]) rfl rfl rfl rfl ?_
  refine J_if_ne (tgt := 35) dX12_rows_28 (by decide) (fun q => absurd (by decide +kernel) q) (fun _ => ?_)
  refine J_ldc2 (v := (-1)) dX12_rows_31 (jt8 51 rfl rfl) ?_
  exact J_lret dX12_rows_34 rfl (Nat.le_of_ble_eq_true rfl) (Nat.le_of_ble_eq_true rfl) ⟨rfl, rfl⟩
set_option maxHeartbeats 4000000 in
set_option maxRecDepth 100000 in
theorem c_J7_fill_bad5a_1 {l : Launch} {G : jG} {nh : Nat} {fh : Nat → Option va_E} (hk73 : fh 73 = some (.inl (1, 1260, .inr (.inl (fun _ => 0))))) : JM l G yJ7_fill_bad5a MJ7_fill_bad5a { frames := 1, cells := 0, slots := 0, locals := 22 } [.ref 73, .int 0, .int 1, .long 0] (nh, fh) (fun r h9 => r = none ∧ h9 = (nh, hc fh [(73, .inl (1, 1260, .inr (.inl (vp_updL (fun _ => 0) 0 0))))])) := by
  refine JM.of (by decide) rfl (fun h => by cases h) (Nat.le_of_ble_eq_true rfl) ⟨1, rfl⟩ ?_
  refine J_hc0 (J_ls (ls2 := [some (.ref 73), some (.int 0), some (.int 1), some (.long 0), none, none]) rfl ?_)
  refine J_aload_n dJ7_fill_bad5a_0 rfl rfl ?_
  refine J_alen (v := 1260) dJ7_fill_bad5a_1 hk73 rfl (by decide +kernel) ?_
  refine J_iload_n dJ7_fill_bad5a_2 rfl rfl ?_
  refine J_iload_n dJ7_fill_bad5a_3 rfl rfl ?_
  refine J_callS (st := []) dJ7_fill_bad5a_4 cs_J7_13 (c_J7_rangeCheck_23922_1 ) rfl rfl (Nat.le_of_ble_eq_true rfl) ⟨(Nat.le_of_ble_eq_true rfl), (Nat.le_of_ble_eq_true rfl)⟩ ⟨(Nat.le_of_ble_eq_true rfl), (Nat.le_of_ble_eq_true rfl)⟩ (fun r h9 hp => ?_)
  obtain ⟨rfl, rfl⟩ := hp
  refine J_nf (nh2 := nh) (ck2 := 0) (sk2 := 0) (st2 := []) rfl rfl rfl rfl ?_
  refine J_iload_n dJ7_fill_bad5a_7 rfl rfl ?_
  refine J_istore dJ7_fill_bad5a_8 (Nat.le_of_ble_eq_true rfl) rfl ?_
  refine J_iload dJ7_fill_bad5a_10 rfl ?_
  refine J_iload_n dJ7_fill_bad5a_12 rfl rfl ?_
  refine J_icmp_ge (tgt := 27) dJ7_fill_bad5a_13 (by decide) (fun q => absurd q (by decide +kernel)) (fun _ => ?_)
  refine J_aload_n dJ7_fill_bad5a_16 rfl rfl ?_
  refine J_iload dJ7_fill_bad5a_17 rfl ?_
  refine J_lload_n dJ7_fill_bad5a_19 rfl rfl ?_
  refine K_last (i2 := 0) dJ7_fill_bad5a_20 hk73 rfl (jin (by decide +kernel)) (by decide +kernel) ?_
  refine J_iinc (v := 1) dJ7_fill_bad5a_21 rfl (by decide +kernel) (Nat.le_of_ble_eq_true rfl) rfl ?_
  refine J_ls (ls2 := [some (.ref 73), some (.int 0), some (.int 1), some (.long 0), none, some (.int 1)]) rfl ?_
  refine J_goto (tgt := 10) dJ7_fill_bad5a_24 (by decide) ?_
  refine J_iload dJ7_fill_bad5a_10 rfl ?_
  refine J_iload_n dJ7_fill_bad5a_12 rfl rfl ?_
  refine J_icmp_ge (tgt := 27) dJ7_fill_bad5a_13 (by decide) (fun _ => ?_) (fun q => absurd (by decide +kernel) q)
  exact J_vret dJ7_fill_bad5a_27 rfl (Nat.le_of_ble_eq_true rfl) (Nat.le_of_ble_eq_true rfl) ⟨rfl, rfl⟩
set_option maxHeartbeats 4000000 in
set_option maxRecDepth 100000 in
theorem c_X10_rowsTo_1 {l : Launch} {G : jG} {nh : Nat} {fh : Nat → Option va_E} (hk51 : fh 51 = some (.inr (0, [.ref 52, .ref 53, .int 1, .int 0]))) (hk65 : fh 65 = some (.inr (10, [.ref 51, .ref 57, .ref 66, .ref 67, .ref 68, .int 0, .int (-1), .int (-1), .ref 69, .ref 70, .ref 71, .ref 72, .int 0, .int (-1), .int (-1), .ref 73, .ref 74]))) (hk73 : fh 73 = some (.inl (1, 1260, .inr (.inl (fun _ => 0))))) : JM l G yX10_rowsTo MX10_rowsTo { frames := 2, cells := 0, slots := 0, locals := 47 } [.ref 65, .int 0, .int (-1), .int 0] (nh, fh) (fun r h9 => r = some (.long 1) ∧ h9 = (nh, hc fh [(73, .inl (1, 1260, .inr (.inl (vp_updL (vp_updL (fun _ => 0) 0 0) 0 1))))])) := by
  refine JM.of (by decide) rfl (fun h => by cases h) (Nat.le_of_ble_eq_true rfl) ⟨4, rfl⟩ ?_
  refine J_hc0 (J_ls (ls2 := [some (.ref 65), some (.int 0), some (.int (-1)), some (.int 0), none, none, none, none]) rfl ?_)
  refine J_aload_n dX10_rowsTo_0 rfl rfl ?_
  refine J_get (v := .ref 51) dX10_rowsTo_1 fl_X10_59 hk65 rfl ?_
  refine J_callV (st := []) dX10_rowsTo_4 cv_X10_83 (c_X0_many_1 hk51) hk51 rfl rfl (Nat.le_of_ble_eq_true rfl) ⟨(Nat.le_of_ble_eq_true rfl), (Nat.le_of_ble_eq_true rfl)⟩ ⟨(Nat.le_of_ble_eq_true rfl), (Nat.le_of_ble_eq_true rfl)⟩ (fun r h9 hp => ?_)
  obtain ⟨rfl, rfl⟩ := hp
  refine J_nf (nh2 := nh) (ck2 := 0) (sk2 := 0) (st2 := [.int 1]) rfl rfl rfl rfl ?_
  refine J_istore dX10_rowsTo_7 (Nat.le_of_ble_eq_true rfl) rfl ?_
  refine J_aload_n dX10_rowsTo_9 rfl rfl ?_
  refine J_get (v := .ref 73) dX10_rowsTo_10 fl_X10_52 hk65 rfl ?_
  refine J_iconst (v := 0) dX10_rowsTo_13 (by decide) ?_
  refine J_iload dX10_rowsTo_14 rfl ?_
  refine J_lconst (v := 0) dX10_rowsTo_16 (by decide +kernel) ?_
  refine J_callS (st := []) dX10_rowsTo_17 cs_X10_127 (c_J7_fill_bad5a_1 hk73) rfl rfl (Nat.le_of_ble_eq_true rfl) ⟨(Nat.le_of_ble_eq_true rfl), (Nat.le_of_ble_eq_true rfl)⟩ ⟨(Nat.le_of_ble_eq_true rfl), (Nat.le_of_ble_eq_true rfl)⟩ (fun r h9 hp => ?_)
  obtain ⟨rfl, rfl⟩ := hp
  refine J_nf (nh2 := nh) (ck2 := 0) (sk2 := 0) (st2 := []) rfl rfl rfl rfl ?_
  refine J_app (L3 := [(73, .inl (1, 1260, .inr (.inl (vp_updL (fun _ => 0) 0 0))))]) rfl ?_
  refine J_aload_n dX10_rowsTo_20 rfl rfl ?_
  refine J_get (v := .ref 73) dX10_rowsTo_21 fl_X10_52 hk65 rfl ?_
  refine J_iload_n dX10_rowsTo_24 rfl rfl ?_
  refine J_lconst (v := 1) dX10_rowsTo_25 (by decide +kernel) ?_
  refine K_last (i2 := 0) dX10_rowsTo_26 rfl rfl (jin (by decide +kernel)) (by decide +kernel) ?_
  refine J_iconst (v := 0) dX10_rowsTo_27 (by decide) ?_
  refine J_istore dX10_rowsTo_28 (Nat.le_of_ble_eq_true rfl) rfl ?_
  refine J_iload dX10_rowsTo_30 rfl ?_
  refine J_iload_n dX10_rowsTo_32 rfl rfl ?_
  refine J_icmp_ge (tgt := 48) dX10_rowsTo_33 (by decide) (fun _ => ?_) (fun q => absurd (by decide +kernel) q)
  refine J_iload_n dX10_rowsTo_48 rfl rfl ?_
  refine J_iconst (v := (-1)) dX10_rowsTo_49 (by decide) ?_
  refine J_icmp_eq (tgt := 60) dX10_rowsTo_50 (by decide) (fun _ => ?_) (fun q => absurd (by decide +kernel) q)
  refine J_lconst (v := 0) dX10_rowsTo_60 (by decide +kernel) ?_
  refine J_lstore dX10_rowsTo_61 (Nat.le_of_ble_eq_true rfl) rfl ?_
  refine J_iconst (v := 0) dX10_rowsTo_63 (by decide) ?_
  refine J_istore dX10_rowsTo_64 (Nat.le_of_ble_eq_true rfl) rfl ?_
  refine J_iload dX10_rowsTo_66 rfl ?_
  refine J_iload dX10_rowsTo_68 rfl ?_
  refine J_icmp_ge (tgt := 91) dX10_rowsTo_70 (by decide) (fun q => absurd q (by decide +kernel)) (fun _ => ?_)
  refine J_lload dX10_rowsTo_73 rfl ?_
  refine J_aload_n dX10_rowsTo_75 rfl rfl ?_
  refine J_get (v := .ref 73) dX10_rowsTo_76 fl_X10_52 hk65 rfl ?_
  refine J_iload dX10_rowsTo_79 rfl ?_
  refine J_lald (i2 := 0) (v := 1) dX10_rowsTo_81 rfl rfl (jin (by decide +kernel)) (by decide +kernel) rfl ?_
  refine J_ladd (z := 1) dX10_rowsTo_82 (by decide +kernel) ?_
  refine J_lstore dX10_rowsTo_83 (Nat.le_of_ble_eq_true rfl) rfl ?_
  refine J_iinc (v := 1) dX10_rowsTo_85 rfl (by decide +kernel) (Nat.le_of_ble_eq_true rfl) rfl ?_
  refine J_ls (ls2 := [some (.ref 65), some (.int 0), some (.int (-1)), some (.int 0), some (.int 1), some (.long 1), none, some (.int 1)]) rfl ?_
  refine J_goto (tgt := 66) dX10_rowsTo_88 (by decide) ?_
  refine J_iload dX10_rowsTo_66 rfl ?_
  refine J_iload dX10_rowsTo_68 rfl ?_
  refine J_icmp_ge (tgt := 91) dX10_rowsTo_70 (by decide) (fun _ => ?_) (fun q => absurd (by decide +kernel) q)
  refine J_lload dX10_rowsTo_91 rfl ?_
  refine J_mask (L2 := [(73, .inl (1, 1260, .inr (.inl (vp_updL (vp_updL (fun _ => 0) 0 0) 0 1))))]) (ks := [73, 73]) [true, false] rfl (by decide +kernel) rfl ?_
  exact J_lret dX10_rowsTo_93 rfl (Nat.le_of_ble_eq_true rfl) (Nat.le_of_ble_eq_true rfl) ⟨rfl, rfl⟩
set_option maxHeartbeats 4000000 in
set_option maxRecDepth 100000 in
theorem c_X11_rows_4 {l : Launch} {G : jG} {fh : Nat → Option va_E} (hk0 : fh 0 = some (.inr (11, [.ref 1, .ref 17, .ref 50, .ref 51, .ref 54, .ref 57, .ref 65, .ref 75, .ref 81, .ref 85, .ref 88, .ref 93, .ref 96, .int 0, .int (-1), .ref 97, .int 0]))) (hk1 : fh 1 = some (.inr (8, [.ref 2, .ref 3, .ref 4, .int 0, .int (-1), .ref 11, .ref 12, .int 0, .ref 13, .ref 14, .int 0, .ref 15, .ref 16, .int 0]))) (hk3 : fh 3 = some (.inl (0, 2, .inl (fun _ => 0)))) (hk51 : fh 51 = some (.inr (0, [.ref 52, .ref 53, .int 1, .int 0]))) (hk57 : fh 57 = some (.inr (9, [.ref 1, .ref 51, .ref 58, .ref 61, .ref 62, .ref 63, .ref 64, .int 0, .int 1, .int 1]))) (hk58 : fh 58 = some (.inr (1, [.ref 59, .ref 60, .int 0, .int 0, .int 0, .int 0, .int 0, .int 1]))) (hk59 : fh 59 = some (.inl (0, 8, .inl (fun _ => 0)))) (hk62 : fh 62 = some (.inl (0, 1260, .inl (fun _ => 0)))) (hk63 : fh 63 = some (.inl (0, 0, .inl (fun _ => 0)))) (hk65 : fh 65 = some (.inr (10, [.ref 51, .ref 57, .ref 66, .ref 67, .ref 68, .int 0, .int (-1), .int (-1), .ref 69, .ref 70, .ref 71, .ref 72, .int 0, .int (-1), .int (-1), .ref 73, .ref 74]))) (hk73 : fh 73 = some (.inl (1, 1260, .inr (.inl (fun _ => 0))))) : JM l G yX11_rows MX11_rows { frames := 3, cells := 1, slots := 22, locals := 74 } [.ref 0, .int 0, .int (-1), .int 0] (135, fh) (fun r h9 => r = some (.long 1) ∧ h9 = (136, hc fh [(73, .inl (1, 1260, .inr (.inl (vp_updL (vp_updL (fun _ => 0) 0 0) 0 1)))), (57, .inr (9, [.ref 1, .ref 51, .ref 58, .ref 61, .ref 62, .ref 135, .ref 64, .int 0, .int 0, .int 0])), (62, .inl (0, 1260, .inl (upd (fun _ => 0) 0 (-1)))), (135, .inl (0, 22, .inl (fun _ => 0))), (59, .inl (0, 8, .inl (upd (upd (fun _ => 0) 6 0) 7 0)))])) := by
  refine JM.of (by decide) rfl (fun h => by cases h) (Nat.le_of_ble_eq_true rfl) ⟨0, rfl⟩ ?_
  refine J_hc0 (J_ls (ls2 := [some (.ref 0), some (.int 0), some (.int (-1)), some (.int 0)]) rfl ?_)
  refine J_aload_n dX11_rows_0 rfl rfl ?_
  refine J_get (v := .ref 51) dX11_rows_1 fl_X11_27 hk0 rfl ?_
  refine J_iload_n dX11_rows_4 rfl rfl ?_
  refine J_callV (st := []) dX11_rows_5 cv_X11_135 (c_X0_has_2 hk51) hk51 rfl rfl (Nat.le_of_ble_eq_true rfl) ⟨(Nat.le_of_ble_eq_true rfl), (Nat.le_of_ble_eq_true rfl)⟩ ⟨(Nat.le_of_ble_eq_true rfl), (Nat.le_of_ble_eq_true rfl)⟩ (fun r h9 hp => ?_)
  obtain ⟨rfl, rfl⟩ := hp
  refine J_nf (nh2 := 135) (ck2 := 0) (sk2 := 0) (st2 := [.int 1]) rfl rfl rfl rfl ?_
  refine J_if_eq (tgt := 37) dX11_rows_8 (by decide) (fun q => absurd q (by decide +kernel)) (fun _ => ?_)
  refine J_iload_n dX11_rows_11 rfl rfl ?_
  refine J_iconst (v := (-1)) dX11_rows_12 (by decide) ?_
  refine J_icmp_eq (tgt := 27) dX11_rows_13 (by decide) (fun _ => ?_) (fun q => absurd (by decide +kernel) q)
  refine J_iload_n dX11_rows_27 rfl rfl ?_
  refine J_if_lt (tgt := 37) dX11_rows_28 (by decide) (fun q => absurd q (by decide +kernel)) (fun _ => ?_)
  refine J_iload_n dX11_rows_31 rfl rfl ?_
  refine J_bipush (v := 12) dX11_rows_32 (by decide +kernel) ?_
  refine J_icmp_le (tgt := 41) dX11_rows_34 (by decide) (fun _ => ?_) (fun q => absurd (by decide +kernel) q)
  refine J_aload_n dX11_rows_41 rfl rfl ?_
  refine J_get (v := .ref 57) dX11_rows_42 fl_X11_43 hk0 rfl ?_
  refine J_callV (st := []) dX11_rows_45 cv_X11_217 (c_X9_prepare_1 hk1 hk3 hk51 hk57 hk58 hk59 hk62 hk63) hk57 rfl rfl (Nat.le_of_ble_eq_true rfl) ⟨(Nat.le_of_ble_eq_true rfl), (Nat.le_of_ble_eq_true rfl)⟩ ⟨(Nat.le_of_ble_eq_true rfl), (Nat.le_of_ble_eq_true rfl)⟩ (fun r h9 hp => ?_)
  obtain ⟨rfl, rfl⟩ := hp
  refine J_nf (nh2 := 136) (ck2 := 1) (sk2 := 22) (st2 := []) rfl rfl rfl rfl ?_
  refine J_app (L3 := [(57, .inr (9, [.ref 1, .ref 51, .ref 58, .ref 61, .ref 62, .ref 135, .ref 64, .int 0, .int 0, .int 0])), (62, .inl (0, 1260, .inl (upd (fun _ => 0) 0 (-1)))), (135, .inl (0, 22, .inl (fun _ => 0))), (59, .inl (0, 8, .inl (upd (upd (fun _ => 0) 6 0) 7 0)))]) rfl ?_
  refine J_aload_n dX11_rows_48 rfl rfl ?_
  refine J_get (v := .ref 65) dX11_rows_49 fl_X11_52 hk0 rfl ?_
  refine J_iload_n dX11_rows_52 rfl rfl ?_
  refine J_iload_n dX11_rows_53 rfl rfl ?_
  refine J_iload_n dX11_rows_54 rfl rfl ?_
  refine J_callV (st := []) dX11_rows_55 cv_X11_256 (c_X10_rowsTo_1 hk51 hk65 hk73) hk65 rfl rfl (Nat.le_of_ble_eq_true rfl) ⟨(Nat.le_of_ble_eq_true rfl), (Nat.le_of_ble_eq_true rfl)⟩ ⟨(Nat.le_of_ble_eq_true rfl), (Nat.le_of_ble_eq_true rfl)⟩ (fun r h9 hp => ?_)
  obtain ⟨rfl, rfl⟩ := hp
  refine J_nf (nh2 := 136) (ck2 := 1) (sk2 := 22) (st2 := [.long 1]) rfl rfl rfl rfl ?_
  refine J_app (L3 := [(73, .inl (1, 1260, .inr (.inl (vp_updL (vp_updL (fun _ => 0) 0 0) 0 1)))), (57, .inr (9, [.ref 1, .ref 51, .ref 58, .ref 61, .ref 62, .ref 135, .ref 64, .int 0, .int 0, .int 0])), (62, .inl (0, 1260, .inl (upd (fun _ => 0) 0 (-1)))), (135, .inl (0, 22, .inl (fun _ => 0))), (59, .inl (0, 8, .inl (upd (upd (fun _ => 0) 6 0) 7 0)))]) rfl ?_
  exact J_lret dX11_rows_58 rfl (Nat.le_of_ble_eq_true rfl) (Nat.le_of_ble_eq_true rfl) ⟨rfl, rfl⟩
set_option maxHeartbeats 4000000 in
set_option maxRecDepth 100000 in
theorem c_X12_lies_49 {l : Launch} {G : jG} {nh : Nat} {fh : Nat → Option va_E}  : JM l G yX12_lies MX12_lies { frames := 0, cells := 0, slots := 0, locals := 0 } [.int 0, .int 0, .int 12] (nh, fh) (fun r h9 => r = some (.int 1) ∧ h9 = (nh, fh)) := by
  refine JM.of (by decide) rfl (fun h => by cases h) (Nat.le_of_ble_eq_true rfl) ⟨0, rfl⟩ ?_
  refine J_hc0 (J_ls (ls2 := [some (.int 0), some (.int 0), some (.int 12)]) rfl ?_)
  refine J_iload_n dX12_lies_0 rfl rfl ?_
  refine J_iload_n dX12_lies_1 rfl rfl ?_
  refine J_icmp_lt (tgt := 14) dX12_lies_2 (by decide) (fun q => absurd q (by decide +kernel)) (fun _ => ?_)
  refine J_iload_n dX12_lies_5 rfl rfl ?_
  refine J_iload_n dX12_lies_6 rfl rfl ?_
  refine J_icmp_gt (tgt := 14) dX12_lies_7 (by decide) (fun q => absurd q (by decide +kernel)) (fun _ => ?_)
  refine J_iconst (v := 1) dX12_lies_10 (by decide) ?_
  refine J_goto (tgt := 15) dX12_lies_11 (by decide) ?_
  exact J_iret dX12_lies_15 rfl (by decide +kernel) (Nat.le_of_ble_eq_true rfl) (Nat.le_of_ble_eq_true rfl) ⟨rfl, rfl⟩
set_option maxHeartbeats 4000000 in
set_option maxRecDepth 100000 in
theorem c_X12_rows_4 {l : Launch} {G : jG} {nh : Nat} {fh : Nat → Option va_E} (hk98 : fh 98 = some (.inr (12, [.int 0, .int 0, .ref 99, .ref 100, .ref 101, .ref 102, .ref 103, .ref 104, .ref 105, .int 0, .int (-1), .ref 106, .ref 107, .ref 108, .int 0, .int 0, .int 0, .int 0, .int 0, .int 0, .int 0, .ref 109, .int 0, .int 0, .ref 110, .ref 111, .ref 112, .ref 113, .ref 114, .ref 115, .ref 116, .ref 117, .int 0, .int 0, .int (-1), .int (-1), .ref 118, .ref 119, .ref 120, .ref 121, .ref 122, .ref 123, .ref 124, .ref 125, .ref 126, .ref 127, .ref 128, .ref 129, .int 0, .ref 130, .ref 131, .ref 132, .ref 133, .ref 134, .int 0, .int 0]))) (hk100 : fh 100 = some (.inl (0, 4870, .inl (upd (fun _ => 0) 63 (-1))))) (hk111 : fh 111 = some (.inl (0, 1260, .inl (fun _ => 0)))) (hk114 : fh 114 = some (.inl (0, 1260, .inl (fun _ => 0)))) (hk116 : fh 116 = some (.inl (0, 1260, .inl (fun _ => 0)))) (hk127 : fh 127 = some (.inl (1, 1260, .inr (.inl (fun _ => 0))))) : JM l G yX12_rows MX12_rows { frames := 3, cells := 0, slots := 0, locals := 69 } [.ref 98, .int 0, .int (-1), .int 0] (nh, fh) (fun r h9 => r = some (.long 1) ∧ h9 = (nh, hc fh [(127, .inl (1, 1260, .inr (.inl (vp_updL (fun _ => 0) 0 1)))), (114, .inl (0, 1260, .inl (upd (fun _ => 0) 0 0))), (116, .inl (0, 1260, .inl (upd (fun _ => 0) 0 0))), (98, .inr (12, [.int 0, .int 0, .ref 99, .ref 100, .ref 101, .ref 102, .ref 103, .ref 104, .ref 105, .int 0, .int (-1), .ref 106, .ref 107, .ref 108, .int 0, .int 0, .int 0, .int 0, .int 0, .int 0, .int 0, .ref 109, .int 0, .int 0, .ref 110, .ref 111, .ref 112, .ref 113, .ref 114, .ref 115, .ref 116, .ref 117, .int 1, .int 0, .int 0, .int 0, .ref 118, .ref 119, .ref 120, .ref 121, .ref 122, .ref 123, .ref 124, .ref 125, .ref 126, .ref 127, .ref 128, .ref 129, .int 0, .ref 130, .ref 131, .ref 132, .ref 133, .ref 134, .int 0, .int 0])), (111, .inl (0, 1260, .inl (upd (fun _ => 0) 0 0)))])) := by
  refine JM.of (by decide) rfl (fun h => by cases h) (Nat.le_of_ble_eq_true rfl) ⟨3, rfl⟩ ?_
  refine J_hc0 (J_ls (ls2 := [some (.ref 98), some (.int 0), some (.int (-1)), some (.int 0), none, none, none]) rfl ?_)
  refine J_aload_n dX12_rows_0 rfl rfl ?_
  refine J_iload_n dX12_rows_1 rfl rfl ?_
  refine J_callV (st := []) dX12_rows_2 cv_X12_325 (c_X12_isHouse_2 hk98 hk100 hk111) hk98 rfl rfl (Nat.le_of_ble_eq_true rfl) ⟨(Nat.le_of_ble_eq_true rfl), (Nat.le_of_ble_eq_true rfl)⟩ ⟨(Nat.le_of_ble_eq_true rfl), (Nat.le_of_ble_eq_true rfl)⟩ (fun r h9 hp => ?_)
  obtain ⟨rfl, rfl⟩ := hp
  refine J_nf (nh2 := nh) (ck2 := 0) (sk2 := 0) (st2 := [.int 1]) rfl rfl rfl rfl ?_
  refine J_app (L3 := [(98, .inr (12, [.int 0, .int 0, .ref 99, .ref 100, .ref 101, .ref 102, .ref 103, .ref 104, .ref 105, .int 0, .int (-1), .ref 106, .ref 107, .ref 108, .int 0, .int 0, .int 0, .int 0, .int 0, .int 0, .int 0, .ref 109, .int 0, .int 0, .ref 110, .ref 111, .ref 112, .ref 113, .ref 114, .ref 115, .ref 116, .ref 117, .int 1, .int 0, .int 0, .int (-1), .ref 118, .ref 119, .ref 120, .ref 121, .ref 122, .ref 123, .ref 124, .ref 125, .ref 126, .ref 127, .ref 128, .ref 129, .int 0, .ref 130, .ref 131, .ref 132, .ref 133, .ref 134, .int 0, .int 0])), (111, .inl (0, 1260, .inl (upd (fun _ => 0) 0 0)))]) rfl ?_
  refine J_if_eq (tgt := 31) dX12_rows_5 (by decide) (fun q => absurd q (by decide +kernel)) (fun _ => ?_)
  refine J_iload_n dX12_rows_8 rfl rfl ?_
  refine J_iconst (v := (-1)) dX12_rows_9 (by decide) ?_
  refine J_icmp_eq (tgt := 21) dX12_rows_10 (by decide) (fun _ => ?_) (fun q => absurd (by decide +kernel) q)
  refine J_iload_n dX12_rows_21 rfl rfl ?_
  refine J_iconst (v := 0) dX12_rows_22 (by decide) ?_
  refine J_bipush (v := 12) dX12_rows_23 (by decide +kernel) ?_
  refine J_callS (st := []) dX12_rows_25 cs_X12_138 (c_X12_lies_49 ) rfl rfl (Nat.le_of_ble_eq_true rfl) ⟨(Nat.le_of_ble_eq_true rfl), (Nat.le_of_ble_eq_true rfl)⟩ ⟨(Nat.le_of_ble_eq_true rfl), (Nat.le_of_ble_eq_true rfl)⟩ (fun r h9 hp => ?_)
  obtain ⟨rfl, rfl⟩ := hp
  refine J_nf (nh2 := nh) (ck2 := 0) (sk2 := 0) (st2 := [.int 1]) rfl rfl rfl rfl ?_
  refine J_if_ne (tgt := 35) dX12_rows_28 (by decide) (fun _ => ?_) (fun q => absurd q (by decide +kernel))
  refine J_aload_n dX12_rows_35 rfl rfl ?_
  refine J_callV (st := []) dX12_rows_36 cv_X12_328 (c_X12_looks_1 rfl hk100 hk114 hk116) rfl rfl rfl (Nat.le_of_ble_eq_true rfl) ⟨(Nat.le_of_ble_eq_true rfl), (Nat.le_of_ble_eq_true rfl)⟩ ⟨(Nat.le_of_ble_eq_true rfl), (Nat.le_of_ble_eq_true rfl)⟩ (fun r h9 hp => ?_)
  obtain ⟨rfl, rfl⟩ := hp
  refine J_nf (nh2 := nh) (ck2 := 0) (sk2 := 0) (st2 := []) rfl rfl rfl rfl ?_
  refine J_app (L3 := [(114, .inl (0, 1260, .inl (upd (fun _ => 0) 0 0))), (116, .inl (0, 1260, .inl (upd (fun _ => 0) 0 0))), (98, .inr (12, [.int 0, .int 0, .ref 99, .ref 100, .ref 101, .ref 102, .ref 103, .ref 104, .ref 105, .int 0, .int (-1), .ref 106, .ref 107, .ref 108, .int 0, .int 0, .int 0, .int 0, .int 0, .int 0, .int 0, .ref 109, .int 0, .int 0, .ref 110, .ref 111, .ref 112, .ref 113, .ref 114, .ref 115, .ref 116, .ref 117, .int 1, .int 0, .int 0, .int 0, .ref 118, .ref 119, .ref 120, .ref 121, .ref 122, .ref 123, .ref 124, .ref 125, .ref 126, .ref 127, .ref 128, .ref 129, .int 0, .ref 130, .ref 131, .ref 132, .ref 133, .ref 134, .int 0, .int 0])), (98, .inr (12, [.int 0, .int 0, .ref 99, .ref 100, .ref 101, .ref 102, .ref 103, .ref 104, .ref 105, .int 0, .int (-1), .ref 106, .ref 107, .ref 108, .int 0, .int 0, .int 0, .int 0, .int 0, .int 0, .int 0, .ref 109, .int 0, .int 0, .ref 110, .ref 111, .ref 112, .ref 113, .ref 114, .ref 115, .ref 116, .ref 117, .int 1, .int 0, .int 0, .int (-1), .ref 118, .ref 119, .ref 120, .ref 121, .ref 122, .ref 123, .ref 124, .ref 125, .ref 126, .ref 127, .ref 128, .ref 129, .int 0, .ref 130, .ref 131, .ref 132, .ref 133, .ref 134, .int 0, .int 0])), (111, .inl (0, 1260, .inl (upd (fun _ => 0) 0 0)))]) rfl ?_
  refine J_iconst (v := 0) dX12_rows_39 (by decide) ?_
  refine J_istore dX12_rows_40 (Nat.le_of_ble_eq_true rfl) rfl ?_
  refine J_iload dX12_rows_42 rfl ?_
  refine J_aload_n dX12_rows_44 rfl rfl ?_
  refine J_get (v := .int 1) dX12_rows_45 fl_X12_298 rfl rfl ?_
  refine J_icmp_ge (tgt := 75) dX12_rows_48 (by decide) (fun q => absurd q (by decide +kernel)) (fun _ => ?_)
  refine J_aload_n dX12_rows_51 rfl rfl ?_
  refine J_get (v := .ref 127) dX12_rows_52 fl_X12_113 rfl rfl ?_
  refine J_iload dX12_rows_55 rfl ?_
  refine J_iload dX12_rows_57 rfl ?_
  refine J_iload_n dX12_rows_59 rfl rfl ?_
  refine J_icmp_ne (tgt := 67) dX12_rows_60 (by decide) (fun q => absurd (by decide +kernel) q) (fun _ => ?_)
  refine J_lconst (v := 1) dX12_rows_63 (by decide +kernel) ?_
  refine J_goto (tgt := 68) dX12_rows_64 (by decide) ?_
  refine K_last (i2 := 0) dX12_rows_68 hk127 rfl (jin (by decide +kernel)) (by decide +kernel) ?_
  refine J_iinc (v := 1) dX12_rows_69 rfl (by decide +kernel) (Nat.le_of_ble_eq_true rfl) rfl ?_
  refine J_ls (ls2 := [some (.ref 98), some (.int 0), some (.int (-1)), some (.int 0), some (.int 1), none, none]) rfl ?_
  refine J_goto (tgt := 42) dX12_rows_72 (by decide) ?_
  refine J_iload dX12_rows_42 rfl ?_
  refine J_aload_n dX12_rows_44 rfl rfl ?_
  refine J_get (v := .int 1) dX12_rows_45 fl_X12_298 rfl rfl ?_
  refine J_icmp_ge (tgt := 75) dX12_rows_48 (by decide) (fun _ => ?_) (fun q => absurd (by decide +kernel) q)
  refine J_iconst (v := 0) dX12_rows_75 (by decide) ?_
  refine J_istore dX12_rows_76 (Nat.le_of_ble_eq_true rfl) rfl ?_
  refine J_iload dX12_rows_78 rfl ?_
  refine J_iload_n dX12_rows_80 rfl rfl ?_
  refine J_icmp_ge (tgt := 215) dX12_rows_81 (by decide) (fun _ => ?_) (fun q => absurd (by decide +kernel) q)
  refine J_iload_n dX12_rows_215 rfl rfl ?_
  refine J_iconst (v := (-1)) dX12_rows_216 (by decide) ?_
  refine J_icmp_eq (tgt := 227) dX12_rows_217 (by decide) (fun _ => ?_) (fun q => absurd (by decide +kernel) q)
  refine J_lconst (v := 0) dX12_rows_227 (by decide +kernel) ?_
  refine J_lstore dX12_rows_228 (Nat.le_of_ble_eq_true rfl) rfl ?_
  refine J_iconst (v := 0) dX12_rows_230 (by decide) ?_
  refine J_istore dX12_rows_231 (Nat.le_of_ble_eq_true rfl) rfl ?_
  refine J_iload dX12_rows_233 rfl ?_
  refine J_aload_n dX12_rows_235 rfl rfl ?_
  refine J_get (v := .int 1) dX12_rows_236 fl_X12_298 rfl rfl ?_
  refine J_icmp_ge (tgt := 260) dX12_rows_239 (by decide) (fun q => absurd q (by decide +kernel)) (fun _ => ?_)
  refine J_lload dX12_rows_242 rfl ?_
  refine J_aload_n dX12_rows_244 rfl rfl ?_
  refine J_get (v := .ref 127) dX12_rows_245 fl_X12_113 rfl rfl ?_
  refine J_iload dX12_rows_248 rfl ?_
  refine J_lald (i2 := 0) (v := 1) dX12_rows_250 rfl rfl (jin (by decide +kernel)) (by decide +kernel) rfl ?_
  refine J_ladd (z := 1) dX12_rows_251 (by decide +kernel) ?_
  refine J_lstore dX12_rows_252 (Nat.le_of_ble_eq_true rfl) rfl ?_
  refine J_iinc (v := 1) dX12_rows_254 rfl (by decide +kernel) (Nat.le_of_ble_eq_true rfl) rfl ?_
  refine J_ls (ls2 := [some (.ref 98), some (.int 0), some (.int (-1)), some (.int 0), some (.long 1), none, some (.int 1)]) rfl ?_
  refine J_goto (tgt := 233) dX12_rows_257 (by decide) ?_
  refine J_iload dX12_rows_233 rfl ?_
  refine J_aload_n dX12_rows_235 rfl rfl ?_
  refine J_get (v := .int 1) dX12_rows_236 fl_X12_298 rfl rfl ?_
  refine J_icmp_ge (tgt := 260) dX12_rows_239 (by decide) (fun _ => ?_) (fun q => absurd (by decide +kernel) q)
  refine J_lload dX12_rows_260 rfl ?_
  refine J_mask (L2 := [(127, .inl (1, 1260, .inr (.inl (vp_updL (fun _ => 0) 0 1)))), (114, .inl (0, 1260, .inl (upd (fun _ => 0) 0 0))), (116, .inl (0, 1260, .inl (upd (fun _ => 0) 0 0))), (98, .inr (12, [.int 0, .int 0, .ref 99, .ref 100, .ref 101, .ref 102, .ref 103, .ref 104, .ref 105, .int 0, .int (-1), .ref 106, .ref 107, .ref 108, .int 0, .int 0, .int 0, .int 0, .int 0, .int 0, .int 0, .ref 109, .int 0, .int 0, .ref 110, .ref 111, .ref 112, .ref 113, .ref 114, .ref 115, .ref 116, .ref 117, .int 1, .int 0, .int 0, .int 0, .ref 118, .ref 119, .ref 120, .ref 121, .ref 122, .ref 123, .ref 124, .ref 125, .ref 126, .ref 127, .ref 128, .ref 129, .int 0, .ref 130, .ref 131, .ref 132, .ref 133, .ref 134, .int 0, .int 0])), (111, .inl (0, 1260, .inl (upd (fun _ => 0) 0 0)))]) (ks := [127, 114, 116, 98, 98, 111]) [true, true, true, true, false, true] rfl (by decide +kernel) rfl ?_
  exact J_lret dX12_rows_262 rfl (Nat.le_of_ble_eq_true rfl) (Nat.le_of_ble_eq_true rfl) ⟨rfl, rfl⟩
set_option maxHeartbeats 4000000 in
set_option maxRecDepth 100000 in
theorem c_J7_fill_bad5a_2 {l : Launch} {G : jG} {nh : Nat} {fh : Nat → Option va_E} (hk74 : fh 74 = some (.inl (1, 1260, .inr (.inl (fun _ => 0))))) : JM l G yJ7_fill_bad5a MJ7_fill_bad5a { frames := 1, cells := 0, slots := 0, locals := 22 } [.ref 74, .int 0, .int 1, .long 0] (nh, fh) (fun r h9 => r = none ∧ h9 = (nh, hc fh [(74, .inl (1, 1260, .inr (.inl (vp_updL (fun _ => 0) 0 0))))])) := by
  refine JM.of (by decide) rfl (fun h => by cases h) (Nat.le_of_ble_eq_true rfl) ⟨1, rfl⟩ ?_
  refine J_hc0 (J_ls (ls2 := [some (.ref 74), some (.int 0), some (.int 1), some (.long 0), none, none]) rfl ?_)
  refine J_aload_n dJ7_fill_bad5a_0 rfl rfl ?_
  refine J_alen (v := 1260) dJ7_fill_bad5a_1 hk74 rfl (by decide +kernel) ?_
  refine J_iload_n dJ7_fill_bad5a_2 rfl rfl ?_
  refine J_iload_n dJ7_fill_bad5a_3 rfl rfl ?_
  refine J_callS (st := []) dJ7_fill_bad5a_4 cs_J7_13 (c_J7_rangeCheck_23922_1 ) rfl rfl (Nat.le_of_ble_eq_true rfl) ⟨(Nat.le_of_ble_eq_true rfl), (Nat.le_of_ble_eq_true rfl)⟩ ⟨(Nat.le_of_ble_eq_true rfl), (Nat.le_of_ble_eq_true rfl)⟩ (fun r h9 hp => ?_)
  obtain ⟨rfl, rfl⟩ := hp
  refine J_nf (nh2 := nh) (ck2 := 0) (sk2 := 0) (st2 := []) rfl rfl rfl rfl ?_
  refine J_iload_n dJ7_fill_bad5a_7 rfl rfl ?_
  refine J_istore dJ7_fill_bad5a_8 (Nat.le_of_ble_eq_true rfl) rfl ?_
  refine J_iload dJ7_fill_bad5a_10 rfl ?_
  refine J_iload_n dJ7_fill_bad5a_12 rfl rfl ?_
  refine J_icmp_ge (tgt := 27) dJ7_fill_bad5a_13 (by decide) (fun q => absurd q (by decide +kernel)) (fun _ => ?_)
  refine J_aload_n dJ7_fill_bad5a_16 rfl rfl ?_
  refine J_iload dJ7_fill_bad5a_17 rfl ?_
  refine J_lload_n dJ7_fill_bad5a_19 rfl rfl ?_
  refine K_last (i2 := 0) dJ7_fill_bad5a_20 hk74 rfl (jin (by decide +kernel)) (by decide +kernel) ?_
  refine J_iinc (v := 1) dJ7_fill_bad5a_21 rfl (by decide +kernel) (Nat.le_of_ble_eq_true rfl) rfl ?_
  refine J_ls (ls2 := [some (.ref 74), some (.int 0), some (.int 1), some (.long 0), none, some (.int 1)]) rfl ?_
  refine J_goto (tgt := 10) dJ7_fill_bad5a_24 (by decide) ?_
  refine J_iload dJ7_fill_bad5a_10 rfl ?_
  refine J_iload_n dJ7_fill_bad5a_12 rfl rfl ?_
  refine J_icmp_ge (tgt := 27) dJ7_fill_bad5a_13 (by decide) (fun _ => ?_) (fun q => absurd (by decide +kernel) q)
  exact J_vret dJ7_fill_bad5a_27 rfl (Nat.le_of_ble_eq_true rfl) (Nat.le_of_ble_eq_true rfl) ⟨rfl, rfl⟩
set_option maxHeartbeats 4000000 in
set_option maxRecDepth 100000 in
theorem c_X10_lengthenRows_1 {l : Launch} {G : jG} {nh : Nat} {fh : Nat → Option va_E} (hk1 : fh 1 = some (.inr (8, [.ref 2, .ref 3, .ref 4, .int 0, .int (-1), .ref 11, .ref 12, .int 0, .ref 13, .ref 14, .int 0, .ref 15, .ref 16, .int 0]))) (hk3 : fh 3 = some (.inl (0, 2, .inl (fun _ => 0)))) (hk51 : fh 51 = some (.inr (0, [.ref 52, .ref 53, .int 1, .int 0]))) (hk52 : fh 52 = some (.inl (0, 1260, .inl (upd (fun _ => 0) 0 0)))) (hk57 : fh 57 = some (.inr (9, [.ref 1, .ref 51, .ref 58, .ref 61, .ref 62, .ref 135, .ref 64, .int 0, .int 0, .int 0]))) (hk62 : fh 62 = some (.inl (0, 1260, .inl (upd (fun _ => 0) 0 (-1))))) (hk65 : fh 65 = some (.inr (10, [.ref 51, .ref 57, .ref 66, .ref 67, .ref 68, .int 0, .int (-1), .int (-1), .ref 69, .ref 70, .ref 71, .ref 72, .int 0, .int (-1), .int (-1), .ref 73, .ref 74]))) (hk73 : fh 73 = some (.inl (1, 1260, .inr (.inl (vp_updL (vp_updL (fun _ => 0) 0 0) 0 1))))) (hk74 : fh 74 = some (.inl (1, 1260, .inr (.inl (fun _ => 0))))) : JM l G yX10_lengthenRows MX10_lengthenRows { frames := 4, cells := 0, slots := 0, locals := 95 } [.ref 65, .int 1] (nh, fh) (fun r h9 => r = none ∧ h9 = (nh, hc fh [(65, .inr (10, [.ref 51, .ref 57, .ref 66, .ref 67, .ref 68, .int 0, .int (-1), .int (-1), .ref 69, .ref 70, .ref 71, .ref 72, .int 0, .int (-1), .int (-1), .ref 74, .ref 73])), (62, .inl (0, 1260, .inl (upd (upd (fun _ => 0) 0 (-1)) 0 0))), (74, .inl (1, 1260, .inr (.inl (vp_updL (fun _ => 0) 0 0))))])) := by
  refine JM.of (by decide) rfl (fun h => by cases h) (Nat.le_of_ble_eq_true rfl) ⟨3, rfl⟩ ?_
  refine J_hc0 (J_ls (ls2 := [some (.ref 65), some (.int 1), none, none, none]) rfl ?_)
  refine J_aload_n dX10_lengthenRows_0 rfl rfl ?_
  refine J_get (v := .ref 74) dX10_lengthenRows_1 fl_X10_56 hk65 rfl ?_
  refine J_iconst (v := 0) dX10_lengthenRows_4 (by decide) ?_
  refine J_iload_n dX10_lengthenRows_5 rfl rfl ?_
  refine J_lconst (v := 0) dX10_lengthenRows_6 (by decide +kernel) ?_
  refine J_callS (st := []) dX10_lengthenRows_7 cs_X10_127 (c_J7_fill_bad5a_2 hk74) rfl rfl (Nat.le_of_ble_eq_true rfl) ⟨(Nat.le_of_ble_eq_true rfl), (Nat.le_of_ble_eq_true rfl)⟩ ⟨(Nat.le_of_ble_eq_true rfl), (Nat.le_of_ble_eq_true rfl)⟩ (fun r h9 hp => ?_)
  obtain ⟨rfl, rfl⟩ := hp
  refine J_nf (nh2 := nh) (ck2 := 0) (sk2 := 0) (st2 := []) rfl rfl rfl rfl ?_
  refine J_app (L3 := [(74, .inl (1, 1260, .inr (.inl (vp_updL (fun _ => 0) 0 0))))]) rfl ?_
  refine J_iconst (v := 0) dX10_lengthenRows_10 (by decide) ?_
  refine J_istore_n dX10_lengthenRows_11 rfl (Nat.le_of_ble_eq_true rfl) rfl ?_
  refine J_iload_n dX10_lengthenRows_12 rfl rfl ?_
  refine J_iload_n dX10_lengthenRows_13 rfl rfl ?_
  refine J_icmp_ge (tgt := 86) dX10_lengthenRows_14 (by decide) (fun q => absurd q (by decide +kernel)) (fun _ => ?_)
  refine J_aload_n dX10_lengthenRows_17 rfl rfl ?_
  refine J_get (v := .ref 73) dX10_lengthenRows_18 fl_X10_52 hk65 rfl ?_
  refine J_iload_n dX10_lengthenRows_21 rfl rfl ?_
  refine J_lald (i2 := 0) (v := 1) dX10_lengthenRows_22 hk73 rfl (jin (by decide +kernel)) (by decide +kernel) rfl ?_
  refine J_lconst (v := 0) dX10_lengthenRows_23 (by decide +kernel) ?_
  refine J_lcmp (z := 1) dX10_lengthenRows_24 (by decide +kernel) ?_
  refine J_if_ne (tgt := 32) dX10_lengthenRows_25 (by decide) (fun _ => ?_) (fun q => absurd q (by decide +kernel))
  refine J_aload_n dX10_lengthenRows_32 rfl rfl ?_
  refine J_get (v := .ref 57) dX10_lengthenRows_33 fl_X10_63 hk65 rfl ?_
  refine J_iload_n dX10_lengthenRows_36 rfl rfl ?_
  refine J_callV (st := []) dX10_lengthenRows_37 cv_X10_95 (c_X9_degree_1 hk1 hk3 hk51 hk52 hk57 hk62) hk57 rfl rfl (Nat.le_of_ble_eq_true rfl) ⟨(Nat.le_of_ble_eq_true rfl), (Nat.le_of_ble_eq_true rfl)⟩ ⟨(Nat.le_of_ble_eq_true rfl), (Nat.le_of_ble_eq_true rfl)⟩ (fun r h9 hp => ?_)
  obtain ⟨rfl, rfl⟩ := hp
  refine J_nf (nh2 := nh) (ck2 := 0) (sk2 := 0) (st2 := [.int 0]) rfl rfl rfl rfl ?_
  refine J_app (L3 := [(62, .inl (0, 1260, .inl (upd (upd (fun _ => 0) 0 (-1)) 0 0))), (74, .inl (1, 1260, .inr (.inl (vp_updL (fun _ => 0) 0 0))))]) rfl ?_
  refine J_istore_n dX10_lengthenRows_40 rfl (Nat.le_of_ble_eq_true rfl) rfl ?_
  refine J_iconst (v := 0) dX10_lengthenRows_41 (by decide) ?_
  refine J_istore dX10_lengthenRows_42 (Nat.le_of_ble_eq_true rfl) rfl ?_
  refine J_iload dX10_lengthenRows_44 rfl ?_
  refine J_iload_n dX10_lengthenRows_46 rfl rfl ?_
  refine J_icmp_ge (tgt := 80) dX10_lengthenRows_47 (by decide) (fun _ => ?_) (fun q => absurd (by decide +kernel) q)
  refine J_iinc (v := 1) dX10_lengthenRows_80 rfl (by decide +kernel) (Nat.le_of_ble_eq_true rfl) rfl ?_
  refine J_ls (ls2 := [some (.ref 65), some (.int 1), some (.int 1), some (.int 0), some (.int 0)]) rfl ?_
  refine J_goto (tgt := 12) dX10_lengthenRows_83 (by decide) ?_
  refine J_iload_n dX10_lengthenRows_12 rfl rfl ?_
  refine J_iload_n dX10_lengthenRows_13 rfl rfl ?_
  refine J_icmp_ge (tgt := 86) dX10_lengthenRows_14 (by decide) (fun _ => ?_) (fun q => absurd (by decide +kernel) q)
  refine J_aload_n dX10_lengthenRows_86 rfl rfl ?_
  refine J_get (v := .ref 73) dX10_lengthenRows_87 fl_X10_52 hk65 rfl ?_
  refine J_astore_n dX10_lengthenRows_90 rfl (Nat.le_of_ble_eq_true rfl) rfl ?_
  refine J_aload_n dX10_lengthenRows_91 rfl rfl ?_
  refine J_aload_n dX10_lengthenRows_92 rfl rfl ?_
  refine J_get (v := .ref 74) dX10_lengthenRows_93 fl_X10_56 hk65 rfl ?_
  refine K_put (fs2 := [.ref 51, .ref 57, .ref 66, .ref 67, .ref 68, .int 0, .int (-1), .int (-1), .ref 69, .ref 70, .ref 71, .ref 72, .int 0, .int (-1), .int (-1), .ref 74, .ref 74]) dX10_lengthenRows_96 fw_X10_52 hk65 (Nat.le_of_ble_eq_true rfl) (fun _ => ⟨rfl, rfl⟩) rfl ?_
  refine J_aload_n dX10_lengthenRows_99 rfl rfl ?_
  refine J_aload_n dX10_lengthenRows_100 rfl rfl ?_
  refine K_put (fs2 := [.ref 51, .ref 57, .ref 66, .ref 67, .ref 68, .int 0, .int (-1), .int (-1), .ref 69, .ref 70, .ref 71, .ref 72, .int 0, .int (-1), .int (-1), .ref 74, .ref 73]) dX10_lengthenRows_101 fw_X10_56 rfl (Nat.le_of_ble_eq_true rfl) (fun _ => ⟨rfl, rfl⟩) rfl ?_
  refine J_mask (L2 := [(65, .inr (10, [.ref 51, .ref 57, .ref 66, .ref 67, .ref 68, .int 0, .int (-1), .int (-1), .ref 69, .ref 70, .ref 71, .ref 72, .int 0, .int (-1), .int (-1), .ref 74, .ref 73])), (62, .inl (0, 1260, .inl (upd (upd (fun _ => 0) 0 (-1)) 0 0))), (74, .inl (1, 1260, .inr (.inl (vp_updL (fun _ => 0) 0 0))))]) (ks := [65, 65, 62, 74]) [true, false, true, true] rfl (by decide +kernel) rfl ?_
  exact J_vret dX10_lengthenRows_104 rfl (Nat.le_of_ble_eq_true rfl) (Nat.le_of_ble_eq_true rfl) ⟨rfl, rfl⟩
set_option maxHeartbeats 4000000 in
set_option maxRecDepth 100000 in
theorem c_X10_rowsTo_2 {l : Launch} {G : jG} {nh : Nat} {fh : Nat → Option va_E} (hk1 : fh 1 = some (.inr (8, [.ref 2, .ref 3, .ref 4, .int 0, .int (-1), .ref 11, .ref 12, .int 0, .ref 13, .ref 14, .int 0, .ref 15, .ref 16, .int 0]))) (hk3 : fh 3 = some (.inl (0, 2, .inl (fun _ => 0)))) (hk51 : fh 51 = some (.inr (0, [.ref 52, .ref 53, .int 1, .int 0]))) (hk52 : fh 52 = some (.inl (0, 1260, .inl (upd (fun _ => 0) 0 0)))) (hk57 : fh 57 = some (.inr (9, [.ref 1, .ref 51, .ref 58, .ref 61, .ref 62, .ref 135, .ref 64, .int 0, .int 0, .int 0]))) (hk62 : fh 62 = some (.inl (0, 1260, .inl (upd (fun _ => 0) 0 (-1))))) (hk65 : fh 65 = some (.inr (10, [.ref 51, .ref 57, .ref 66, .ref 67, .ref 68, .int 0, .int (-1), .int (-1), .ref 69, .ref 70, .ref 71, .ref 72, .int 0, .int (-1), .int (-1), .ref 73, .ref 74]))) (hk73 : fh 73 = some (.inl (1, 1260, .inr (.inl (fun _ => 0))))) (hk74 : fh 74 = some (.inl (1, 1260, .inr (.inl (fun _ => 0))))) : JM l G yX10_rowsTo MX10_rowsTo { frames := 5, cells := 0, slots := 0, locals := 119 } [.ref 65, .int 0, .int (-1), .int 1] (nh, fh) (fun r h9 => r = some (.long 0) ∧ h9 = (nh, hc fh [(65, .inr (10, [.ref 51, .ref 57, .ref 66, .ref 67, .ref 68, .int 0, .int (-1), .int (-1), .ref 69, .ref 70, .ref 71, .ref 72, .int 0, .int (-1), .int (-1), .ref 74, .ref 73])), (62, .inl (0, 1260, .inl (upd (upd (fun _ => 0) 0 (-1)) 0 0))), (74, .inl (1, 1260, .inr (.inl (vp_updL (fun _ => 0) 0 0)))), (73, .inl (1, 1260, .inr (.inl (vp_updL (vp_updL (fun _ => 0) 0 0) 0 1))))])) := by
  refine JM.of (by decide) rfl (fun h => by cases h) (Nat.le_of_ble_eq_true rfl) ⟨4, rfl⟩ ?_
  refine J_hc0 (J_ls (ls2 := [some (.ref 65), some (.int 0), some (.int (-1)), some (.int 1), none, none, none, none]) rfl ?_)
  refine J_aload_n dX10_rowsTo_0 rfl rfl ?_
  refine J_get (v := .ref 51) dX10_rowsTo_1 fl_X10_59 hk65 rfl ?_
  refine J_callV (st := []) dX10_rowsTo_4 cv_X10_83 (c_X0_many_1 hk51) hk51 rfl rfl (Nat.le_of_ble_eq_true rfl) ⟨(Nat.le_of_ble_eq_true rfl), (Nat.le_of_ble_eq_true rfl)⟩ ⟨(Nat.le_of_ble_eq_true rfl), (Nat.le_of_ble_eq_true rfl)⟩ (fun r h9 hp => ?_)
  obtain ⟨rfl, rfl⟩ := hp
  refine J_nf (nh2 := nh) (ck2 := 0) (sk2 := 0) (st2 := [.int 1]) rfl rfl rfl rfl ?_
  refine J_istore dX10_rowsTo_7 (Nat.le_of_ble_eq_true rfl) rfl ?_
  refine J_aload_n dX10_rowsTo_9 rfl rfl ?_
  refine J_get (v := .ref 73) dX10_rowsTo_10 fl_X10_52 hk65 rfl ?_
  refine J_iconst (v := 0) dX10_rowsTo_13 (by decide) ?_
  refine J_iload dX10_rowsTo_14 rfl ?_
  refine J_lconst (v := 0) dX10_rowsTo_16 (by decide +kernel) ?_
  refine J_callS (st := []) dX10_rowsTo_17 cs_X10_127 (c_J7_fill_bad5a_1 hk73) rfl rfl (Nat.le_of_ble_eq_true rfl) ⟨(Nat.le_of_ble_eq_true rfl), (Nat.le_of_ble_eq_true rfl)⟩ ⟨(Nat.le_of_ble_eq_true rfl), (Nat.le_of_ble_eq_true rfl)⟩ (fun r h9 hp => ?_)
  obtain ⟨rfl, rfl⟩ := hp
  refine J_nf (nh2 := nh) (ck2 := 0) (sk2 := 0) (st2 := []) rfl rfl rfl rfl ?_
  refine J_app (L3 := [(73, .inl (1, 1260, .inr (.inl (vp_updL (fun _ => 0) 0 0))))]) rfl ?_
  refine J_aload_n dX10_rowsTo_20 rfl rfl ?_
  refine J_get (v := .ref 73) dX10_rowsTo_21 fl_X10_52 hk65 rfl ?_
  refine J_iload_n dX10_rowsTo_24 rfl rfl ?_
  refine J_lconst (v := 1) dX10_rowsTo_25 (by decide +kernel) ?_
  refine K_last (i2 := 0) dX10_rowsTo_26 rfl rfl (jin (by decide +kernel)) (by decide +kernel) ?_
  refine J_iconst (v := 0) dX10_rowsTo_27 (by decide) ?_
  refine J_istore dX10_rowsTo_28 (Nat.le_of_ble_eq_true rfl) rfl ?_
  refine J_iload dX10_rowsTo_30 rfl ?_
  refine J_iload_n dX10_rowsTo_32 rfl rfl ?_
  refine J_icmp_ge (tgt := 48) dX10_rowsTo_33 (by decide) (fun q => absurd q (by decide +kernel)) (fun _ => ?_)
  refine J_aload_n dX10_rowsTo_36 rfl rfl ?_
  refine J_iload dX10_rowsTo_37 rfl ?_
  refine J_callV (st := []) dX10_rowsTo_39 cv_X10_130 (c_X10_lengthenRows_1 hk1 hk3 hk51 hk52 hk57 hk62 hk65 rfl hk74) hk65 rfl rfl (Nat.le_of_ble_eq_true rfl) ⟨(Nat.le_of_ble_eq_true rfl), (Nat.le_of_ble_eq_true rfl)⟩ ⟨(Nat.le_of_ble_eq_true rfl), (Nat.le_of_ble_eq_true rfl)⟩ (fun r h9 hp => ?_)
  obtain ⟨rfl, rfl⟩ := hp
  refine J_nf (nh2 := nh) (ck2 := 0) (sk2 := 0) (st2 := []) rfl rfl rfl rfl ?_
  refine J_app (L3 := [(65, .inr (10, [.ref 51, .ref 57, .ref 66, .ref 67, .ref 68, .int 0, .int (-1), .int (-1), .ref 69, .ref 70, .ref 71, .ref 72, .int 0, .int (-1), .int (-1), .ref 74, .ref 73])), (62, .inl (0, 1260, .inl (upd (upd (fun _ => 0) 0 (-1)) 0 0))), (74, .inl (1, 1260, .inr (.inl (vp_updL (fun _ => 0) 0 0)))), (73, .inl (1, 1260, .inr (.inl (vp_updL (vp_updL (fun _ => 0) 0 0) 0 1)))), (73, .inl (1, 1260, .inr (.inl (vp_updL (fun _ => 0) 0 0))))]) rfl ?_
  refine J_iinc (v := 1) dX10_rowsTo_42 rfl (by decide +kernel) (Nat.le_of_ble_eq_true rfl) rfl ?_
  refine J_ls (ls2 := [some (.ref 65), some (.int 0), some (.int (-1)), some (.int 1), some (.int 1), some (.int 1), none, none]) rfl ?_
  refine J_goto (tgt := 30) dX10_rowsTo_45 (by decide) ?_
  refine J_iload dX10_rowsTo_30 rfl ?_
  refine J_iload_n dX10_rowsTo_32 rfl rfl ?_
  refine J_icmp_ge (tgt := 48) dX10_rowsTo_33 (by decide) (fun _ => ?_) (fun q => absurd (by decide +kernel) q)
  refine J_iload_n dX10_rowsTo_48 rfl rfl ?_
  refine J_iconst (v := (-1)) dX10_rowsTo_49 (by decide) ?_
  refine J_icmp_eq (tgt := 60) dX10_rowsTo_50 (by decide) (fun _ => ?_) (fun q => absurd (by decide +kernel) q)
  refine J_lconst (v := 0) dX10_rowsTo_60 (by decide +kernel) ?_
  refine J_lstore dX10_rowsTo_61 (Nat.le_of_ble_eq_true rfl) rfl ?_
  refine J_iconst (v := 0) dX10_rowsTo_63 (by decide) ?_
  refine J_istore dX10_rowsTo_64 (Nat.le_of_ble_eq_true rfl) rfl ?_
  refine J_iload dX10_rowsTo_66 rfl ?_
  refine J_iload dX10_rowsTo_68 rfl ?_
  refine J_icmp_ge (tgt := 91) dX10_rowsTo_70 (by decide) (fun q => absurd q (by decide +kernel)) (fun _ => ?_)
  refine J_lload dX10_rowsTo_73 rfl ?_
  refine J_aload_n dX10_rowsTo_75 rfl rfl ?_
  refine J_get (v := .ref 74) dX10_rowsTo_76 fl_X10_52 rfl rfl ?_
  refine J_iload dX10_rowsTo_79 rfl ?_
  refine J_lald (i2 := 0) (v := 0) dX10_rowsTo_81 rfl rfl (jin (by decide +kernel)) (by decide +kernel) rfl ?_
  refine J_ladd (z := 0) dX10_rowsTo_82 (by decide +kernel) ?_
  refine J_lstore dX10_rowsTo_83 (Nat.le_of_ble_eq_true rfl) rfl ?_
  refine J_iinc (v := 1) dX10_rowsTo_85 rfl (by decide +kernel) (Nat.le_of_ble_eq_true rfl) rfl ?_
  refine J_ls (ls2 := [some (.ref 65), some (.int 0), some (.int (-1)), some (.int 1), some (.int 1), some (.long 0), none, some (.int 1)]) rfl ?_
  refine J_goto (tgt := 66) dX10_rowsTo_88 (by decide) ?_
  refine J_iload dX10_rowsTo_66 rfl ?_
  refine J_iload dX10_rowsTo_68 rfl ?_
  refine J_icmp_ge (tgt := 91) dX10_rowsTo_70 (by decide) (fun _ => ?_) (fun q => absurd (by decide +kernel) q)
  refine J_lload dX10_rowsTo_91 rfl ?_
  refine J_mask (L2 := [(65, .inr (10, [.ref 51, .ref 57, .ref 66, .ref 67, .ref 68, .int 0, .int (-1), .int (-1), .ref 69, .ref 70, .ref 71, .ref 72, .int 0, .int (-1), .int (-1), .ref 74, .ref 73])), (62, .inl (0, 1260, .inl (upd (upd (fun _ => 0) 0 (-1)) 0 0))), (74, .inl (1, 1260, .inr (.inl (vp_updL (fun _ => 0) 0 0)))), (73, .inl (1, 1260, .inr (.inl (vp_updL (vp_updL (fun _ => 0) 0 0) 0 1))))]) (ks := [65, 62, 74, 73, 73]) [true, true, true, true, false] rfl (by decide +kernel) rfl ?_
  exact J_lret dX10_rowsTo_93 rfl (Nat.le_of_ble_eq_true rfl) (Nat.le_of_ble_eq_true rfl) ⟨rfl, rfl⟩
set_option maxHeartbeats 4000000 in
set_option maxRecDepth 100000 in
theorem c_X11_rows_5 {l : Launch} {G : jG} {fh : Nat → Option va_E} (hk0 : fh 0 = some (.inr (11, [.ref 1, .ref 17, .ref 50, .ref 51, .ref 54, .ref 57, .ref 65, .ref 75, .ref 81, .ref 85, .ref 88, .ref 93, .ref 96, .int 0, .int (-1), .ref 97, .int 0]))) (hk1 : fh 1 = some (.inr (8, [.ref 2, .ref 3, .ref 4, .int 0, .int (-1), .ref 11, .ref 12, .int 0, .ref 13, .ref 14, .int 0, .ref 15, .ref 16, .int 0]))) (hk3 : fh 3 = some (.inl (0, 2, .inl (fun _ => 0)))) (hk51 : fh 51 = some (.inr (0, [.ref 52, .ref 53, .int 1, .int 0]))) (hk52 : fh 52 = some (.inl (0, 1260, .inl (upd (fun _ => 0) 0 0)))) (hk57 : fh 57 = some (.inr (9, [.ref 1, .ref 51, .ref 58, .ref 61, .ref 62, .ref 63, .ref 64, .int 0, .int 1, .int 1]))) (hk58 : fh 58 = some (.inr (1, [.ref 59, .ref 60, .int 0, .int 0, .int 0, .int 0, .int 0, .int 1]))) (hk59 : fh 59 = some (.inl (0, 8, .inl (fun _ => 0)))) (hk62 : fh 62 = some (.inl (0, 1260, .inl (fun _ => 0)))) (hk63 : fh 63 = some (.inl (0, 0, .inl (fun _ => 0)))) (hk65 : fh 65 = some (.inr (10, [.ref 51, .ref 57, .ref 66, .ref 67, .ref 68, .int 0, .int (-1), .int (-1), .ref 69, .ref 70, .ref 71, .ref 72, .int 0, .int (-1), .int (-1), .ref 73, .ref 74]))) (hk73 : fh 73 = some (.inl (1, 1260, .inr (.inl (fun _ => 0))))) (hk74 : fh 74 = some (.inl (1, 1260, .inr (.inl (fun _ => 0))))) : JM l G yX11_rows MX11_rows { frames := 6, cells := 1, slots := 22, locals := 146 } [.ref 0, .int 0, .int (-1), .int 1] (135, fh) (fun r h9 => r = some (.long 0) ∧ h9 = (136, hc fh [(65, .inr (10, [.ref 51, .ref 57, .ref 66, .ref 67, .ref 68, .int 0, .int (-1), .int (-1), .ref 69, .ref 70, .ref 71, .ref 72, .int 0, .int (-1), .int (-1), .ref 74, .ref 73])), (62, .inl (0, 1260, .inl (upd (upd (fun _ => 0) 0 (-1)) 0 0))), (74, .inl (1, 1260, .inr (.inl (vp_updL (fun _ => 0) 0 0)))), (73, .inl (1, 1260, .inr (.inl (vp_updL (vp_updL (fun _ => 0) 0 0) 0 1)))), (57, .inr (9, [.ref 1, .ref 51, .ref 58, .ref 61, .ref 62, .ref 135, .ref 64, .int 0, .int 0, .int 0])), (135, .inl (0, 22, .inl (fun _ => 0))), (59, .inl (0, 8, .inl (upd (upd (fun _ => 0) 6 0) 7 0)))])) := by
  refine JM.of (by decide) rfl (fun h => by cases h) (Nat.le_of_ble_eq_true rfl) ⟨0, rfl⟩ ?_
  refine J_hc0 (J_ls (ls2 := [some (.ref 0), some (.int 0), some (.int (-1)), some (.int 1)]) rfl ?_)
  refine J_aload_n dX11_rows_0 rfl rfl ?_
  refine J_get (v := .ref 51) dX11_rows_1 fl_X11_27 hk0 rfl ?_
  refine J_iload_n dX11_rows_4 rfl rfl ?_
  refine J_callV (st := []) dX11_rows_5 cv_X11_135 (c_X0_has_2 hk51) hk51 rfl rfl (Nat.le_of_ble_eq_true rfl) ⟨(Nat.le_of_ble_eq_true rfl), (Nat.le_of_ble_eq_true rfl)⟩ ⟨(Nat.le_of_ble_eq_true rfl), (Nat.le_of_ble_eq_true rfl)⟩ (fun r h9 hp => ?_)
  obtain ⟨rfl, rfl⟩ := hp
  refine J_nf (nh2 := 135) (ck2 := 0) (sk2 := 0) (st2 := [.int 1]) rfl rfl rfl rfl ?_
  refine J_if_eq (tgt := 37) dX11_rows_8 (by decide) (fun q => absurd q (by decide +kernel)) (fun _ => ?_)
  refine J_iload_n dX11_rows_11 rfl rfl ?_
  refine J_iconst (v := (-1)) dX11_rows_12 (by decide) ?_
  refine J_icmp_eq (tgt := 27) dX11_rows_13 (by decide) (fun _ => ?_) (fun q => absurd (by decide +kernel) q)
  refine J_iload_n dX11_rows_27 rfl rfl ?_
  refine J_if_lt (tgt := 37) dX11_rows_28 (by decide) (fun q => absurd q (by decide +kernel)) (fun _ => ?_)
  refine J_iload_n dX11_rows_31 rfl rfl ?_
  refine J_bipush (v := 12) dX11_rows_32 (by decide +kernel) ?_
  refine J_icmp_le (tgt := 41) dX11_rows_34 (by decide) (fun _ => ?_) (fun q => absurd (by decide +kernel) q)
  refine J_aload_n dX11_rows_41 rfl rfl ?_
  refine J_get (v := .ref 57) dX11_rows_42 fl_X11_43 hk0 rfl ?_
  refine J_callV (st := []) dX11_rows_45 cv_X11_217 (c_X9_prepare_1 hk1 hk3 hk51 hk57 hk58 hk59 hk62 hk63) hk57 rfl rfl (Nat.le_of_ble_eq_true rfl) ⟨(Nat.le_of_ble_eq_true rfl), (Nat.le_of_ble_eq_true rfl)⟩ ⟨(Nat.le_of_ble_eq_true rfl), (Nat.le_of_ble_eq_true rfl)⟩ (fun r h9 hp => ?_)
  obtain ⟨rfl, rfl⟩ := hp
  refine J_nf (nh2 := 136) (ck2 := 1) (sk2 := 22) (st2 := []) rfl rfl rfl rfl ?_
  refine J_app (L3 := [(57, .inr (9, [.ref 1, .ref 51, .ref 58, .ref 61, .ref 62, .ref 135, .ref 64, .int 0, .int 0, .int 0])), (62, .inl (0, 1260, .inl (upd (fun _ => 0) 0 (-1)))), (135, .inl (0, 22, .inl (fun _ => 0))), (59, .inl (0, 8, .inl (upd (upd (fun _ => 0) 6 0) 7 0)))]) rfl ?_
  refine J_aload_n dX11_rows_48 rfl rfl ?_
  refine J_get (v := .ref 65) dX11_rows_49 fl_X11_52 hk0 rfl ?_
  refine J_iload_n dX11_rows_52 rfl rfl ?_
  refine J_iload_n dX11_rows_53 rfl rfl ?_
  refine J_iload_n dX11_rows_54 rfl rfl ?_
  refine J_callV (st := []) dX11_rows_55 cv_X11_256 (c_X10_rowsTo_2 hk1 hk3 hk51 hk52 rfl rfl hk65 hk73 hk74) hk65 rfl rfl (Nat.le_of_ble_eq_true rfl) ⟨(Nat.le_of_ble_eq_true rfl), (Nat.le_of_ble_eq_true rfl)⟩ ⟨(Nat.le_of_ble_eq_true rfl), (Nat.le_of_ble_eq_true rfl)⟩ (fun r h9 hp => ?_)
  obtain ⟨rfl, rfl⟩ := hp
  refine J_nf (nh2 := 136) (ck2 := 1) (sk2 := 22) (st2 := [.long 0]) rfl rfl rfl rfl ?_
  refine J_app (L3 := [(65, .inr (10, [.ref 51, .ref 57, .ref 66, .ref 67, .ref 68, .int 0, .int (-1), .int (-1), .ref 69, .ref 70, .ref 71, .ref 72, .int 0, .int (-1), .int (-1), .ref 74, .ref 73])), (62, .inl (0, 1260, .inl (upd (upd (fun _ => 0) 0 (-1)) 0 0))), (74, .inl (1, 1260, .inr (.inl (vp_updL (fun _ => 0) 0 0)))), (73, .inl (1, 1260, .inr (.inl (vp_updL (vp_updL (fun _ => 0) 0 0) 0 1)))), (57, .inr (9, [.ref 1, .ref 51, .ref 58, .ref 61, .ref 62, .ref 135, .ref 64, .int 0, .int 0, .int 0])), (62, .inl (0, 1260, .inl (upd (fun _ => 0) 0 (-1)))), (135, .inl (0, 22, .inl (fun _ => 0))), (59, .inl (0, 8, .inl (upd (upd (fun _ => 0) 6 0) 7 0)))]) rfl ?_
  refine J_mask (L2 := [(65, .inr (10, [.ref 51, .ref 57, .ref 66, .ref 67, .ref 68, .int 0, .int (-1), .int (-1), .ref 69, .ref 70, .ref 71, .ref 72, .int 0, .int (-1), .int (-1), .ref 74, .ref 73])), (62, .inl (0, 1260, .inl (upd (upd (fun _ => 0) 0 (-1)) 0 0))), (74, .inl (1, 1260, .inr (.inl (vp_updL (fun _ => 0) 0 0)))), (73, .inl (1, 1260, .inr (.inl (vp_updL (vp_updL (fun _ => 0) 0 0) 0 1)))), (57, .inr (9, [.ref 1, .ref 51, .ref 58, .ref 61, .ref 62, .ref 135, .ref 64, .int 0, .int 0, .int 0])), (135, .inl (0, 22, .inl (fun _ => 0))), (59, .inl (0, 8, .inl (upd (upd (fun _ => 0) 6 0) 7 0)))]) (ks := [65, 62, 74, 73, 57, 62, 135, 59]) [true, true, true, true, true, false, true, true] rfl (by decide +kernel) rfl ?_
  exact J_lret dX11_rows_58 rfl (Nat.le_of_ble_eq_true rfl) (Nat.le_of_ble_eq_true rfl) ⟨rfl, rfl⟩
set_option maxHeartbeats 4000000 in
set_option maxRecDepth 100000 in
theorem c_X12_lies_50 {l : Launch} {G : jG} {nh : Nat} {fh : Nat → Option va_E}  : JM l G yX12_lies MX12_lies { frames := 0, cells := 0, slots := 0, locals := 0 } [.int 1, .int 0, .int 12] (nh, fh) (fun r h9 => r = some (.int 1) ∧ h9 = (nh, fh)) := by
  refine JM.of (by decide) rfl (fun h => by cases h) (Nat.le_of_ble_eq_true rfl) ⟨0, rfl⟩ ?_
  refine J_hc0 (J_ls (ls2 := [some (.int 1), some (.int 0), some (.int 12)]) rfl ?_)
  refine J_iload_n dX12_lies_0 rfl rfl ?_
  refine J_iload_n dX12_lies_1 rfl rfl ?_
  refine J_icmp_lt (tgt := 14) dX12_lies_2 (by decide) (fun q => absurd q (by decide +kernel)) (fun _ => ?_)
  refine J_iload_n dX12_lies_5 rfl rfl ?_
  refine J_iload_n dX12_lies_6 rfl rfl ?_
  refine J_icmp_gt (tgt := 14) dX12_lies_7 (by decide) (fun q => absurd q (by decide +kernel)) (fun _ => ?_)
  refine J_iconst (v := 1) dX12_lies_10 (by decide) ?_
  refine J_goto (tgt := 15) dX12_lies_11 (by decide) ?_
  exact J_iret dX12_lies_15 rfl (by decide +kernel) (Nat.le_of_ble_eq_true rfl) (Nat.le_of_ble_eq_true rfl) ⟨rfl, rfl⟩
set_option maxHeartbeats 4000000 in
set_option maxRecDepth 100000 in
theorem c_X12_rows_5 {l : Launch} {G : jG} {nh : Nat} {fh : Nat → Option va_E} (hk98 : fh 98 = some (.inr (12, [.int 0, .int 0, .ref 99, .ref 100, .ref 101, .ref 102, .ref 103, .ref 104, .ref 105, .int 0, .int (-1), .ref 106, .ref 107, .ref 108, .int 0, .int 0, .int 0, .int 0, .int 0, .int 0, .int 0, .ref 109, .int 0, .int 0, .ref 110, .ref 111, .ref 112, .ref 113, .ref 114, .ref 115, .ref 116, .ref 117, .int 0, .int 0, .int (-1), .int (-1), .ref 118, .ref 119, .ref 120, .ref 121, .ref 122, .ref 123, .ref 124, .ref 125, .ref 126, .ref 127, .ref 128, .ref 129, .int 0, .ref 130, .ref 131, .ref 132, .ref 133, .ref 134, .int 0, .int 0]))) (hk100 : fh 100 = some (.inl (0, 4870, .inl (upd (fun _ => 0) 63 (-1))))) (hk111 : fh 111 = some (.inl (0, 1260, .inl (fun _ => 0)))) (hk114 : fh 114 = some (.inl (0, 1260, .inl (fun _ => 0)))) (hk116 : fh 116 = some (.inl (0, 1260, .inl (fun _ => 0)))) (hk127 : fh 127 = some (.inl (1, 1260, .inr (.inl (fun _ => 0))))) (hk128 : fh 128 = some (.inl (1, 1260, .inr (.inl (fun _ => 0))))) : JM l G yX12_rows MX12_rows { frames := 3, cells := 0, slots := 0, locals := 69 } [.ref 98, .int 0, .int (-1), .int 1] (nh, fh) (fun r h9 => r = some (.long 0) ∧ h9 = (nh, hc fh [(127, .inl (1, 1260, .inr (.inl (vp_updL (vp_updL (fun _ => 0) 0 1) 0 0)))), (128, .inl (1, 1260, .inr (.inl (vp_updL (fun _ => 0) 0 0)))), (114, .inl (0, 1260, .inl (upd (fun _ => 0) 0 0))), (116, .inl (0, 1260, .inl (upd (fun _ => 0) 0 0))), (98, .inr (12, [.int 0, .int 0, .ref 99, .ref 100, .ref 101, .ref 102, .ref 103, .ref 104, .ref 105, .int 0, .int (-1), .ref 106, .ref 107, .ref 108, .int 0, .int 0, .int 0, .int 0, .int 0, .int 0, .int 0, .ref 109, .int 0, .int 0, .ref 110, .ref 111, .ref 112, .ref 113, .ref 114, .ref 115, .ref 116, .ref 117, .int 1, .int 0, .int 0, .int 0, .ref 118, .ref 119, .ref 120, .ref 121, .ref 122, .ref 123, .ref 124, .ref 125, .ref 126, .ref 127, .ref 128, .ref 129, .int 0, .ref 130, .ref 131, .ref 132, .ref 133, .ref 134, .int 0, .int 0])), (111, .inl (0, 1260, .inl (upd (fun _ => 0) 0 0)))])) := by
  refine JM.of (by decide) rfl (fun h => by cases h) (Nat.le_of_ble_eq_true rfl) ⟨3, rfl⟩ ?_
  refine J_hc0 (J_ls (ls2 := [some (.ref 98), some (.int 0), some (.int (-1)), some (.int 1), none, none, none]) rfl ?_)
  refine J_aload_n dX12_rows_0 rfl rfl ?_
  refine J_iload_n dX12_rows_1 rfl rfl ?_
  refine J_callV (st := []) dX12_rows_2 cv_X12_325 (c_X12_isHouse_2 hk98 hk100 hk111) hk98 rfl rfl (Nat.le_of_ble_eq_true rfl) ⟨(Nat.le_of_ble_eq_true rfl), (Nat.le_of_ble_eq_true rfl)⟩ ⟨(Nat.le_of_ble_eq_true rfl), (Nat.le_of_ble_eq_true rfl)⟩ (fun r h9 hp => ?_)
  obtain ⟨rfl, rfl⟩ := hp
  refine J_nf (nh2 := nh) (ck2 := 0) (sk2 := 0) (st2 := [.int 1]) rfl rfl rfl rfl ?_
  refine J_app (L3 := [(98, .inr (12, [.int 0, .int 0, .ref 99, .ref 100, .ref 101, .ref 102, .ref 103, .ref 104, .ref 105, .int 0, .int (-1), .ref 106, .ref 107, .ref 108, .int 0, .int 0, .int 0, .int 0, .int 0, .int 0, .int 0, .ref 109, .int 0, .int 0, .ref 110, .ref 111, .ref 112, .ref 113, .ref 114, .ref 115, .ref 116, .ref 117, .int 1, .int 0, .int 0, .int (-1), .ref 118, .ref 119, .ref 120, .ref 121, .ref 122, .ref 123, .ref 124, .ref 125, .ref 126, .ref 127, .ref 128, .ref 129, .int 0, .ref 130, .ref 131, .ref 132, .ref 133, .ref 134, .int 0, .int 0])), (111, .inl (0, 1260, .inl (upd (fun _ => 0) 0 0)))]) rfl ?_
  refine J_if_eq (tgt := 31) dX12_rows_5 (by decide) (fun q => absurd q (by decide +kernel)) (fun _ => ?_)
  refine J_iload_n dX12_rows_8 rfl rfl ?_
  refine J_iconst (v := (-1)) dX12_rows_9 (by decide) ?_
  refine J_icmp_eq (tgt := 21) dX12_rows_10 (by decide) (fun _ => ?_) (fun q => absurd (by decide +kernel) q)
  refine J_iload_n dX12_rows_21 rfl rfl ?_
  refine J_iconst (v := 0) dX12_rows_22 (by decide) ?_
  refine J_bipush (v := 12) dX12_rows_23 (by decide +kernel) ?_
  refine J_callS (st := []) dX12_rows_25 cs_X12_138 (c_X12_lies_50 ) rfl rfl (Nat.le_of_ble_eq_true rfl) ⟨(Nat.le_of_ble_eq_true rfl), (Nat.le_of_ble_eq_true rfl)⟩ ⟨(Nat.le_of_ble_eq_true rfl), (Nat.le_of_ble_eq_true rfl)⟩ (fun r h9 hp => ?_)
  obtain ⟨rfl, rfl⟩ := hp
  refine J_nf (nh2 := nh) (ck2 := 0) (sk2 := 0) (st2 := [.int 1]) rfl rfl rfl rfl ?_
  refine J_if_ne (tgt := 35) dX12_rows_28 (by decide) (fun _ => ?_) (fun q => absurd q (by decide +kernel))
  refine J_aload_n dX12_rows_35 rfl rfl ?_
  refine J_callV (st := []) dX12_rows_36 cv_X12_328 (c_X12_looks_1 rfl hk100 hk114 hk116) rfl rfl rfl (Nat.le_of_ble_eq_true rfl) ⟨(Nat.le_of_ble_eq_true rfl), (Nat.le_of_ble_eq_true rfl)⟩ ⟨(Nat.le_of_ble_eq_true rfl), (Nat.le_of_ble_eq_true rfl)⟩ (fun r h9 hp => ?_)
  obtain ⟨rfl, rfl⟩ := hp
  refine J_nf (nh2 := nh) (ck2 := 0) (sk2 := 0) (st2 := []) rfl rfl rfl rfl ?_
  refine J_app (L3 := [(114, .inl (0, 1260, .inl (upd (fun _ => 0) 0 0))), (116, .inl (0, 1260, .inl (upd (fun _ => 0) 0 0))), (98, .inr (12, [.int 0, .int 0, .ref 99, .ref 100, .ref 101, .ref 102, .ref 103, .ref 104, .ref 105, .int 0, .int (-1), .ref 106, .ref 107, .ref 108, .int 0, .int 0, .int 0, .int 0, .int 0, .int 0, .int 0, .ref 109, .int 0, .int 0, .ref 110, .ref 111, .ref 112, .ref 113, .ref 114, .ref 115, .ref 116, .ref 117, .int 1, .int 0, .int 0, .int 0, .ref 118, .ref 119, .ref 120, .ref 121, .ref 122, .ref 123, .ref 124, .ref 125, .ref 126, .ref 127, .ref 128, .ref 129, .int 0, .ref 130, .ref 131, .ref 132, .ref 133, .ref 134, .int 0, .int 0])), (98, .inr (12, [.int 0, .int 0, .ref 99, .ref 100, .ref 101, .ref 102, .ref 103, .ref 104, .ref 105, .int 0, .int (-1), .ref 106, .ref 107, .ref 108, .int 0, .int 0, .int 0, .int 0, .int 0, .int 0, .int 0, .ref 109, .int 0, .int 0, .ref 110, .ref 111, .ref 112, .ref 113, .ref 114, .ref 115, .ref 116, .ref 117, .int 1, .int 0, .int 0, .int (-1), .ref 118, .ref 119, .ref 120, .ref 121, .ref 122, .ref 123, .ref 124, .ref 125, .ref 126, .ref 127, .ref 128, .ref 129, .int 0, .ref 130, .ref 131, .ref 132, .ref 133, .ref 134, .int 0, .int 0])), (111, .inl (0, 1260, .inl (upd (fun _ => 0) 0 0)))]) rfl ?_
  refine J_iconst (v := 0) dX12_rows_39 (by decide) ?_
  refine J_istore dX12_rows_40 (Nat.le_of_ble_eq_true rfl) rfl ?_
  refine J_iload dX12_rows_42 rfl ?_
  refine J_aload_n dX12_rows_44 rfl rfl ?_
  refine J_get (v := .int 1) dX12_rows_45 fl_X12_298 rfl rfl ?_
  refine J_icmp_ge (tgt := 75) dX12_rows_48 (by decide) (fun q => absurd q (by decide +kernel)) (fun _ => ?_)
  refine J_aload_n dX12_rows_51 rfl rfl ?_
  refine J_get (v := .ref 127) dX12_rows_52 fl_X12_113 rfl rfl ?_
  refine J_iload dX12_rows_55 rfl ?_
  refine J_iload dX12_rows_57 rfl ?_
  refine J_iload_n dX12_rows_59 rfl rfl ?_
  refine J_icmp_ne (tgt := 67) dX12_rows_60 (by decide) (fun q => absurd (by decide +kernel) q) (fun _ => ?_)
  refine J_lconst (v := 1) dX12_rows_63 (by decide +kernel) ?_
  refine J_goto (tgt := 68) dX12_rows_64 (by decide) ?_
  refine K_last (i2 := 0) dX12_rows_68 hk127 rfl (jin (by decide +kernel)) (by decide +kernel) ?_
  refine J_iinc (v := 1) dX12_rows_69 rfl (by decide +kernel) (Nat.le_of_ble_eq_true rfl) rfl ?_
  refine J_ls (ls2 := [some (.ref 98), some (.int 0), some (.int (-1)), some (.int 1), some (.int 1), none, none]) rfl ?_
  refine J_goto (tgt := 42) dX12_rows_72 (by decide) ?_
  refine J_iload dX12_rows_42 rfl ?_
  refine J_aload_n dX12_rows_44 rfl rfl ?_
  refine J_get (v := .int 1) dX12_rows_45 fl_X12_298 rfl rfl ?_
  refine J_icmp_ge (tgt := 75) dX12_rows_48 (by decide) (fun _ => ?_) (fun q => absurd (by decide +kernel) q)
  refine J_iconst (v := 0) dX12_rows_75 (by decide) ?_
  refine J_istore dX12_rows_76 (Nat.le_of_ble_eq_true rfl) rfl ?_
  refine J_iload dX12_rows_78 rfl ?_
  refine J_iload_n dX12_rows_80 rfl rfl ?_
  refine J_icmp_ge (tgt := 215) dX12_rows_81 (by decide) (fun q => absurd q (by decide +kernel)) (fun _ => ?_)
  refine J_iconst (v := 0) dX12_rows_84 (by decide) ?_
  refine J_istore dX12_rows_85 (Nat.le_of_ble_eq_true rfl) rfl ?_
  refine J_iload dX12_rows_87 rfl ?_
  refine J_aload_n dX12_rows_89 rfl rfl ?_
  refine J_get (v := .int 1) dX12_rows_90 fl_X12_298 rfl rfl ?_
  refine J_icmp_ge (tgt := 110) dX12_rows_93 (by decide) (fun q => absurd q (by decide +kernel)) (fun _ => ?_)
  refine J_aload_n dX12_rows_96 rfl rfl ?_
  refine J_get (v := .ref 128) dX12_rows_97 fl_X12_116 rfl rfl ?_
  refine J_iload dX12_rows_100 rfl ?_
  refine J_lconst (v := 0) dX12_rows_102 (by decide +kernel) ?_
  refine K_last (i2 := 0) dX12_rows_103 hk128 rfl (jin (by decide +kernel)) (by decide +kernel) ?_
  refine J_iinc (v := 1) dX12_rows_104 rfl (by decide +kernel) (Nat.le_of_ble_eq_true rfl) rfl ?_
  refine J_ls (ls2 := [some (.ref 98), some (.int 0), some (.int (-1)), some (.int 1), some (.int 0), some (.int 1), none]) rfl ?_
  refine J_goto (tgt := 87) dX12_rows_107 (by decide) ?_
  refine J_iload dX12_rows_87 rfl ?_
  refine J_aload_n dX12_rows_89 rfl rfl ?_
  refine J_get (v := .int 1) dX12_rows_90 fl_X12_298 rfl rfl ?_
  refine J_icmp_ge (tgt := 110) dX12_rows_93 (by decide) (fun _ => ?_) (fun q => absurd (by decide +kernel) q)
  refine J_iconst (v := 0) dX12_rows_110 (by decide) ?_
  refine J_istore dX12_rows_111 (Nat.le_of_ble_eq_true rfl) rfl ?_
  refine J_iload dX12_rows_113 rfl ?_
  refine J_aload_n dX12_rows_115 rfl rfl ?_
  refine J_get (v := .int 1) dX12_rows_116 fl_X12_298 rfl rfl ?_
  refine J_icmp_ge (tgt := 177) dX12_rows_119 (by decide) (fun q => absurd q (by decide +kernel)) (fun _ => ?_)
  refine J_iconst (v := 0) dX12_rows_122 (by decide) ?_
  refine J_istore dX12_rows_123 (Nat.le_of_ble_eq_true rfl) rfl ?_
  refine J_iload dX12_rows_125 rfl ?_
  refine J_aload_n dX12_rows_127 rfl rfl ?_
  refine J_get (v := .ref 114) dX12_rows_128 fl_X12_67 rfl rfl ?_
  refine J_iload dX12_rows_131 rfl ?_
  refine J_iald (i2 := 0) (v := 0) dX12_rows_133 rfl rfl (jin (by decide +kernel)) (by decide +kernel) rfl ?_
  refine J_icmp_ge (tgt := 171) dX12_rows_134 (by decide) (fun _ => ?_) (fun q => absurd (by decide +kernel) q)
  refine J_iinc (v := 1) dX12_rows_171 rfl (by decide +kernel) (Nat.le_of_ble_eq_true rfl) rfl ?_
  refine J_ls (ls2 := [some (.ref 98), some (.int 0), some (.int (-1)), some (.int 1), some (.int 0), some (.int 1), some (.int 0)]) rfl ?_
  refine J_goto (tgt := 113) dX12_rows_174 (by decide) ?_
  refine J_iload dX12_rows_113 rfl ?_
  refine J_aload_n dX12_rows_115 rfl rfl ?_
  refine J_get (v := .int 1) dX12_rows_116 fl_X12_298 rfl rfl ?_
  refine J_icmp_ge (tgt := 177) dX12_rows_119 (by decide) (fun _ => ?_) (fun q => absurd (by decide +kernel) q)
  refine J_iconst (v := 0) dX12_rows_177 (by decide) ?_
  refine J_istore dX12_rows_178 (Nat.le_of_ble_eq_true rfl) rfl ?_
  refine J_iload dX12_rows_180 rfl ?_
  refine J_aload_n dX12_rows_182 rfl rfl ?_
  refine J_get (v := .int 1) dX12_rows_183 fl_X12_298 rfl rfl ?_
  refine J_icmp_ge (tgt := 209) dX12_rows_186 (by decide) (fun q => absurd q (by decide +kernel)) (fun _ => ?_)
  refine J_aload_n dX12_rows_189 rfl rfl ?_
  refine J_get (v := .ref 127) dX12_rows_190 fl_X12_113 rfl rfl ?_
  refine J_iload dX12_rows_193 rfl ?_
  refine J_aload_n dX12_rows_195 rfl rfl ?_
  refine J_get (v := .ref 128) dX12_rows_196 fl_X12_116 rfl rfl ?_
  refine J_iload dX12_rows_199 rfl ?_
  refine J_lald (i2 := 0) (v := 0) dX12_rows_201 rfl rfl (jin (by decide +kernel)) (by decide +kernel) rfl ?_
  refine K_last (i2 := 0) dX12_rows_202 rfl rfl (jin (by decide +kernel)) (by decide +kernel) ?_
  refine J_iinc (v := 1) dX12_rows_203 rfl (by decide +kernel) (Nat.le_of_ble_eq_true rfl) rfl ?_
  refine J_ls (ls2 := [some (.ref 98), some (.int 0), some (.int (-1)), some (.int 1), some (.int 0), some (.int 1), some (.int 0)]) rfl ?_
  refine J_goto (tgt := 180) dX12_rows_206 (by decide) ?_
  refine J_iload dX12_rows_180 rfl ?_
  refine J_aload_n dX12_rows_182 rfl rfl ?_
  refine J_get (v := .int 1) dX12_rows_183 fl_X12_298 rfl rfl ?_
  refine J_icmp_ge (tgt := 209) dX12_rows_186 (by decide) (fun _ => ?_) (fun q => absurd (by decide +kernel) q)
  refine J_iinc (v := 1) dX12_rows_209 rfl (by decide +kernel) (Nat.le_of_ble_eq_true rfl) rfl ?_
  refine J_ls (ls2 := [some (.ref 98), some (.int 0), some (.int (-1)), some (.int 1), some (.int 1), some (.int 1), some (.int 0)]) rfl ?_
  refine J_goto (tgt := 78) dX12_rows_212 (by decide) ?_
  refine J_iload dX12_rows_78 rfl ?_
  refine J_iload_n dX12_rows_80 rfl rfl ?_
  refine J_icmp_ge (tgt := 215) dX12_rows_81 (by decide) (fun _ => ?_) (fun q => absurd (by decide +kernel) q)
  refine J_iload_n dX12_rows_215 rfl rfl ?_
  refine J_iconst (v := (-1)) dX12_rows_216 (by decide) ?_
  refine J_icmp_eq (tgt := 227) dX12_rows_217 (by decide) (fun _ => ?_) (fun q => absurd (by decide +kernel) q)
  refine J_lconst (v := 0) dX12_rows_227 (by decide +kernel) ?_
  refine J_lstore dX12_rows_228 (Nat.le_of_ble_eq_true rfl) rfl ?_
  refine J_iconst (v := 0) dX12_rows_230 (by decide) ?_
  refine J_istore dX12_rows_231 (Nat.le_of_ble_eq_true rfl) rfl ?_
  refine J_iload dX12_rows_233 rfl ?_
  refine J_aload_n dX12_rows_235 rfl rfl ?_
  refine J_get (v := .int 1) dX12_rows_236 fl_X12_298 rfl rfl ?_
  refine J_icmp_ge (tgt := 260) dX12_rows_239 (by decide) (fun q => absurd q (by decide +kernel)) (fun _ => ?_)
  refine J_lload dX12_rows_242 rfl ?_
  refine J_aload_n dX12_rows_244 rfl rfl ?_
  refine J_get (v := .ref 127) dX12_rows_245 fl_X12_113 rfl rfl ?_
  refine J_iload dX12_rows_248 rfl ?_
  refine J_lald (i2 := 0) (v := 0) dX12_rows_250 rfl rfl (jin (by decide +kernel)) (by decide +kernel) rfl ?_
  refine J_ladd (z := 0) dX12_rows_251 (by decide +kernel) ?_
  refine J_lstore dX12_rows_252 (Nat.le_of_ble_eq_true rfl) rfl ?_
  refine J_iinc (v := 1) dX12_rows_254 rfl (by decide +kernel) (Nat.le_of_ble_eq_true rfl) rfl ?_
  refine J_ls (ls2 := [some (.ref 98), some (.int 0), some (.int (-1)), some (.int 1), some (.long 0), none, some (.int 1)]) rfl ?_
  refine J_goto (tgt := 233) dX12_rows_257 (by decide) ?_
  refine J_iload dX12_rows_233 rfl ?_
  refine J_aload_n dX12_rows_235 rfl rfl ?_
  refine J_get (v := .int 1) dX12_rows_236 fl_X12_298 rfl rfl ?_
  refine J_icmp_ge (tgt := 260) dX12_rows_239 (by decide) (fun _ => ?_) (fun q => absurd (by decide +kernel) q)
  refine J_lload dX12_rows_260 rfl ?_
  refine J_mask (L2 := [(127, .inl (1, 1260, .inr (.inl (vp_updL (vp_updL (fun _ => 0) 0 1) 0 0)))), (128, .inl (1, 1260, .inr (.inl (vp_updL (fun _ => 0) 0 0)))), (114, .inl (0, 1260, .inl (upd (fun _ => 0) 0 0))), (116, .inl (0, 1260, .inl (upd (fun _ => 0) 0 0))), (98, .inr (12, [.int 0, .int 0, .ref 99, .ref 100, .ref 101, .ref 102, .ref 103, .ref 104, .ref 105, .int 0, .int (-1), .ref 106, .ref 107, .ref 108, .int 0, .int 0, .int 0, .int 0, .int 0, .int 0, .int 0, .ref 109, .int 0, .int 0, .ref 110, .ref 111, .ref 112, .ref 113, .ref 114, .ref 115, .ref 116, .ref 117, .int 1, .int 0, .int 0, .int 0, .ref 118, .ref 119, .ref 120, .ref 121, .ref 122, .ref 123, .ref 124, .ref 125, .ref 126, .ref 127, .ref 128, .ref 129, .int 0, .ref 130, .ref 131, .ref 132, .ref 133, .ref 134, .int 0, .int 0])), (111, .inl (0, 1260, .inl (upd (fun _ => 0) 0 0)))]) (ks := [127, 128, 127, 114, 116, 98, 98, 111]) [true, true, false, true, true, true, false, true] rfl (by decide +kernel) rfl ?_
  exact J_lret dX12_rows_262 rfl (Nat.le_of_ble_eq_true rfl) (Nat.le_of_ble_eq_true rfl) ⟨rfl, rfl⟩
set_option maxHeartbeats 4000000 in
set_option maxRecDepth 100000 in
theorem c_J7_fill_bad5a_3 {l : Launch} {G : jG} {nh : Nat} {fh : Nat → Option va_E} (hk73 : fh 73 = some (.inl (1, 1260, .inr (.inl (vp_updL (vp_updL (fun _ => 0) 0 0) 0 1))))) : JM l G yJ7_fill_bad5a MJ7_fill_bad5a { frames := 1, cells := 0, slots := 0, locals := 22 } [.ref 73, .int 0, .int 1, .long 0] (nh, fh) (fun r h9 => r = none ∧ h9 = (nh, hc fh [(73, .inl (1, 1260, .inr (.inl (vp_updL (vp_updL (vp_updL (fun _ => 0) 0 0) 0 1) 0 0))))])) := by
  refine JM.of (by decide) rfl (fun h => by cases h) (Nat.le_of_ble_eq_true rfl) ⟨1, rfl⟩ ?_
  refine J_hc0 (J_ls (ls2 := [some (.ref 73), some (.int 0), some (.int 1), some (.long 0), none, none]) rfl ?_)
  refine J_aload_n dJ7_fill_bad5a_0 rfl rfl ?_
  refine J_alen (v := 1260) dJ7_fill_bad5a_1 hk73 rfl (by decide +kernel) ?_
  refine J_iload_n dJ7_fill_bad5a_2 rfl rfl ?_
  refine J_iload_n dJ7_fill_bad5a_3 rfl rfl ?_
  refine J_callS (st := []) dJ7_fill_bad5a_4 cs_J7_13 (c_J7_rangeCheck_23922_1 ) rfl rfl (Nat.le_of_ble_eq_true rfl) ⟨(Nat.le_of_ble_eq_true rfl), (Nat.le_of_ble_eq_true rfl)⟩ ⟨(Nat.le_of_ble_eq_true rfl), (Nat.le_of_ble_eq_true rfl)⟩ (fun r h9 hp => ?_)
  obtain ⟨rfl, rfl⟩ := hp
  refine J_nf (nh2 := nh) (ck2 := 0) (sk2 := 0) (st2 := []) rfl rfl rfl rfl ?_
  refine J_iload_n dJ7_fill_bad5a_7 rfl rfl ?_
  refine J_istore dJ7_fill_bad5a_8 (Nat.le_of_ble_eq_true rfl) rfl ?_
  refine J_iload dJ7_fill_bad5a_10 rfl ?_
  refine J_iload_n dJ7_fill_bad5a_12 rfl rfl ?_
  refine J_icmp_ge (tgt := 27) dJ7_fill_bad5a_13 (by decide) (fun q => absurd q (by decide +kernel)) (fun _ => ?_)
  refine J_aload_n dJ7_fill_bad5a_16 rfl rfl ?_
  refine J_iload dJ7_fill_bad5a_17 rfl ?_
  refine J_lload_n dJ7_fill_bad5a_19 rfl rfl ?_
  refine K_last (i2 := 0) dJ7_fill_bad5a_20 hk73 rfl (jin (by decide +kernel)) (by decide +kernel) ?_
  refine J_iinc (v := 1) dJ7_fill_bad5a_21 rfl (by decide +kernel) (Nat.le_of_ble_eq_true rfl) rfl ?_
  refine J_ls (ls2 := [some (.ref 73), some (.int 0), some (.int 1), some (.long 0), none, some (.int 1)]) rfl ?_
  refine J_goto (tgt := 10) dJ7_fill_bad5a_24 (by decide) ?_
  refine J_iload dJ7_fill_bad5a_10 rfl ?_
  refine J_iload_n dJ7_fill_bad5a_12 rfl rfl ?_
  refine J_icmp_ge (tgt := 27) dJ7_fill_bad5a_13 (by decide) (fun _ => ?_) (fun q => absurd (by decide +kernel) q)
  exact J_vret dJ7_fill_bad5a_27 rfl (Nat.le_of_ble_eq_true rfl) (Nat.le_of_ble_eq_true rfl) ⟨rfl, rfl⟩
set_option maxHeartbeats 4000000 in
set_option maxRecDepth 100000 in
theorem c_X10_lengthenRows_2 {l : Launch} {G : jG} {nh : Nat} {fh : Nat → Option va_E} (hk65 : fh 65 = some (.inr (10, [.ref 51, .ref 57, .ref 66, .ref 67, .ref 68, .int 0, .int (-1), .int (-1), .ref 69, .ref 70, .ref 71, .ref 72, .int 0, .int (-1), .int (-1), .ref 74, .ref 73]))) (hk73 : fh 73 = some (.inl (1, 1260, .inr (.inl (vp_updL (vp_updL (fun _ => 0) 0 0) 0 1))))) (hk74 : fh 74 = some (.inl (1, 1260, .inr (.inl (vp_updL (fun _ => 0) 0 0))))) : JM l G yX10_lengthenRows MX10_lengthenRows { frames := 2, cells := 0, slots := 0, locals := 47 } [.ref 65, .int 1] (nh, fh) (fun r h9 => r = none ∧ h9 = (nh, hc fh [(65, .inr (10, [.ref 51, .ref 57, .ref 66, .ref 67, .ref 68, .int 0, .int (-1), .int (-1), .ref 69, .ref 70, .ref 71, .ref 72, .int 0, .int (-1), .int (-1), .ref 73, .ref 74])), (73, .inl (1, 1260, .inr (.inl (vp_updL (vp_updL (vp_updL (fun _ => 0) 0 0) 0 1) 0 0))))])) := by
  refine JM.of (by decide) rfl (fun h => by cases h) (Nat.le_of_ble_eq_true rfl) ⟨3, rfl⟩ ?_
  refine J_hc0 (J_ls (ls2 := [some (.ref 65), some (.int 1), none, none, none]) rfl ?_)
  refine J_aload_n dX10_lengthenRows_0 rfl rfl ?_
  refine J_get (v := .ref 73) dX10_lengthenRows_1 fl_X10_56 hk65 rfl ?_
  refine J_iconst (v := 0) dX10_lengthenRows_4 (by decide) ?_
  refine J_iload_n dX10_lengthenRows_5 rfl rfl ?_
  refine J_lconst (v := 0) dX10_lengthenRows_6 (by decide +kernel) ?_
  refine J_callS (st := []) dX10_lengthenRows_7 cs_X10_127 (c_J7_fill_bad5a_3 hk73) rfl rfl (Nat.le_of_ble_eq_true rfl) ⟨(Nat.le_of_ble_eq_true rfl), (Nat.le_of_ble_eq_true rfl)⟩ ⟨(Nat.le_of_ble_eq_true rfl), (Nat.le_of_ble_eq_true rfl)⟩ (fun r h9 hp => ?_)
  obtain ⟨rfl, rfl⟩ := hp
  refine J_nf (nh2 := nh) (ck2 := 0) (sk2 := 0) (st2 := []) rfl rfl rfl rfl ?_
  refine J_app (L3 := [(73, .inl (1, 1260, .inr (.inl (vp_updL (vp_updL (vp_updL (fun _ => 0) 0 0) 0 1) 0 0))))]) rfl ?_
  refine J_iconst (v := 0) dX10_lengthenRows_10 (by decide) ?_
  refine J_istore_n dX10_lengthenRows_11 rfl (Nat.le_of_ble_eq_true rfl) rfl ?_
  refine J_iload_n dX10_lengthenRows_12 rfl rfl ?_
  refine J_iload_n dX10_lengthenRows_13 rfl rfl ?_
  refine J_icmp_ge (tgt := 86) dX10_lengthenRows_14 (by decide) (fun q => absurd q (by decide +kernel)) (fun _ => ?_)
  refine J_aload_n dX10_lengthenRows_17 rfl rfl ?_
  refine J_get (v := .ref 74) dX10_lengthenRows_18 fl_X10_52 hk65 rfl ?_
  refine J_iload_n dX10_lengthenRows_21 rfl rfl ?_
  refine J_lald (i2 := 0) (v := 0) dX10_lengthenRows_22 hk74 rfl (jin (by decide +kernel)) (by decide +kernel) rfl ?_
  refine J_lconst (v := 0) dX10_lengthenRows_23 (by decide +kernel) ?_
  refine J_lcmp (z := 0) dX10_lengthenRows_24 (by decide +kernel) ?_
  refine J_if_ne (tgt := 32) dX10_lengthenRows_25 (by decide) (fun q => absurd (by decide +kernel) q) (fun _ => ?_)
  refine J_iconst (v := 0) dX10_lengthenRows_28 (by decide) ?_
  refine J_goto (tgt := 40) dX10_lengthenRows_29 (by decide) ?_
  refine J_istore_n dX10_lengthenRows_40 rfl (Nat.le_of_ble_eq_true rfl) rfl ?_
  refine J_iconst (v := 0) dX10_lengthenRows_41 (by decide) ?_
  refine J_istore dX10_lengthenRows_42 (Nat.le_of_ble_eq_true rfl) rfl ?_
  refine J_iload dX10_lengthenRows_44 rfl ?_
  refine J_iload_n dX10_lengthenRows_46 rfl rfl ?_
  refine J_icmp_ge (tgt := 80) dX10_lengthenRows_47 (by decide) (fun _ => ?_) (fun q => absurd (by decide +kernel) q)
  refine J_iinc (v := 1) dX10_lengthenRows_80 rfl (by decide +kernel) (Nat.le_of_ble_eq_true rfl) rfl ?_
  refine J_ls (ls2 := [some (.ref 65), some (.int 1), some (.int 1), some (.int 0), some (.int 0)]) rfl ?_
  refine J_goto (tgt := 12) dX10_lengthenRows_83 (by decide) ?_
  refine J_iload_n dX10_lengthenRows_12 rfl rfl ?_
  refine J_iload_n dX10_lengthenRows_13 rfl rfl ?_
  refine J_icmp_ge (tgt := 86) dX10_lengthenRows_14 (by decide) (fun _ => ?_) (fun q => absurd (by decide +kernel) q)
  refine J_aload_n dX10_lengthenRows_86 rfl rfl ?_
  refine J_get (v := .ref 74) dX10_lengthenRows_87 fl_X10_52 hk65 rfl ?_
  refine J_astore_n dX10_lengthenRows_90 rfl (Nat.le_of_ble_eq_true rfl) rfl ?_
  refine J_aload_n dX10_lengthenRows_91 rfl rfl ?_
  refine J_aload_n dX10_lengthenRows_92 rfl rfl ?_
  refine J_get (v := .ref 73) dX10_lengthenRows_93 fl_X10_56 hk65 rfl ?_
  refine K_put (fs2 := [.ref 51, .ref 57, .ref 66, .ref 67, .ref 68, .int 0, .int (-1), .int (-1), .ref 69, .ref 70, .ref 71, .ref 72, .int 0, .int (-1), .int (-1), .ref 73, .ref 73]) dX10_lengthenRows_96 fw_X10_52 hk65 (Nat.le_of_ble_eq_true rfl) (fun _ => ⟨rfl, rfl⟩) rfl ?_
  refine J_aload_n dX10_lengthenRows_99 rfl rfl ?_
  refine J_aload_n dX10_lengthenRows_100 rfl rfl ?_
  refine K_put (fs2 := [.ref 51, .ref 57, .ref 66, .ref 67, .ref 68, .int 0, .int (-1), .int (-1), .ref 69, .ref 70, .ref 71, .ref 72, .int 0, .int (-1), .int (-1), .ref 73, .ref 74]) dX10_lengthenRows_101 fw_X10_56 rfl (Nat.le_of_ble_eq_true rfl) (fun _ => ⟨rfl, rfl⟩) rfl ?_
  refine J_mask (L2 := [(65, .inr (10, [.ref 51, .ref 57, .ref 66, .ref 67, .ref 68, .int 0, .int (-1), .int (-1), .ref 69, .ref 70, .ref 71, .ref 72, .int 0, .int (-1), .int (-1), .ref 73, .ref 74])), (73, .inl (1, 1260, .inr (.inl (vp_updL (vp_updL (vp_updL (fun _ => 0) 0 0) 0 1) 0 0))))]) (ks := [65, 65, 73]) [true, false, true] rfl (by decide +kernel) rfl ?_
  exact J_vret dX10_lengthenRows_104 rfl (Nat.le_of_ble_eq_true rfl) (Nat.le_of_ble_eq_true rfl) ⟨rfl, rfl⟩
set_option maxHeartbeats 4000000 in
set_option maxRecDepth 100000 in
theorem c_X10_rowsTo_3 {l : Launch} {G : jG} {nh : Nat} {fh : Nat → Option va_E} (hk1 : fh 1 = some (.inr (8, [.ref 2, .ref 3, .ref 4, .int 0, .int (-1), .ref 11, .ref 12, .int 0, .ref 13, .ref 14, .int 0, .ref 15, .ref 16, .int 0]))) (hk3 : fh 3 = some (.inl (0, 2, .inl (fun _ => 0)))) (hk51 : fh 51 = some (.inr (0, [.ref 52, .ref 53, .int 1, .int 0]))) (hk52 : fh 52 = some (.inl (0, 1260, .inl (upd (fun _ => 0) 0 0)))) (hk57 : fh 57 = some (.inr (9, [.ref 1, .ref 51, .ref 58, .ref 61, .ref 62, .ref 135, .ref 64, .int 0, .int 0, .int 0]))) (hk62 : fh 62 = some (.inl (0, 1260, .inl (upd (fun _ => 0) 0 (-1))))) (hk65 : fh 65 = some (.inr (10, [.ref 51, .ref 57, .ref 66, .ref 67, .ref 68, .int 0, .int (-1), .int (-1), .ref 69, .ref 70, .ref 71, .ref 72, .int 0, .int (-1), .int (-1), .ref 73, .ref 74]))) (hk73 : fh 73 = some (.inl (1, 1260, .inr (.inl (fun _ => 0))))) (hk74 : fh 74 = some (.inl (1, 1260, .inr (.inl (fun _ => 0))))) : JM l G yX10_rowsTo MX10_rowsTo { frames := 5, cells := 0, slots := 0, locals := 119 } [.ref 65, .int 0, .int (-1), .int 2] (nh, fh) (fun r h9 => r = some (.long 0) ∧ h9 = (nh, hc fh [(65, .inr (10, [.ref 51, .ref 57, .ref 66, .ref 67, .ref 68, .int 0, .int (-1), .int (-1), .ref 69, .ref 70, .ref 71, .ref 72, .int 0, .int (-1), .int (-1), .ref 73, .ref 74])), (73, .inl (1, 1260, .inr (.inl (vp_updL (vp_updL (vp_updL (fun _ => 0) 0 0) 0 1) 0 0)))), (62, .inl (0, 1260, .inl (upd (upd (fun _ => 0) 0 (-1)) 0 0))), (74, .inl (1, 1260, .inr (.inl (vp_updL (fun _ => 0) 0 0))))])) := by
  refine JM.of (by decide) rfl (fun h => by cases h) (Nat.le_of_ble_eq_true rfl) ⟨4, rfl⟩ ?_
  refine J_hc0 (J_ls (ls2 := [some (.ref 65), some (.int 0), some (.int (-1)), some (.int 2), none, none, none, none]) rfl ?_)
  refine J_aload_n dX10_rowsTo_0 rfl rfl ?_
  refine J_get (v := .ref 51) dX10_rowsTo_1 fl_X10_59 hk65 rfl ?_
  refine J_callV (st := []) dX10_rowsTo_4 cv_X10_83 (c_X0_many_1 hk51) hk51 rfl rfl (Nat.le_of_ble_eq_true rfl) ⟨(Nat.le_of_ble_eq_true rfl), (Nat.le_of_ble_eq_true rfl)⟩ ⟨(Nat.le_of_ble_eq_true rfl), (Nat.le_of_ble_eq_true rfl)⟩ (fun r h9 hp => ?_)
  obtain ⟨rfl, rfl⟩ := hp
  refine J_nf (nh2 := nh) (ck2 := 0) (sk2 := 0) (st2 := [.int 1]) rfl rfl rfl rfl ?_
  refine J_istore dX10_rowsTo_7 (Nat.le_of_ble_eq_true rfl) rfl ?_
  refine J_aload_n dX10_rowsTo_9 rfl rfl ?_
  refine J_get (v := .ref 73) dX10_rowsTo_10 fl_X10_52 hk65 rfl ?_
  refine J_iconst (v := 0) dX10_rowsTo_13 (by decide) ?_
  refine J_iload dX10_rowsTo_14 rfl ?_
  refine J_lconst (v := 0) dX10_rowsTo_16 (by decide +kernel) ?_
  refine J_callS (st := []) dX10_rowsTo_17 cs_X10_127 (c_J7_fill_bad5a_1 hk73) rfl rfl (Nat.le_of_ble_eq_true rfl) ⟨(Nat.le_of_ble_eq_true rfl), (Nat.le_of_ble_eq_true rfl)⟩ ⟨(Nat.le_of_ble_eq_true rfl), (Nat.le_of_ble_eq_true rfl)⟩ (fun r h9 hp => ?_)
  obtain ⟨rfl, rfl⟩ := hp
  refine J_nf (nh2 := nh) (ck2 := 0) (sk2 := 0) (st2 := []) rfl rfl rfl rfl ?_
  refine J_app (L3 := [(73, .inl (1, 1260, .inr (.inl (vp_updL (fun _ => 0) 0 0))))]) rfl ?_
  refine J_aload_n dX10_rowsTo_20 rfl rfl ?_
  refine J_get (v := .ref 73) dX10_rowsTo_21 fl_X10_52 hk65 rfl ?_
  refine J_iload_n dX10_rowsTo_24 rfl rfl ?_
  refine J_lconst (v := 1) dX10_rowsTo_25 (by decide +kernel) ?_
  refine K_last (i2 := 0) dX10_rowsTo_26 rfl rfl (jin (by decide +kernel)) (by decide +kernel) ?_
  refine J_iconst (v := 0) dX10_rowsTo_27 (by decide) ?_
  refine J_istore dX10_rowsTo_28 (Nat.le_of_ble_eq_true rfl) rfl ?_
  refine J_iload dX10_rowsTo_30 rfl ?_
  refine J_iload_n dX10_rowsTo_32 rfl rfl ?_
  refine J_icmp_ge (tgt := 48) dX10_rowsTo_33 (by decide) (fun q => absurd q (by decide +kernel)) (fun _ => ?_)
  refine J_aload_n dX10_rowsTo_36 rfl rfl ?_
  refine J_iload dX10_rowsTo_37 rfl ?_
  refine J_callV (st := []) dX10_rowsTo_39 cv_X10_130 (c_X10_lengthenRows_1 hk1 hk3 hk51 hk52 hk57 hk62 hk65 rfl hk74) hk65 rfl rfl (Nat.le_of_ble_eq_true rfl) ⟨(Nat.le_of_ble_eq_true rfl), (Nat.le_of_ble_eq_true rfl)⟩ ⟨(Nat.le_of_ble_eq_true rfl), (Nat.le_of_ble_eq_true rfl)⟩ (fun r h9 hp => ?_)
  obtain ⟨rfl, rfl⟩ := hp
  refine J_nf (nh2 := nh) (ck2 := 0) (sk2 := 0) (st2 := []) rfl rfl rfl rfl ?_
  refine J_app (L3 := [(65, .inr (10, [.ref 51, .ref 57, .ref 66, .ref 67, .ref 68, .int 0, .int (-1), .int (-1), .ref 69, .ref 70, .ref 71, .ref 72, .int 0, .int (-1), .int (-1), .ref 74, .ref 73])), (62, .inl (0, 1260, .inl (upd (upd (fun _ => 0) 0 (-1)) 0 0))), (74, .inl (1, 1260, .inr (.inl (vp_updL (fun _ => 0) 0 0)))), (73, .inl (1, 1260, .inr (.inl (vp_updL (vp_updL (fun _ => 0) 0 0) 0 1)))), (73, .inl (1, 1260, .inr (.inl (vp_updL (fun _ => 0) 0 0))))]) rfl ?_
  refine J_iinc (v := 1) dX10_rowsTo_42 rfl (by decide +kernel) (Nat.le_of_ble_eq_true rfl) rfl ?_
  refine J_ls (ls2 := [some (.ref 65), some (.int 0), some (.int (-1)), some (.int 2), some (.int 1), some (.int 1), none, none]) rfl ?_
  refine J_goto (tgt := 30) dX10_rowsTo_45 (by decide) ?_
  refine J_iload dX10_rowsTo_30 rfl ?_
  refine J_iload_n dX10_rowsTo_32 rfl rfl ?_
  refine J_icmp_ge (tgt := 48) dX10_rowsTo_33 (by decide) (fun q => absurd q (by decide +kernel)) (fun _ => ?_)
  refine J_aload_n dX10_rowsTo_36 rfl rfl ?_
  refine J_iload dX10_rowsTo_37 rfl ?_
  refine J_callV (st := []) dX10_rowsTo_39 cv_X10_130 (c_X10_lengthenRows_2 rfl rfl rfl) rfl rfl rfl (Nat.le_of_ble_eq_true rfl) ⟨(Nat.le_of_ble_eq_true rfl), (Nat.le_of_ble_eq_true rfl)⟩ ⟨(Nat.le_of_ble_eq_true rfl), (Nat.le_of_ble_eq_true rfl)⟩ (fun r h9 hp => ?_)
  obtain ⟨rfl, rfl⟩ := hp
  refine J_nf (nh2 := nh) (ck2 := 0) (sk2 := 0) (st2 := []) rfl rfl rfl rfl ?_
  refine J_app (L3 := [(65, .inr (10, [.ref 51, .ref 57, .ref 66, .ref 67, .ref 68, .int 0, .int (-1), .int (-1), .ref 69, .ref 70, .ref 71, .ref 72, .int 0, .int (-1), .int (-1), .ref 73, .ref 74])), (73, .inl (1, 1260, .inr (.inl (vp_updL (vp_updL (vp_updL (fun _ => 0) 0 0) 0 1) 0 0)))), (65, .inr (10, [.ref 51, .ref 57, .ref 66, .ref 67, .ref 68, .int 0, .int (-1), .int (-1), .ref 69, .ref 70, .ref 71, .ref 72, .int 0, .int (-1), .int (-1), .ref 74, .ref 73])), (62, .inl (0, 1260, .inl (upd (upd (fun _ => 0) 0 (-1)) 0 0))), (74, .inl (1, 1260, .inr (.inl (vp_updL (fun _ => 0) 0 0)))), (73, .inl (1, 1260, .inr (.inl (vp_updL (vp_updL (fun _ => 0) 0 0) 0 1)))), (73, .inl (1, 1260, .inr (.inl (vp_updL (fun _ => 0) 0 0))))]) rfl ?_
  refine J_iinc (v := 2) dX10_rowsTo_42 rfl (by decide +kernel) (Nat.le_of_ble_eq_true rfl) rfl ?_
  refine J_ls (ls2 := [some (.ref 65), some (.int 0), some (.int (-1)), some (.int 2), some (.int 1), some (.int 2), none, none]) rfl ?_
  refine J_goto (tgt := 30) dX10_rowsTo_45 (by decide) ?_
  refine J_iload dX10_rowsTo_30 rfl ?_
  refine J_iload_n dX10_rowsTo_32 rfl rfl ?_
  refine J_icmp_ge (tgt := 48) dX10_rowsTo_33 (by decide) (fun _ => ?_) (fun q => absurd (by decide +kernel) q)
  refine J_iload_n dX10_rowsTo_48 rfl rfl ?_
  refine J_iconst (v := (-1)) dX10_rowsTo_49 (by decide) ?_
  refine J_icmp_eq (tgt := 60) dX10_rowsTo_50 (by decide) (fun _ => ?_) (fun q => absurd (by decide +kernel) q)
  refine J_lconst (v := 0) dX10_rowsTo_60 (by decide +kernel) ?_
  refine J_lstore dX10_rowsTo_61 (Nat.le_of_ble_eq_true rfl) rfl ?_
  refine J_iconst (v := 0) dX10_rowsTo_63 (by decide) ?_
  refine J_istore dX10_rowsTo_64 (Nat.le_of_ble_eq_true rfl) rfl ?_
  refine J_iload dX10_rowsTo_66 rfl ?_
  refine J_iload dX10_rowsTo_68 rfl ?_
  refine J_icmp_ge (tgt := 91) dX10_rowsTo_70 (by decide) (fun q => absurd q (by decide +kernel)) (fun _ => ?_)
  refine J_lload dX10_rowsTo_73 rfl ?_
  refine J_aload_n dX10_rowsTo_75 rfl rfl ?_
  refine J_get (v := .ref 73) dX10_rowsTo_76 fl_X10_52 rfl rfl ?_
  refine J_iload dX10_rowsTo_79 rfl ?_
  refine J_lald (i2 := 0) (v := 0) dX10_rowsTo_81 rfl rfl (jin (by decide +kernel)) (by decide +kernel) rfl ?_
  refine J_ladd (z := 0) dX10_rowsTo_82 (by decide +kernel) ?_
  refine J_lstore dX10_rowsTo_83 (Nat.le_of_ble_eq_true rfl) rfl ?_
  refine J_iinc (v := 1) dX10_rowsTo_85 rfl (by decide +kernel) (Nat.le_of_ble_eq_true rfl) rfl ?_
  refine J_ls (ls2 := [some (.ref 65), some (.int 0), some (.int (-1)), some (.int 2), some (.int 1), some (.long 0), none, some (.int 1)]) rfl ?_
  refine J_goto (tgt := 66) dX10_rowsTo_88 (by decide) ?_
  refine J_iload dX10_rowsTo_66 rfl ?_
  refine J_iload dX10_rowsTo_68 rfl ?_
  refine J_icmp_ge (tgt := 91) dX10_rowsTo_70 (by decide) (fun _ => ?_) (fun q => absurd (by decide +kernel) q)
  refine J_lload dX10_rowsTo_91 rfl ?_
  refine J_mask (L2 := [(65, .inr (10, [.ref 51, .ref 57, .ref 66, .ref 67, .ref 68, .int 0, .int (-1), .int (-1), .ref 69, .ref 70, .ref 71, .ref 72, .int 0, .int (-1), .int (-1), .ref 73, .ref 74])), (73, .inl (1, 1260, .inr (.inl (vp_updL (vp_updL (vp_updL (fun _ => 0) 0 0) 0 1) 0 0)))), (62, .inl (0, 1260, .inl (upd (upd (fun _ => 0) 0 (-1)) 0 0))), (74, .inl (1, 1260, .inr (.inl (vp_updL (fun _ => 0) 0 0))))]) (ks := [65, 73, 65, 62, 74, 73, 73]) [true, true, false, true, true, false, false] rfl (by decide +kernel) rfl ?_
  exact J_lret dX10_rowsTo_93 rfl (Nat.le_of_ble_eq_true rfl) (Nat.le_of_ble_eq_true rfl) ⟨rfl, rfl⟩
set_option maxHeartbeats 4000000 in
set_option maxRecDepth 100000 in
theorem c_X11_rows_6 {l : Launch} {G : jG} {fh : Nat → Option va_E} (hk0 : fh 0 = some (.inr (11, [.ref 1, .ref 17, .ref 50, .ref 51, .ref 54, .ref 57, .ref 65, .ref 75, .ref 81, .ref 85, .ref 88, .ref 93, .ref 96, .int 0, .int (-1), .ref 97, .int 0]))) (hk1 : fh 1 = some (.inr (8, [.ref 2, .ref 3, .ref 4, .int 0, .int (-1), .ref 11, .ref 12, .int 0, .ref 13, .ref 14, .int 0, .ref 15, .ref 16, .int 0]))) (hk3 : fh 3 = some (.inl (0, 2, .inl (fun _ => 0)))) (hk51 : fh 51 = some (.inr (0, [.ref 52, .ref 53, .int 1, .int 0]))) (hk52 : fh 52 = some (.inl (0, 1260, .inl (upd (fun _ => 0) 0 0)))) (hk57 : fh 57 = some (.inr (9, [.ref 1, .ref 51, .ref 58, .ref 61, .ref 62, .ref 63, .ref 64, .int 0, .int 1, .int 1]))) (hk58 : fh 58 = some (.inr (1, [.ref 59, .ref 60, .int 0, .int 0, .int 0, .int 0, .int 0, .int 1]))) (hk59 : fh 59 = some (.inl (0, 8, .inl (fun _ => 0)))) (hk62 : fh 62 = some (.inl (0, 1260, .inl (fun _ => 0)))) (hk63 : fh 63 = some (.inl (0, 0, .inl (fun _ => 0)))) (hk65 : fh 65 = some (.inr (10, [.ref 51, .ref 57, .ref 66, .ref 67, .ref 68, .int 0, .int (-1), .int (-1), .ref 69, .ref 70, .ref 71, .ref 72, .int 0, .int (-1), .int (-1), .ref 73, .ref 74]))) (hk73 : fh 73 = some (.inl (1, 1260, .inr (.inl (fun _ => 0))))) (hk74 : fh 74 = some (.inl (1, 1260, .inr (.inl (fun _ => 0))))) : JM l G yX11_rows MX11_rows { frames := 6, cells := 1, slots := 22, locals := 146 } [.ref 0, .int 0, .int (-1), .int 2] (135, fh) (fun r h9 => r = some (.long 0) ∧ h9 = (136, hc fh [(65, .inr (10, [.ref 51, .ref 57, .ref 66, .ref 67, .ref 68, .int 0, .int (-1), .int (-1), .ref 69, .ref 70, .ref 71, .ref 72, .int 0, .int (-1), .int (-1), .ref 73, .ref 74])), (73, .inl (1, 1260, .inr (.inl (vp_updL (vp_updL (vp_updL (fun _ => 0) 0 0) 0 1) 0 0)))), (62, .inl (0, 1260, .inl (upd (upd (fun _ => 0) 0 (-1)) 0 0))), (74, .inl (1, 1260, .inr (.inl (vp_updL (fun _ => 0) 0 0)))), (57, .inr (9, [.ref 1, .ref 51, .ref 58, .ref 61, .ref 62, .ref 135, .ref 64, .int 0, .int 0, .int 0])), (135, .inl (0, 22, .inl (fun _ => 0))), (59, .inl (0, 8, .inl (upd (upd (fun _ => 0) 6 0) 7 0)))])) := by
  refine JM.of (by decide) rfl (fun h => by cases h) (Nat.le_of_ble_eq_true rfl) ⟨0, rfl⟩ ?_
  refine J_hc0 (J_ls (ls2 := [some (.ref 0), some (.int 0), some (.int (-1)), some (.int 2)]) rfl ?_)
  refine J_aload_n dX11_rows_0 rfl rfl ?_
  refine J_get (v := .ref 51) dX11_rows_1 fl_X11_27 hk0 rfl ?_
  refine J_iload_n dX11_rows_4 rfl rfl ?_
  refine J_callV (st := []) dX11_rows_5 cv_X11_135 (c_X0_has_2 hk51) hk51 rfl rfl (Nat.le_of_ble_eq_true rfl) ⟨(Nat.le_of_ble_eq_true rfl), (Nat.le_of_ble_eq_true rfl)⟩ ⟨(Nat.le_of_ble_eq_true rfl), (Nat.le_of_ble_eq_true rfl)⟩ (fun r h9 hp => ?_)
  obtain ⟨rfl, rfl⟩ := hp
  refine J_nf (nh2 := 135) (ck2 := 0) (sk2 := 0) (st2 := [.int 1]) rfl rfl rfl rfl ?_
  refine J_if_eq (tgt := 37) dX11_rows_8 (by decide) (fun q => absurd q (by decide +kernel)) (fun _ => ?_)
  refine J_iload_n dX11_rows_11 rfl rfl ?_
  refine J_iconst (v := (-1)) dX11_rows_12 (by decide) ?_
  refine J_icmp_eq (tgt := 27) dX11_rows_13 (by decide) (fun _ => ?_) (fun q => absurd (by decide +kernel) q)
  refine J_iload_n dX11_rows_27 rfl rfl ?_
  refine J_if_lt (tgt := 37) dX11_rows_28 (by decide) (fun q => absurd q (by decide +kernel)) (fun _ => ?_)
  refine J_iload_n dX11_rows_31 rfl rfl ?_
  refine J_bipush (v := 12) dX11_rows_32 (by decide +kernel) ?_
  refine J_icmp_le (tgt := 41) dX11_rows_34 (by decide) (fun _ => ?_) (fun q => absurd (by decide +kernel) q)
  refine J_aload_n dX11_rows_41 rfl rfl ?_
  refine J_get (v := .ref 57) dX11_rows_42 fl_X11_43 hk0 rfl ?_
  refine J_callV (st := []) dX11_rows_45 cv_X11_217 (c_X9_prepare_1 hk1 hk3 hk51 hk57 hk58 hk59 hk62 hk63) hk57 rfl rfl (Nat.le_of_ble_eq_true rfl) ⟨(Nat.le_of_ble_eq_true rfl), (Nat.le_of_ble_eq_true rfl)⟩ ⟨(Nat.le_of_ble_eq_true rfl), (Nat.le_of_ble_eq_true rfl)⟩ (fun r h9 hp => ?_)
  obtain ⟨rfl, rfl⟩ := hp
  refine J_nf (nh2 := 136) (ck2 := 1) (sk2 := 22) (st2 := []) rfl rfl rfl rfl ?_
  refine J_app (L3 := [(57, .inr (9, [.ref 1, .ref 51, .ref 58, .ref 61, .ref 62, .ref 135, .ref 64, .int 0, .int 0, .int 0])), (62, .inl (0, 1260, .inl (upd (fun _ => 0) 0 (-1)))), (135, .inl (0, 22, .inl (fun _ => 0))), (59, .inl (0, 8, .inl (upd (upd (fun _ => 0) 6 0) 7 0)))]) rfl ?_
  refine J_aload_n dX11_rows_48 rfl rfl ?_
  refine J_get (v := .ref 65) dX11_rows_49 fl_X11_52 hk0 rfl ?_
  refine J_iload_n dX11_rows_52 rfl rfl ?_
  refine J_iload_n dX11_rows_53 rfl rfl ?_
  refine J_iload_n dX11_rows_54 rfl rfl ?_
  refine J_callV (st := []) dX11_rows_55 cv_X11_256 (c_X10_rowsTo_3 hk1 hk3 hk51 hk52 rfl rfl hk65 hk73 hk74) hk65 rfl rfl (Nat.le_of_ble_eq_true rfl) ⟨(Nat.le_of_ble_eq_true rfl), (Nat.le_of_ble_eq_true rfl)⟩ ⟨(Nat.le_of_ble_eq_true rfl), (Nat.le_of_ble_eq_true rfl)⟩ (fun r h9 hp => ?_)
  obtain ⟨rfl, rfl⟩ := hp
  refine J_nf (nh2 := 136) (ck2 := 1) (sk2 := 22) (st2 := [.long 0]) rfl rfl rfl rfl ?_
  refine J_app (L3 := [(65, .inr (10, [.ref 51, .ref 57, .ref 66, .ref 67, .ref 68, .int 0, .int (-1), .int (-1), .ref 69, .ref 70, .ref 71, .ref 72, .int 0, .int (-1), .int (-1), .ref 73, .ref 74])), (73, .inl (1, 1260, .inr (.inl (vp_updL (vp_updL (vp_updL (fun _ => 0) 0 0) 0 1) 0 0)))), (62, .inl (0, 1260, .inl (upd (upd (fun _ => 0) 0 (-1)) 0 0))), (74, .inl (1, 1260, .inr (.inl (vp_updL (fun _ => 0) 0 0)))), (57, .inr (9, [.ref 1, .ref 51, .ref 58, .ref 61, .ref 62, .ref 135, .ref 64, .int 0, .int 0, .int 0])), (62, .inl (0, 1260, .inl (upd (fun _ => 0) 0 (-1)))), (135, .inl (0, 22, .inl (fun _ => 0))), (59, .inl (0, 8, .inl (upd (upd (fun _ => 0) 6 0) 7 0)))]) rfl ?_
  refine J_mask (L2 := [(65, .inr (10, [.ref 51, .ref 57, .ref 66, .ref 67, .ref 68, .int 0, .int (-1), .int (-1), .ref 69, .ref 70, .ref 71, .ref 72, .int 0, .int (-1), .int (-1), .ref 73, .ref 74])), (73, .inl (1, 1260, .inr (.inl (vp_updL (vp_updL (vp_updL (fun _ => 0) 0 0) 0 1) 0 0)))), (62, .inl (0, 1260, .inl (upd (upd (fun _ => 0) 0 (-1)) 0 0))), (74, .inl (1, 1260, .inr (.inl (vp_updL (fun _ => 0) 0 0)))), (57, .inr (9, [.ref 1, .ref 51, .ref 58, .ref 61, .ref 62, .ref 135, .ref 64, .int 0, .int 0, .int 0])), (135, .inl (0, 22, .inl (fun _ => 0))), (59, .inl (0, 8, .inl (upd (upd (fun _ => 0) 6 0) 7 0)))]) (ks := [65, 73, 62, 74, 57, 62, 135, 59]) [true, true, true, true, true, false, true, true] rfl (by decide +kernel) rfl ?_
  exact J_lret dX11_rows_58 rfl (Nat.le_of_ble_eq_true rfl) (Nat.le_of_ble_eq_true rfl) ⟨rfl, rfl⟩
set_option maxHeartbeats 4000000 in
set_option maxRecDepth 100000 in
theorem c_X12_lies_51 {l : Launch} {G : jG} {nh : Nat} {fh : Nat → Option va_E}  : JM l G yX12_lies MX12_lies { frames := 0, cells := 0, slots := 0, locals := 0 } [.int 2, .int 0, .int 12] (nh, fh) (fun r h9 => r = some (.int 1) ∧ h9 = (nh, fh)) := by
  refine JM.of (by decide) rfl (fun h => by cases h) (Nat.le_of_ble_eq_true rfl) ⟨0, rfl⟩ ?_
  refine J_hc0 (J_ls (ls2 := [some (.int 2), some (.int 0), some (.int 12)]) rfl ?_)
  refine J_iload_n dX12_lies_0 rfl rfl ?_
  refine J_iload_n dX12_lies_1 rfl rfl ?_
  refine J_icmp_lt (tgt := 14) dX12_lies_2 (by decide) (fun q => absurd q (by decide +kernel)) (fun _ => ?_)
  refine J_iload_n dX12_lies_5 rfl rfl ?_
  refine J_iload_n dX12_lies_6 rfl rfl ?_
  refine J_icmp_gt (tgt := 14) dX12_lies_7 (by decide) (fun q => absurd q (by decide +kernel)) (fun _ => ?_)
  refine J_iconst (v := 1) dX12_lies_10 (by decide) ?_
  refine J_goto (tgt := 15) dX12_lies_11 (by decide) ?_
  exact J_iret dX12_lies_15 rfl (by decide +kernel) (Nat.le_of_ble_eq_true rfl) (Nat.le_of_ble_eq_true rfl) ⟨rfl, rfl⟩
set_option maxHeartbeats 4000000 in
set_option maxRecDepth 100000 in
theorem c_X12_rows_6 {l : Launch} {G : jG} {nh : Nat} {fh : Nat → Option va_E} (hk98 : fh 98 = some (.inr (12, [.int 0, .int 0, .ref 99, .ref 100, .ref 101, .ref 102, .ref 103, .ref 104, .ref 105, .int 0, .int (-1), .ref 106, .ref 107, .ref 108, .int 0, .int 0, .int 0, .int 0, .int 0, .int 0, .int 0, .ref 109, .int 0, .int 0, .ref 110, .ref 111, .ref 112, .ref 113, .ref 114, .ref 115, .ref 116, .ref 117, .int 0, .int 0, .int (-1), .int (-1), .ref 118, .ref 119, .ref 120, .ref 121, .ref 122, .ref 123, .ref 124, .ref 125, .ref 126, .ref 127, .ref 128, .ref 129, .int 0, .ref 130, .ref 131, .ref 132, .ref 133, .ref 134, .int 0, .int 0]))) (hk100 : fh 100 = some (.inl (0, 4870, .inl (upd (fun _ => 0) 63 (-1))))) (hk111 : fh 111 = some (.inl (0, 1260, .inl (fun _ => 0)))) (hk114 : fh 114 = some (.inl (0, 1260, .inl (fun _ => 0)))) (hk116 : fh 116 = some (.inl (0, 1260, .inl (fun _ => 0)))) (hk127 : fh 127 = some (.inl (1, 1260, .inr (.inl (fun _ => 0))))) (hk128 : fh 128 = some (.inl (1, 1260, .inr (.inl (fun _ => 0))))) : JM l G yX12_rows MX12_rows { frames := 3, cells := 0, slots := 0, locals := 69 } [.ref 98, .int 0, .int (-1), .int 2] (nh, fh) (fun r h9 => r = some (.long 0) ∧ h9 = (nh, hc fh [(127, .inl (1, 1260, .inr (.inl (vp_updL (vp_updL (vp_updL (fun _ => 0) 0 1) 0 0) 0 0)))), (128, .inl (1, 1260, .inr (.inl (vp_updL (vp_updL (fun _ => 0) 0 0) 0 0)))), (114, .inl (0, 1260, .inl (upd (fun _ => 0) 0 0))), (116, .inl (0, 1260, .inl (upd (fun _ => 0) 0 0))), (98, .inr (12, [.int 0, .int 0, .ref 99, .ref 100, .ref 101, .ref 102, .ref 103, .ref 104, .ref 105, .int 0, .int (-1), .ref 106, .ref 107, .ref 108, .int 0, .int 0, .int 0, .int 0, .int 0, .int 0, .int 0, .ref 109, .int 0, .int 0, .ref 110, .ref 111, .ref 112, .ref 113, .ref 114, .ref 115, .ref 116, .ref 117, .int 1, .int 0, .int 0, .int 0, .ref 118, .ref 119, .ref 120, .ref 121, .ref 122, .ref 123, .ref 124, .ref 125, .ref 126, .ref 127, .ref 128, .ref 129, .int 0, .ref 130, .ref 131, .ref 132, .ref 133, .ref 134, .int 0, .int 0])), (111, .inl (0, 1260, .inl (upd (fun _ => 0) 0 0)))])) := by
  refine JM.of (by decide) rfl (fun h => by cases h) (Nat.le_of_ble_eq_true rfl) ⟨3, rfl⟩ ?_
  refine J_hc0 (J_ls (ls2 := [some (.ref 98), some (.int 0), some (.int (-1)), some (.int 2), none, none, none]) rfl ?_)
  refine J_aload_n dX12_rows_0 rfl rfl ?_
  refine J_iload_n dX12_rows_1 rfl rfl ?_
  refine J_callV (st := []) dX12_rows_2 cv_X12_325 (c_X12_isHouse_2 hk98 hk100 hk111) hk98 rfl rfl (Nat.le_of_ble_eq_true rfl) ⟨(Nat.le_of_ble_eq_true rfl), (Nat.le_of_ble_eq_true rfl)⟩ ⟨(Nat.le_of_ble_eq_true rfl), (Nat.le_of_ble_eq_true rfl)⟩ (fun r h9 hp => ?_)
  obtain ⟨rfl, rfl⟩ := hp
  refine J_nf (nh2 := nh) (ck2 := 0) (sk2 := 0) (st2 := [.int 1]) rfl rfl rfl rfl ?_
  refine J_app (L3 := [(98, .inr (12, [.int 0, .int 0, .ref 99, .ref 100, .ref 101, .ref 102, .ref 103, .ref 104, .ref 105, .int 0, .int (-1), .ref 106, .ref 107, .ref 108, .int 0, .int 0, .int 0, .int 0, .int 0, .int 0, .int 0, .ref 109, .int 0, .int 0, .ref 110, .ref 111, .ref 112, .ref 113, .ref 114, .ref 115, .ref 116, .ref 117, .int 1, .int 0, .int 0, .int (-1), .ref 118, .ref 119, .ref 120, .ref 121, .ref 122, .ref 123, .ref 124, .ref 125, .ref 126, .ref 127, .ref 128, .ref 129, .int 0, .ref 130, .ref 131, .ref 132, .ref 133, .ref 134, .int 0, .int 0])), (111, .inl (0, 1260, .inl (upd (fun _ => 0) 0 0)))]) rfl ?_
  refine J_if_eq (tgt := 31) dX12_rows_5 (by decide) (fun q => absurd q (by decide +kernel)) (fun _ => ?_)
  refine J_iload_n dX12_rows_8 rfl rfl ?_
  refine J_iconst (v := (-1)) dX12_rows_9 (by decide) ?_
  refine J_icmp_eq (tgt := 21) dX12_rows_10 (by decide) (fun _ => ?_) (fun q => absurd (by decide +kernel) q)
  refine J_iload_n dX12_rows_21 rfl rfl ?_
  refine J_iconst (v := 0) dX12_rows_22 (by decide) ?_
  refine J_bipush (v := 12) dX12_rows_23 (by decide +kernel) ?_
  refine J_callS (st := []) dX12_rows_25 cs_X12_138 (c_X12_lies_51 ) rfl rfl (Nat.le_of_ble_eq_true rfl) ⟨(Nat.le_of_ble_eq_true rfl), (Nat.le_of_ble_eq_true rfl)⟩ ⟨(Nat.le_of_ble_eq_true rfl), (Nat.le_of_ble_eq_true rfl)⟩ (fun r h9 hp => ?_)
  obtain ⟨rfl, rfl⟩ := hp
  refine J_nf (nh2 := nh) (ck2 := 0) (sk2 := 0) (st2 := [.int 1]) rfl rfl rfl rfl ?_
  refine J_if_ne (tgt := 35) dX12_rows_28 (by decide) (fun _ => ?_) (fun q => absurd q (by decide +kernel))
  refine J_aload_n dX12_rows_35 rfl rfl ?_
  refine J_callV (st := []) dX12_rows_36 cv_X12_328 (c_X12_looks_1 rfl hk100 hk114 hk116) rfl rfl rfl (Nat.le_of_ble_eq_true rfl) ⟨(Nat.le_of_ble_eq_true rfl), (Nat.le_of_ble_eq_true rfl)⟩ ⟨(Nat.le_of_ble_eq_true rfl), (Nat.le_of_ble_eq_true rfl)⟩ (fun r h9 hp => ?_)
  obtain ⟨rfl, rfl⟩ := hp
  refine J_nf (nh2 := nh) (ck2 := 0) (sk2 := 0) (st2 := []) rfl rfl rfl rfl ?_
  refine J_app (L3 := [(114, .inl (0, 1260, .inl (upd (fun _ => 0) 0 0))), (116, .inl (0, 1260, .inl (upd (fun _ => 0) 0 0))), (98, .inr (12, [.int 0, .int 0, .ref 99, .ref 100, .ref 101, .ref 102, .ref 103, .ref 104, .ref 105, .int 0, .int (-1), .ref 106, .ref 107, .ref 108, .int 0, .int 0, .int 0, .int 0, .int 0, .int 0, .int 0, .ref 109, .int 0, .int 0, .ref 110, .ref 111, .ref 112, .ref 113, .ref 114, .ref 115, .ref 116, .ref 117, .int 1, .int 0, .int 0, .int 0, .ref 118, .ref 119, .ref 120, .ref 121, .ref 122, .ref 123, .ref 124, .ref 125, .ref 126, .ref 127, .ref 128, .ref 129, .int 0, .ref 130, .ref 131, .ref 132, .ref 133, .ref 134, .int 0, .int 0])), (98, .inr (12, [.int 0, .int 0, .ref 99, .ref 100, .ref 101, .ref 102, .ref 103, .ref 104, .ref 105, .int 0, .int (-1), .ref 106, .ref 107, .ref 108, .int 0, .int 0, .int 0, .int 0, .int 0, .int 0, .int 0, .ref 109, .int 0, .int 0, .ref 110, .ref 111, .ref 112, .ref 113, .ref 114, .ref 115, .ref 116, .ref 117, .int 1, .int 0, .int 0, .int (-1), .ref 118, .ref 119, .ref 120, .ref 121, .ref 122, .ref 123, .ref 124, .ref 125, .ref 126, .ref 127, .ref 128, .ref 129, .int 0, .ref 130, .ref 131, .ref 132, .ref 133, .ref 134, .int 0, .int 0])), (111, .inl (0, 1260, .inl (upd (fun _ => 0) 0 0)))]) rfl ?_
  refine J_iconst (v := 0) dX12_rows_39 (by decide) ?_
  refine J_istore dX12_rows_40 (Nat.le_of_ble_eq_true rfl) rfl ?_
  refine J_iload dX12_rows_42 rfl ?_
  refine J_aload_n dX12_rows_44 rfl rfl ?_
  refine J_get (v := .int 1) dX12_rows_45 fl_X12_298 rfl rfl ?_
  refine J_icmp_ge (tgt := 75) dX12_rows_48 (by decide) (fun q => absurd q (by decide +kernel)) (fun _ => ?_)
  refine J_aload_n dX12_rows_51 rfl rfl ?_
  refine J_get (v := .ref 127) dX12_rows_52 fl_X12_113 rfl rfl ?_
  refine J_iload dX12_rows_55 rfl ?_
  refine J_iload dX12_rows_57 rfl ?_
  refine J_iload_n dX12_rows_59 rfl rfl ?_
  refine J_icmp_ne (tgt := 67) dX12_rows_60 (by decide) (fun q => absurd (by decide +kernel) q) (fun _ => ?_)
  refine J_lconst (v := 1) dX12_rows_63 (by decide +kernel) ?_
  refine J_goto (tgt := 68) dX12_rows_64 (by decide) ?_
  refine K_last (i2 := 0) dX12_rows_68 hk127 rfl (jin (by decide +kernel)) (by decide +kernel) ?_
  refine J_iinc (v := 1) dX12_rows_69 rfl (by decide +kernel) (Nat.le_of_ble_eq_true rfl) rfl ?_
  refine J_ls (ls2 := [some (.ref 98), some (.int 0), some (.int (-1)), some (.int 2), some (.int 1), none, none]) rfl ?_
  refine J_goto (tgt := 42) dX12_rows_72 (by decide) ?_
  refine J_iload dX12_rows_42 rfl ?_
  refine J_aload_n dX12_rows_44 rfl rfl ?_
  refine J_get (v := .int 1) dX12_rows_45 fl_X12_298 rfl rfl ?_
  refine J_icmp_ge (tgt := 75) dX12_rows_48 (by decide) (fun _ => ?_) (fun q => absurd (by decide +kernel) q)
  refine J_iconst (v := 0) dX12_rows_75 (by decide) ?_
  refine J_istore dX12_rows_76 (Nat.le_of_ble_eq_true rfl) rfl ?_
  refine J_iload dX12_rows_78 rfl ?_
  refine J_iload_n dX12_rows_80 rfl rfl ?_
  refine J_icmp_ge (tgt := 215) dX12_rows_81 (by decide) (fun q => absurd q (by decide +kernel)) (fun _ => ?_)
  refine J_iconst (v := 0) dX12_rows_84 (by decide) ?_
  refine J_istore dX12_rows_85 (Nat.le_of_ble_eq_true rfl) rfl ?_
  refine J_iload dX12_rows_87 rfl ?_
  refine J_aload_n dX12_rows_89 rfl rfl ?_
  refine J_get (v := .int 1) dX12_rows_90 fl_X12_298 rfl rfl ?_
  refine J_icmp_ge (tgt := 110) dX12_rows_93 (by decide) (fun q => absurd q (by decide +kernel)) (fun _ => ?_)
  refine J_aload_n dX12_rows_96 rfl rfl ?_
  refine J_get (v := .ref 128) dX12_rows_97 fl_X12_116 rfl rfl ?_
  refine J_iload dX12_rows_100 rfl ?_
  refine J_lconst (v := 0) dX12_rows_102 (by decide +kernel) ?_
  refine K_last (i2 := 0) dX12_rows_103 hk128 rfl (jin (by decide +kernel)) (by decide +kernel) ?_
  refine J_iinc (v := 1) dX12_rows_104 rfl (by decide +kernel) (Nat.le_of_ble_eq_true rfl) rfl ?_
  refine J_ls (ls2 := [some (.ref 98), some (.int 0), some (.int (-1)), some (.int 2), some (.int 0), some (.int 1), none]) rfl ?_
  refine J_goto (tgt := 87) dX12_rows_107 (by decide) ?_
  refine J_iload dX12_rows_87 rfl ?_
  refine J_aload_n dX12_rows_89 rfl rfl ?_
  refine J_get (v := .int 1) dX12_rows_90 fl_X12_298 rfl rfl ?_
  refine J_icmp_ge (tgt := 110) dX12_rows_93 (by decide) (fun _ => ?_) (fun q => absurd (by decide +kernel) q)
  refine J_iconst (v := 0) dX12_rows_110 (by decide) ?_
  refine J_istore dX12_rows_111 (Nat.le_of_ble_eq_true rfl) rfl ?_
  refine J_iload dX12_rows_113 rfl ?_
  refine J_aload_n dX12_rows_115 rfl rfl ?_
  refine J_get (v := .int 1) dX12_rows_116 fl_X12_298 rfl rfl ?_
  refine J_icmp_ge (tgt := 177) dX12_rows_119 (by decide) (fun q => absurd q (by decide +kernel)) (fun _ => ?_)
  refine J_iconst (v := 0) dX12_rows_122 (by decide) ?_
  refine J_istore dX12_rows_123 (Nat.le_of_ble_eq_true rfl) rfl ?_
  refine J_iload dX12_rows_125 rfl ?_
  refine J_aload_n dX12_rows_127 rfl rfl ?_
  refine J_get (v := .ref 114) dX12_rows_128 fl_X12_67 rfl rfl ?_
  refine J_iload dX12_rows_131 rfl ?_
  refine J_iald (i2 := 0) (v := 0) dX12_rows_133 rfl rfl (jin (by decide +kernel)) (by decide +kernel) rfl ?_
  refine J_icmp_ge (tgt := 171) dX12_rows_134 (by decide) (fun _ => ?_) (fun q => absurd (by decide +kernel) q)
  refine J_iinc (v := 1) dX12_rows_171 rfl (by decide +kernel) (Nat.le_of_ble_eq_true rfl) rfl ?_
  refine J_ls (ls2 := [some (.ref 98), some (.int 0), some (.int (-1)), some (.int 2), some (.int 0), some (.int 1), some (.int 0)]) rfl ?_
  refine J_goto (tgt := 113) dX12_rows_174 (by decide) ?_
  refine J_iload dX12_rows_113 rfl ?_
  refine J_aload_n dX12_rows_115 rfl rfl ?_
  refine J_get (v := .int 1) dX12_rows_116 fl_X12_298 rfl rfl ?_
  refine J_icmp_ge (tgt := 177) dX12_rows_119 (by decide) (fun _ => ?_) (fun q => absurd (by decide +kernel) q)
  refine J_iconst (v := 0) dX12_rows_177 (by decide) ?_
  refine J_istore dX12_rows_178 (Nat.le_of_ble_eq_true rfl) rfl ?_
  refine J_iload dX12_rows_180 rfl ?_
  refine J_aload_n dX12_rows_182 rfl rfl ?_
  refine J_get (v := .int 1) dX12_rows_183 fl_X12_298 rfl rfl ?_
  refine J_icmp_ge (tgt := 209) dX12_rows_186 (by decide) (fun q => absurd q (by decide +kernel)) (fun _ => ?_)
  refine J_aload_n dX12_rows_189 rfl rfl ?_
  refine J_get (v := .ref 127) dX12_rows_190 fl_X12_113 rfl rfl ?_
  refine J_iload dX12_rows_193 rfl ?_
  refine J_aload_n dX12_rows_195 rfl rfl ?_
  refine J_get (v := .ref 128) dX12_rows_196 fl_X12_116 rfl rfl ?_
  refine J_iload dX12_rows_199 rfl ?_
  refine J_lald (i2 := 0) (v := 0) dX12_rows_201 rfl rfl (jin (by decide +kernel)) (by decide +kernel) rfl ?_
  refine K_last (i2 := 0) dX12_rows_202 rfl rfl (jin (by decide +kernel)) (by decide +kernel) ?_
  refine J_iinc (v := 1) dX12_rows_203 rfl (by decide +kernel) (Nat.le_of_ble_eq_true rfl) rfl ?_
  refine J_ls (ls2 := [some (.ref 98), some (.int 0), some (.int (-1)), some (.int 2), some (.int 0), some (.int 1), some (.int 0)]) rfl ?_
  refine J_goto (tgt := 180) dX12_rows_206 (by decide) ?_
  refine J_iload dX12_rows_180 rfl ?_
  refine J_aload_n dX12_rows_182 rfl rfl ?_
  refine J_get (v := .int 1) dX12_rows_183 fl_X12_298 rfl rfl ?_
  refine J_icmp_ge (tgt := 209) dX12_rows_186 (by decide) (fun _ => ?_) (fun q => absurd (by decide +kernel) q)
  refine J_iinc (v := 1) dX12_rows_209 rfl (by decide +kernel) (Nat.le_of_ble_eq_true rfl) rfl ?_
  refine J_ls (ls2 := [some (.ref 98), some (.int 0), some (.int (-1)), some (.int 2), some (.int 1), some (.int 1), some (.int 0)]) rfl ?_
  refine J_goto (tgt := 78) dX12_rows_212 (by decide) ?_
  refine J_iload dX12_rows_78 rfl ?_
  refine J_iload_n dX12_rows_80 rfl rfl ?_
  refine J_icmp_ge (tgt := 215) dX12_rows_81 (by decide) (fun q => absurd q (by decide +kernel)) (fun _ => ?_)
  refine J_iconst (v := 0) dX12_rows_84 (by decide) ?_
  refine J_istore dX12_rows_85 (Nat.le_of_ble_eq_true rfl) rfl ?_
  refine J_iload dX12_rows_87 rfl ?_
  refine J_aload_n dX12_rows_89 rfl rfl ?_
  refine J_get (v := .int 1) dX12_rows_90 fl_X12_298 rfl rfl ?_
  refine J_icmp_ge (tgt := 110) dX12_rows_93 (by decide) (fun q => absurd q (by decide +kernel)) (fun _ => ?_)
  refine J_aload_n dX12_rows_96 rfl rfl ?_
  refine J_get (v := .ref 128) dX12_rows_97 fl_X12_116 rfl rfl ?_
  refine J_iload dX12_rows_100 rfl ?_
  refine J_lconst (v := 0) dX12_rows_102 (by decide +kernel) ?_
  refine K_last (i2 := 0) dX12_rows_103 rfl rfl (jin (by decide +kernel)) (by decide +kernel) ?_
  refine J_iinc (v := 1) dX12_rows_104 rfl (by decide +kernel) (Nat.le_of_ble_eq_true rfl) rfl ?_
  refine J_ls (ls2 := [some (.ref 98), some (.int 0), some (.int (-1)), some (.int 2), some (.int 1), some (.int 1), some (.int 0)]) rfl ?_
  refine J_goto (tgt := 87) dX12_rows_107 (by decide) ?_
  refine J_iload dX12_rows_87 rfl ?_
  refine J_aload_n dX12_rows_89 rfl rfl ?_
  refine J_get (v := .int 1) dX12_rows_90 fl_X12_298 rfl rfl ?_
  refine J_icmp_ge (tgt := 110) dX12_rows_93 (by decide) (fun _ => ?_) (fun q => absurd (by decide +kernel) q)
  refine J_iconst (v := 0) dX12_rows_110 (by decide) ?_
  refine J_istore dX12_rows_111 (Nat.le_of_ble_eq_true rfl) rfl ?_
  refine J_iload dX12_rows_113 rfl ?_
  refine J_aload_n dX12_rows_115 rfl rfl ?_
  refine J_get (v := .int 1) dX12_rows_116 fl_X12_298 rfl rfl ?_
  refine J_icmp_ge (tgt := 177) dX12_rows_119 (by decide) (fun q => absurd q (by decide +kernel)) (fun _ => ?_)
  refine J_iconst (v := 0) dX12_rows_122 (by decide) ?_
  refine J_istore dX12_rows_123 (Nat.le_of_ble_eq_true rfl) rfl ?_
  refine J_iload dX12_rows_125 rfl ?_
  refine J_aload_n dX12_rows_127 rfl rfl ?_
  refine J_get (v := .ref 114) dX12_rows_128 fl_X12_67 rfl rfl ?_
  refine J_iload dX12_rows_131 rfl ?_
  refine J_iald (i2 := 0) (v := 0) dX12_rows_133 rfl rfl (jin (by decide +kernel)) (by decide +kernel) rfl ?_
  refine J_icmp_ge (tgt := 171) dX12_rows_134 (by decide) (fun _ => ?_) (fun q => absurd (by decide +kernel) q)
  refine J_iinc (v := 1) dX12_rows_171 rfl (by decide +kernel) (Nat.le_of_ble_eq_true rfl) rfl ?_
  refine J_ls (ls2 := [some (.ref 98), some (.int 0), some (.int (-1)), some (.int 2), some (.int 1), some (.int 1), some (.int 0)]) rfl ?_
  refine J_goto (tgt := 113) dX12_rows_174 (by decide) ?_
  refine J_iload dX12_rows_113 rfl ?_
  refine J_aload_n dX12_rows_115 rfl rfl ?_
  refine J_get (v := .int 1) dX12_rows_116 fl_X12_298 rfl rfl ?_
  refine J_icmp_ge (tgt := 177) dX12_rows_119 (by decide) (fun _ => ?_) (fun q => absurd (by decide +kernel) q)
  refine J_iconst (v := 0) dX12_rows_177 (by decide) ?_
  refine J_istore dX12_rows_178 (Nat.le_of_ble_eq_true rfl) rfl ?_
  refine J_iload dX12_rows_180 rfl ?_
  refine J_aload_n dX12_rows_182 rfl rfl ?_
  refine J_get (v := .int 1) dX12_rows_183 fl_X12_298 rfl rfl ?_
  refine J_icmp_ge (tgt := 209) dX12_rows_186 (by decide) (fun q => absurd q (by decide +kernel)) (fun _ => ?_)
  refine J_aload_n dX12_rows_189 rfl rfl ?_
  refine J_get (v := .ref 127) dX12_rows_190 fl_X12_113 rfl rfl ?_
  refine J_iload dX12_rows_193 rfl ?_
  refine J_aload_n dX12_rows_195 rfl rfl ?_
  refine J_get (v := .ref 128) dX12_rows_196 fl_X12_116 rfl rfl ?_
  refine J_iload dX12_rows_199 rfl ?_
  refine J_lald (i2 := 0) (v := 0) dX12_rows_201 rfl rfl (jin (by decide +kernel)) (by decide +kernel) rfl ?_
  refine K_last (i2 := 0) dX12_rows_202 rfl rfl (jin (by decide +kernel)) (by decide +kernel) ?_
  refine J_iinc (v := 1) dX12_rows_203 rfl (by decide +kernel) (Nat.le_of_ble_eq_true rfl) rfl ?_
  refine J_ls (ls2 := [some (.ref 98), some (.int 0), some (.int (-1)), some (.int 2), some (.int 1), some (.int 1), some (.int 0)]) rfl ?_
  refine J_goto (tgt := 180) dX12_rows_206 (by decide) ?_
  refine J_iload dX12_rows_180 rfl ?_
  refine J_aload_n dX12_rows_182 rfl rfl ?_
  refine J_get (v := .int 1) dX12_rows_183 fl_X12_298 rfl rfl ?_
  refine J_icmp_ge (tgt := 209) dX12_rows_186 (by decide) (fun _ => ?_) (fun q => absurd (by decide +kernel) q)
  refine J_iinc (v := 2) dX12_rows_209 rfl (by decide +kernel) (Nat.le_of_ble_eq_true rfl) rfl ?_
  refine J_ls (ls2 := [some (.ref 98), some (.int 0), some (.int (-1)), some (.int 2), some (.int 2), some (.int 1), some (.int 0)]) rfl ?_
  refine J_goto (tgt := 78) dX12_rows_212 (by decide) ?_
  refine J_iload dX12_rows_78 rfl ?_
  refine J_iload_n dX12_rows_80 rfl rfl ?_
  refine J_icmp_ge (tgt := 215) dX12_rows_81 (by decide) (fun _ => ?_) (fun q => absurd (by decide +kernel) q)
  refine J_iload_n dX12_rows_215 rfl rfl ?_
  refine J_iconst (v := (-1)) dX12_rows_216 (by decide) ?_
  refine J_icmp_eq (tgt := 227) dX12_rows_217 (by decide) (fun _ => ?_) (fun q => absurd (by decide +kernel) q)
  refine J_lconst (v := 0) dX12_rows_227 (by decide +kernel) ?_
  refine J_lstore dX12_rows_228 (Nat.le_of_ble_eq_true rfl) rfl ?_
  refine J_iconst (v := 0) dX12_rows_230 (by decide) ?_
  refine J_istore dX12_rows_231 (Nat.le_of_ble_eq_true rfl) rfl ?_
  refine J_iload dX12_rows_233 rfl ?_
  refine J_aload_n dX12_rows_235 rfl rfl ?_
  refine J_get (v := .int 1) dX12_rows_236 fl_X12_298 rfl rfl ?_
  refine J_icmp_ge (tgt := 260) dX12_rows_239 (by decide) (fun q => absurd q (by decide +kernel)) (fun _ => ?_)
  refine J_lload dX12_rows_242 rfl ?_
  refine J_aload_n dX12_rows_244 rfl rfl ?_
  refine J_get (v := .ref 127) dX12_rows_245 fl_X12_113 rfl rfl ?_
  refine J_iload dX12_rows_248 rfl ?_
  refine J_lald (i2 := 0) (v := 0) dX12_rows_250 rfl rfl (jin (by decide +kernel)) (by decide +kernel) rfl ?_
  refine J_ladd (z := 0) dX12_rows_251 (by decide +kernel) ?_
  refine J_lstore dX12_rows_252 (Nat.le_of_ble_eq_true rfl) rfl ?_
  refine J_iinc (v := 1) dX12_rows_254 rfl (by decide +kernel) (Nat.le_of_ble_eq_true rfl) rfl ?_
  refine J_ls (ls2 := [some (.ref 98), some (.int 0), some (.int (-1)), some (.int 2), some (.long 0), none, some (.int 1)]) rfl ?_
  refine J_goto (tgt := 233) dX12_rows_257 (by decide) ?_
  refine J_iload dX12_rows_233 rfl ?_
  refine J_aload_n dX12_rows_235 rfl rfl ?_
  refine J_get (v := .int 1) dX12_rows_236 fl_X12_298 rfl rfl ?_
  refine J_icmp_ge (tgt := 260) dX12_rows_239 (by decide) (fun _ => ?_) (fun q => absurd (by decide +kernel) q)
  refine J_lload dX12_rows_260 rfl ?_
  refine J_mask (L2 := [(127, .inl (1, 1260, .inr (.inl (vp_updL (vp_updL (vp_updL (fun _ => 0) 0 1) 0 0) 0 0)))), (128, .inl (1, 1260, .inr (.inl (vp_updL (vp_updL (fun _ => 0) 0 0) 0 0)))), (114, .inl (0, 1260, .inl (upd (fun _ => 0) 0 0))), (116, .inl (0, 1260, .inl (upd (fun _ => 0) 0 0))), (98, .inr (12, [.int 0, .int 0, .ref 99, .ref 100, .ref 101, .ref 102, .ref 103, .ref 104, .ref 105, .int 0, .int (-1), .ref 106, .ref 107, .ref 108, .int 0, .int 0, .int 0, .int 0, .int 0, .int 0, .int 0, .ref 109, .int 0, .int 0, .ref 110, .ref 111, .ref 112, .ref 113, .ref 114, .ref 115, .ref 116, .ref 117, .int 1, .int 0, .int 0, .int 0, .ref 118, .ref 119, .ref 120, .ref 121, .ref 122, .ref 123, .ref 124, .ref 125, .ref 126, .ref 127, .ref 128, .ref 129, .int 0, .ref 130, .ref 131, .ref 132, .ref 133, .ref 134, .int 0, .int 0])), (111, .inl (0, 1260, .inl (upd (fun _ => 0) 0 0)))]) (ks := [127, 128, 127, 128, 127, 114, 116, 98, 98, 111]) [true, true, false, false, false, true, true, true, false, true] rfl (by decide +kernel) rfl ?_
  exact J_lret dX12_rows_262 rfl (Nat.le_of_ble_eq_true rfl) (Nat.le_of_ble_eq_true rfl) ⟨rfl, rfl⟩
set_option maxHeartbeats 4000000 in
set_option maxRecDepth 100000 in
theorem c_J7_fill_bad5a_4 {l : Launch} {G : jG} {nh : Nat} {fh : Nat → Option va_E} (hk74 : fh 74 = some (.inl (1, 1260, .inr (.inl (vp_updL (fun _ => 0) 0 0))))) : JM l G yJ7_fill_bad5a MJ7_fill_bad5a { frames := 1, cells := 0, slots := 0, locals := 22 } [.ref 74, .int 0, .int 1, .long 0] (nh, fh) (fun r h9 => r = none ∧ h9 = (nh, hc fh [(74, .inl (1, 1260, .inr (.inl (vp_updL (vp_updL (fun _ => 0) 0 0) 0 0))))])) := by
  refine JM.of (by decide) rfl (fun h => by cases h) (Nat.le_of_ble_eq_true rfl) ⟨1, rfl⟩ ?_
  refine J_hc0 (J_ls (ls2 := [some (.ref 74), some (.int 0), some (.int 1), some (.long 0), none, none]) rfl ?_)
  refine J_aload_n dJ7_fill_bad5a_0 rfl rfl ?_
  refine J_alen (v := 1260) dJ7_fill_bad5a_1 hk74 rfl (by decide +kernel) ?_
  refine J_iload_n dJ7_fill_bad5a_2 rfl rfl ?_
  refine J_iload_n dJ7_fill_bad5a_3 rfl rfl ?_
  refine J_callS (st := []) dJ7_fill_bad5a_4 cs_J7_13 (c_J7_rangeCheck_23922_1 ) rfl rfl (Nat.le_of_ble_eq_true rfl) ⟨(Nat.le_of_ble_eq_true rfl), (Nat.le_of_ble_eq_true rfl)⟩ ⟨(Nat.le_of_ble_eq_true rfl), (Nat.le_of_ble_eq_true rfl)⟩ (fun r h9 hp => ?_)
  obtain ⟨rfl, rfl⟩ := hp
  refine J_nf (nh2 := nh) (ck2 := 0) (sk2 := 0) (st2 := []) rfl rfl rfl rfl ?_
  refine J_iload_n dJ7_fill_bad5a_7 rfl rfl ?_
  refine J_istore dJ7_fill_bad5a_8 (Nat.le_of_ble_eq_true rfl) rfl ?_
  refine J_iload dJ7_fill_bad5a_10 rfl ?_
  refine J_iload_n dJ7_fill_bad5a_12 rfl rfl ?_
  refine J_icmp_ge (tgt := 27) dJ7_fill_bad5a_13 (by decide) (fun q => absurd q (by decide +kernel)) (fun _ => ?_)
  refine J_aload_n dJ7_fill_bad5a_16 rfl rfl ?_
  refine J_iload dJ7_fill_bad5a_17 rfl ?_
  refine J_lload_n dJ7_fill_bad5a_19 rfl rfl ?_
  refine K_last (i2 := 0) dJ7_fill_bad5a_20 hk74 rfl (jin (by decide +kernel)) (by decide +kernel) ?_
  refine J_iinc (v := 1) dJ7_fill_bad5a_21 rfl (by decide +kernel) (Nat.le_of_ble_eq_true rfl) rfl ?_
  refine J_ls (ls2 := [some (.ref 74), some (.int 0), some (.int 1), some (.long 0), none, some (.int 1)]) rfl ?_
  refine J_goto (tgt := 10) dJ7_fill_bad5a_24 (by decide) ?_
  refine J_iload dJ7_fill_bad5a_10 rfl ?_
  refine J_iload_n dJ7_fill_bad5a_12 rfl rfl ?_
  refine J_icmp_ge (tgt := 27) dJ7_fill_bad5a_13 (by decide) (fun _ => ?_) (fun q => absurd (by decide +kernel) q)
  exact J_vret dJ7_fill_bad5a_27 rfl (Nat.le_of_ble_eq_true rfl) (Nat.le_of_ble_eq_true rfl) ⟨rfl, rfl⟩
set_option maxHeartbeats 4000000 in
set_option maxRecDepth 100000 in
theorem c_X10_lengthenRows_3 {l : Launch} {G : jG} {nh : Nat} {fh : Nat → Option va_E} (hk65 : fh 65 = some (.inr (10, [.ref 51, .ref 57, .ref 66, .ref 67, .ref 68, .int 0, .int (-1), .int (-1), .ref 69, .ref 70, .ref 71, .ref 72, .int 0, .int (-1), .int (-1), .ref 73, .ref 74]))) (hk73 : fh 73 = some (.inl (1, 1260, .inr (.inl (vp_updL (vp_updL (vp_updL (fun _ => 0) 0 0) 0 1) 0 0))))) (hk74 : fh 74 = some (.inl (1, 1260, .inr (.inl (vp_updL (fun _ => 0) 0 0))))) : JM l G yX10_lengthenRows MX10_lengthenRows { frames := 2, cells := 0, slots := 0, locals := 47 } [.ref 65, .int 1] (nh, fh) (fun r h9 => r = none ∧ h9 = (nh, hc fh [(65, .inr (10, [.ref 51, .ref 57, .ref 66, .ref 67, .ref 68, .int 0, .int (-1), .int (-1), .ref 69, .ref 70, .ref 71, .ref 72, .int 0, .int (-1), .int (-1), .ref 74, .ref 73])), (74, .inl (1, 1260, .inr (.inl (vp_updL (vp_updL (fun _ => 0) 0 0) 0 0))))])) := by
  refine JM.of (by decide) rfl (fun h => by cases h) (Nat.le_of_ble_eq_true rfl) ⟨3, rfl⟩ ?_
  refine J_hc0 (J_ls (ls2 := [some (.ref 65), some (.int 1), none, none, none]) rfl ?_)
  refine J_aload_n dX10_lengthenRows_0 rfl rfl ?_
  refine J_get (v := .ref 74) dX10_lengthenRows_1 fl_X10_56 hk65 rfl ?_
  refine J_iconst (v := 0) dX10_lengthenRows_4 (by decide) ?_
  refine J_iload_n dX10_lengthenRows_5 rfl rfl ?_
  refine J_lconst (v := 0) dX10_lengthenRows_6 (by decide +kernel) ?_
  refine J_callS (st := []) dX10_lengthenRows_7 cs_X10_127 (c_J7_fill_bad5a_4 hk74) rfl rfl (Nat.le_of_ble_eq_true rfl) ⟨(Nat.le_of_ble_eq_true rfl), (Nat.le_of_ble_eq_true rfl)⟩ ⟨(Nat.le_of_ble_eq_true rfl), (Nat.le_of_ble_eq_true rfl)⟩ (fun r h9 hp => ?_)
  obtain ⟨rfl, rfl⟩ := hp
  refine J_nf (nh2 := nh) (ck2 := 0) (sk2 := 0) (st2 := []) rfl rfl rfl rfl ?_
  refine J_app (L3 := [(74, .inl (1, 1260, .inr (.inl (vp_updL (vp_updL (fun _ => 0) 0 0) 0 0))))]) rfl ?_
  refine J_iconst (v := 0) dX10_lengthenRows_10 (by decide) ?_
  refine J_istore_n dX10_lengthenRows_11 rfl (Nat.le_of_ble_eq_true rfl) rfl ?_
  refine J_iload_n dX10_lengthenRows_12 rfl rfl ?_
  refine J_iload_n dX10_lengthenRows_13 rfl rfl ?_
  refine J_icmp_ge (tgt := 86) dX10_lengthenRows_14 (by decide) (fun q => absurd q (by decide +kernel)) (fun _ => ?_)
  refine J_aload_n dX10_lengthenRows_17 rfl rfl ?_
  refine J_get (v := .ref 73) dX10_lengthenRows_18 fl_X10_52 hk65 rfl ?_
  refine J_iload_n dX10_lengthenRows_21 rfl rfl ?_
  refine J_lald (i2 := 0) (v := 0) dX10_lengthenRows_22 hk73 rfl (jin (by decide +kernel)) (by decide +kernel) rfl ?_
  refine J_lconst (v := 0) dX10_lengthenRows_23 (by decide +kernel) ?_
  refine J_lcmp (z := 0) dX10_lengthenRows_24 (by decide +kernel) ?_
  refine J_if_ne (tgt := 32) dX10_lengthenRows_25 (by decide) (fun q => absurd (by decide +kernel) q) (fun _ => ?_)
  refine J_iconst (v := 0) dX10_lengthenRows_28 (by decide) ?_
  refine J_goto (tgt := 40) dX10_lengthenRows_29 (by decide) ?_
  refine J_istore_n dX10_lengthenRows_40 rfl (Nat.le_of_ble_eq_true rfl) rfl ?_
  refine J_iconst (v := 0) dX10_lengthenRows_41 (by decide) ?_
  refine J_istore dX10_lengthenRows_42 (Nat.le_of_ble_eq_true rfl) rfl ?_
  refine J_iload dX10_lengthenRows_44 rfl ?_
  refine J_iload_n dX10_lengthenRows_46 rfl rfl ?_
  refine J_icmp_ge (tgt := 80) dX10_lengthenRows_47 (by decide) (fun _ => ?_) (fun q => absurd (by decide +kernel) q)
  refine J_iinc (v := 1) dX10_lengthenRows_80 rfl (by decide +kernel) (Nat.le_of_ble_eq_true rfl) rfl ?_
  refine J_ls (ls2 := [some (.ref 65), some (.int 1), some (.int 1), some (.int 0), some (.int 0)]) rfl ?_
  refine J_goto (tgt := 12) dX10_lengthenRows_83 (by decide) ?_
  refine J_iload_n dX10_lengthenRows_12 rfl rfl ?_
  refine J_iload_n dX10_lengthenRows_13 rfl rfl ?_
  refine J_icmp_ge (tgt := 86) dX10_lengthenRows_14 (by decide) (fun _ => ?_) (fun q => absurd (by decide +kernel) q)
  refine J_aload_n dX10_lengthenRows_86 rfl rfl ?_
  refine J_get (v := .ref 73) dX10_lengthenRows_87 fl_X10_52 hk65 rfl ?_
  refine J_astore_n dX10_lengthenRows_90 rfl (Nat.le_of_ble_eq_true rfl) rfl ?_
  refine J_aload_n dX10_lengthenRows_91 rfl rfl ?_
  refine J_aload_n dX10_lengthenRows_92 rfl rfl ?_
  refine J_get (v := .ref 74) dX10_lengthenRows_93 fl_X10_56 hk65 rfl ?_
  refine K_put (fs2 := [.ref 51, .ref 57, .ref 66, .ref 67, .ref 68, .int 0, .int (-1), .int (-1), .ref 69, .ref 70, .ref 71, .ref 72, .int 0, .int (-1), .int (-1), .ref 74, .ref 74]) dX10_lengthenRows_96 fw_X10_52 hk65 (Nat.le_of_ble_eq_true rfl) (fun _ => ⟨rfl, rfl⟩) rfl ?_
  refine J_aload_n dX10_lengthenRows_99 rfl rfl ?_
  refine J_aload_n dX10_lengthenRows_100 rfl rfl ?_
  refine K_put (fs2 := [.ref 51, .ref 57, .ref 66, .ref 67, .ref 68, .int 0, .int (-1), .int (-1), .ref 69, .ref 70, .ref 71, .ref 72, .int 0, .int (-1), .int (-1), .ref 74, .ref 73]) dX10_lengthenRows_101 fw_X10_56 rfl (Nat.le_of_ble_eq_true rfl) (fun _ => ⟨rfl, rfl⟩) rfl ?_
  refine J_mask (L2 := [(65, .inr (10, [.ref 51, .ref 57, .ref 66, .ref 67, .ref 68, .int 0, .int (-1), .int (-1), .ref 69, .ref 70, .ref 71, .ref 72, .int 0, .int (-1), .int (-1), .ref 74, .ref 73])), (74, .inl (1, 1260, .inr (.inl (vp_updL (vp_updL (fun _ => 0) 0 0) 0 0))))]) (ks := [65, 65, 74]) [true, false, true] rfl (by decide +kernel) rfl ?_
  exact J_vret dX10_lengthenRows_104 rfl (Nat.le_of_ble_eq_true rfl) (Nat.le_of_ble_eq_true rfl) ⟨rfl, rfl⟩
set_option maxHeartbeats 4000000 in
set_option maxRecDepth 100000 in
theorem c_X10_rowsTo_4 {l : Launch} {G : jG} {nh : Nat} {fh : Nat → Option va_E} (hk1 : fh 1 = some (.inr (8, [.ref 2, .ref 3, .ref 4, .int 0, .int (-1), .ref 11, .ref 12, .int 0, .ref 13, .ref 14, .int 0, .ref 15, .ref 16, .int 0]))) (hk3 : fh 3 = some (.inl (0, 2, .inl (fun _ => 0)))) (hk51 : fh 51 = some (.inr (0, [.ref 52, .ref 53, .int 1, .int 0]))) (hk52 : fh 52 = some (.inl (0, 1260, .inl (upd (fun _ => 0) 0 0)))) (hk57 : fh 57 = some (.inr (9, [.ref 1, .ref 51, .ref 58, .ref 61, .ref 62, .ref 135, .ref 64, .int 0, .int 0, .int 0]))) (hk62 : fh 62 = some (.inl (0, 1260, .inl (upd (fun _ => 0) 0 (-1))))) (hk65 : fh 65 = some (.inr (10, [.ref 51, .ref 57, .ref 66, .ref 67, .ref 68, .int 0, .int (-1), .int (-1), .ref 69, .ref 70, .ref 71, .ref 72, .int 0, .int (-1), .int (-1), .ref 73, .ref 74]))) (hk73 : fh 73 = some (.inl (1, 1260, .inr (.inl (fun _ => 0))))) (hk74 : fh 74 = some (.inl (1, 1260, .inr (.inl (fun _ => 0))))) : JM l G yX10_rowsTo MX10_rowsTo { frames := 5, cells := 0, slots := 0, locals := 119 } [.ref 65, .int 0, .int (-1), .int 3] (nh, fh) (fun r h9 => r = some (.long 0) ∧ h9 = (nh, hc fh [(65, .inr (10, [.ref 51, .ref 57, .ref 66, .ref 67, .ref 68, .int 0, .int (-1), .int (-1), .ref 69, .ref 70, .ref 71, .ref 72, .int 0, .int (-1), .int (-1), .ref 74, .ref 73])), (74, .inl (1, 1260, .inr (.inl (vp_updL (vp_updL (fun _ => 0) 0 0) 0 0)))), (73, .inl (1, 1260, .inr (.inl (vp_updL (vp_updL (vp_updL (fun _ => 0) 0 0) 0 1) 0 0)))), (62, .inl (0, 1260, .inl (upd (upd (fun _ => 0) 0 (-1)) 0 0)))])) := by
  refine JM.of (by decide) rfl (fun h => by cases h) (Nat.le_of_ble_eq_true rfl) ⟨4, rfl⟩ ?_
  refine J_hc0 (J_ls (ls2 := [some (.ref 65), some (.int 0), some (.int (-1)), some (.int 3), none, none, none, none]) rfl ?_)
  refine J_aload_n dX10_rowsTo_0 rfl rfl ?_
  refine J_get (v := .ref 51) dX10_rowsTo_1 fl_X10_59 hk65 rfl ?_
  refine J_callV (st := []) dX10_rowsTo_4 cv_X10_83 (c_X0_many_1 hk51) hk51 rfl rfl (Nat.le_of_ble_eq_true rfl) ⟨(Nat.le_of_ble_eq_true rfl), (Nat.le_of_ble_eq_true rfl)⟩ ⟨(Nat.le_of_ble_eq_true rfl), (Nat.le_of_ble_eq_true rfl)⟩ (fun r h9 hp => ?_)
  obtain ⟨rfl, rfl⟩ := hp
  refine J_nf (nh2 := nh) (ck2 := 0) (sk2 := 0) (st2 := [.int 1]) rfl rfl rfl rfl ?_
  refine J_istore dX10_rowsTo_7 (Nat.le_of_ble_eq_true rfl) rfl ?_
  refine J_aload_n dX10_rowsTo_9 rfl rfl ?_
  refine J_get (v := .ref 73) dX10_rowsTo_10 fl_X10_52 hk65 rfl ?_
  refine J_iconst (v := 0) dX10_rowsTo_13 (by decide) ?_
  refine J_iload dX10_rowsTo_14 rfl ?_
  refine J_lconst (v := 0) dX10_rowsTo_16 (by decide +kernel) ?_
  refine J_callS (st := []) dX10_rowsTo_17 cs_X10_127 (c_J7_fill_bad5a_1 hk73) rfl rfl (Nat.le_of_ble_eq_true rfl) ⟨(Nat.le_of_ble_eq_true rfl), (Nat.le_of_ble_eq_true rfl)⟩ ⟨(Nat.le_of_ble_eq_true rfl), (Nat.le_of_ble_eq_true rfl)⟩ (fun r h9 hp => ?_)
  obtain ⟨rfl, rfl⟩ := hp
  refine J_nf (nh2 := nh) (ck2 := 0) (sk2 := 0) (st2 := []) rfl rfl rfl rfl ?_
  refine J_app (L3 := [(73, .inl (1, 1260, .inr (.inl (vp_updL (fun _ => 0) 0 0))))]) rfl ?_
  refine J_aload_n dX10_rowsTo_20 rfl rfl ?_
  refine J_get (v := .ref 73) dX10_rowsTo_21 fl_X10_52 hk65 rfl ?_
  refine J_iload_n dX10_rowsTo_24 rfl rfl ?_
  refine J_lconst (v := 1) dX10_rowsTo_25 (by decide +kernel) ?_
  refine K_last (i2 := 0) dX10_rowsTo_26 rfl rfl (jin (by decide +kernel)) (by decide +kernel) ?_
  refine J_iconst (v := 0) dX10_rowsTo_27 (by decide) ?_
  refine J_istore dX10_rowsTo_28 (Nat.le_of_ble_eq_true rfl) rfl ?_
  refine J_iload dX10_rowsTo_30 rfl ?_
  refine J_iload_n dX10_rowsTo_32 rfl rfl ?_
  refine J_icmp_ge (tgt := 48) dX10_rowsTo_33 (by decide) (fun q => absurd q (by decide +kernel)) (fun _ => ?_)
  refine J_aload_n dX10_rowsTo_36 rfl rfl ?_
  refine J_iload dX10_rowsTo_37 rfl ?_
  refine J_callV (st := []) dX10_rowsTo_39 cv_X10_130 (c_X10_lengthenRows_1 hk1 hk3 hk51 hk52 hk57 hk62 hk65 rfl hk74) hk65 rfl rfl (Nat.le_of_ble_eq_true rfl) ⟨(Nat.le_of_ble_eq_true rfl), (Nat.le_of_ble_eq_true rfl)⟩ ⟨(Nat.le_of_ble_eq_true rfl), (Nat.le_of_ble_eq_true rfl)⟩ (fun r h9 hp => ?_)
  obtain ⟨rfl, rfl⟩ := hp
  refine J_nf (nh2 := nh) (ck2 := 0) (sk2 := 0) (st2 := []) rfl rfl rfl rfl ?_
  refine J_app (L3 := [(65, .inr (10, [.ref 51, .ref 57, .ref 66, .ref 67, .ref 68, .int 0, .int (-1), .int (-1), .ref 69, .ref 70, .ref 71, .ref 72, .int 0, .int (-1), .int (-1), .ref 74, .ref 73])), (62, .inl (0, 1260, .inl (upd (upd (fun _ => 0) 0 (-1)) 0 0))), (74, .inl (1, 1260, .inr (.inl (vp_updL (fun _ => 0) 0 0)))), (73, .inl (1, 1260, .inr (.inl (vp_updL (vp_updL (fun _ => 0) 0 0) 0 1)))), (73, .inl (1, 1260, .inr (.inl (vp_updL (fun _ => 0) 0 0))))]) rfl ?_
  refine J_iinc (v := 1) dX10_rowsTo_42 rfl (by decide +kernel) (Nat.le_of_ble_eq_true rfl) rfl ?_
  refine J_ls (ls2 := [some (.ref 65), some (.int 0), some (.int (-1)), some (.int 3), some (.int 1), some (.int 1), none, none]) rfl ?_
  refine J_goto (tgt := 30) dX10_rowsTo_45 (by decide) ?_
  refine J_iload dX10_rowsTo_30 rfl ?_
  refine J_iload_n dX10_rowsTo_32 rfl rfl ?_
  refine J_icmp_ge (tgt := 48) dX10_rowsTo_33 (by decide) (fun q => absurd q (by decide +kernel)) (fun _ => ?_)
  refine J_aload_n dX10_rowsTo_36 rfl rfl ?_
  refine J_iload dX10_rowsTo_37 rfl ?_
  refine J_callV (st := []) dX10_rowsTo_39 cv_X10_130 (c_X10_lengthenRows_2 rfl rfl rfl) rfl rfl rfl (Nat.le_of_ble_eq_true rfl) ⟨(Nat.le_of_ble_eq_true rfl), (Nat.le_of_ble_eq_true rfl)⟩ ⟨(Nat.le_of_ble_eq_true rfl), (Nat.le_of_ble_eq_true rfl)⟩ (fun r h9 hp => ?_)
  obtain ⟨rfl, rfl⟩ := hp
  refine J_nf (nh2 := nh) (ck2 := 0) (sk2 := 0) (st2 := []) rfl rfl rfl rfl ?_
  refine J_app (L3 := [(65, .inr (10, [.ref 51, .ref 57, .ref 66, .ref 67, .ref 68, .int 0, .int (-1), .int (-1), .ref 69, .ref 70, .ref 71, .ref 72, .int 0, .int (-1), .int (-1), .ref 73, .ref 74])), (73, .inl (1, 1260, .inr (.inl (vp_updL (vp_updL (vp_updL (fun _ => 0) 0 0) 0 1) 0 0)))), (65, .inr (10, [.ref 51, .ref 57, .ref 66, .ref 67, .ref 68, .int 0, .int (-1), .int (-1), .ref 69, .ref 70, .ref 71, .ref 72, .int 0, .int (-1), .int (-1), .ref 74, .ref 73])), (62, .inl (0, 1260, .inl (upd (upd (fun _ => 0) 0 (-1)) 0 0))), (74, .inl (1, 1260, .inr (.inl (vp_updL (fun _ => 0) 0 0)))), (73, .inl (1, 1260, .inr (.inl (vp_updL (vp_updL (fun _ => 0) 0 0) 0 1)))), (73, .inl (1, 1260, .inr (.inl (vp_updL (fun _ => 0) 0 0))))]) rfl ?_
  refine J_iinc (v := 2) dX10_rowsTo_42 rfl (by decide +kernel) (Nat.le_of_ble_eq_true rfl) rfl ?_
  refine J_ls (ls2 := [some (.ref 65), some (.int 0), some (.int (-1)), some (.int 3), some (.int 1), some (.int 2), none, none]) rfl ?_
  refine J_goto (tgt := 30) dX10_rowsTo_45 (by decide) ?_
  refine J_iload dX10_rowsTo_30 rfl ?_
  refine J_iload_n dX10_rowsTo_32 rfl rfl ?_
  refine J_icmp_ge (tgt := 48) dX10_rowsTo_33 (by decide) (fun q => absurd q (by decide +kernel)) (fun _ => ?_)
  refine J_aload_n dX10_rowsTo_36 rfl rfl ?_
  refine J_iload dX10_rowsTo_37 rfl ?_
  refine J_callV (st := []) dX10_rowsTo_39 cv_X10_130 (c_X10_lengthenRows_3 rfl rfl rfl) rfl rfl rfl (Nat.le_of_ble_eq_true rfl) ⟨(Nat.le_of_ble_eq_true rfl), (Nat.le_of_ble_eq_true rfl)⟩ ⟨(Nat.le_of_ble_eq_true rfl), (Nat.le_of_ble_eq_true rfl)⟩ (fun r h9 hp => ?_)
  obtain ⟨rfl, rfl⟩ := hp
  refine J_nf (nh2 := nh) (ck2 := 0) (sk2 := 0) (st2 := []) rfl rfl rfl rfl ?_
  refine J_app (L3 := [(65, .inr (10, [.ref 51, .ref 57, .ref 66, .ref 67, .ref 68, .int 0, .int (-1), .int (-1), .ref 69, .ref 70, .ref 71, .ref 72, .int 0, .int (-1), .int (-1), .ref 74, .ref 73])), (74, .inl (1, 1260, .inr (.inl (vp_updL (vp_updL (fun _ => 0) 0 0) 0 0)))), (65, .inr (10, [.ref 51, .ref 57, .ref 66, .ref 67, .ref 68, .int 0, .int (-1), .int (-1), .ref 69, .ref 70, .ref 71, .ref 72, .int 0, .int (-1), .int (-1), .ref 73, .ref 74])), (73, .inl (1, 1260, .inr (.inl (vp_updL (vp_updL (vp_updL (fun _ => 0) 0 0) 0 1) 0 0)))), (65, .inr (10, [.ref 51, .ref 57, .ref 66, .ref 67, .ref 68, .int 0, .int (-1), .int (-1), .ref 69, .ref 70, .ref 71, .ref 72, .int 0, .int (-1), .int (-1), .ref 74, .ref 73])), (62, .inl (0, 1260, .inl (upd (upd (fun _ => 0) 0 (-1)) 0 0))), (74, .inl (1, 1260, .inr (.inl (vp_updL (fun _ => 0) 0 0)))), (73, .inl (1, 1260, .inr (.inl (vp_updL (vp_updL (fun _ => 0) 0 0) 0 1)))), (73, .inl (1, 1260, .inr (.inl (vp_updL (fun _ => 0) 0 0))))]) rfl ?_
  refine J_iinc (v := 3) dX10_rowsTo_42 rfl (by decide +kernel) (Nat.le_of_ble_eq_true rfl) rfl ?_
  refine J_ls (ls2 := [some (.ref 65), some (.int 0), some (.int (-1)), some (.int 3), some (.int 1), some (.int 3), none, none]) rfl ?_
  refine J_goto (tgt := 30) dX10_rowsTo_45 (by decide) ?_
  refine J_iload dX10_rowsTo_30 rfl ?_
  refine J_iload_n dX10_rowsTo_32 rfl rfl ?_
  refine J_icmp_ge (tgt := 48) dX10_rowsTo_33 (by decide) (fun _ => ?_) (fun q => absurd (by decide +kernel) q)
  refine J_iload_n dX10_rowsTo_48 rfl rfl ?_
  refine J_iconst (v := (-1)) dX10_rowsTo_49 (by decide) ?_
  refine J_icmp_eq (tgt := 60) dX10_rowsTo_50 (by decide) (fun _ => ?_) (fun q => absurd (by decide +kernel) q)
  refine J_lconst (v := 0) dX10_rowsTo_60 (by decide +kernel) ?_
  refine J_lstore dX10_rowsTo_61 (Nat.le_of_ble_eq_true rfl) rfl ?_
  refine J_iconst (v := 0) dX10_rowsTo_63 (by decide) ?_
  refine J_istore dX10_rowsTo_64 (Nat.le_of_ble_eq_true rfl) rfl ?_
  refine J_iload dX10_rowsTo_66 rfl ?_
  refine J_iload dX10_rowsTo_68 rfl ?_
  refine J_icmp_ge (tgt := 91) dX10_rowsTo_70 (by decide) (fun q => absurd q (by decide +kernel)) (fun _ => ?_)
  refine J_lload dX10_rowsTo_73 rfl ?_
  refine J_aload_n dX10_rowsTo_75 rfl rfl ?_
  refine J_get (v := .ref 74) dX10_rowsTo_76 fl_X10_52 rfl rfl ?_
  refine J_iload dX10_rowsTo_79 rfl ?_
  refine J_lald (i2 := 0) (v := 0) dX10_rowsTo_81 rfl rfl (jin (by decide +kernel)) (by decide +kernel) rfl ?_
  refine J_ladd (z := 0) dX10_rowsTo_82 (by decide +kernel) ?_
  refine J_lstore dX10_rowsTo_83 (Nat.le_of_ble_eq_true rfl) rfl ?_
  refine J_iinc (v := 1) dX10_rowsTo_85 rfl (by decide +kernel) (Nat.le_of_ble_eq_true rfl) rfl ?_
  refine J_ls (ls2 := [some (.ref 65), some (.int 0), some (.int (-1)), some (.int 3), some (.int 1), some (.long 0), none, some (.int 1)]) rfl ?_
  refine J_goto (tgt := 66) dX10_rowsTo_88 (by decide) ?_
  refine J_iload dX10_rowsTo_66 rfl ?_
  refine J_iload dX10_rowsTo_68 rfl ?_
  refine J_icmp_ge (tgt := 91) dX10_rowsTo_70 (by decide) (fun _ => ?_) (fun q => absurd (by decide +kernel) q)
  refine J_lload dX10_rowsTo_91 rfl ?_
  refine J_mask (L2 := [(65, .inr (10, [.ref 51, .ref 57, .ref 66, .ref 67, .ref 68, .int 0, .int (-1), .int (-1), .ref 69, .ref 70, .ref 71, .ref 72, .int 0, .int (-1), .int (-1), .ref 74, .ref 73])), (74, .inl (1, 1260, .inr (.inl (vp_updL (vp_updL (fun _ => 0) 0 0) 0 0)))), (73, .inl (1, 1260, .inr (.inl (vp_updL (vp_updL (vp_updL (fun _ => 0) 0 0) 0 1) 0 0)))), (62, .inl (0, 1260, .inl (upd (upd (fun _ => 0) 0 (-1)) 0 0)))]) (ks := [65, 74, 65, 73, 65, 62, 74, 73, 73]) [true, true, false, true, false, true, false, false, false] rfl (by decide +kernel) rfl ?_
  exact J_lret dX10_rowsTo_93 rfl (Nat.le_of_ble_eq_true rfl) (Nat.le_of_ble_eq_true rfl) ⟨rfl, rfl⟩
set_option maxHeartbeats 4000000 in
set_option maxRecDepth 100000 in
theorem c_X11_rows_7 {l : Launch} {G : jG} {fh : Nat → Option va_E} (hk0 : fh 0 = some (.inr (11, [.ref 1, .ref 17, .ref 50, .ref 51, .ref 54, .ref 57, .ref 65, .ref 75, .ref 81, .ref 85, .ref 88, .ref 93, .ref 96, .int 0, .int (-1), .ref 97, .int 0]))) (hk1 : fh 1 = some (.inr (8, [.ref 2, .ref 3, .ref 4, .int 0, .int (-1), .ref 11, .ref 12, .int 0, .ref 13, .ref 14, .int 0, .ref 15, .ref 16, .int 0]))) (hk3 : fh 3 = some (.inl (0, 2, .inl (fun _ => 0)))) (hk51 : fh 51 = some (.inr (0, [.ref 52, .ref 53, .int 1, .int 0]))) (hk52 : fh 52 = some (.inl (0, 1260, .inl (upd (fun _ => 0) 0 0)))) (hk57 : fh 57 = some (.inr (9, [.ref 1, .ref 51, .ref 58, .ref 61, .ref 62, .ref 63, .ref 64, .int 0, .int 1, .int 1]))) (hk58 : fh 58 = some (.inr (1, [.ref 59, .ref 60, .int 0, .int 0, .int 0, .int 0, .int 0, .int 1]))) (hk59 : fh 59 = some (.inl (0, 8, .inl (fun _ => 0)))) (hk62 : fh 62 = some (.inl (0, 1260, .inl (fun _ => 0)))) (hk63 : fh 63 = some (.inl (0, 0, .inl (fun _ => 0)))) (hk65 : fh 65 = some (.inr (10, [.ref 51, .ref 57, .ref 66, .ref 67, .ref 68, .int 0, .int (-1), .int (-1), .ref 69, .ref 70, .ref 71, .ref 72, .int 0, .int (-1), .int (-1), .ref 73, .ref 74]))) (hk73 : fh 73 = some (.inl (1, 1260, .inr (.inl (fun _ => 0))))) (hk74 : fh 74 = some (.inl (1, 1260, .inr (.inl (fun _ => 0))))) : JM l G yX11_rows MX11_rows { frames := 6, cells := 1, slots := 22, locals := 146 } [.ref 0, .int 0, .int (-1), .int 3] (135, fh) (fun r h9 => r = some (.long 0) ∧ h9 = (136, hc fh [(65, .inr (10, [.ref 51, .ref 57, .ref 66, .ref 67, .ref 68, .int 0, .int (-1), .int (-1), .ref 69, .ref 70, .ref 71, .ref 72, .int 0, .int (-1), .int (-1), .ref 74, .ref 73])), (74, .inl (1, 1260, .inr (.inl (vp_updL (vp_updL (fun _ => 0) 0 0) 0 0)))), (73, .inl (1, 1260, .inr (.inl (vp_updL (vp_updL (vp_updL (fun _ => 0) 0 0) 0 1) 0 0)))), (62, .inl (0, 1260, .inl (upd (upd (fun _ => 0) 0 (-1)) 0 0))), (57, .inr (9, [.ref 1, .ref 51, .ref 58, .ref 61, .ref 62, .ref 135, .ref 64, .int 0, .int 0, .int 0])), (135, .inl (0, 22, .inl (fun _ => 0))), (59, .inl (0, 8, .inl (upd (upd (fun _ => 0) 6 0) 7 0)))])) := by
  refine JM.of (by decide) rfl (fun h => by cases h) (Nat.le_of_ble_eq_true rfl) ⟨0, rfl⟩ ?_
  refine J_hc0 (J_ls (ls2 := [some (.ref 0), some (.int 0), some (.int (-1)), some (.int 3)]) rfl ?_)
  refine J_aload_n dX11_rows_0 rfl rfl ?_
  refine J_get (v := .ref 51) dX11_rows_1 fl_X11_27 hk0 rfl ?_
  refine J_iload_n dX11_rows_4 rfl rfl ?_
  refine J_callV (st := []) dX11_rows_5 cv_X11_135 (c_X0_has_2 hk51) hk51 rfl rfl (Nat.le_of_ble_eq_true rfl) ⟨(Nat.le_of_ble_eq_true rfl), (Nat.le_of_ble_eq_true rfl)⟩ ⟨(Nat.le_of_ble_eq_true rfl), (Nat.le_of_ble_eq_true rfl)⟩ (fun r h9 hp => ?_)
  obtain ⟨rfl, rfl⟩ := hp
  refine J_nf (nh2 := 135) (ck2 := 0) (sk2 := 0) (st2 := [.int 1]) rfl rfl rfl rfl ?_
  refine J_if_eq (tgt := 37) dX11_rows_8 (by decide) (fun q => absurd q (by decide +kernel)) (fun _ => ?_)
  refine J_iload_n dX11_rows_11 rfl rfl ?_
  refine J_iconst (v := (-1)) dX11_rows_12 (by decide) ?_
  refine J_icmp_eq (tgt := 27) dX11_rows_13 (by decide) (fun _ => ?_) (fun q => absurd (by decide +kernel) q)
  refine J_iload_n dX11_rows_27 rfl rfl ?_
  refine J_if_lt (tgt := 37) dX11_rows_28 (by decide) (fun q => absurd q (by decide +kernel)) (fun _ => ?_)
  refine J_iload_n dX11_rows_31 rfl rfl ?_
  refine J_bipush (v := 12) dX11_rows_32 (by decide +kernel) ?_
  refine J_icmp_le (tgt := 41) dX11_rows_34 (by decide) (fun _ => ?_) (fun q => absurd (by decide +kernel) q)
  refine J_aload_n dX11_rows_41 rfl rfl ?_
  refine J_get (v := .ref 57) dX11_rows_42 fl_X11_43 hk0 rfl ?_
  refine J_callV (st := []) dX11_rows_45 cv_X11_217 (c_X9_prepare_1 hk1 hk3 hk51 hk57 hk58 hk59 hk62 hk63) hk57 rfl rfl (Nat.le_of_ble_eq_true rfl) ⟨(Nat.le_of_ble_eq_true rfl), (Nat.le_of_ble_eq_true rfl)⟩ ⟨(Nat.le_of_ble_eq_true rfl), (Nat.le_of_ble_eq_true rfl)⟩ (fun r h9 hp => ?_)
  obtain ⟨rfl, rfl⟩ := hp
  refine J_nf (nh2 := 136) (ck2 := 1) (sk2 := 22) (st2 := []) rfl rfl rfl rfl ?_
  refine J_app (L3 := [(57, .inr (9, [.ref 1, .ref 51, .ref 58, .ref 61, .ref 62, .ref 135, .ref 64, .int 0, .int 0, .int 0])), (62, .inl (0, 1260, .inl (upd (fun _ => 0) 0 (-1)))), (135, .inl (0, 22, .inl (fun _ => 0))), (59, .inl (0, 8, .inl (upd (upd (fun _ => 0) 6 0) 7 0)))]) rfl ?_
  refine J_aload_n dX11_rows_48 rfl rfl ?_
  refine J_get (v := .ref 65) dX11_rows_49 fl_X11_52 hk0 rfl ?_
  refine J_iload_n dX11_rows_52 rfl rfl ?_
  refine J_iload_n dX11_rows_53 rfl rfl ?_
  refine J_iload_n dX11_rows_54 rfl rfl ?_
  refine J_callV (st := []) dX11_rows_55 cv_X11_256 (c_X10_rowsTo_4 hk1 hk3 hk51 hk52 rfl rfl hk65 hk73 hk74) hk65 rfl rfl (Nat.le_of_ble_eq_true rfl) ⟨(Nat.le_of_ble_eq_true rfl), (Nat.le_of_ble_eq_true rfl)⟩ ⟨(Nat.le_of_ble_eq_true rfl), (Nat.le_of_ble_eq_true rfl)⟩ (fun r h9 hp => ?_)
  obtain ⟨rfl, rfl⟩ := hp
  refine J_nf (nh2 := 136) (ck2 := 1) (sk2 := 22) (st2 := [.long 0]) rfl rfl rfl rfl ?_
  refine J_app (L3 := [(65, .inr (10, [.ref 51, .ref 57, .ref 66, .ref 67, .ref 68, .int 0, .int (-1), .int (-1), .ref 69, .ref 70, .ref 71, .ref 72, .int 0, .int (-1), .int (-1), .ref 74, .ref 73])), (74, .inl (1, 1260, .inr (.inl (vp_updL (vp_updL (fun _ => 0) 0 0) 0 0)))), (73, .inl (1, 1260, .inr (.inl (vp_updL (vp_updL (vp_updL (fun _ => 0) 0 0) 0 1) 0 0)))), (62, .inl (0, 1260, .inl (upd (upd (fun _ => 0) 0 (-1)) 0 0))), (57, .inr (9, [.ref 1, .ref 51, .ref 58, .ref 61, .ref 62, .ref 135, .ref 64, .int 0, .int 0, .int 0])), (62, .inl (0, 1260, .inl (upd (fun _ => 0) 0 (-1)))), (135, .inl (0, 22, .inl (fun _ => 0))), (59, .inl (0, 8, .inl (upd (upd (fun _ => 0) 6 0) 7 0)))]) rfl ?_
  refine J_mask (L2 := [(65, .inr (10, [.ref 51, .ref 57, .ref 66, .ref 67, .ref 68, .int 0, .int (-1), .int (-1), .ref 69, .ref 70, .ref 71, .ref 72, .int 0, .int (-1), .int (-1), .ref 74, .ref 73])), (74, .inl (1, 1260, .inr (.inl (vp_updL (vp_updL (fun _ => 0) 0 0) 0 0)))), (73, .inl (1, 1260, .inr (.inl (vp_updL (vp_updL (vp_updL (fun _ => 0) 0 0) 0 1) 0 0)))), (62, .inl (0, 1260, .inl (upd (upd (fun _ => 0) 0 (-1)) 0 0))), (57, .inr (9, [.ref 1, .ref 51, .ref 58, .ref 61, .ref 62, .ref 135, .ref 64, .int 0, .int 0, .int 0])), (135, .inl (0, 22, .inl (fun _ => 0))), (59, .inl (0, 8, .inl (upd (upd (fun _ => 0) 6 0) 7 0)))]) (ks := [65, 74, 73, 62, 57, 62, 135, 59]) [true, true, true, true, true, false, true, true] rfl (by decide +kernel) rfl ?_
  exact J_lret dX11_rows_58 rfl (Nat.le_of_ble_eq_true rfl) (Nat.le_of_ble_eq_true rfl) ⟨rfl, rfl⟩
set_option maxHeartbeats 4000000 in
set_option maxRecDepth 100000 in
theorem c_X12_lies_52 {l : Launch} {G : jG} {nh : Nat} {fh : Nat → Option va_E}  : JM l G yX12_lies MX12_lies { frames := 0, cells := 0, slots := 0, locals := 0 } [.int 3, .int 0, .int 12] (nh, fh) (fun r h9 => r = some (.int 1) ∧ h9 = (nh, fh)) := by
  refine JM.of (by decide) rfl (fun h => by cases h) (Nat.le_of_ble_eq_true rfl) ⟨0, rfl⟩ ?_
  refine J_hc0 (J_ls (ls2 := [some (.int 3), some (.int 0), some (.int 12)]) rfl ?_)
  refine J_iload_n dX12_lies_0 rfl rfl ?_
  refine J_iload_n dX12_lies_1 rfl rfl ?_
  refine J_icmp_lt (tgt := 14) dX12_lies_2 (by decide) (fun q => absurd q (by decide +kernel)) (fun _ => ?_)
  refine J_iload_n dX12_lies_5 rfl rfl ?_
  refine J_iload_n dX12_lies_6 rfl rfl ?_
  refine J_icmp_gt (tgt := 14) dX12_lies_7 (by decide) (fun q => absurd q (by decide +kernel)) (fun _ => ?_)
  refine J_iconst (v := 1) dX12_lies_10 (by decide) ?_
  refine J_goto (tgt := 15) dX12_lies_11 (by decide) ?_
  exact J_iret dX12_lies_15 rfl (by decide +kernel) (Nat.le_of_ble_eq_true rfl) (Nat.le_of_ble_eq_true rfl) ⟨rfl, rfl⟩
set_option maxHeartbeats 4000000 in
set_option maxRecDepth 100000 in
theorem c_X12_rows_7 {l : Launch} {G : jG} {nh : Nat} {fh : Nat → Option va_E} (hk98 : fh 98 = some (.inr (12, [.int 0, .int 0, .ref 99, .ref 100, .ref 101, .ref 102, .ref 103, .ref 104, .ref 105, .int 0, .int (-1), .ref 106, .ref 107, .ref 108, .int 0, .int 0, .int 0, .int 0, .int 0, .int 0, .int 0, .ref 109, .int 0, .int 0, .ref 110, .ref 111, .ref 112, .ref 113, .ref 114, .ref 115, .ref 116, .ref 117, .int 0, .int 0, .int (-1), .int (-1), .ref 118, .ref 119, .ref 120, .ref 121, .ref 122, .ref 123, .ref 124, .ref 125, .ref 126, .ref 127, .ref 128, .ref 129, .int 0, .ref 130, .ref 131, .ref 132, .ref 133, .ref 134, .int 0, .int 0]))) (hk100 : fh 100 = some (.inl (0, 4870, .inl (upd (fun _ => 0) 63 (-1))))) (hk111 : fh 111 = some (.inl (0, 1260, .inl (fun _ => 0)))) (hk114 : fh 114 = some (.inl (0, 1260, .inl (fun _ => 0)))) (hk116 : fh 116 = some (.inl (0, 1260, .inl (fun _ => 0)))) (hk127 : fh 127 = some (.inl (1, 1260, .inr (.inl (fun _ => 0))))) (hk128 : fh 128 = some (.inl (1, 1260, .inr (.inl (fun _ => 0))))) : JM l G yX12_rows MX12_rows { frames := 3, cells := 0, slots := 0, locals := 69 } [.ref 98, .int 0, .int (-1), .int 3] (nh, fh) (fun r h9 => r = some (.long 0) ∧ h9 = (nh, hc fh [(127, .inl (1, 1260, .inr (.inl (vp_updL (vp_updL (vp_updL (vp_updL (fun _ => 0) 0 1) 0 0) 0 0) 0 0)))), (128, .inl (1, 1260, .inr (.inl (vp_updL (vp_updL (vp_updL (fun _ => 0) 0 0) 0 0) 0 0)))), (114, .inl (0, 1260, .inl (upd (fun _ => 0) 0 0))), (116, .inl (0, 1260, .inl (upd (fun _ => 0) 0 0))), (98, .inr (12, [.int 0, .int 0, .ref 99, .ref 100, .ref 101, .ref 102, .ref 103, .ref 104, .ref 105, .int 0, .int (-1), .ref 106, .ref 107, .ref 108, .int 0, .int 0, .int 0, .int 0, .int 0, .int 0, .int 0, .ref 109, .int 0, .int 0, .ref 110, .ref 111, .ref 112, .ref 113, .ref 114, .ref 115, .ref 116, .ref 117, .int 1, .int 0, .int 0, .int 0, .ref 118, .ref 119, .ref 120, .ref 121, .ref 122, .ref 123, .ref 124, .ref 125, .ref 126, .ref 127, .ref 128, .ref 129, .int 0, .ref 130, .ref 131, .ref 132, .ref 133, .ref 134, .int 0, .int 0])), (111, .inl (0, 1260, .inl (upd (fun _ => 0) 0 0)))])) := by
  refine JM.of (by decide) rfl (fun h => by cases h) (Nat.le_of_ble_eq_true rfl) ⟨3, rfl⟩ ?_
  refine J_hc0 (J_ls (ls2 := [some (.ref 98), some (.int 0), some (.int (-1)), some (.int 3), none, none, none]) rfl ?_)
  refine J_aload_n dX12_rows_0 rfl rfl ?_
  refine J_iload_n dX12_rows_1 rfl rfl ?_
  refine J_callV (st := []) dX12_rows_2 cv_X12_325 (c_X12_isHouse_2 hk98 hk100 hk111) hk98 rfl rfl (Nat.le_of_ble_eq_true rfl) ⟨(Nat.le_of_ble_eq_true rfl), (Nat.le_of_ble_eq_true rfl)⟩ ⟨(Nat.le_of_ble_eq_true rfl), (Nat.le_of_ble_eq_true rfl)⟩ (fun r h9 hp => ?_)
  obtain ⟨rfl, rfl⟩ := hp
  refine J_nf (nh2 := nh) (ck2 := 0) (sk2 := 0) (st2 := [.int 1]) rfl rfl rfl rfl ?_
  refine J_app (L3 := [(98, .inr (12, [.int 0, .int 0, .ref 99, .ref 100, .ref 101, .ref 102, .ref 103, .ref 104, .ref 105, .int 0, .int (-1), .ref 106, .ref 107, .ref 108, .int 0, .int 0, .int 0, .int 0, .int 0, .int 0, .int 0, .ref 109, .int 0, .int 0, .ref 110, .ref 111, .ref 112, .ref 113, .ref 114, .ref 115, .ref 116, .ref 117, .int 1, .int 0, .int 0, .int (-1), .ref 118, .ref 119, .ref 120, .ref 121, .ref 122, .ref 123, .ref 124, .ref 125, .ref 126, .ref 127, .ref 128, .ref 129, .int 0, .ref 130, .ref 131, .ref 132, .ref 133, .ref 134, .int 0, .int 0])), (111, .inl (0, 1260, .inl (upd (fun _ => 0) 0 0)))]) rfl ?_
  refine J_if_eq (tgt := 31) dX12_rows_5 (by decide) (fun q => absurd q (by decide +kernel)) (fun _ => ?_)
  refine J_iload_n dX12_rows_8 rfl rfl ?_
  refine J_iconst (v := (-1)) dX12_rows_9 (by decide) ?_
  refine J_icmp_eq (tgt := 21) dX12_rows_10 (by decide) (fun _ => ?_) (fun q => absurd (by decide +kernel) q)
  refine J_iload_n dX12_rows_21 rfl rfl ?_
  refine J_iconst (v := 0) dX12_rows_22 (by decide) ?_
  refine J_bipush (v := 12) dX12_rows_23 (by decide +kernel) ?_
  refine J_callS (st := []) dX12_rows_25 cs_X12_138 (c_X12_lies_52 ) rfl rfl (Nat.le_of_ble_eq_true rfl) ⟨(Nat.le_of_ble_eq_true rfl), (Nat.le_of_ble_eq_true rfl)⟩ ⟨(Nat.le_of_ble_eq_true rfl), (Nat.le_of_ble_eq_true rfl)⟩ (fun r h9 hp => ?_)
  obtain ⟨rfl, rfl⟩ := hp
  refine J_nf (nh2 := nh) (ck2 := 0) (sk2 := 0) (st2 := [.int 1]) rfl rfl rfl rfl ?_
  refine J_if_ne (tgt := 35) dX12_rows_28 (by decide) (fun _ => ?_) (fun q => absurd q (by decide +kernel))
  refine J_aload_n dX12_rows_35 rfl rfl ?_
  refine J_callV (st := []) dX12_rows_36 cv_X12_328 (c_X12_looks_1 rfl hk100 hk114 hk116) rfl rfl rfl (Nat.le_of_ble_eq_true rfl) ⟨(Nat.le_of_ble_eq_true rfl), (Nat.le_of_ble_eq_true rfl)⟩ ⟨(Nat.le_of_ble_eq_true rfl), (Nat.le_of_ble_eq_true rfl)⟩ (fun r h9 hp => ?_)
  obtain ⟨rfl, rfl⟩ := hp
  refine J_nf (nh2 := nh) (ck2 := 0) (sk2 := 0) (st2 := []) rfl rfl rfl rfl ?_
  refine J_app (L3 := [(114, .inl (0, 1260, .inl (upd (fun _ => 0) 0 0))), (116, .inl (0, 1260, .inl (upd (fun _ => 0) 0 0))), (98, .inr (12, [.int 0, .int 0, .ref 99, .ref 100, .ref 101, .ref 102, .ref 103, .ref 104, .ref 105, .int 0, .int (-1), .ref 106, .ref 107, .ref 108, .int 0, .int 0, .int 0, .int 0, .int 0, .int 0, .int 0, .ref 109, .int 0, .int 0, .ref 110, .ref 111, .ref 112, .ref 113, .ref 114, .ref 115, .ref 116, .ref 117, .int 1, .int 0, .int 0, .int 0, .ref 118, .ref 119, .ref 120, .ref 121, .ref 122, .ref 123, .ref 124, .ref 125, .ref 126, .ref 127, .ref 128, .ref 129, .int 0, .ref 130, .ref 131, .ref 132, .ref 133, .ref 134, .int 0, .int 0])), (98, .inr (12, [.int 0, .int 0, .ref 99, .ref 100, .ref 101, .ref 102, .ref 103, .ref 104, .ref 105, .int 0, .int (-1), .ref 106, .ref 107, .ref 108, .int 0, .int 0, .int 0, .int 0, .int 0, .int 0, .int 0, .ref 109, .int 0, .int 0, .ref 110, .ref 111, .ref 112, .ref 113, .ref 114, .ref 115, .ref 116, .ref 117, .int 1, .int 0, .int 0, .int (-1), .ref 118, .ref 119, .ref 120, .ref 121, .ref 122, .ref 123, .ref 124, .ref 125, .ref 126, .ref 127, .ref 128, .ref 129, .int 0, .ref 130, .ref 131, .ref 132, .ref 133, .ref 134, .int 0, .int 0])), (111, .inl (0, 1260, .inl (upd (fun _ => 0) 0 0)))]) rfl ?_
  refine J_iconst (v := 0) dX12_rows_39 (by decide) ?_
  refine J_istore dX12_rows_40 (Nat.le_of_ble_eq_true rfl) rfl ?_
  refine J_iload dX12_rows_42 rfl ?_
  refine J_aload_n dX12_rows_44 rfl rfl ?_
  refine J_get (v := .int 1) dX12_rows_45 fl_X12_298 rfl rfl ?_
  refine J_icmp_ge (tgt := 75) dX12_rows_48 (by decide) (fun q => absurd q (by decide +kernel)) (fun _ => ?_)
  refine J_aload_n dX12_rows_51 rfl rfl ?_
  refine J_get (v := .ref 127) dX12_rows_52 fl_X12_113 rfl rfl ?_
  refine J_iload dX12_rows_55 rfl ?_
  refine J_iload dX12_rows_57 rfl ?_
  refine J_iload_n dX12_rows_59 rfl rfl ?_
  refine J_icmp_ne (tgt := 67) dX12_rows_60 (by decide) (fun q => absurd (by decide +kernel) q) (fun _ => ?_)
  refine J_lconst (v := 1) dX12_rows_63 (by decide +kernel) ?_
  refine J_goto (tgt := 68) dX12_rows_64 (by decide) ?_
  refine K_last (i2 := 0) dX12_rows_68 hk127 rfl (jin (by decide +kernel)) (by decide +kernel) ?_
  refine J_iinc (v := 1) dX12_rows_69 rfl (by decide +kernel) (Nat.le_of_ble_eq_true rfl) rfl ?_
  refine J_ls (ls2 := [some (.ref 98), some (.int 0), some (.int (-1)), some (.int 3), some (.int 1), none, none]) rfl ?_
  refine J_goto (tgt := 42) dX12_rows_72 (by decide) ?_
  refine J_iload dX12_rows_42 rfl ?_
  refine J_aload_n dX12_rows_44 rfl rfl ?_
  refine J_get (v := .int 1) dX12_rows_45 fl_X12_298 rfl rfl ?_
  refine J_icmp_ge (tgt := 75) dX12_rows_48 (by decide) (fun _ => ?_) (fun q => absurd (by decide +kernel) q)
  refine J_iconst (v := 0) dX12_rows_75 (by decide) ?_
  refine J_istore dX12_rows_76 (Nat.le_of_ble_eq_true rfl) rfl ?_
  refine J_iload dX12_rows_78 rfl ?_
  refine J_iload_n dX12_rows_80 rfl rfl ?_
  refine J_icmp_ge (tgt := 215) dX12_rows_81 (by decide) (fun q => absurd q (by decide +kernel)) (fun _ => ?_)
  refine J_iconst (v := 0) dX12_rows_84 (by decide) ?_
  refine J_istore dX12_rows_85 (Nat.le_of_ble_eq_true rfl) rfl ?_
  refine J_iload dX12_rows_87 rfl ?_
  refine J_aload_n dX12_rows_89 rfl rfl ?_
  refine J_get (v := .int 1) dX12_rows_90 fl_X12_298 rfl rfl ?_
  refine J_icmp_ge (tgt := 110) dX12_rows_93 (by decide) (fun q => absurd q (by decide +kernel)) (fun _ => ?_)
  refine J_aload_n dX12_rows_96 rfl rfl ?_
  refine J_get (v := .ref 128) dX12_rows_97 fl_X12_116 rfl rfl ?_
  refine J_iload dX12_rows_100 rfl ?_
  refine J_lconst (v := 0) dX12_rows_102 (by decide +kernel) ?_
  refine K_last (i2 := 0) dX12_rows_103 hk128 rfl (jin (by decide +kernel)) (by decide +kernel) ?_
  refine J_iinc (v := 1) dX12_rows_104 rfl (by decide +kernel) (Nat.le_of_ble_eq_true rfl) rfl ?_
  refine J_ls (ls2 := [some (.ref 98), some (.int 0), some (.int (-1)), some (.int 3), some (.int 0), some (.int 1), none]) rfl ?_
  refine J_goto (tgt := 87) dX12_rows_107 (by decide) ?_
  refine J_iload dX12_rows_87 rfl ?_
  refine J_aload_n dX12_rows_89 rfl rfl ?_
  refine J_get (v := .int 1) dX12_rows_90 fl_X12_298 rfl rfl ?_
  refine J_icmp_ge (tgt := 110) dX12_rows_93 (by decide) (fun _ => ?_) (fun q => absurd (by decide +kernel) q)
  refine J_iconst (v := 0) dX12_rows_110 (by decide) ?_
  refine J_istore dX12_rows_111 (Nat.le_of_ble_eq_true rfl) rfl ?_
  refine J_iload dX12_rows_113 rfl ?_
  refine J_aload_n dX12_rows_115 rfl rfl ?_
  refine J_get (v := .int 1) dX12_rows_116 fl_X12_298 rfl rfl ?_
  refine J_icmp_ge (tgt := 177) dX12_rows_119 (by decide) (fun q => absurd q (by decide +kernel)) (fun _ => ?_)
  refine J_iconst (v := 0) dX12_rows_122 (by decide) ?_
  refine J_istore dX12_rows_123 (Nat.le_of_ble_eq_true rfl) rfl ?_
  refine J_iload dX12_rows_125 rfl ?_
  refine J_aload_n dX12_rows_127 rfl rfl ?_
  refine J_get (v := .ref 114) dX12_rows_128 fl_X12_67 rfl rfl ?_
  refine J_iload dX12_rows_131 rfl ?_
  refine J_iald (i2 := 0) (v := 0) dX12_rows_133 rfl rfl (jin (by decide +kernel)) (by decide +kernel) rfl ?_
  refine J_icmp_ge (tgt := 171) dX12_rows_134 (by decide) (fun _ => ?_) (fun q => absurd (by decide +kernel) q)
  refine J_iinc (v := 1) dX12_rows_171 rfl (by decide +kernel) (Nat.le_of_ble_eq_true rfl) rfl ?_
  refine J_ls (ls2 := [some (.ref 98), some (.int 0), some (.int (-1)), some (.int 3), some (.int 0), some (.int 1), some (.int 0)]) rfl ?_
  refine J_goto (tgt := 113) dX12_rows_174 (by decide) ?_
  refine J_iload dX12_rows_113 rfl ?_
  refine J_aload_n dX12_rows_115 rfl rfl ?_
  refine J_get (v := .int 1) dX12_rows_116 fl_X12_298 rfl rfl ?_
  refine J_icmp_ge (tgt := 177) dX12_rows_119 (by decide) (fun _ => ?_) (fun q => absurd (by decide +kernel) q)
  refine J_iconst (v := 0) dX12_rows_177 (by decide) ?_
  refine J_istore dX12_rows_178 (Nat.le_of_ble_eq_true rfl) rfl ?_
  refine J_iload dX12_rows_180 rfl ?_
  refine J_aload_n dX12_rows_182 rfl rfl ?_
  refine J_get (v := .int 1) dX12_rows_183 fl_X12_298 rfl rfl ?_
  refine J_icmp_ge (tgt := 209) dX12_rows_186 (by decide) (fun q => absurd q (by decide +kernel)) (fun _ => ?_)
  refine J_aload_n dX12_rows_189 rfl rfl ?_
  refine J_get (v := .ref 127) dX12_rows_190 fl_X12_113 rfl rfl ?_
  refine J_iload dX12_rows_193 rfl ?_
  refine J_aload_n dX12_rows_195 rfl rfl ?_
  refine J_get (v := .ref 128) dX12_rows_196 fl_X12_116 rfl rfl ?_
  refine J_iload dX12_rows_199 rfl ?_
  refine J_lald (i2 := 0) (v := 0) dX12_rows_201 rfl rfl (jin (by decide +kernel)) (by decide +kernel) rfl ?_
  refine K_last (i2 := 0) dX12_rows_202 rfl rfl (jin (by decide +kernel)) (by decide +kernel) ?_
  refine J_iinc (v := 1) dX12_rows_203 rfl (by decide +kernel) (Nat.le_of_ble_eq_true rfl) rfl ?_
  refine J_ls (ls2 := [some (.ref 98), some (.int 0), some (.int (-1)), some (.int 3), some (.int 0), some (.int 1), some (.int 0)]) rfl ?_
  refine J_goto (tgt := 180) dX12_rows_206 (by decide) ?_
  refine J_iload dX12_rows_180 rfl ?_
  refine J_aload_n dX12_rows_182 rfl rfl ?_
  refine J_get (v := .int 1) dX12_rows_183 fl_X12_298 rfl rfl ?_
  refine J_icmp_ge (tgt := 209) dX12_rows_186 (by decide) (fun _ => ?_) (fun q => absurd (by decide +kernel) q)
  refine J_iinc (v := 1) dX12_rows_209 rfl (by decide +kernel) (Nat.le_of_ble_eq_true rfl) rfl ?_
  refine J_ls (ls2 := [some (.ref 98), some (.int 0), some (.int (-1)), some (.int 3), some (.int 1), some (.int 1), some (.int 0)]) rfl ?_
  refine J_goto (tgt := 78) dX12_rows_212 (by decide) ?_
  refine J_iload dX12_rows_78 rfl ?_
  refine J_iload_n dX12_rows_80 rfl rfl ?_
  refine J_icmp_ge (tgt := 215) dX12_rows_81 (by decide) (fun q => absurd q (by decide +kernel)) (fun _ => ?_)
  refine J_iconst (v := 0) dX12_rows_84 (by decide) ?_
  refine J_istore dX12_rows_85 (Nat.le_of_ble_eq_true rfl) rfl ?_
  refine J_iload dX12_rows_87 rfl ?_
  refine J_aload_n dX12_rows_89 rfl rfl ?_
  refine J_get (v := .int 1) dX12_rows_90 fl_X12_298 rfl rfl ?_
  refine J_icmp_ge (tgt := 110) dX12_rows_93 (by decide) (fun q => absurd q (by decide +kernel)) (fun _ => ?_)
  refine J_aload_n dX12_rows_96 rfl rfl ?_
  refine J_get (v := .ref 128) dX12_rows_97 fl_X12_116 rfl rfl ?_
  refine J_iload dX12_rows_100 rfl ?_
  refine J_lconst (v := 0) dX12_rows_102 (by decide +kernel) ?_
  refine K_last (i2 := 0) dX12_rows_103 rfl rfl (jin (by decide +kernel)) (by decide +kernel) ?_
  refine J_iinc (v := 1) dX12_rows_104 rfl (by decide +kernel) (Nat.le_of_ble_eq_true rfl) rfl ?_
  refine J_ls (ls2 := [some (.ref 98), some (.int 0), some (.int (-1)), some (.int 3), some (.int 1), some (.int 1), some (.int 0)]) rfl ?_
  refine J_goto (tgt := 87) dX12_rows_107 (by decide) ?_
  refine J_iload dX12_rows_87 rfl ?_
  refine J_aload_n dX12_rows_89 rfl rfl ?_
  refine J_get (v := .int 1) dX12_rows_90 fl_X12_298 rfl rfl ?_
  refine J_icmp_ge (tgt := 110) dX12_rows_93 (by decide) (fun _ => ?_) (fun q => absurd (by decide +kernel) q)
  refine J_iconst (v := 0) dX12_rows_110 (by decide) ?_
  refine J_istore dX12_rows_111 (Nat.le_of_ble_eq_true rfl) rfl ?_
  refine J_iload dX12_rows_113 rfl ?_
  refine J_aload_n dX12_rows_115 rfl rfl ?_
  refine J_get (v := .int 1) dX12_rows_116 fl_X12_298 rfl rfl ?_
  refine J_icmp_ge (tgt := 177) dX12_rows_119 (by decide) (fun q => absurd q (by decide +kernel)) (fun _ => ?_)
  refine J_iconst (v := 0) dX12_rows_122 (by decide) ?_
  refine J_istore dX12_rows_123 (Nat.le_of_ble_eq_true rfl) rfl ?_
  refine J_iload dX12_rows_125 rfl ?_
  refine J_aload_n dX12_rows_127 rfl rfl ?_
  refine J_get (v := .ref 114) dX12_rows_128 fl_X12_67 rfl rfl ?_
  refine J_iload dX12_rows_131 rfl ?_
  refine J_iald (i2 := 0) (v := 0) dX12_rows_133 rfl rfl (jin (by decide +kernel)) (by decide +kernel) rfl ?_
  refine J_icmp_ge (tgt := 171) dX12_rows_134 (by decide) (fun _ => ?_) (fun q => absurd (by decide +kernel) q)
  refine J_iinc (v := 1) dX12_rows_171 rfl (by decide +kernel) (Nat.le_of_ble_eq_true rfl) rfl ?_
  refine J_ls (ls2 := [some (.ref 98), some (.int 0), some (.int (-1)), some (.int 3), some (.int 1), some (.int 1), some (.int 0)]) rfl ?_
  refine J_goto (tgt := 113) dX12_rows_174 (by decide) ?_
  refine J_iload dX12_rows_113 rfl ?_
  refine J_aload_n dX12_rows_115 rfl rfl ?_
  refine J_get (v := .int 1) dX12_rows_116 fl_X12_298 rfl rfl ?_
  refine J_icmp_ge (tgt := 177) dX12_rows_119 (by decide) (fun _ => ?_) (fun q => absurd (by decide +kernel) q)
  refine J_iconst (v := 0) dX12_rows_177 (by decide) ?_
  refine J_istore dX12_rows_178 (Nat.le_of_ble_eq_true rfl) rfl ?_
  refine J_iload dX12_rows_180 rfl ?_
  refine J_aload_n dX12_rows_182 rfl rfl ?_
  refine J_get (v := .int 1) dX12_rows_183 fl_X12_298 rfl rfl ?_
  refine J_icmp_ge (tgt := 209) dX12_rows_186 (by decide) (fun q => absurd q (by decide +kernel)) (fun _ => ?_)
  refine J_aload_n dX12_rows_189 rfl rfl ?_
  refine J_get (v := .ref 127) dX12_rows_190 fl_X12_113 rfl rfl ?_
  refine J_iload dX12_rows_193 rfl ?_
  refine J_aload_n dX12_rows_195 rfl rfl ?_
  refine J_get (v := .ref 128) dX12_rows_196 fl_X12_116 rfl rfl ?_
  refine J_iload dX12_rows_199 rfl ?_
  refine J_lald (i2 := 0) (v := 0) dX12_rows_201 rfl rfl (jin (by decide +kernel)) (by decide +kernel) rfl ?_
  refine K_last (i2 := 0) dX12_rows_202 rfl rfl (jin (by decide +kernel)) (by decide +kernel) ?_
  refine J_iinc (v := 1) dX12_rows_203 rfl (by decide +kernel) (Nat.le_of_ble_eq_true rfl) rfl ?_
  refine J_ls (ls2 := [some (.ref 98), some (.int 0), some (.int (-1)), some (.int 3), some (.int 1), some (.int 1), some (.int 0)]) rfl ?_
  refine J_goto (tgt := 180) dX12_rows_206 (by decide) ?_
  refine J_iload dX12_rows_180 rfl ?_
  refine J_aload_n dX12_rows_182 rfl rfl ?_
  refine J_get (v := .int 1) dX12_rows_183 fl_X12_298 rfl rfl ?_
  refine J_icmp_ge (tgt := 209) dX12_rows_186 (by decide) (fun _ => ?_) (fun q => absurd (by decide +kernel) q)
  refine J_iinc (v := 2) dX12_rows_209 rfl (by decide +kernel) (Nat.le_of_ble_eq_true rfl) rfl ?_
  refine J_ls (ls2 := [some (.ref 98), some (.int 0), some (.int (-1)), some (.int 3), some (.int 2), some (.int 1), some (.int 0)]) rfl ?_
  refine J_goto (tgt := 78) dX12_rows_212 (by decide) ?_
  refine J_iload dX12_rows_78 rfl ?_
  refine J_iload_n dX12_rows_80 rfl rfl ?_
  refine J_icmp_ge (tgt := 215) dX12_rows_81 (by decide) (fun q => absurd q (by decide +kernel)) (fun _ => ?_)
  refine J_iconst (v := 0) dX12_rows_84 (by decide) ?_
  refine J_istore dX12_rows_85 (Nat.le_of_ble_eq_true rfl) rfl ?_
  refine J_iload dX12_rows_87 rfl ?_
  refine J_aload_n dX12_rows_89 rfl rfl ?_
  refine J_get (v := .int 1) dX12_rows_90 fl_X12_298 rfl rfl ?_
  refine J_icmp_ge (tgt := 110) dX12_rows_93 (by decide) (fun q => absurd q (by decide +kernel)) (fun _ => ?_)
  refine J_aload_n dX12_rows_96 rfl rfl ?_
  refine J_get (v := .ref 128) dX12_rows_97 fl_X12_116 rfl rfl ?_
  refine J_iload dX12_rows_100 rfl ?_
  refine J_lconst (v := 0) dX12_rows_102 (by decide +kernel) ?_
  refine K_last (i2 := 0) dX12_rows_103 rfl rfl (jin (by decide +kernel)) (by decide +kernel) ?_
  refine J_iinc (v := 1) dX12_rows_104 rfl (by decide +kernel) (Nat.le_of_ble_eq_true rfl) rfl ?_
  refine J_ls (ls2 := [some (.ref 98), some (.int 0), some (.int (-1)), some (.int 3), some (.int 2), some (.int 1), some (.int 0)]) rfl ?_
  refine J_goto (tgt := 87) dX12_rows_107 (by decide) ?_
  refine J_iload dX12_rows_87 rfl ?_
  refine J_aload_n dX12_rows_89 rfl rfl ?_
  refine J_get (v := .int 1) dX12_rows_90 fl_X12_298 rfl rfl ?_
  refine J_icmp_ge (tgt := 110) dX12_rows_93 (by decide) (fun _ => ?_) (fun q => absurd (by decide +kernel) q)
  refine J_iconst (v := 0) dX12_rows_110 (by decide) ?_
  refine J_istore dX12_rows_111 (Nat.le_of_ble_eq_true rfl) rfl ?_
  refine J_iload dX12_rows_113 rfl ?_
  refine J_aload_n dX12_rows_115 rfl rfl ?_
  refine J_get (v := .int 1) dX12_rows_116 fl_X12_298 rfl rfl ?_
  refine J_icmp_ge (tgt := 177) dX12_rows_119 (by decide) (fun q => absurd q (by decide +kernel)) (fun _ => ?_)
  refine J_iconst (v := 0) dX12_rows_122 (by decide) ?_
  refine J_istore dX12_rows_123 (Nat.le_of_ble_eq_true rfl) rfl ?_
  refine J_iload dX12_rows_125 rfl ?_
  refine J_aload_n dX12_rows_127 rfl rfl ?_
  refine J_get (v := .ref 114) dX12_rows_128 fl_X12_67 rfl rfl ?_
  refine J_iload dX12_rows_131 rfl ?_
  refine J_iald (i2 := 0) (v := 0) dX12_rows_133 rfl rfl (jin (by decide +kernel)) (by decide +kernel) rfl ?_
  refine J_icmp_ge (tgt := 171) dX12_rows_134 (by decide) (fun _ => ?_) (fun q => absurd (by decide +kernel) q)
  refine J_iinc (v := 1) dX12_rows_171 rfl (by decide +kernel) (Nat.le_of_ble_eq_true rfl) rfl ?_
  refine J_ls (ls2 := [some (.ref 98), some (.int 0), some (.int (-1)), some (.int 3), some (.int 2), some (.int 1), some (.int 0)]) rfl ?_
  refine J_goto (tgt := 113) dX12_rows_174 (by decide) ?_
  refine J_iload dX12_rows_113 rfl ?_
  refine J_aload_n dX12_rows_115 rfl rfl ?_
  refine J_get (v := .int 1) dX12_rows_116 fl_X12_298 rfl rfl ?_
  refine J_icmp_ge (tgt := 177) dX12_rows_119 (by decide) (fun _ => ?_) (fun q => absurd (by decide +kernel) q)
  refine J_iconst (v := 0) dX12_rows_177 (by decide) ?_
  refine J_istore dX12_rows_178 (Nat.le_of_ble_eq_true rfl) rfl ?_
  refine J_iload dX12_rows_180 rfl ?_
  refine J_aload_n dX12_rows_182 rfl rfl ?_
  refine J_get (v := .int 1) dX12_rows_183 fl_X12_298 rfl rfl ?_
  refine J_icmp_ge (tgt := 209) dX12_rows_186 (by decide) (fun q => absurd q (by decide +kernel)) (fun _ => ?_)
  refine J_aload_n dX12_rows_189 rfl rfl ?_
  refine J_get (v := .ref 127) dX12_rows_190 fl_X12_113 rfl rfl ?_
  refine J_iload dX12_rows_193 rfl ?_
  refine J_aload_n dX12_rows_195 rfl rfl ?_
  refine J_get (v := .ref 128) dX12_rows_196 fl_X12_116 rfl rfl ?_
  refine J_iload dX12_rows_199 rfl ?_
  refine J_lald (i2 := 0) (v := 0) dX12_rows_201 rfl rfl (jin (by decide +kernel)) (by decide +kernel) rfl ?_
  refine K_last (i2 := 0) dX12_rows_202 rfl rfl (jin (by decide +kernel)) (by decide +kernel) ?_
  refine J_iinc (v := 1) dX12_rows_203 rfl (by decide +kernel) (Nat.le_of_ble_eq_true rfl) rfl ?_
  refine J_ls (ls2 := [some (.ref 98), some (.int 0), some (.int (-1)), some (.int 3), some (.int 2), some (.int 1), some (.int 0)]) rfl ?_
  refine J_goto (tgt := 180) dX12_rows_206 (by decide) ?_
  refine J_iload dX12_rows_180 rfl ?_
  refine J_aload_n dX12_rows_182 rfl rfl ?_
  refine J_get (v := .int 1) dX12_rows_183 fl_X12_298 rfl rfl ?_
  refine J_icmp_ge (tgt := 209) dX12_rows_186 (by decide) (fun _ => ?_) (fun q => absurd (by decide +kernel) q)
  refine J_iinc (v := 3) dX12_rows_209 rfl (by decide +kernel) (Nat.le_of_ble_eq_true rfl) rfl ?_
  refine J_ls (ls2 := [some (.ref 98), some (.int 0), some (.int (-1)), some (.int 3), some (.int 3), some (.int 1), some (.int 0)]) rfl ?_
  refine J_goto (tgt := 78) dX12_rows_212 (by decide) ?_
  refine J_iload dX12_rows_78 rfl ?_
  refine J_iload_n dX12_rows_80 rfl rfl ?_
  refine J_icmp_ge (tgt := 215) dX12_rows_81 (by decide) (fun _ => ?_) (fun q => absurd (by decide +kernel) q)
  refine J_iload_n dX12_rows_215 rfl rfl ?_
  refine J_iconst (v := (-1)) dX12_rows_216 (by decide) ?_
  refine J_icmp_eq (tgt := 227) dX12_rows_217 (by decide) (fun _ => ?_) (fun q => absurd (by decide +kernel) q)
  refine J_lconst (v := 0) dX12_rows_227 (by decide +kernel) ?_
  refine J_lstore dX12_rows_228 (Nat.le_of_ble_eq_true rfl) rfl ?_
  refine J_iconst (v := 0) dX12_rows_230 (by decide) ?_
  refine J_istore dX12_rows_231 (Nat.le_of_ble_eq_true rfl) rfl ?_
  refine J_iload dX12_rows_233 rfl ?_
  refine J_aload_n dX12_rows_235 rfl rfl ?_
  refine J_get (v := .int 1) dX12_rows_236 fl_X12_298 rfl rfl ?_
  refine J_icmp_ge (tgt := 260) dX12_rows_239 (by decide) (fun q => absurd q (by decide +kernel)) (fun _ => ?_)
  refine J_lload dX12_rows_242 rfl ?_
  refine J_aload_n dX12_rows_244 rfl rfl ?_
  refine J_get (v := .ref 127) dX12_rows_245 fl_X12_113 rfl rfl ?_
  refine J_iload dX12_rows_248 rfl ?_
  refine J_lald (i2 := 0) (v := 0) dX12_rows_250 rfl rfl (jin (by decide +kernel)) (by decide +kernel) rfl ?_
  refine J_ladd (z := 0) dX12_rows_251 (by decide +kernel) ?_
  refine J_lstore dX12_rows_252 (Nat.le_of_ble_eq_true rfl) rfl ?_
  refine J_iinc (v := 1) dX12_rows_254 rfl (by decide +kernel) (Nat.le_of_ble_eq_true rfl) rfl ?_
  refine J_ls (ls2 := [some (.ref 98), some (.int 0), some (.int (-1)), some (.int 3), some (.long 0), none, some (.int 1)]) rfl ?_
  refine J_goto (tgt := 233) dX12_rows_257 (by decide) ?_
  refine J_iload dX12_rows_233 rfl ?_
  refine J_aload_n dX12_rows_235 rfl rfl ?_
  refine J_get (v := .int 1) dX12_rows_236 fl_X12_298 rfl rfl ?_
  refine J_icmp_ge (tgt := 260) dX12_rows_239 (by decide) (fun _ => ?_) (fun q => absurd (by decide +kernel) q)
  refine J_lload dX12_rows_260 rfl ?_
  refine J_mask (L2 := [(127, .inl (1, 1260, .inr (.inl (vp_updL (vp_updL (vp_updL (vp_updL (fun _ => 0) 0 1) 0 0) 0 0) 0 0)))), (128, .inl (1, 1260, .inr (.inl (vp_updL (vp_updL (vp_updL (fun _ => 0) 0 0) 0 0) 0 0)))), (114, .inl (0, 1260, .inl (upd (fun _ => 0) 0 0))), (116, .inl (0, 1260, .inl (upd (fun _ => 0) 0 0))), (98, .inr (12, [.int 0, .int 0, .ref 99, .ref 100, .ref 101, .ref 102, .ref 103, .ref 104, .ref 105, .int 0, .int (-1), .ref 106, .ref 107, .ref 108, .int 0, .int 0, .int 0, .int 0, .int 0, .int 0, .int 0, .ref 109, .int 0, .int 0, .ref 110, .ref 111, .ref 112, .ref 113, .ref 114, .ref 115, .ref 116, .ref 117, .int 1, .int 0, .int 0, .int 0, .ref 118, .ref 119, .ref 120, .ref 121, .ref 122, .ref 123, .ref 124, .ref 125, .ref 126, .ref 127, .ref 128, .ref 129, .int 0, .ref 130, .ref 131, .ref 132, .ref 133, .ref 134, .int 0, .int 0])), (111, .inl (0, 1260, .inl (upd (fun _ => 0) 0 0)))]) (ks := [127, 128, 127, 128, 127, 128, 127, 114, 116, 98, 98, 111]) [true, true, false, false, false, false, false, true, true, true, false, true] rfl (by decide +kernel) rfl ?_
  exact J_lret dX12_rows_262 rfl (Nat.le_of_ble_eq_true rfl) (Nat.le_of_ble_eq_true rfl) ⟨rfl, rfl⟩
set_option maxHeartbeats 4000000 in
set_option maxRecDepth 100000 in
theorem c_J7_fill_bad5a_5 {l : Launch} {G : jG} {nh : Nat} {fh : Nat → Option va_E} (hk73 : fh 73 = some (.inl (1, 1260, .inr (.inl (vp_updL (vp_updL (vp_updL (fun _ => 0) 0 0) 0 1) 0 0))))) : JM l G yJ7_fill_bad5a MJ7_fill_bad5a { frames := 1, cells := 0, slots := 0, locals := 22 } [.ref 73, .int 0, .int 1, .long 0] (nh, fh) (fun r h9 => r = none ∧ h9 = (nh, hc fh [(73, .inl (1, 1260, .inr (.inl (vp_updL (vp_updL (vp_updL (vp_updL (fun _ => 0) 0 0) 0 1) 0 0) 0 0))))])) := by
  refine JM.of (by decide) rfl (fun h => by cases h) (Nat.le_of_ble_eq_true rfl) ⟨1, rfl⟩ ?_
  refine J_hc0 (J_ls (ls2 := [some (.ref 73), some (.int 0), some (.int 1), some (.long 0), none, none]) rfl ?_)
  refine J_aload_n dJ7_fill_bad5a_0 rfl rfl ?_
  refine J_alen (v := 1260) dJ7_fill_bad5a_1 hk73 rfl (by decide +kernel) ?_
  refine J_iload_n dJ7_fill_bad5a_2 rfl rfl ?_
  refine J_iload_n dJ7_fill_bad5a_3 rfl rfl ?_
  refine J_callS (st := []) dJ7_fill_bad5a_4 cs_J7_13 (c_J7_rangeCheck_23922_1 ) rfl rfl (Nat.le_of_ble_eq_true rfl) ⟨(Nat.le_of_ble_eq_true rfl), (Nat.le_of_ble_eq_true rfl)⟩ ⟨(Nat.le_of_ble_eq_true rfl), (Nat.le_of_ble_eq_true rfl)⟩ (fun r h9 hp => ?_)
  obtain ⟨rfl, rfl⟩ := hp
  refine J_nf (nh2 := nh) (ck2 := 0) (sk2 := 0) (st2 := []) rfl rfl rfl rfl ?_
  refine J_iload_n dJ7_fill_bad5a_7 rfl rfl ?_
  refine J_istore dJ7_fill_bad5a_8 (Nat.le_of_ble_eq_true rfl) rfl ?_
  refine J_iload dJ7_fill_bad5a_10 rfl ?_
  refine J_iload_n dJ7_fill_bad5a_12 rfl rfl ?_
  refine J_icmp_ge (tgt := 27) dJ7_fill_bad5a_13 (by decide) (fun q => absurd q (by decide +kernel)) (fun _ => ?_)
  refine J_aload_n dJ7_fill_bad5a_16 rfl rfl ?_
  refine J_iload dJ7_fill_bad5a_17 rfl ?_
  refine J_lload_n dJ7_fill_bad5a_19 rfl rfl ?_
  refine K_last (i2 := 0) dJ7_fill_bad5a_20 hk73 rfl (jin (by decide +kernel)) (by decide +kernel) ?_
  refine J_iinc (v := 1) dJ7_fill_bad5a_21 rfl (by decide +kernel) (Nat.le_of_ble_eq_true rfl) rfl ?_
  refine J_ls (ls2 := [some (.ref 73), some (.int 0), some (.int 1), some (.long 0), none, some (.int 1)]) rfl ?_
  refine J_goto (tgt := 10) dJ7_fill_bad5a_24 (by decide) ?_
  refine J_iload dJ7_fill_bad5a_10 rfl ?_
  refine J_iload_n dJ7_fill_bad5a_12 rfl rfl ?_
  refine J_icmp_ge (tgt := 27) dJ7_fill_bad5a_13 (by decide) (fun _ => ?_) (fun q => absurd (by decide +kernel) q)
  exact J_vret dJ7_fill_bad5a_27 rfl (Nat.le_of_ble_eq_true rfl) (Nat.le_of_ble_eq_true rfl) ⟨rfl, rfl⟩
set_option maxHeartbeats 4000000 in
set_option maxRecDepth 100000 in
theorem c_X10_lengthenRows_4 {l : Launch} {G : jG} {nh : Nat} {fh : Nat → Option va_E} (hk65 : fh 65 = some (.inr (10, [.ref 51, .ref 57, .ref 66, .ref 67, .ref 68, .int 0, .int (-1), .int (-1), .ref 69, .ref 70, .ref 71, .ref 72, .int 0, .int (-1), .int (-1), .ref 74, .ref 73]))) (hk73 : fh 73 = some (.inl (1, 1260, .inr (.inl (vp_updL (vp_updL (vp_updL (fun _ => 0) 0 0) 0 1) 0 0))))) (hk74 : fh 74 = some (.inl (1, 1260, .inr (.inl (vp_updL (vp_updL (fun _ => 0) 0 0) 0 0))))) : JM l G yX10_lengthenRows MX10_lengthenRows { frames := 2, cells := 0, slots := 0, locals := 47 } [.ref 65, .int 1] (nh, fh) (fun r h9 => r = none ∧ h9 = (nh, hc fh [(65, .inr (10, [.ref 51, .ref 57, .ref 66, .ref 67, .ref 68, .int 0, .int (-1), .int (-1), .ref 69, .ref 70, .ref 71, .ref 72, .int 0, .int (-1), .int (-1), .ref 73, .ref 74])), (73, .inl (1, 1260, .inr (.inl (vp_updL (vp_updL (vp_updL (vp_updL (fun _ => 0) 0 0) 0 1) 0 0) 0 0))))])) := by
  refine JM.of (by decide) rfl (fun h => by cases h) (Nat.le_of_ble_eq_true rfl) ⟨3, rfl⟩ ?_
  refine J_hc0 (J_ls (ls2 := [some (.ref 65), some (.int 1), none, none, none]) rfl ?_)
  refine J_aload_n dX10_lengthenRows_0 rfl rfl ?_
  refine J_get (v := .ref 73) dX10_lengthenRows_1 fl_X10_56 hk65 rfl ?_
  refine J_iconst (v := 0) dX10_lengthenRows_4 (by decide) ?_
  refine J_iload_n dX10_lengthenRows_5 rfl rfl ?_
  refine J_lconst (v := 0) dX10_lengthenRows_6 (by decide +kernel) ?_
  refine J_callS (st := []) dX10_lengthenRows_7 cs_X10_127 (c_J7_fill_bad5a_5 hk73) rfl rfl (Nat.le_of_ble_eq_true rfl) ⟨(Nat.le_of_ble_eq_true rfl), (Nat.le_of_ble_eq_true rfl)⟩ ⟨(Nat.le_of_ble_eq_true rfl), (Nat.le_of_ble_eq_true rfl)⟩ (fun r h9 hp => ?_)
  obtain ⟨rfl, rfl⟩ := hp
  refine J_nf (nh2 := nh) (ck2 := 0) (sk2 := 0) (st2 := []) rfl rfl rfl rfl ?_
  refine J_app (L3 := [(73, .inl (1, 1260, .inr (.inl (vp_updL (vp_updL (vp_updL (vp_updL (fun _ => 0) 0 0) 0 1) 0 0) 0 0))))]) rfl ?_
  refine J_iconst (v := 0) dX10_lengthenRows_10 (by decide) ?_
  refine J_istore_n dX10_lengthenRows_11 rfl (Nat.le_of_ble_eq_true rfl) rfl ?_
  refine J_iload_n dX10_lengthenRows_12 rfl rfl ?_
  refine J_iload_n dX10_lengthenRows_13 rfl rfl ?_
  refine J_icmp_ge (tgt := 86) dX10_lengthenRows_14 (by decide) (fun q => absurd q (by decide +kernel)) (fun _ => ?_)
  refine J_aload_n dX10_lengthenRows_17 rfl rfl ?_
  refine J_get (v := .ref 74) dX10_lengthenRows_18 fl_X10_52 hk65 rfl ?_
  refine J_iload_n dX10_lengthenRows_21 rfl rfl ?_
  refine J_lald (i2 := 0) (v := 0) dX10_lengthenRows_22 hk74 rfl (jin (by decide +kernel)) (by decide +kernel) rfl ?_
  refine J_lconst (v := 0) dX10_lengthenRows_23 (by decide +kernel) ?_
  refine J_lcmp (z := 0) dX10_lengthenRows_24 (by decide +kernel) ?_
  refine J_if_ne (tgt := 32) dX10_lengthenRows_25 (by decide) (fun q => absurd (by decide +kernel) q) (fun _ => ?_)
  refine J_iconst (v := 0) dX10_lengthenRows_28 (by decide) ?_
  refine J_goto (tgt := 40) dX10_lengthenRows_29 (by decide) ?_
  refine J_istore_n dX10_lengthenRows_40 rfl (Nat.le_of_ble_eq_true rfl) rfl ?_
  refine J_iconst (v := 0) dX10_lengthenRows_41 (by decide) ?_
  refine J_istore dX10_lengthenRows_42 (Nat.le_of_ble_eq_true rfl) rfl ?_
  refine J_iload dX10_lengthenRows_44 rfl ?_
  refine J_iload_n dX10_lengthenRows_46 rfl rfl ?_
  refine J_icmp_ge (tgt := 80) dX10_lengthenRows_47 (by decide) (fun _ => ?_) (fun q => absurd (by decide +kernel) q)
  refine J_iinc (v := 1) dX10_lengthenRows_80 rfl (by decide +kernel) (Nat.le_of_ble_eq_true rfl) rfl ?_
  refine J_ls (ls2 := [some (.ref 65), some (.int 1), some (.int 1), some (.int 0), some (.int 0)]) rfl ?_
  refine J_goto (tgt := 12) dX10_lengthenRows_83 (by decide) ?_
  refine J_iload_n dX10_lengthenRows_12 rfl rfl ?_
  refine J_iload_n dX10_lengthenRows_13 rfl rfl ?_
  refine J_icmp_ge (tgt := 86) dX10_lengthenRows_14 (by decide) (fun _ => ?_) (fun q => absurd (by decide +kernel) q)
  refine J_aload_n dX10_lengthenRows_86 rfl rfl ?_
  refine J_get (v := .ref 74) dX10_lengthenRows_87 fl_X10_52 hk65 rfl ?_
  refine J_astore_n dX10_lengthenRows_90 rfl (Nat.le_of_ble_eq_true rfl) rfl ?_
  refine J_aload_n dX10_lengthenRows_91 rfl rfl ?_
  refine J_aload_n dX10_lengthenRows_92 rfl rfl ?_
  refine J_get (v := .ref 73) dX10_lengthenRows_93 fl_X10_56 hk65 rfl ?_
  refine K_put (fs2 := [.ref 51, .ref 57, .ref 66, .ref 67, .ref 68, .int 0, .int (-1), .int (-1), .ref 69, .ref 70, .ref 71, .ref 72, .int 0, .int (-1), .int (-1), .ref 73, .ref 73]) dX10_lengthenRows_96 fw_X10_52 hk65 (Nat.le_of_ble_eq_true rfl) (fun _ => ⟨rfl, rfl⟩) rfl ?_
  refine J_aload_n dX10_lengthenRows_99 rfl rfl ?_
  refine J_aload_n dX10_lengthenRows_100 rfl rfl ?_
  refine K_put (fs2 := [.ref 51, .ref 57, .ref 66, .ref 67, .ref 68, .int 0, .int (-1), .int (-1), .ref 69, .ref 70, .ref 71, .ref 72, .int 0, .int (-1), .int (-1), .ref 73, .ref 74]) dX10_lengthenRows_101 fw_X10_56 rfl (Nat.le_of_ble_eq_true rfl) (fun _ => ⟨rfl, rfl⟩) rfl ?_
  refine J_mask (L2 := [(65, .inr (10, [.ref 51, .ref 57, .ref 66, .ref 67, .ref 68, .int 0, .int (-1), .int (-1), .ref 69, .ref 70, .ref 71, .ref 72, .int 0, .int (-1), .int (-1), .ref 73, .ref 74])), (73, .inl (1, 1260, .inr (.inl (vp_updL (vp_updL (vp_updL (vp_updL (fun _ => 0) 0 0) 0 1) 0 0) 0 0))))]) (ks := [65, 65, 73]) [true, false, true] rfl (by decide +kernel) rfl ?_
  exact J_vret dX10_lengthenRows_104 rfl (Nat.le_of_ble_eq_true rfl) (Nat.le_of_ble_eq_true rfl) ⟨rfl, rfl⟩
set_option maxHeartbeats 4000000 in
set_option maxRecDepth 100000 in
theorem c_X10_rowsTo_5 {l : Launch} {G : jG} {nh : Nat} {fh : Nat → Option va_E} (hk1 : fh 1 = some (.inr (8, [.ref 2, .ref 3, .ref 4, .int 0, .int (-1), .ref 11, .ref 12, .int 0, .ref 13, .ref 14, .int 0, .ref 15, .ref 16, .int 0]))) (hk3 : fh 3 = some (.inl (0, 2, .inl (fun _ => 0)))) (hk51 : fh 51 = some (.inr (0, [.ref 52, .ref 53, .int 1, .int 0]))) (hk52 : fh 52 = some (.inl (0, 1260, .inl (upd (fun _ => 0) 0 0)))) (hk57 : fh 57 = some (.inr (9, [.ref 1, .ref 51, .ref 58, .ref 61, .ref 62, .ref 135, .ref 64, .int 0, .int 0, .int 0]))) (hk62 : fh 62 = some (.inl (0, 1260, .inl (upd (fun _ => 0) 0 (-1))))) (hk65 : fh 65 = some (.inr (10, [.ref 51, .ref 57, .ref 66, .ref 67, .ref 68, .int 0, .int (-1), .int (-1), .ref 69, .ref 70, .ref 71, .ref 72, .int 0, .int (-1), .int (-1), .ref 73, .ref 74]))) (hk73 : fh 73 = some (.inl (1, 1260, .inr (.inl (fun _ => 0))))) (hk74 : fh 74 = some (.inl (1, 1260, .inr (.inl (fun _ => 0))))) : JM l G yX10_rowsTo MX10_rowsTo { frames := 5, cells := 0, slots := 0, locals := 119 } [.ref 65, .int 0, .int (-1), .int 4] (nh, fh) (fun r h9 => r = some (.long 0) ∧ h9 = (nh, hc fh [(65, .inr (10, [.ref 51, .ref 57, .ref 66, .ref 67, .ref 68, .int 0, .int (-1), .int (-1), .ref 69, .ref 70, .ref 71, .ref 72, .int 0, .int (-1), .int (-1), .ref 73, .ref 74])), (73, .inl (1, 1260, .inr (.inl (vp_updL (vp_updL (vp_updL (vp_updL (fun _ => 0) 0 0) 0 1) 0 0) 0 0)))), (74, .inl (1, 1260, .inr (.inl (vp_updL (vp_updL (fun _ => 0) 0 0) 0 0)))), (62, .inl (0, 1260, .inl (upd (upd (fun _ => 0) 0 (-1)) 0 0)))])) := by
  refine JM.of (by decide) rfl (fun h => by cases h) (Nat.le_of_ble_eq_true rfl) ⟨4, rfl⟩ ?_
  refine J_hc0 (J_ls (ls2 := [some (.ref 65), some (.int 0), some (.int (-1)), some (.int 4), none, none, none, none]) rfl ?_)
  refine J_aload_n dX10_rowsTo_0 rfl rfl ?_
  refine J_get (v := .ref 51) dX10_rowsTo_1 fl_X10_59 hk65 rfl ?_
  refine J_callV (st := []) dX10_rowsTo_4 cv_X10_83 (c_X0_many_1 hk51) hk51 rfl rfl (Nat.le_of_ble_eq_true rfl) ⟨(Nat.le_of_ble_eq_true rfl), (Nat.le_of_ble_eq_true rfl)⟩ ⟨(Nat.le_of_ble_eq_true rfl), (Nat.le_of_ble_eq_true rfl)⟩ (fun r h9 hp => ?_)
  obtain ⟨rfl, rfl⟩ := hp
  refine J_nf (nh2 := nh) (ck2 := 0) (sk2 := 0) (st2 := [.int 1]) rfl rfl rfl rfl ?_
  refine J_istore dX10_rowsTo_7 (Nat.le_of_ble_eq_true rfl) rfl ?_
  refine J_aload_n dX10_rowsTo_9 rfl rfl ?_
  refine J_get (v := .ref 73) dX10_rowsTo_10 fl_X10_52 hk65 rfl ?_
  refine J_iconst (v := 0) dX10_rowsTo_13 (by decide) ?_
  refine J_iload dX10_rowsTo_14 rfl ?_
  refine J_lconst (v := 0) dX10_rowsTo_16 (by decide +kernel) ?_
  refine J_callS (st := []) dX10_rowsTo_17 cs_X10_127 (c_J7_fill_bad5a_1 hk73) rfl rfl (Nat.le_of_ble_eq_true rfl) ⟨(Nat.le_of_ble_eq_true rfl), (Nat.le_of_ble_eq_true rfl)⟩ ⟨(Nat.le_of_ble_eq_true rfl), (Nat.le_of_ble_eq_true rfl)⟩ (fun r h9 hp => ?_)
  obtain ⟨rfl, rfl⟩ := hp
  refine J_nf (nh2 := nh) (ck2 := 0) (sk2 := 0) (st2 := []) rfl rfl rfl rfl ?_
  refine J_app (L3 := [(73, .inl (1, 1260, .inr (.inl (vp_updL (fun _ => 0) 0 0))))]) rfl ?_
  refine J_aload_n dX10_rowsTo_20 rfl rfl ?_
  refine J_get (v := .ref 73) dX10_rowsTo_21 fl_X10_52 hk65 rfl ?_
  refine J_iload_n dX10_rowsTo_24 rfl rfl ?_
  refine J_lconst (v := 1) dX10_rowsTo_25 (by decide +kernel) ?_
  refine K_last (i2 := 0) dX10_rowsTo_26 rfl rfl (jin (by decide +kernel)) (by decide +kernel) ?_
  refine J_iconst (v := 0) dX10_rowsTo_27 (by decide) ?_
  refine J_istore dX10_rowsTo_28 (Nat.le_of_ble_eq_true rfl) rfl ?_
  refine J_iload dX10_rowsTo_30 rfl ?_
  refine J_iload_n dX10_rowsTo_32 rfl rfl ?_
  refine J_icmp_ge (tgt := 48) dX10_rowsTo_33 (by decide) (fun q => absurd q (by decide +kernel)) (fun _ => ?_)
  refine J_aload_n dX10_rowsTo_36 rfl rfl ?_
  refine J_iload dX10_rowsTo_37 rfl ?_
  refine J_callV (st := []) dX10_rowsTo_39 cv_X10_130 (c_X10_lengthenRows_1 hk1 hk3 hk51 hk52 hk57 hk62 hk65 rfl hk74) hk65 rfl rfl (Nat.le_of_ble_eq_true rfl) ⟨(Nat.le_of_ble_eq_true rfl), (Nat.le_of_ble_eq_true rfl)⟩ ⟨(Nat.le_of_ble_eq_true rfl), (Nat.le_of_ble_eq_true rfl)⟩ (fun r h9 hp => ?_)
  obtain ⟨rfl, rfl⟩ := hp
  refine J_nf (nh2 := nh) (ck2 := 0) (sk2 := 0) (st2 := []) rfl rfl rfl rfl ?_
  refine J_app (L3 := [(65, .inr (10, [.ref 51, .ref 57, .ref 66, .ref 67, .ref 68, .int 0, .int (-1), .int (-1), .ref 69, .ref 70, .ref 71, .ref 72, .int 0, .int (-1), .int (-1), .ref 74, .ref 73])), (62, .inl (0, 1260, .inl (upd (upd (fun _ => 0) 0 (-1)) 0 0))), (74, .inl (1, 1260, .inr (.inl (vp_updL (fun _ => 0) 0 0)))), (73, .inl (1, 1260, .inr (.inl (vp_updL (vp_updL (fun _ => 0) 0 0) 0 1)))), (73, .inl (1, 1260, .inr (.inl (vp_updL (fun _ => 0) 0 0))))]) rfl ?_
  refine J_iinc (v := 1) dX10_rowsTo_42 rfl (by decide +kernel) (Nat.le_of_ble_eq_true rfl) rfl ?_
  refine J_ls (ls2 := [some (.ref 65), some (.int 0), some (.int (-1)), some (.int 4), some (.int 1), some (.int 1), none, none]) rfl ?_
  refine J_goto (tgt := 30) dX10_rowsTo_45 (by decide) ?_
  refine J_iload dX10_rowsTo_30 rfl ?_
  refine J_iload_n dX10_rowsTo_32 rfl rfl ?_
  refine J_icmp_ge (tgt := 48) dX10_rowsTo_33 (by decide) (fun q => absurd q (by decide +kernel)) (fun _ => ?_)
  refine J_aload_n dX10_rowsTo_36 rfl rfl ?_
  refine J_iload dX10_rowsTo_37 rfl ?_
  refine J_callV (st := []) dX10_rowsTo_39 cv_X10_130 (c_X10_lengthenRows_2 rfl rfl rfl) rfl rfl rfl (Nat.le_of_ble_eq_true rfl) ⟨(Nat.le_of_ble_eq_true rfl), (Nat.le_of_ble_eq_true rfl)⟩ ⟨(Nat.le_of_ble_eq_true rfl), (Nat.le_of_ble_eq_true rfl)⟩ (fun r h9 hp => ?_)
  obtain ⟨rfl, rfl⟩ := hp
  refine J_nf (nh2 := nh) (ck2 := 0) (sk2 := 0) (st2 := []) rfl rfl rfl rfl ?_
  refine J_app (L3 := [(65, .inr (10, [.ref 51, .ref 57, .ref 66, .ref 67, .ref 68, .int 0, .int (-1), .int (-1), .ref 69, .ref 70, .ref 71, .ref 72, .int 0, .int (-1), .int (-1), .ref 73, .ref 74])), (73, .inl (1, 1260, .inr (.inl (vp_updL (vp_updL (vp_updL (fun _ => 0) 0 0) 0 1) 0 0)))), (65, .inr (10, [.ref 51, .ref 57, .ref 66, .ref 67, .ref 68, .int 0, .int (-1), .int (-1), .ref 69, .ref 70, .ref 71, .ref 72, .int 0, .int (-1), .int (-1), .ref 74, .ref 73])), (62, .inl (0, 1260, .inl (upd (upd (fun _ => 0) 0 (-1)) 0 0))), (74, .inl (1, 1260, .inr (.inl (vp_updL (fun _ => 0) 0 0)))), (73, .inl (1, 1260, .inr (.inl (vp_updL (vp_updL (fun _ => 0) 0 0) 0 1)))), (73, .inl (1, 1260, .inr (.inl (vp_updL (fun _ => 0) 0 0))))]) rfl ?_
  refine J_iinc (v := 2) dX10_rowsTo_42 rfl (by decide +kernel) (Nat.le_of_ble_eq_true rfl) rfl ?_
  refine J_ls (ls2 := [some (.ref 65), some (.int 0), some (.int (-1)), some (.int 4), some (.int 1), some (.int 2), none, none]) rfl ?_
  refine J_goto (tgt := 30) dX10_rowsTo_45 (by decide) ?_
  refine J_iload dX10_rowsTo_30 rfl ?_
  refine J_iload_n dX10_rowsTo_32 rfl rfl ?_
  refine J_icmp_ge (tgt := 48) dX10_rowsTo_33 (by decide) (fun q => absurd q (by decide +kernel)) (fun _ => ?_)
  refine J_aload_n dX10_rowsTo_36 rfl rfl ?_
  refine J_iload dX10_rowsTo_37 rfl ?_
  refine J_callV (st := []) dX10_rowsTo_39 cv_X10_130 (c_X10_lengthenRows_3 rfl rfl rfl) rfl rfl rfl (Nat.le_of_ble_eq_true rfl) ⟨(Nat.le_of_ble_eq_true rfl), (Nat.le_of_ble_eq_true rfl)⟩ ⟨(Nat.le_of_ble_eq_true rfl), (Nat.le_of_ble_eq_true rfl)⟩ (fun r h9 hp => ?_)
  obtain ⟨rfl, rfl⟩ := hp
  refine J_nf (nh2 := nh) (ck2 := 0) (sk2 := 0) (st2 := []) rfl rfl rfl rfl ?_
  refine J_app (L3 := [(65, .inr (10, [.ref 51, .ref 57, .ref 66, .ref 67, .ref 68, .int 0, .int (-1), .int (-1), .ref 69, .ref 70, .ref 71, .ref 72, .int 0, .int (-1), .int (-1), .ref 74, .ref 73])), (74, .inl (1, 1260, .inr (.inl (vp_updL (vp_updL (fun _ => 0) 0 0) 0 0)))), (65, .inr (10, [.ref 51, .ref 57, .ref 66, .ref 67, .ref 68, .int 0, .int (-1), .int (-1), .ref 69, .ref 70, .ref 71, .ref 72, .int 0, .int (-1), .int (-1), .ref 73, .ref 74])), (73, .inl (1, 1260, .inr (.inl (vp_updL (vp_updL (vp_updL (fun _ => 0) 0 0) 0 1) 0 0)))), (65, .inr (10, [.ref 51, .ref 57, .ref 66, .ref 67, .ref 68, .int 0, .int (-1), .int (-1), .ref 69, .ref 70, .ref 71, .ref 72, .int 0, .int (-1), .int (-1), .ref 74, .ref 73])), (62, .inl (0, 1260, .inl (upd (upd (fun _ => 0) 0 (-1)) 0 0))), (74, .inl (1, 1260, .inr (.inl (vp_updL (fun _ => 0) 0 0)))), (73, .inl (1, 1260, .inr (.inl (vp_updL (vp_updL (fun _ => 0) 0 0) 0 1)))), (73, .inl (1, 1260, .inr (.inl (vp_updL (fun _ => 0) 0 0))))]) rfl ?_
  refine J_iinc (v := 3) dX10_rowsTo_42 rfl (by decide +kernel) (Nat.le_of_ble_eq_true rfl) rfl ?_
  refine J_ls (ls2 := [some (.ref 65), some (.int 0), some (.int (-1)), some (.int 4), some (.int 1), some (.int 3), none, none]) rfl ?_
  refine J_goto (tgt := 30) dX10_rowsTo_45 (by decide) ?_
  refine J_iload dX10_rowsTo_30 rfl ?_
  refine J_iload_n dX10_rowsTo_32 rfl rfl ?_
  refine J_icmp_ge (tgt := 48) dX10_rowsTo_33 (by decide) (fun q => absurd q (by decide +kernel)) (fun _ => ?_)
  refine J_aload_n dX10_rowsTo_36 rfl rfl ?_
  refine J_iload dX10_rowsTo_37 rfl ?_
  refine J_callV (st := []) dX10_rowsTo_39 cv_X10_130 (c_X10_lengthenRows_4 rfl rfl rfl) rfl rfl rfl (Nat.le_of_ble_eq_true rfl) ⟨(Nat.le_of_ble_eq_true rfl), (Nat.le_of_ble_eq_true rfl)⟩ ⟨(Nat.le_of_ble_eq_true rfl), (Nat.le_of_ble_eq_true rfl)⟩ (fun r h9 hp => ?_)
  obtain ⟨rfl, rfl⟩ := hp
  refine J_nf (nh2 := nh) (ck2 := 0) (sk2 := 0) (st2 := []) rfl rfl rfl rfl ?_
  refine J_app (L3 := [(65, .inr (10, [.ref 51, .ref 57, .ref 66, .ref 67, .ref 68, .int 0, .int (-1), .int (-1), .ref 69, .ref 70, .ref 71, .ref 72, .int 0, .int (-1), .int (-1), .ref 73, .ref 74])), (73, .inl (1, 1260, .inr (.inl (vp_updL (vp_updL (vp_updL (vp_updL (fun _ => 0) 0 0) 0 1) 0 0) 0 0)))), (65, .inr (10, [.ref 51, .ref 57, .ref 66, .ref 67, .ref 68, .int 0, .int (-1), .int (-1), .ref 69, .ref 70, .ref 71, .ref 72, .int 0, .int (-1), .int (-1), .ref 74, .ref 73])), (74, .inl (1, 1260, .inr (.inl (vp_updL (vp_updL (fun _ => 0) 0 0) 0 0)))), (65, .inr (10, [.ref 51, .ref 57, .ref 66, .ref 67, .ref 68, .int 0, .int (-1), .int (-1), .ref 69, .ref 70, .ref 71, .ref 72, .int 0, .int (-1), .int (-1), .ref 73, .ref 74])), (73, .inl (1, 1260, .inr (.inl (vp_updL (vp_updL (vp_updL (fun _ => 0) 0 0) 0 1) 0 0)))), (65, .inr (10, [.ref 51, .ref 57, .ref 66, .ref 67, .ref 68, .int 0, .int (-1), .int (-1), .ref 69, .ref 70, .ref 71, .ref 72, .int 0, .int (-1), .int (-1), .ref 74, .ref 73])), (62, .inl (0, 1260, .inl (upd (upd (fun _ => 0) 0 (-1)) 0 0))), (74, .inl (1, 1260, .inr (.inl (vp_updL (fun _ => 0) 0 0)))), (73, .inl (1, 1260, .inr (.inl (vp_updL (vp_updL (fun _ => 0) 0 0) 0 1)))), (73, .inl (1, 1260, .inr (.inl (vp_updL (fun _ => 0) 0 0))))]) rfl ?_
  refine J_iinc (v := 4) dX10_rowsTo_42 rfl (by decide +kernel) (Nat.le_of_ble_eq_true rfl) rfl ?_
  refine J_ls (ls2 := [some (.ref 65), some (.int 0), some (.int (-1)), some (.int 4), some (.int 1), some (.int 4), none, none]) rfl ?_
  refine J_goto (tgt := 30) dX10_rowsTo_45 (by decide) ?_
  refine J_iload dX10_rowsTo_30 rfl ?_
  refine J_iload_n dX10_rowsTo_32 rfl rfl ?_
  refine J_icmp_ge (tgt := 48) dX10_rowsTo_33 (by decide) (fun _ => ?_) (fun q => absurd (by decide +kernel) q)
  refine J_iload_n dX10_rowsTo_48 rfl rfl ?_
  refine J_iconst (v := (-1)) dX10_rowsTo_49 (by decide) ?_
  refine J_icmp_eq (tgt := 60) dX10_rowsTo_50 (by decide) (fun _ => ?_) (fun q => absurd (by decide +kernel) q)
  refine J_lconst (v := 0) dX10_rowsTo_60 (by decide +kernel) ?_
  refine J_lstore dX10_rowsTo_61 (Nat.le_of_ble_eq_true rfl) rfl ?_
  refine J_iconst (v := 0) dX10_rowsTo_63 (by decide) ?_
  refine J_istore dX10_rowsTo_64 (Nat.le_of_ble_eq_true rfl) rfl ?_
  refine J_iload dX10_rowsTo_66 rfl ?_
  refine J_iload dX10_rowsTo_68 rfl ?_
  refine J_icmp_ge (tgt := 91) dX10_rowsTo_70 (by decide) (fun q => absurd q (by decide +kernel)) (fun _ => ?_)
  refine J_lload dX10_rowsTo_73 rfl ?_
  refine J_aload_n dX10_rowsTo_75 rfl rfl ?_
  refine J_get (v := .ref 73) dX10_rowsTo_76 fl_X10_52 rfl rfl ?_
  refine J_iload dX10_rowsTo_79 rfl ?_
  refine J_lald (i2 := 0) (v := 0) dX10_rowsTo_81 rfl rfl (jin (by decide +kernel)) (by decide +kernel) rfl ?_
  refine J_ladd (z := 0) dX10_rowsTo_82 (by decide +kernel) ?_
  refine J_lstore dX10_rowsTo_83 (Nat.le_of_ble_eq_true rfl) rfl ?_
  refine J_iinc (v := 1) dX10_rowsTo_85 rfl (by decide +kernel) (Nat.le_of_ble_eq_true rfl) rfl ?_
  refine J_ls (ls2 := [some (.ref 65), some (.int 0), some (.int (-1)), some (.int 4), some (.int 1), some (.long 0), none, some (.int 1)]) rfl ?_
  refine J_goto (tgt := 66) dX10_rowsTo_88 (by decide) ?_
  refine J_iload dX10_rowsTo_66 rfl ?_
  refine J_iload dX10_rowsTo_68 rfl ?_
  refine J_icmp_ge (tgt := 91) dX10_rowsTo_70 (by decide) (fun _ => ?_) (fun q => absurd (by decide +kernel) q)
  refine J_lload dX10_rowsTo_91 rfl ?_
  refine J_mask (L2 := [(65, .inr (10, [.ref 51, .ref 57, .ref 66, .ref 67, .ref 68, .int 0, .int (-1), .int (-1), .ref 69, .ref 70, .ref 71, .ref 72, .int 0, .int (-1), .int (-1), .ref 73, .ref 74])), (73, .inl (1, 1260, .inr (.inl (vp_updL (vp_updL (vp_updL (vp_updL (fun _ => 0) 0 0) 0 1) 0 0) 0 0)))), (74, .inl (1, 1260, .inr (.inl (vp_updL (vp_updL (fun _ => 0) 0 0) 0 0)))), (62, .inl (0, 1260, .inl (upd (upd (fun _ => 0) 0 (-1)) 0 0)))]) (ks := [65, 73, 65, 74, 65, 73, 65, 62, 74, 73, 73]) [true, true, false, true, false, false, false, true, false, false, false] rfl (by decide +kernel) rfl ?_
  exact J_lret dX10_rowsTo_93 rfl (Nat.le_of_ble_eq_true rfl) (Nat.le_of_ble_eq_true rfl) ⟨rfl, rfl⟩
set_option maxHeartbeats 4000000 in
set_option maxRecDepth 100000 in
theorem c_X11_rows_8 {l : Launch} {G : jG} {fh : Nat → Option va_E} (hk0 : fh 0 = some (.inr (11, [.ref 1, .ref 17, .ref 50, .ref 51, .ref 54, .ref 57, .ref 65, .ref 75, .ref 81, .ref 85, .ref 88, .ref 93, .ref 96, .int 0, .int (-1), .ref 97, .int 0]))) (hk1 : fh 1 = some (.inr (8, [.ref 2, .ref 3, .ref 4, .int 0, .int (-1), .ref 11, .ref 12, .int 0, .ref 13, .ref 14, .int 0, .ref 15, .ref 16, .int 0]))) (hk3 : fh 3 = some (.inl (0, 2, .inl (fun _ => 0)))) (hk51 : fh 51 = some (.inr (0, [.ref 52, .ref 53, .int 1, .int 0]))) (hk52 : fh 52 = some (.inl (0, 1260, .inl (upd (fun _ => 0) 0 0)))) (hk57 : fh 57 = some (.inr (9, [.ref 1, .ref 51, .ref 58, .ref 61, .ref 62, .ref 63, .ref 64, .int 0, .int 1, .int 1]))) (hk58 : fh 58 = some (.inr (1, [.ref 59, .ref 60, .int 0, .int 0, .int 0, .int 0, .int 0, .int 1]))) (hk59 : fh 59 = some (.inl (0, 8, .inl (fun _ => 0)))) (hk62 : fh 62 = some (.inl (0, 1260, .inl (fun _ => 0)))) (hk63 : fh 63 = some (.inl (0, 0, .inl (fun _ => 0)))) (hk65 : fh 65 = some (.inr (10, [.ref 51, .ref 57, .ref 66, .ref 67, .ref 68, .int 0, .int (-1), .int (-1), .ref 69, .ref 70, .ref 71, .ref 72, .int 0, .int (-1), .int (-1), .ref 73, .ref 74]))) (hk73 : fh 73 = some (.inl (1, 1260, .inr (.inl (fun _ => 0))))) (hk74 : fh 74 = some (.inl (1, 1260, .inr (.inl (fun _ => 0))))) : JM l G yX11_rows MX11_rows { frames := 6, cells := 1, slots := 22, locals := 146 } [.ref 0, .int 0, .int (-1), .int 4] (135, fh) (fun r h9 => r = some (.long 0) ∧ h9 = (136, hc fh [(65, .inr (10, [.ref 51, .ref 57, .ref 66, .ref 67, .ref 68, .int 0, .int (-1), .int (-1), .ref 69, .ref 70, .ref 71, .ref 72, .int 0, .int (-1), .int (-1), .ref 73, .ref 74])), (73, .inl (1, 1260, .inr (.inl (vp_updL (vp_updL (vp_updL (vp_updL (fun _ => 0) 0 0) 0 1) 0 0) 0 0)))), (74, .inl (1, 1260, .inr (.inl (vp_updL (vp_updL (fun _ => 0) 0 0) 0 0)))), (62, .inl (0, 1260, .inl (upd (upd (fun _ => 0) 0 (-1)) 0 0))), (57, .inr (9, [.ref 1, .ref 51, .ref 58, .ref 61, .ref 62, .ref 135, .ref 64, .int 0, .int 0, .int 0])), (135, .inl (0, 22, .inl (fun _ => 0))), (59, .inl (0, 8, .inl (upd (upd (fun _ => 0) 6 0) 7 0)))])) := by
  refine JM.of (by decide) rfl (fun h => by cases h) (Nat.le_of_ble_eq_true rfl) ⟨0, rfl⟩ ?_
  refine J_hc0 (J_ls (ls2 := [some (.ref 0), some (.int 0), some (.int (-1)), some (.int 4)]) rfl ?_)
  refine J_aload_n dX11_rows_0 rfl rfl ?_
  refine J_get (v := .ref 51) dX11_rows_1 fl_X11_27 hk0 rfl ?_
  refine J_iload_n dX11_rows_4 rfl rfl ?_
  refine J_callV (st := []) dX11_rows_5 cv_X11_135 (c_X0_has_2 hk51) hk51 rfl rfl (Nat.le_of_ble_eq_true rfl) ⟨(Nat.le_of_ble_eq_true rfl), (Nat.le_of_ble_eq_true rfl)⟩ ⟨(Nat.le_of_ble_eq_true rfl), (Nat.le_of_ble_eq_true rfl)⟩ (fun r h9 hp => ?_)
  obtain ⟨rfl, rfl⟩ := hp
  refine J_nf (nh2 := 135) (ck2 := 0) (sk2 := 0) (st2 := [.int 1]) rfl rfl rfl rfl ?_
  refine J_if_eq (tgt := 37) dX11_rows_8 (by decide) (fun q => absurd q (by decide +kernel)) (fun _ => ?_)
  refine J_iload_n dX11_rows_11 rfl rfl ?_
  refine J_iconst (v := (-1)) dX11_rows_12 (by decide) ?_
  refine J_icmp_eq (tgt := 27) dX11_rows_13 (by decide) (fun _ => ?_) (fun q => absurd (by decide +kernel) q)
  refine J_iload_n dX11_rows_27 rfl rfl ?_
  refine J_if_lt (tgt := 37) dX11_rows_28 (by decide) (fun q => absurd q (by decide +kernel)) (fun _ => ?_)
  refine J_iload_n dX11_rows_31 rfl rfl ?_
  refine J_bipush (v := 12) dX11_rows_32 (by decide +kernel) ?_
  refine J_icmp_le (tgt := 41) dX11_rows_34 (by decide) (fun _ => ?_) (fun q => absurd (by decide +kernel) q)
  refine J_aload_n dX11_rows_41 rfl rfl ?_
  refine J_get (v := .ref 57) dX11_rows_42 fl_X11_43 hk0 rfl ?_
  refine J_callV (st := []) dX11_rows_45 cv_X11_217 (c_X9_prepare_1 hk1 hk3 hk51 hk57 hk58 hk59 hk62 hk63) hk57 rfl rfl (Nat.le_of_ble_eq_true rfl) ⟨(Nat.le_of_ble_eq_true rfl), (Nat.le_of_ble_eq_true rfl)⟩ ⟨(Nat.le_of_ble_eq_true rfl), (Nat.le_of_ble_eq_true rfl)⟩ (fun r h9 hp => ?_)
  obtain ⟨rfl, rfl⟩ := hp
  refine J_nf (nh2 := 136) (ck2 := 1) (sk2 := 22) (st2 := []) rfl rfl rfl rfl ?_
  refine J_app (L3 := [(57, .inr (9, [.ref 1, .ref 51, .ref 58, .ref 61, .ref 62, .ref 135, .ref 64, .int 0, .int 0, .int 0])), (62, .inl (0, 1260, .inl (upd (fun _ => 0) 0 (-1)))), (135, .inl (0, 22, .inl (fun _ => 0))), (59, .inl (0, 8, .inl (upd (upd (fun _ => 0) 6 0) 7 0)))]) rfl ?_
  refine J_aload_n dX11_rows_48 rfl rfl ?_
  refine J_get (v := .ref 65) dX11_rows_49 fl_X11_52 hk0 rfl ?_
  refine J_iload_n dX11_rows_52 rfl rfl ?_
  refine J_iload_n dX11_rows_53 rfl rfl ?_
  refine J_iload_n dX11_rows_54 rfl rfl ?_
  refine J_callV (st := []) dX11_rows_55 cv_X11_256 (c_X10_rowsTo_5 hk1 hk3 hk51 hk52 rfl rfl hk65 hk73 hk74) hk65 rfl rfl (Nat.le_of_ble_eq_true rfl) ⟨(Nat.le_of_ble_eq_true rfl), (Nat.le_of_ble_eq_true rfl)⟩ ⟨(Nat.le_of_ble_eq_true rfl), (Nat.le_of_ble_eq_true rfl)⟩ (fun r h9 hp => ?_)
  obtain ⟨rfl, rfl⟩ := hp
  refine J_nf (nh2 := 136) (ck2 := 1) (sk2 := 22) (st2 := [.long 0]) rfl rfl rfl rfl ?_
  refine J_app (L3 := [(65, .inr (10, [.ref 51, .ref 57, .ref 66, .ref 67, .ref 68, .int 0, .int (-1), .int (-1), .ref 69, .ref 70, .ref 71, .ref 72, .int 0, .int (-1), .int (-1), .ref 73, .ref 74])), (73, .inl (1, 1260, .inr (.inl (vp_updL (vp_updL (vp_updL (vp_updL (fun _ => 0) 0 0) 0 1) 0 0) 0 0)))), (74, .inl (1, 1260, .inr (.inl (vp_updL (vp_updL (fun _ => 0) 0 0) 0 0)))), (62, .inl (0, 1260, .inl (upd (upd (fun _ => 0) 0 (-1)) 0 0))), (57, .inr (9, [.ref 1, .ref 51, .ref 58, .ref 61, .ref 62, .ref 135, .ref 64, .int 0, .int 0, .int 0])), (62, .inl (0, 1260, .inl (upd (fun _ => 0) 0 (-1)))), (135, .inl (0, 22, .inl (fun _ => 0))), (59, .inl (0, 8, .inl (upd (upd (fun _ => 0) 6 0) 7 0)))]) rfl ?_
  refine J_mask (L2 := [(65, .inr (10, [.ref 51, .ref 57, .ref 66, .ref 67, .ref 68, .int 0, .int (-1), .int (-1), .ref 69, .ref 70, .ref 71, .ref 72, .int 0, .int (-1), .int (-1), .ref 73, .ref 74])), (73, .inl (1, 1260, .inr (.inl (vp_updL (vp_updL (vp_updL (vp_updL (fun _ => 0) 0 0) 0 1) 0 0) 0 0)))), (74, .inl (1, 1260, .inr (.inl (vp_updL (vp_updL (fun _ => 0) 0 0) 0 0)))), (62, .inl (0, 1260, .inl (upd (upd (fun _ => 0) 0 (-1)) 0 0))), (57, .inr (9, [.ref 1, .ref 51, .ref 58, .ref 61, .ref 62, .ref 135, .ref 64, .int 0, .int 0, .int 0])), (135, .inl (0, 22, .inl (fun _ => 0))), (59, .inl (0, 8, .inl (upd (upd (fun _ => 0) 6 0) 7 0)))]) (ks := [65, 73, 74, 62, 57, 62, 135, 59]) [true, true, true, true, true, false, true, true] rfl (by decide +kernel) rfl ?_
  exact J_lret dX11_rows_58 rfl (Nat.le_of_ble_eq_true rfl) (Nat.le_of_ble_eq_true rfl) ⟨rfl, rfl⟩
set_option maxHeartbeats 4000000 in
set_option maxRecDepth 100000 in
theorem c_X12_lies_53 {l : Launch} {G : jG} {nh : Nat} {fh : Nat → Option va_E}  : JM l G yX12_lies MX12_lies { frames := 0, cells := 0, slots := 0, locals := 0 } [.int 4, .int 0, .int 12] (nh, fh) (fun r h9 => r = some (.int 1) ∧ h9 = (nh, fh)) := by
  refine JM.of (by decide) rfl (fun h => by cases h) (Nat.le_of_ble_eq_true rfl) ⟨0, rfl⟩ ?_
  refine J_hc0 (J_ls (ls2 := [some (.int 4), some (.int 0), some (.int 12)]) rfl ?_)
  refine J_iload_n dX12_lies_0 rfl rfl ?_
  refine J_iload_n dX12_lies_1 rfl rfl ?_
  refine J_icmp_lt (tgt := 14) dX12_lies_2 (by decide) (fun q => absurd q (by decide +kernel)) (fun _ => ?_)
  refine J_iload_n dX12_lies_5 rfl rfl ?_
  refine J_iload_n dX12_lies_6 rfl rfl ?_
  refine J_icmp_gt (tgt := 14) dX12_lies_7 (by decide) (fun q => absurd q (by decide +kernel)) (fun _ => ?_)
  refine J_iconst (v := 1) dX12_lies_10 (by decide) ?_
  refine J_goto (tgt := 15) dX12_lies_11 (by decide) ?_
  exact J_iret dX12_lies_15 rfl (by decide +kernel) (Nat.le_of_ble_eq_true rfl) (Nat.le_of_ble_eq_true rfl) ⟨rfl, rfl⟩
set_option maxHeartbeats 4000000 in
set_option maxRecDepth 100000 in
theorem c_X12_rows_8 {l : Launch} {G : jG} {nh : Nat} {fh : Nat → Option va_E} (hk98 : fh 98 = some (.inr (12, [.int 0, .int 0, .ref 99, .ref 100, .ref 101, .ref 102, .ref 103, .ref 104, .ref 105, .int 0, .int (-1), .ref 106, .ref 107, .ref 108, .int 0, .int 0, .int 0, .int 0, .int 0, .int 0, .int 0, .ref 109, .int 0, .int 0, .ref 110, .ref 111, .ref 112, .ref 113, .ref 114, .ref 115, .ref 116, .ref 117, .int 0, .int 0, .int (-1), .int (-1), .ref 118, .ref 119, .ref 120, .ref 121, .ref 122, .ref 123, .ref 124, .ref 125, .ref 126, .ref 127, .ref 128, .ref 129, .int 0, .ref 130, .ref 131, .ref 132, .ref 133, .ref 134, .int 0, .int 0]))) (hk100 : fh 100 = some (.inl (0, 4870, .inl (upd (fun _ => 0) 63 (-1))))) (hk111 : fh 111 = some (.inl (0, 1260, .inl (fun _ => 0)))) (hk114 : fh 114 = some (.inl (0, 1260, .inl (fun _ => 0)))) (hk116 : fh 116 = some (.inl (0, 1260, .inl (fun _ => 0)))) (hk127 : fh 127 = some (.inl (1, 1260, .inr (.inl (fun _ => 0))))) (hk128 : fh 128 = some (.inl (1, 1260, .inr (.inl (fun _ => 0))))) : JM l G yX12_rows MX12_rows { frames := 3, cells := 0, slots := 0, locals := 69 } [.ref 98, .int 0, .int (-1), .int 4] (nh, fh) (fun r h9 => r = some (.long 0) ∧ h9 = (nh, hc fh [(127, .inl (1, 1260, .inr (.inl (vp_updL (vp_updL (vp_updL (vp_updL (vp_updL (fun _ => 0) 0 1) 0 0) 0 0) 0 0) 0 0)))), (128, .inl (1, 1260, .inr (.inl (vp_updL (vp_updL (vp_updL (vp_updL (fun _ => 0) 0 0) 0 0) 0 0) 0 0)))), (114, .inl (0, 1260, .inl (upd (fun _ => 0) 0 0))), (116, .inl (0, 1260, .inl (upd (fun _ => 0) 0 0))), (98, .inr (12, [.int 0, .int 0, .ref 99, .ref 100, .ref 101, .ref 102, .ref 103, .ref 104, .ref 105, .int 0, .int (-1), .ref 106, .ref 107, .ref 108, .int 0, .int 0, .int 0, .int 0, .int 0, .int 0, .int 0, .ref 109, .int 0, .int 0, .ref 110, .ref 111, .ref 112, .ref 113, .ref 114, .ref 115, .ref 116, .ref 117, .int 1, .int 0, .int 0, .int 0, .ref 118, .ref 119, .ref 120, .ref 121, .ref 122, .ref 123, .ref 124, .ref 125, .ref 126, .ref 127, .ref 128, .ref 129, .int 0, .ref 130, .ref 131, .ref 132, .ref 133, .ref 134, .int 0, .int 0])), (111, .inl (0, 1260, .inl (upd (fun _ => 0) 0 0)))])) := by
  refine JM.of (by decide) rfl (fun h => by cases h) (Nat.le_of_ble_eq_true rfl) ⟨3, rfl⟩ ?_
  refine J_hc0 (J_ls (ls2 := [some (.ref 98), some (.int 0), some (.int (-1)), some (.int 4), none, none, none]) rfl ?_)
  refine J_aload_n dX12_rows_0 rfl rfl ?_
  refine J_iload_n dX12_rows_1 rfl rfl ?_
  refine J_callV (st := []) dX12_rows_2 cv_X12_325 (c_X12_isHouse_2 hk98 hk100 hk111) hk98 rfl rfl (Nat.le_of_ble_eq_true rfl) ⟨(Nat.le_of_ble_eq_true rfl), (Nat.le_of_ble_eq_true rfl)⟩ ⟨(Nat.le_of_ble_eq_true rfl), (Nat.le_of_ble_eq_true rfl)⟩ (fun r h9 hp => ?_)
  obtain ⟨rfl, rfl⟩ := hp
  refine J_nf (nh2 := nh) (ck2 := 0) (sk2 := 0) (st2 := [.int 1]) rfl rfl rfl rfl ?_
  refine J_app (L3 := [(98, .inr (12, [.int 0, .int 0, .ref 99, .ref 100, .ref 101, .ref 102, .ref 103, .ref 104, .ref 105, .int 0, .int (-1), .ref 106, .ref 107, .ref 108, .int 0, .int 0, .int 0, .int 0, .int 0, .int 0, .int 0, .ref 109, .int 0, .int 0, .ref 110, .ref 111, .ref 112, .ref 113, .ref 114, .ref 115, .ref 116, .ref 117, .int 1, .int 0, .int 0, .int (-1), .ref 118, .ref 119, .ref 120, .ref 121, .ref 122, .ref 123, .ref 124, .ref 125, .ref 126, .ref 127, .ref 128, .ref 129, .int 0, .ref 130, .ref 131, .ref 132, .ref 133, .ref 134, .int 0, .int 0])), (111, .inl (0, 1260, .inl (upd (fun _ => 0) 0 0)))]) rfl ?_
  refine J_if_eq (tgt := 31) dX12_rows_5 (by decide) (fun q => absurd q (by decide +kernel)) (fun _ => ?_)
  refine J_iload_n dX12_rows_8 rfl rfl ?_
  refine J_iconst (v := (-1)) dX12_rows_9 (by decide) ?_
  refine J_icmp_eq (tgt := 21) dX12_rows_10 (by decide) (fun _ => ?_) (fun q => absurd (by decide +kernel) q)
  refine J_iload_n dX12_rows_21 rfl rfl ?_
  refine J_iconst (v := 0) dX12_rows_22 (by decide) ?_
  refine J_bipush (v := 12) dX12_rows_23 (by decide +kernel) ?_
  refine J_callS (st := []) dX12_rows_25 cs_X12_138 (c_X12_lies_53 ) rfl rfl (Nat.le_of_ble_eq_true rfl) ⟨(Nat.le_of_ble_eq_true rfl), (Nat.le_of_ble_eq_true rfl)⟩ ⟨(Nat.le_of_ble_eq_true rfl), (Nat.le_of_ble_eq_true rfl)⟩ (fun r h9 hp => ?_)
  obtain ⟨rfl, rfl⟩ := hp
  refine J_nf (nh2 := nh) (ck2 := 0) (sk2 := 0) (st2 := [.int 1]) rfl rfl rfl rfl ?_
  refine J_if_ne (tgt := 35) dX12_rows_28 (by decide) (fun _ => ?_) (fun q => absurd q (by decide +kernel))
  refine J_aload_n dX12_rows_35 rfl rfl ?_
  refine J_callV (st := []) dX12_rows_36 cv_X12_328 (c_X12_looks_1 rfl hk100 hk114 hk116) rfl rfl rfl (Nat.le_of_ble_eq_true rfl) ⟨(Nat.le_of_ble_eq_true rfl), (Nat.le_of_ble_eq_true rfl)⟩ ⟨(Nat.le_of_ble_eq_true rfl), (Nat.le_of_ble_eq_true rfl)⟩ (fun r h9 hp => ?_)
  obtain ⟨rfl, rfl⟩ := hp
  refine J_nf (nh2 := nh) (ck2 := 0) (sk2 := 0) (st2 := []) rfl rfl rfl rfl ?_
  refine J_app (L3 := [(114, .inl (0, 1260, .inl (upd (fun _ => 0) 0 0))), (116, .inl (0, 1260, .inl (upd (fun _ => 0) 0 0))), (98, .inr (12, [.int 0, .int 0, .ref 99, .ref 100, .ref 101, .ref 102, .ref 103, .ref 104, .ref 105, .int 0, .int (-1), .ref 106, .ref 107, .ref 108, .int 0, .int 0, .int 0, .int 0, .int 0, .int 0, .int 0, .ref 109, .int 0, .int 0, .ref 110, .ref 111, .ref 112, .ref 113, .ref 114, .ref 115, .ref 116, .ref 117, .int 1, .int 0, .int 0, .int 0, .ref 118, .ref 119, .ref 120, .ref 121, .ref 122, .ref 123, .ref 124, .ref 125, .ref 126, .ref 127, .ref 128, .ref 129, .int 0, .ref 130, .ref 131, .ref 132, .ref 133, .ref 134, .int 0, .int 0])), (98, .inr (12, [.int 0, .int 0, .ref 99, .ref 100, .ref 101, .ref 102, .ref 103, .ref 104, .ref 105, .int 0, .int (-1), .ref 106, .ref 107, .ref 108, .int 0, .int 0, .int 0, .int 0, .int 0, .int 0, .int 0, .ref 109, .int 0, .int 0, .ref 110, .ref 111, .ref 112, .ref 113, .ref 114, .ref 115, .ref 116, .ref 117, .int 1, .int 0, .int 0, .int (-1), .ref 118, .ref 119, .ref 120, .ref 121, .ref 122, .ref 123, .ref 124, .ref 125, .ref 126, .ref 127, .ref 128, .ref 129, .int 0, .ref 130, .ref 131, .ref 132, .ref 133, .ref 134, .int 0, .int 0])), (111, .inl (0, 1260, .inl (upd (fun _ => 0) 0 0)))]) rfl ?_
  refine J_iconst (v := 0) dX12_rows_39 (by decide) ?_
  refine J_istore dX12_rows_40 (Nat.le_of_ble_eq_true rfl) rfl ?_
  refine J_iload dX12_rows_42 rfl ?_
  refine J_aload_n dX12_rows_44 rfl rfl ?_
  refine J_get (v := .int 1) dX12_rows_45 fl_X12_298 rfl rfl ?_
  refine J_icmp_ge (tgt := 75) dX12_rows_48 (by decide) (fun q => absurd q (by decide +kernel)) (fun _ => ?_)
  refine J_aload_n dX12_rows_51 rfl rfl ?_
  refine J_get (v := .ref 127) dX12_rows_52 fl_X12_113 rfl rfl ?_
  refine J_iload dX12_rows_55 rfl ?_
  refine J_iload dX12_rows_57 rfl ?_
  refine J_iload_n dX12_rows_59 rfl rfl ?_
  refine J_icmp_ne (tgt := 67) dX12_rows_60 (by decide) (fun q => absurd (by decide +kernel) q) (fun _ => ?_)
  refine J_lconst (v := 1) dX12_rows_63 (by decide +kernel) ?_
  refine J_goto (tgt := 68) dX12_rows_64 (by decide) ?_
  refine K_last (i2 := 0) dX12_rows_68 hk127 rfl (jin (by decide +kernel)) (by decide +kernel) ?_
  refine J_iinc (v := 1) dX12_rows_69 rfl (by decide +kernel) (Nat.le_of_ble_eq_true rfl) rfl ?_
  refine J_ls (ls2 := [some (.ref 98), some (.int 0), some (.int (-1)), some (.int 4), some (.int 1), none, none]) rfl ?_
  refine J_goto (tgt := 42) dX12_rows_72 (by decide) ?_
  refine J_iload dX12_rows_42 rfl ?_
  refine J_aload_n dX12_rows_44 rfl rfl ?_
  refine J_get (v := .int 1) dX12_rows_45 fl_X12_298 rfl rfl ?_
  refine J_icmp_ge (tgt := 75) dX12_rows_48 (by decide) (fun _ => ?_) (fun q => absurd (by decide +kernel) q)
  refine J_iconst (v := 0) dX12_rows_75 (by decide) ?_
  refine J_istore dX12_rows_76 (Nat.le_of_ble_eq_true rfl) rfl ?_
  refine J_iload dX12_rows_78 rfl ?_
  refine J_iload_n dX12_rows_80 rfl rfl ?_
  refine J_icmp_ge (tgt := 215) dX12_rows_81 (by decide) (fun q => absurd q (by decide +kernel)) (fun _ => ?_)
  refine J_iconst (v := 0) dX12_rows_84 (by decide) ?_
  refine J_istore dX12_rows_85 (Nat.le_of_ble_eq_true rfl) rfl ?_
  refine J_iload dX12_rows_87 rfl ?_
  refine J_aload_n dX12_rows_89 rfl rfl ?_
  refine J_get (v := .int 1) dX12_rows_90 fl_X12_298 rfl rfl ?_
  refine J_icmp_ge (tgt := 110) dX12_rows_93 (by decide) (fun q => absurd q (by decide +kernel)) (fun _ => ?_)
  refine J_aload_n dX12_rows_96 rfl rfl ?_
  refine J_get (v := .ref 128) dX12_rows_97 fl_X12_116 rfl rfl ?_
  refine J_iload dX12_rows_100 rfl ?_
  refine J_lconst (v := 0) dX12_rows_102 (by decide +kernel) ?_
  refine K_last (i2 := 0) dX12_rows_103 hk128 rfl (jin (by decide +kernel)) (by decide +kernel) ?_
  refine J_iinc (v := 1) dX12_rows_104 rfl (by decide +kernel) (Nat.le_of_ble_eq_true rfl) rfl ?_
  refine J_ls (ls2 := [some (.ref 98), some (.int 0), some (.int (-1)), some (.int 4), some (.int 0), some (.int 1), none]) rfl ?_
  refine J_goto (tgt := 87) dX12_rows_107 (by decide) ?_
  refine J_iload dX12_rows_87 rfl ?_
  refine J_aload_n dX12_rows_89 rfl rfl ?_
  refine J_get (v := .int 1) dX12_rows_90 fl_X12_298 rfl rfl ?_
  refine J_icmp_ge (tgt := 110) dX12_rows_93 (by decide) (fun _ => ?_) (fun q => absurd (by decide +kernel) q)
  refine J_iconst (v := 0) dX12_rows_110 (by decide) ?_
  refine J_istore dX12_rows_111 (Nat.le_of_ble_eq_true rfl) rfl ?_
  refine J_iload dX12_rows_113 rfl ?_
  refine J_aload_n dX12_rows_115 rfl rfl ?_
  refine J_get (v := .int 1) dX12_rows_116 fl_X12_298 rfl rfl ?_
  refine J_icmp_ge (tgt := 177) dX12_rows_119 (by decide) (fun q => absurd q (by decide +kernel)) (fun _ => ?_)
  refine J_iconst (v := 0) dX12_rows_122 (by decide) ?_
  refine J_istore dX12_rows_123 (Nat.le_of_ble_eq_true rfl) rfl ?_
  refine J_iload dX12_rows_125 rfl ?_
  refine J_aload_n dX12_rows_127 rfl rfl ?_
  refine J_get (v := .ref 114) dX12_rows_128 fl_X12_67 rfl rfl ?_
  refine J_iload dX12_rows_131 rfl ?_
  refine J_iald (i2 := 0) (v := 0) dX12_rows_133 rfl rfl (jin (by decide +kernel)) (by decide +kernel) rfl ?_
  refine J_icmp_ge (tgt := 171) dX12_rows_134 (by decide) (fun _ => ?_) (fun q => absurd (by decide +kernel) q)
  refine J_iinc (v := 1) dX12_rows_171 rfl (by decide +kernel) (Nat.le_of_ble_eq_true rfl) rfl ?_
  refine J_ls (ls2 := [some (.ref 98), some (.int 0), some (.int (-1)), some (.int 4), some (.int 0), some (.int 1), some (.int 0)]) rfl ?_
  refine J_goto (tgt := 113) dX12_rows_174 (by decide) ?_
  refine J_iload dX12_rows_113 rfl ?_
  refine J_aload_n dX12_rows_115 rfl rfl ?_
  refine J_get (v := .int 1) dX12_rows_116 fl_X12_298 rfl rfl ?_
  refine J_icmp_ge (tgt := 177) dX12_rows_119 (by decide) (fun _ => ?_) (fun q => absurd (by decide +kernel) q)
  refine J_iconst (v := 0) dX12_rows_177 (by decide) ?_
  refine J_istore dX12_rows_178 (Nat.le_of_ble_eq_true rfl) rfl ?_
  refine J_iload dX12_rows_180 rfl ?_
  refine J_aload_n dX12_rows_182 rfl rfl ?_
  refine J_get (v := .int 1) dX12_rows_183 fl_X12_298 rfl rfl ?_
  refine J_icmp_ge (tgt := 209) dX12_rows_186 (by decide) (fun q => absurd q (by decide +kernel)) (fun _ => ?_)
  refine J_aload_n dX12_rows_189 rfl rfl ?_
  refine J_get (v := .ref 127) dX12_rows_190 fl_X12_113 rfl rfl ?_
  refine J_iload dX12_rows_193 rfl ?_
  refine J_aload_n dX12_rows_195 rfl rfl ?_
  refine J_get (v := .ref 128) dX12_rows_196 fl_X12_116 rfl rfl ?_
  refine J_iload dX12_rows_199 rfl ?_
  refine J_lald (i2 := 0) (v := 0) dX12_rows_201 rfl rfl (jin (by decide +kernel)) (by decide +kernel) rfl ?_
  refine K_last (i2 := 0) dX12_rows_202 rfl rfl (jin (by decide +kernel)) (by decide +kernel) ?_
  refine J_iinc (v := 1) dX12_rows_203 rfl (by decide +kernel) (Nat.le_of_ble_eq_true rfl) rfl ?_
  refine J_ls (ls2 := [some (.ref 98), some (.int 0), some (.int (-1)), some (.int 4), some (.int 0), some (.int 1), some (.int 0)]) rfl ?_
  refine J_goto (tgt := 180) dX12_rows_206 (by decide) ?_
  refine J_iload dX12_rows_180 rfl ?_
  refine J_aload_n dX12_rows_182 rfl rfl ?_
  refine J_get (v := .int 1) dX12_rows_183 fl_X12_298 rfl rfl ?_
  refine J_icmp_ge (tgt := 209) dX12_rows_186 (by decide) (fun _ => ?_) (fun q => absurd (by decide +kernel) q)
  refine J_iinc (v := 1) dX12_rows_209 rfl (by decide +kernel) (Nat.le_of_ble_eq_true rfl) rfl ?_
  refine J_ls (ls2 := [some (.ref 98), some (.int 0), some (.int (-1)), some (.int 4), some (.int 1), some (.int 1), some (.int 0)]) rfl ?_
  refine J_goto (tgt := 78) dX12_rows_212 (by decide) ?_
  refine J_iload dX12_rows_78 rfl ?_
  refine J_iload_n dX12_rows_80 rfl rfl ?_
  refine J_icmp_ge (tgt := 215) dX12_rows_81 (by decide) (fun q => absurd q (by decide +kernel)) (fun _ => ?_)
  refine J_iconst (v := 0) dX12_rows_84 (by decide) ?_
  refine J_istore dX12_rows_85 (Nat.le_of_ble_eq_true rfl) rfl ?_
  refine J_iload dX12_rows_87 rfl ?_
  refine J_aload_n dX12_rows_89 rfl rfl ?_
  refine J_get (v := .int 1) dX12_rows_90 fl_X12_298 rfl rfl ?_
  refine J_icmp_ge (tgt := 110) dX12_rows_93 (by decide) (fun q => absurd q (by decide +kernel)) (fun _ => ?_)
  refine J_aload_n dX12_rows_96 rfl rfl ?_
  refine J_get (v := .ref 128) dX12_rows_97 fl_X12_116 rfl rfl ?_
  refine J_iload dX12_rows_100 rfl ?_
  refine J_lconst (v := 0) dX12_rows_102 (by decide +kernel) ?_
  refine K_last (i2 := 0) dX12_rows_103 rfl rfl (jin (by decide +kernel)) (by decide +kernel) ?_
  refine J_iinc (v := 1) dX12_rows_104 rfl (by decide +kernel) (Nat.le_of_ble_eq_true rfl) rfl ?_
  refine J_ls (ls2 := [some (.ref 98), some (.int 0), some (.int (-1)), some (.int 4), some (.int 1), some (.int 1), some (.int 0)]) rfl ?_
  refine J_goto (tgt := 87) dX12_rows_107 (by decide) ?_
  refine J_iload dX12_rows_87 rfl ?_
  refine J_aload_n dX12_rows_89 rfl rfl ?_
  refine J_get (v := .int 1) dX12_rows_90 fl_X12_298 rfl rfl ?_
  refine J_icmp_ge (tgt := 110) dX12_rows_93 (by decide) (fun _ => ?_) (fun q => absurd (by decide +kernel) q)
  refine J_iconst (v := 0) dX12_rows_110 (by decide) ?_
  refine J_istore dX12_rows_111 (Nat.le_of_ble_eq_true rfl) rfl ?_
  refine J_iload dX12_rows_113 rfl ?_
  refine J_aload_n dX12_rows_115 rfl rfl ?_
  refine J_get (v := .int 1) dX12_rows_116 fl_X12_298 rfl rfl ?_
  refine J_icmp_ge (tgt := 177) dX12_rows_119 (by decide) (fun q => absurd q (by decide +kernel)) (fun _ => ?_)
  refine J_iconst (v := 0) dX12_rows_122 (by decide) ?_
  refine J_istore dX12_rows_123 (Nat.le_of_ble_eq_true rfl) rfl ?_
  refine J_iload dX12_rows_125 rfl ?_
  refine J_aload_n dX12_rows_127 rfl rfl ?_
  refine J_get (v := .ref 114) dX12_rows_128 fl_X12_67 rfl rfl ?_
  refine J_iload dX12_rows_131 rfl ?_
  refine J_iald (i2 := 0) (v := 0) dX12_rows_133 rfl rfl (jin (by decide +kernel)) (by decide +kernel) rfl ?_
  refine J_icmp_ge (tgt := 171) dX12_rows_134 (by decide) (fun _ => ?_) (fun q => absurd (by decide +kernel) q)
  refine J_iinc (v := 1) dX12_rows_171 rfl (by decide +kernel) (Nat.le_of_ble_eq_true rfl) rfl ?_
  refine J_ls (ls2 := [some (.ref 98), some (.int 0), some (.int (-1)), some (.int 4), some (.int 1), some (.int 1), some (.int 0)]) rfl ?_
  refine J_goto (tgt := 113) dX12_rows_174 (by decide) ?_
  refine J_iload dX12_rows_113 rfl ?_
  refine J_aload_n dX12_rows_115 rfl rfl ?_
  refine J_get (v := .int 1) dX12_rows_116 fl_X12_298 rfl rfl ?_
  refine J_icmp_ge (tgt := 177) dX12_rows_119 (by decide) (fun _ => ?_) (fun q => absurd (by decide +kernel) q)
  refine J_iconst (v := 0) dX12_rows_177 (by decide) ?_
  refine J_istore dX12_rows_178 (Nat.le_of_ble_eq_true rfl) rfl ?_
  refine J_iload dX12_rows_180 rfl ?_
  refine J_aload_n dX12_rows_182 rfl rfl ?_
  refine J_get (v := .int 1) dX12_rows_183 fl_X12_298 rfl rfl ?_
  refine J_icmp_ge (tgt := 209) dX12_rows_186 (by decide) (fun q => absurd q (by decide +kernel)) (fun _ => ?_)
  refine J_aload_n dX12_rows_189 rfl rfl ?_
  refine J_get (v := .ref 127) dX12_rows_190 fl_X12_113 rfl rfl ?_
  refine J_iload dX12_rows_193 rfl ?_
  refine J_aload_n dX12_rows_195 rfl rfl ?_
  refine J_get (v := .ref 128) dX12_rows_196 fl_X12_116 rfl rfl ?_
  refine J_iload dX12_rows_199 rfl ?_
  refine J_lald (i2 := 0) (v := 0) dX12_rows_201 rfl rfl (jin (by decide +kernel)) (by decide +kernel) rfl ?_
  refine K_last (i2 := 0) dX12_rows_202 rfl rfl (jin (by decide +kernel)) (by decide +kernel) ?_
  refine J_iinc (v := 1) dX12_rows_203 rfl (by decide +kernel) (Nat.le_of_ble_eq_true rfl) rfl ?_
  refine J_ls (ls2 := [some (.ref 98), some (.int 0), some (.int (-1)), some (.int 4), some (.int 1), some (.int 1), some (.int 0)]) rfl ?_
  refine J_goto (tgt := 180) dX12_rows_206 (by decide) ?_
  refine J_iload dX12_rows_180 rfl ?_
  refine J_aload_n dX12_rows_182 rfl rfl ?_
  refine J_get (v := .int 1) dX12_rows_183 fl_X12_298 rfl rfl ?_
  refine J_icmp_ge (tgt := 209) dX12_rows_186 (by decide) (fun _ => ?_) (fun q => absurd (by decide +kernel) q)
  refine J_iinc (v := 2) dX12_rows_209 rfl (by decide +kernel) (Nat.le_of_ble_eq_true rfl) rfl ?_
  refine J_ls (ls2 := [some (.ref 98), some (.int 0), some (.int (-1)), some (.int 4), some (.int 2), some (.int 1), some (.int 0)]) rfl ?_
  refine J_goto (tgt := 78) dX12_rows_212 (by decide) ?_
  refine J_iload dX12_rows_78 rfl ?_
  refine J_iload_n dX12_rows_80 rfl rfl ?_
  refine J_icmp_ge (tgt := 215) dX12_rows_81 (by decide) (fun q => absurd q (by decide +kernel)) (fun _ => ?_)
  refine J_iconst (v := 0) dX12_rows_84 (by decide) ?_
  refine J_istore dX12_rows_85 (Nat.le_of_ble_eq_true rfl) rfl ?_
  refine J_iload dX12_rows_87 rfl ?_
  refine J_aload_n dX12_rows_89 rfl rfl ?_
  refine J_get (v := .int 1) dX12_rows_90 fl_X12_298 rfl rfl ?_
  refine J_icmp_ge (tgt := 110) dX12_rows_93 (by decide) (fun q => absurd q (by decide +kernel)) (fun _ => ?_)
  refine J_aload_n dX12_rows_96 rfl rfl ?_
  refine J_get (v := .ref 128) dX12_rows_97 fl_X12_116 rfl rfl ?_
  refine J_iload dX12_rows_100 rfl ?_
  refine J_lconst (v := 0) dX12_rows_102 (by decide +kernel) ?_
  refine K_last (i2 := 0) dX12_rows_103 rfl rfl (jin (by decide +kernel)) (by decide +kernel) ?_
  refine J_iinc (v := 1) dX12_rows_104 rfl (by decide +kernel) (Nat.le_of_ble_eq_true rfl) rfl ?_
  refine J_ls (ls2 := [some (.ref 98), some (.int 0), some (.int (-1)), some (.int 4), some (.int 2), some (.int 1), some (.int 0)]) rfl ?_
  refine J_goto (tgt := 87) dX12_rows_107 (by decide) ?_
  refine J_iload dX12_rows_87 rfl ?_
  refine J_aload_n dX12_rows_89 rfl rfl ?_
  refine J_get (v := .int 1) dX12_rows_90 fl_X12_298 rfl rfl ?_
  refine J_icmp_ge (tgt := 110) dX12_rows_93 (by decide) (fun _ => ?_) (fun q => absurd (by decide +kernel) q)
  refine J_iconst (v := 0) dX12_rows_110 (by decide) ?_
  refine J_istore dX12_rows_111 (Nat.le_of_ble_eq_true rfl) rfl ?_
  refine J_iload dX12_rows_113 rfl ?_
  refine J_aload_n dX12_rows_115 rfl rfl ?_
  refine J_get (v := .int 1) dX12_rows_116 fl_X12_298 rfl rfl ?_
  refine J_icmp_ge (tgt := 177) dX12_rows_119 (by decide) (fun q => absurd q (by decide +kernel)) (fun _ => ?_)
  refine J_iconst (v := 0) dX12_rows_122 (by decide) ?_
  refine J_istore dX12_rows_123 (Nat.le_of_ble_eq_true rfl) rfl ?_
  refine J_iload dX12_rows_125 rfl ?_
  refine J_aload_n dX12_rows_127 rfl rfl ?_
  refine J_get (v := .ref 114) dX12_rows_128 fl_X12_67 rfl rfl ?_
  refine J_iload dX12_rows_131 rfl ?_
  refine J_iald (i2 := 0) (v := 0) dX12_rows_133 rfl rfl (jin (by decide +kernel)) (by decide +kernel) rfl ?_
  refine J_icmp_ge (tgt := 171) dX12_rows_134 (by decide) (fun _ => ?_) (fun q => absurd (by decide +kernel) q)
  refine J_iinc (v := 1) dX12_rows_171 rfl (by decide +kernel) (Nat.le_of_ble_eq_true rfl) rfl ?_
  refine J_ls (ls2 := [some (.ref 98), some (.int 0), some (.int (-1)), some (.int 4), some (.int 2), some (.int 1), some (.int 0)]) rfl ?_
  refine J_goto (tgt := 113) dX12_rows_174 (by decide) ?_
  refine J_iload dX12_rows_113 rfl ?_
  refine J_aload_n dX12_rows_115 rfl rfl ?_
  refine J_get (v := .int 1) dX12_rows_116 fl_X12_298 rfl rfl ?_
  refine J_icmp_ge (tgt := 177) dX12_rows_119 (by decide) (fun _ => ?_) (fun q => absurd (by decide +kernel) q)
  refine J_iconst (v := 0) dX12_rows_177 (by decide) ?_
  refine J_istore dX12_rows_178 (Nat.le_of_ble_eq_true rfl) rfl ?_
  refine J_iload dX12_rows_180 rfl ?_
  refine J_aload_n dX12_rows_182 rfl rfl ?_
  refine J_get (v := .int 1) dX12_rows_183 fl_X12_298 rfl rfl ?_
  refine J_icmp_ge (tgt := 209) dX12_rows_186 (by decide) (fun q => absurd q (by decide +kernel)) (fun _ => ?_)
  refine J_aload_n dX12_rows_189 rfl rfl ?_
  refine J_get (v := .ref 127) dX12_rows_190 fl_X12_113 rfl rfl ?_
  refine J_iload dX12_rows_193 rfl ?_
  refine J_aload_n dX12_rows_195 rfl rfl ?_
  refine J_get (v := .ref 128) dX12_rows_196 fl_X12_116 rfl rfl ?_
  refine J_iload dX12_rows_199 rfl ?_
  refine J_lald (i2 := 0) (v := 0) dX12_rows_201 rfl rfl (jin (by decide +kernel)) (by decide +kernel) rfl ?_
  refine K_last (i2 := 0) dX12_rows_202 rfl rfl (jin (by decide +kernel)) (by decide +kernel) ?_
  refine J_iinc (v := 1) dX12_rows_203 rfl (by decide +kernel) (Nat.le_of_ble_eq_true rfl) rfl ?_
  refine J_ls (ls2 := [some (.ref 98), some (.int 0), some (.int (-1)), some (.int 4), some (.int 2), some (.int 1), some (.int 0)]) rfl ?_
  refine J_goto (tgt := 180) dX12_rows_206 (by decide) ?_
  refine J_iload dX12_rows_180 rfl ?_
  refine J_aload_n dX12_rows_182 rfl rfl ?_
  refine J_get (v := .int 1) dX12_rows_183 fl_X12_298 rfl rfl ?_
  refine J_icmp_ge (tgt := 209) dX12_rows_186 (by decide) (fun _ => ?_) (fun q => absurd (by decide +kernel) q)
  refine J_iinc (v := 3) dX12_rows_209 rfl (by decide +kernel) (Nat.le_of_ble_eq_true rfl) rfl ?_
  refine J_ls (ls2 := [some (.ref 98), some (.int 0), some (.int (-1)), some (.int 4), some (.int 3), some (.int 1), some (.int 0)]) rfl ?_
  refine J_goto (tgt := 78) dX12_rows_212 (by decide) ?_
  refine J_iload dX12_rows_78 rfl ?_
  refine J_iload_n dX12_rows_80 rfl rfl ?_
  refine J_icmp_ge (tgt := 215) dX12_rows_81 (by decide) (fun q => absurd q (by decide +kernel)) (fun _ => ?_)
  refine J_iconst (v := 0) dX12_rows_84 (by decide) ?_
  refine J_istore dX12_rows_85 (Nat.le_of_ble_eq_true rfl) rfl ?_
  refine J_iload dX12_rows_87 rfl ?_
  refine J_aload_n dX12_rows_89 rfl rfl ?_
  refine J_get (v := .int 1) dX12_rows_90 fl_X12_298 rfl rfl ?_
  refine J_icmp_ge (tgt := 110) dX12_rows_93 (by decide) (fun q => absurd q (by decide +kernel)) (fun _ => ?_)
  refine J_aload_n dX12_rows_96 rfl rfl ?_
  refine J_get (v := .ref 128) dX12_rows_97 fl_X12_116 rfl rfl ?_
  refine J_iload dX12_rows_100 rfl ?_
  refine J_lconst (v := 0) dX12_rows_102 (by decide +kernel) ?_
  refine K_last (i2 := 0) dX12_rows_103 rfl rfl (jin (by decide +kernel)) (by decide +kernel) ?_
  refine J_iinc (v := 1) dX12_rows_104 rfl (by decide +kernel) (Nat.le_of_ble_eq_true rfl) rfl ?_
  refine J_ls (ls2 := [some (.ref 98), some (.int 0), some (.int (-1)), some (.int 4), some (.int 3), some (.int 1), some (.int 0)]) rfl ?_
  refine J_goto (tgt := 87) dX12_rows_107 (by decide) ?_
  refine J_iload dX12_rows_87 rfl ?_
  refine J_aload_n dX12_rows_89 rfl rfl ?_
  refine J_get (v := .int 1) dX12_rows_90 fl_X12_298 rfl rfl ?_
  refine J_icmp_ge (tgt := 110) dX12_rows_93 (by decide) (fun _ => ?_) (fun q => absurd (by decide +kernel) q)
  refine J_iconst (v := 0) dX12_rows_110 (by decide) ?_
  refine J_istore dX12_rows_111 (Nat.le_of_ble_eq_true rfl) rfl ?_
  refine J_iload dX12_rows_113 rfl ?_
  refine J_aload_n dX12_rows_115 rfl rfl ?_
  refine J_get (v := .int 1) dX12_rows_116 fl_X12_298 rfl rfl ?_
  refine J_icmp_ge (tgt := 177) dX12_rows_119 (by decide) (fun q => absurd q (by decide +kernel)) (fun _ => ?_)
  refine J_iconst (v := 0) dX12_rows_122 (by decide) ?_
  refine J_istore dX12_rows_123 (Nat.le_of_ble_eq_true rfl) rfl ?_
  refine J_iload dX12_rows_125 rfl ?_
  refine J_aload_n dX12_rows_127 rfl rfl ?_
  refine J_get (v := .ref 114) dX12_rows_128 fl_X12_67 rfl rfl ?_
  refine J_iload dX12_rows_131 rfl ?_
  refine J_iald (i2 := 0) (v := 0) dX12_rows_133 rfl rfl (jin (by decide +kernel)) (by decide +kernel) rfl ?_
  refine J_icmp_ge (tgt := 171) dX12_rows_134 (by decide) (fun _ => ?_) (fun q => absurd (by decide +kernel) q)
  refine J_iinc (v := 1) dX12_rows_171 rfl (by decide +kernel) (Nat.le_of_ble_eq_true rfl) rfl ?_
  refine J_ls (ls2 := [some (.ref 98), some (.int 0), some (.int (-1)), some (.int 4), some (.int 3), some (.int 1), some (.int 0)]) rfl ?_
  refine J_goto (tgt := 113) dX12_rows_174 (by decide) ?_
  refine J_iload dX12_rows_113 rfl ?_
  refine J_aload_n dX12_rows_115 rfl rfl ?_
  refine J_get (v := .int 1) dX12_rows_116 fl_X12_298 rfl rfl ?_
  refine J_icmp_ge (tgt := 177) dX12_rows_119 (by decide) (fun _ => ?_) (fun q => absurd (by decide +kernel) q)
  refine J_iconst (v := 0) dX12_rows_177 (by decide) ?_
  refine J_istore dX12_rows_178 (Nat.le_of_ble_eq_true rfl) rfl ?_
  refine J_iload dX12_rows_180 rfl ?_
  refine J_aload_n dX12_rows_182 rfl rfl ?_
  refine J_get (v := .int 1) dX12_rows_183 fl_X12_298 rfl rfl ?_
  refine J_icmp_ge (tgt := 209) dX12_rows_186 (by decide) (fun q => absurd q (by decide +kernel)) (fun _ => ?_)
  refine J_aload_n dX12_rows_189 rfl rfl ?_
  refine J_get (v := .ref 127) dX12_rows_190 fl_X12_113 rfl rfl ?_
  refine J_iload dX12_rows_193 rfl ?_
  refine J_aload_n dX12_rows_195 rfl rfl ?_
  refine J_get (v := .ref 128) dX12_rows_196 fl_X12_116 rfl rfl ?_
  refine J_iload dX12_rows_199 rfl ?_
  refine J_lald (i2 := 0) (v := 0) dX12_rows_201 rfl rfl (jin (by decide +kernel)) (by decide +kernel) rfl ?_
  refine K_last (i2 := 0) dX12_rows_202 rfl rfl (jin (by decide +kernel)) (by decide +kernel) ?_
  refine J_iinc (v := 1) dX12_rows_203 rfl (by decide +kernel) (Nat.le_of_ble_eq_true rfl) rfl ?_
  refine J_ls (ls2 := [some (.ref 98), some (.int 0), some (.int (-1)), some (.int 4), some (.int 3), some (.int 1), some (.int 0)]) rfl ?_
  refine J_goto (tgt := 180) dX12_rows_206 (by decide) ?_
  refine J_iload dX12_rows_180 rfl ?_
  refine J_aload_n dX12_rows_182 rfl rfl ?_
  refine J_get (v := .int 1) dX12_rows_183 fl_X12_298 rfl rfl ?_
  refine J_icmp_ge (tgt := 209) dX12_rows_186 (by decide) (fun _ => ?_) (fun q => absurd (by decide +kernel) q)
  refine J_iinc (v := 4) dX12_rows_209 rfl (by decide +kernel) (Nat.le_of_ble_eq_true rfl) rfl ?_
  refine J_ls (ls2 := [some (.ref 98), some (.int 0), some (.int (-1)), some (.int 4), some (.int 4), some (.int 1), some (.int 0)]) rfl ?_
  refine J_goto (tgt := 78) dX12_rows_212 (by decide) ?_
  refine J_iload dX12_rows_78 rfl ?_
  refine J_iload_n dX12_rows_80 rfl rfl ?_
  refine J_icmp_ge (tgt := 215) dX12_rows_81 (by decide) (fun _ => ?_) (fun q => absurd (by decide +kernel) q)
  refine J_iload_n dX12_rows_215 rfl rfl ?_
  refine J_iconst (v := (-1)) dX12_rows_216 (by decide) ?_
  refine J_icmp_eq (tgt := 227) dX12_rows_217 (by decide) (fun _ => ?_) (fun q => absurd (by decide +kernel) q)
  refine J_lconst (v := 0) dX12_rows_227 (by decide +kernel) ?_
  refine J_lstore dX12_rows_228 (Nat.le_of_ble_eq_true rfl) rfl ?_
  refine J_iconst (v := 0) dX12_rows_230 (by decide) ?_
  refine J_istore dX12_rows_231 (Nat.le_of_ble_eq_true rfl) rfl ?_
  refine J_iload dX12_rows_233 rfl ?_
  refine J_aload_n dX12_rows_235 rfl rfl ?_
  refine J_get (v := .int 1) dX12_rows_236 fl_X12_298 rfl rfl ?_
  refine J_icmp_ge (tgt := 260) dX12_rows_239 (by decide) (fun q => absurd q (by decide +kernel)) (fun _ => ?_)
  refine J_lload dX12_rows_242 rfl ?_
  refine J_aload_n dX12_rows_244 rfl rfl ?_
  refine J_get (v := .ref 127) dX12_rows_245 fl_X12_113 rfl rfl ?_
  refine J_iload dX12_rows_248 rfl ?_
  refine J_lald (i2 := 0) (v := 0) dX12_rows_250 rfl rfl (jin (by decide +kernel)) (by decide +kernel) rfl ?_
  refine J_ladd (z := 0) dX12_rows_251 (by decide +kernel) ?_
  refine J_lstore dX12_rows_252 (Nat.le_of_ble_eq_true rfl) rfl ?_
  refine J_iinc (v := 1) dX12_rows_254 rfl (by decide +kernel) (Nat.le_of_ble_eq_true rfl) rfl ?_
  refine J_ls (ls2 := [some (.ref 98), some (.int 0), some (.int (-1)), some (.int 4), some (.long 0), none, some (.int 1)]) rfl ?_
  refine J_goto (tgt := 233) dX12_rows_257 (by decide) ?_
  refine J_iload dX12_rows_233 rfl ?_
  refine J_aload_n dX12_rows_235 rfl rfl ?_
  refine J_get (v := .int 1) dX12_rows_236 fl_X12_298 rfl rfl ?_
  refine J_icmp_ge (tgt := 260) dX12_rows_239 (by decide) (fun _ => ?_) (fun q => absurd (by decide +kernel) q)
  refine J_lload dX12_rows_260 rfl ?_
  refine J_mask (L2 := [(127, .inl (1, 1260, .inr (.inl (vp_updL (vp_updL (vp_updL (vp_updL (vp_updL (fun _ => 0) 0 1) 0 0) 0 0) 0 0) 0 0)))), (128, .inl (1, 1260, .inr (.inl (vp_updL (vp_updL (vp_updL (vp_updL (fun _ => 0) 0 0) 0 0) 0 0) 0 0)))), (114, .inl (0, 1260, .inl (upd (fun _ => 0) 0 0))), (116, .inl (0, 1260, .inl (upd (fun _ => 0) 0 0))), (98, .inr (12, [.int 0, .int 0, .ref 99, .ref 100, .ref 101, .ref 102, .ref 103, .ref 104, .ref 105, .int 0, .int (-1), .ref 106, .ref 107, .ref 108, .int 0, .int 0, .int 0, .int 0, .int 0, .int 0, .int 0, .ref 109, .int 0, .int 0, .ref 110, .ref 111, .ref 112, .ref 113, .ref 114, .ref 115, .ref 116, .ref 117, .int 1, .int 0, .int 0, .int 0, .ref 118, .ref 119, .ref 120, .ref 121, .ref 122, .ref 123, .ref 124, .ref 125, .ref 126, .ref 127, .ref 128, .ref 129, .int 0, .ref 130, .ref 131, .ref 132, .ref 133, .ref 134, .int 0, .int 0])), (111, .inl (0, 1260, .inl (upd (fun _ => 0) 0 0)))]) (ks := [127, 128, 127, 128, 127, 128, 127, 128, 127, 114, 116, 98, 98, 111]) [true, true, false, false, false, false, false, false, false, true, true, true, false, true] rfl (by decide +kernel) rfl ?_
  exact J_lret dX12_rows_262 rfl (Nat.le_of_ble_eq_true rfl) (Nat.le_of_ble_eq_true rfl) ⟨rfl, rfl⟩
