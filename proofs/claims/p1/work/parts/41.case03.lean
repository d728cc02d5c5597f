/-! the law's cases -/
set_option maxHeartbeats 4000000 in
set_option maxRecDepth 100000 in
theorem law_case_20 {l : Launch} {G : jG} {b : Nat} {xs : Nat → Int32} (x1 : Int32) (hx1 : xs 1 = x1) : J l G ML_law room_1 (lE b 6 xs G) lQ (135, H0) 135 415506 803 [some (.retAddr 0), some (.ref 0), some (.ref 98), some (.int 0)] [] := by
  have r1 := i32_rng x1
  rcases i_cut x1.toInt (-1) with h_0 | h_0
  · have b1 : (-2147483648) ≤ x1.toInt ∧ x1.toInt ≤ (-2) := ⟨by omega, by omega⟩
    refine J_hc0 ?_
    refine J_aload_n dL_law_803 rfl rfl ?_
    refine J_sload_n dL_law_804 rfl rfl ?_
    refine J_iload_n dL_law_805 rfl rfl ?_
    refine J_iconst (v := 1) dL_law_806 (by decide) ?_
    refine J_iadd (z := 1) dL_law_807 (by decide +kernel) ?_
    refine L_sld (i2 := 1) (v := x1) dL_law_808 (jin (by decide +kernel)) (by decide +kernel) hx1 ?_
    refine J_callV (st := []) dL_law_809 cv_L_99 (c_X11_round_1 (x1) b1 H0_0 H0_1 H0_3 H0_51 H0_57 H0_58 H0_59 H0_62 H0_63 H0_81) H0_0 rfl rfl (Nat.le_of_ble_eq_true rfl) ⟨(Nat.le_of_ble_eq_true rfl), (Nat.le_of_ble_eq_true rfl)⟩ ⟨(Nat.le_of_ble_eq_true rfl), (Nat.le_of_ble_eq_true rfl)⟩ (fun r h9 hp => ?_)
    obtain ⟨rfl, rfl⟩ := hp
    refine J_nf (nh2 := 136) (ck2 := 136) (sk2 := 415528) (st2 := [.int (-1)]) rfl rfl rfl rfl ?_
    refine J_app (L3 := [(81, .inr (7, [.ref 51, .ref 57, .ref 82, .ref 83, .ref 84, .int 0, .int 0])), (57, .inr (9, [.ref 1, .ref 51, .ref 58, .ref 61, .ref 62, .ref 135, .ref 64, .int 0, .int 0, .int 0])), (62, .inl (0, 1260, .inl (upd (fun _ => 0) 0 (-1)))), (135, .inl (0, 22, .inl (fun _ => 0))), (59, .inl (0, 8, .inl (upd (upd (fun _ => 0) 6 0) 7 0)))]) rfl ?_
    refine J_aload_n dL_law_812 rfl rfl ?_
    refine J_sload_n dL_law_813 rfl rfl ?_
    refine J_iload_n dL_law_814 rfl rfl ?_
    refine J_iconst (v := 1) dL_law_815 (by decide) ?_
    refine J_iadd (z := 1) dL_law_816 (by decide +kernel) ?_
    refine L_sld (i2 := 1) (v := x1) dL_law_817 (jin (by decide +kernel)) (by decide +kernel) hx1 ?_
    refine J_callV (st := [.int (-1)]) dL_law_818 cv_L_102 (c_X12_round_1 (x1) b1 H0_98 H0_100 H0_111 H0_114 H0_116 H0_129) H0_98 rfl rfl (Nat.le_of_ble_eq_true rfl) ⟨(Nat.le_of_ble_eq_true rfl), (Nat.le_of_ble_eq_true rfl)⟩ ⟨(Nat.le_of_ble_eq_true rfl), (Nat.le_of_ble_eq_true rfl)⟩ (fun r h9 hp => ?_)
    obtain ⟨rfl, rfl⟩ := hp
    refine J_nf (nh2 := 136) (ck2 := 136) (sk2 := 415528) (st2 := [.int (-1), .int (-1)]) rfl rfl rfl rfl ?_
    refine J_app (L3 := [(129, .inl (2, 229376, .inl (upd (fun _ => 0) 14 0))), (114, .inl (0, 1260, .inl (upd (fun _ => 0) 0 0))), (116, .inl (0, 1260, .inl (upd (fun _ => 0) 0 0))), (98, .inr (12, [.int 0, .int 0, .ref 99, .ref 100, .ref 101, .ref 102, .ref 103, .ref 104, .ref 105, .int 0, .int (-1), .ref 106, .ref 107, .ref 108, .int 0, .int 0, .int 0, .int 0, .int 0, .int 0, .int 0, .ref 109, .int 0, .int 0, .ref 110, .ref 111, .ref 112, .ref 113, .ref 114, .ref 115, .ref 116, .ref 117, .int 1, .int 0, .int 0, .int 0, .ref 118, .ref 119, .ref 120, .ref 121, .ref 122, .ref 123, .ref 124, .ref 125, .ref 126, .ref 127, .ref 128, .ref 129, .int 0, .ref 130, .ref 131, .ref 132, .ref 133, .ref 134, .int 0, .int 0])), (111, .inl (0, 1260, .inl (upd (fun _ => 0) 0 0))), (81, .inr (7, [.ref 51, .ref 57, .ref 82, .ref 83, .ref 84, .int 0, .int 0])), (57, .inr (9, [.ref 1, .ref 51, .ref 58, .ref 61, .ref 62, .ref 135, .ref 64, .int 0, .int 0, .int 0])), (62, .inl (0, 1260, .inl (upd (fun _ => 0) 0 (-1)))), (135, .inl (0, 22, .inl (fun _ => 0))), (59, .inl (0, 8, .inl (upd (upd (fun _ => 0) 6 0) 7 0)))]) rfl ?_
    refine J_icmp_eq (tgt := 1221) dL_law_821 (by decide) (fun _ => ?_) (fun q => absurd (by decide +kernel) q)
    exact law_tail (Nat.le_of_ble_eq_true rfl) (Nat.le_of_ble_eq_true rfl)
  · rcases i_cut x1.toInt 0 with h_1 | h_1
    · obtain rfl : x1 = (-1) := by rw [fa_eq, kc_m1]; omega
      refine J_hc0 ?_
      refine J_aload_n dL_law_803 rfl rfl ?_
      refine J_sload_n dL_law_804 rfl rfl ?_
      refine J_iload_n dL_law_805 rfl rfl ?_
      refine J_iconst (v := 1) dL_law_806 (by decide) ?_
      refine J_iadd (z := 1) dL_law_807 (by decide +kernel) ?_
      refine L_sld (i2 := 1) (v := (-1)) dL_law_808 (jin (by decide +kernel)) (by decide +kernel) hx1 ?_
      refine J_callV (st := []) dL_law_809 cv_L_99 (c_X11_round_2 H0_0 H0_1 H0_3 H0_51 H0_57 H0_58 H0_59 H0_62 H0_63 H0_81) H0_0 rfl rfl (Nat.le_of_ble_eq_true rfl) ⟨(Nat.le_of_ble_eq_true rfl), (Nat.le_of_ble_eq_true rfl)⟩ ⟨(Nat.le_of_ble_eq_true rfl), (Nat.le_of_ble_eq_true rfl)⟩ (fun r h9 hp => ?_)
      obtain ⟨rfl, rfl⟩ := hp
      refine J_nf (nh2 := 136) (ck2 := 136) (sk2 := 415528) (st2 := [.int 0]) rfl rfl rfl rfl ?_
      refine J_app (L3 := [(81, .inr (7, [.ref 51, .ref 57, .ref 82, .ref 83, .ref 84, .int 0, .int 0])), (57, .inr (9, [.ref 1, .ref 51, .ref 58, .ref 61, .ref 62, .ref 135, .ref 64, .int 0, .int 0, .int 0])), (62, .inl (0, 1260, .inl (upd (fun _ => 0) 0 (-1)))), (135, .inl (0, 22, .inl (fun _ => 0))), (59, .inl (0, 8, .inl (upd (upd (fun _ => 0) 6 0) 7 0)))]) rfl ?_
      refine J_aload_n dL_law_812 rfl rfl ?_
      refine J_sload_n dL_law_813 rfl rfl ?_
      refine J_iload_n dL_law_814 rfl rfl ?_
      refine J_iconst (v := 1) dL_law_815 (by decide) ?_
      refine J_iadd (z := 1) dL_law_816 (by decide +kernel) ?_
      refine L_sld (i2 := 1) (v := (-1)) dL_law_817 (jin (by decide +kernel)) (by decide +kernel) hx1 ?_
      refine J_callV (st := [.int 0]) dL_law_818 cv_L_102 (c_X12_round_2 H0_98 H0_100 H0_111 H0_114 H0_116 H0_129) H0_98 rfl rfl (Nat.le_of_ble_eq_true rfl) ⟨(Nat.le_of_ble_eq_true rfl), (Nat.le_of_ble_eq_true rfl)⟩ ⟨(Nat.le_of_ble_eq_true rfl), (Nat.le_of_ble_eq_true rfl)⟩ (fun r h9 hp => ?_)
      obtain ⟨rfl, rfl⟩ := hp
      refine J_nf (nh2 := 136) (ck2 := 136) (sk2 := 415528) (st2 := [.int 0, .int 0]) rfl rfl rfl rfl ?_
      refine J_app (L3 := [(129, .inl (2, 229376, .inl (upd (fun _ => 0) 14 0))), (114, .inl (0, 1260, .inl (upd (fun _ => 0) 0 0))), (116, .inl (0, 1260, .inl (upd (fun _ => 0) 0 0))), (98, .inr (12, [.int 0, .int 0, .ref 99, .ref 100, .ref 101, .ref 102, .ref 103, .ref 104, .ref 105, .int 0, .int (-1), .ref 106, .ref 107, .ref 108, .int 0, .int 0, .int 0, .int 0, .int 0, .int 0, .int 0, .ref 109, .int 0, .int 0, .ref 110, .ref 111, .ref 112, .ref 113, .ref 114, .ref 115, .ref 116, .ref 117, .int 1, .int 0, .int 0, .int 0, .ref 118, .ref 119, .ref 120, .ref 121, .ref 122, .ref 123, .ref 124, .ref 125, .ref 126, .ref 127, .ref 128, .ref 129, .int 0, .ref 130, .ref 131, .ref 132, .ref 133, .ref 134, .int 0, .int 0])), (111, .inl (0, 1260, .inl (upd (fun _ => 0) 0 0))), (81, .inr (7, [.ref 51, .ref 57, .ref 82, .ref 83, .ref 84, .int 0, .int 0])), (57, .inr (9, [.ref 1, .ref 51, .ref 58, .ref 61, .ref 62, .ref 135, .ref 64, .int 0, .int 0, .int 0])), (62, .inl (0, 1260, .inl (upd (fun _ => 0) 0 (-1)))), (135, .inl (0, 22, .inl (fun _ => 0))), (59, .inl (0, 8, .inl (upd (upd (fun _ => 0) 6 0) 7 0)))]) rfl ?_
      refine J_icmp_eq (tgt := 1221) dL_law_821 (by decide) (fun _ => ?_) (fun q => absurd (by decide +kernel) q)
      exact law_tail (Nat.le_of_ble_eq_true rfl) (Nat.le_of_ble_eq_true rfl)
    · have b1 : 0 ≤ x1.toInt ∧ x1.toInt ≤ 2147483647 := ⟨by omega, by omega⟩
      refine J_hc0 ?_
      refine J_aload_n dL_law_803 rfl rfl ?_
      refine J_sload_n dL_law_804 rfl rfl ?_
      refine J_iload_n dL_law_805 rfl rfl ?_
      refine J_iconst (v := 1) dL_law_806 (by decide) ?_
      refine J_iadd (z := 1) dL_law_807 (by decide +kernel) ?_
      refine L_sld (i2 := 1) (v := x1) dL_law_808 (jin (by decide +kernel)) (by decide +kernel) hx1 ?_
      refine J_callV (st := []) dL_law_809 cv_L_99 (c_X11_round_3 (x1) b1 H0_0 H0_1 H0_3 H0_51 H0_57 H0_58 H0_59 H0_62 H0_63 H0_81) H0_0 rfl rfl (Nat.le_of_ble_eq_true rfl) ⟨(Nat.le_of_ble_eq_true rfl), (Nat.le_of_ble_eq_true rfl)⟩ ⟨(Nat.le_of_ble_eq_true rfl), (Nat.le_of_ble_eq_true rfl)⟩ (fun r h9 hp => ?_)
      obtain ⟨rfl, rfl⟩ := hp
      refine J_nf (nh2 := 136) (ck2 := 136) (sk2 := 415528) (st2 := [.int (-1)]) rfl rfl rfl rfl ?_
      refine J_app (L3 := [(81, .inr (7, [.ref 51, .ref 57, .ref 82, .ref 83, .ref 84, .int 0, .int 0])), (57, .inr (9, [.ref 1, .ref 51, .ref 58, .ref 61, .ref 62, .ref 135, .ref 64, .int 0, .int 0, .int 0])), (62, .inl (0, 1260, .inl (upd (fun _ => 0) 0 (-1)))), (135, .inl (0, 22, .inl (fun _ => 0))), (59, .inl (0, 8, .inl (upd (upd (fun _ => 0) 6 0) 7 0)))]) rfl ?_
      refine J_aload_n dL_law_812 rfl rfl ?_
      refine J_sload_n dL_law_813 rfl rfl ?_
      refine J_iload_n dL_law_814 rfl rfl ?_
      refine J_iconst (v := 1) dL_law_815 (by decide) ?_
      refine J_iadd (z := 1) dL_law_816 (by decide +kernel) ?_
      refine L_sld (i2 := 1) (v := x1) dL_law_817 (jin (by decide +kernel)) (by decide +kernel) hx1 ?_
      refine J_callV (st := [.int (-1)]) dL_law_818 cv_L_102 (c_X12_round_3 (x1) b1 H0_98 H0_100 H0_111 H0_114 H0_116 H0_129) H0_98 rfl rfl (Nat.le_of_ble_eq_true rfl) ⟨(Nat.le_of_ble_eq_true rfl), (Nat.le_of_ble_eq_true rfl)⟩ ⟨(Nat.le_of_ble_eq_true rfl), (Nat.le_of_ble_eq_true rfl)⟩ (fun r h9 hp => ?_)
      obtain ⟨rfl, rfl⟩ := hp
      refine J_nf (nh2 := 136) (ck2 := 136) (sk2 := 415528) (st2 := [.int (-1), .int (-1)]) rfl rfl rfl rfl ?_
      refine J_app (L3 := [(129, .inl (2, 229376, .inl (upd (fun _ => 0) 14 0))), (114, .inl (0, 1260, .inl (upd (fun _ => 0) 0 0))), (116, .inl (0, 1260, .inl (upd (fun _ => 0) 0 0))), (98, .inr (12, [.int 0, .int 0, .ref 99, .ref 100, .ref 101, .ref 102, .ref 103, .ref 104, .ref 105, .int 0, .int (-1), .ref 106, .ref 107, .ref 108, .int 0, .int 0, .int 0, .int 0, .int 0, .int 0, .int 0, .ref 109, .int 0, .int 0, .ref 110, .ref 111, .ref 112, .ref 113, .ref 114, .ref 115, .ref 116, .ref 117, .int 1, .int 0, .int 0, .int 0, .ref 118, .ref 119, .ref 120, .ref 121, .ref 122, .ref 123, .ref 124, .ref 125, .ref 126, .ref 127, .ref 128, .ref 129, .int 0, .ref 130, .ref 131, .ref 132, .ref 133, .ref 134, .int 0, .int 0])), (111, .inl (0, 1260, .inl (upd (fun _ => 0) 0 0))), (81, .inr (7, [.ref 51, .ref 57, .ref 82, .ref 83, .ref 84, .int 0, .int 0])), (57, .inr (9, [.ref 1, .ref 51, .ref 58, .ref 61, .ref 62, .ref 135, .ref 64, .int 0, .int 0, .int 0])), (62, .inl (0, 1260, .inl (upd (fun _ => 0) 0 (-1)))), (135, .inl (0, 22, .inl (fun _ => 0))), (59, .inl (0, 8, .inl (upd (upd (fun _ => 0) 6 0) 7 0)))]) rfl ?_
      refine J_icmp_eq (tgt := 1221) dL_law_821 (by decide) (fun _ => ?_) (fun q => absurd (by decide +kernel) q)
      exact law_tail (Nat.le_of_ble_eq_true rfl) (Nat.le_of_ble_eq_true rfl)
set_option maxHeartbeats 4000000 in
set_option maxRecDepth 100000 in
theorem law_case_21 {l : Launch} {G : jG} {b : Nat} {xs : Nat → Int32} (x1 : Int32) (hx1 : xs 1 = x1) (x2 : Int32) (hx2 : xs 2 = x2) : J l G ML_law room_1 (lE b 6 xs G) lQ (135, H0) 135 415506 826 [some (.retAddr 0), some (.ref 0), some (.ref 98), some (.int 0)] [] := by
  have r1 := i32_rng x1
  have r2 := i32_rng x2
  rcases i_cut x1.toInt 0 with h_0 | h_0
  · have b1 : (-2147483648) ≤ x1.toInt ∧ x1.toInt ≤ (-1) := ⟨by omega, by omega⟩
    have b2 : (-2147483648) ≤ x2.toInt ∧ x2.toInt ≤ 2147483647 := ⟨by omega, by omega⟩
    refine J_hc0 ?_
    refine J_aload_n dL_law_826 rfl rfl ?_
    refine J_sload_n dL_law_827 rfl rfl ?_
    refine J_iload_n dL_law_828 rfl rfl ?_
    refine J_iconst (v := 1) dL_law_829 (by decide) ?_
    refine J_iadd (z := 1) dL_law_830 (by decide +kernel) ?_
    refine L_sld (i2 := 1) (v := x1) dL_law_831 (jin (by decide +kernel)) (by decide +kernel) hx1 ?_
    refine J_sload_n dL_law_832 rfl rfl ?_
    refine J_iload_n dL_law_833 rfl rfl ?_
    refine J_iconst (v := 2) dL_law_834 (by decide) ?_
    refine J_iadd (z := 2) dL_law_835 (by decide +kernel) ?_
    refine L_sld (i2 := 2) (v := x2) dL_law_836 (jin (by decide +kernel)) (by decide +kernel) hx2 ?_
    refine J_callV (st := []) dL_law_837 cv_L_103 (c_X11_swapIf_1 (x1) b1 (x2) b2 H0_0 H0_96) H0_0 rfl rfl (Nat.le_of_ble_eq_true rfl) ⟨(Nat.le_of_ble_eq_true rfl), (Nat.le_of_ble_eq_true rfl)⟩ ⟨(Nat.le_of_ble_eq_true rfl), (Nat.le_of_ble_eq_true rfl)⟩ (fun r h9 hp => ?_)
    obtain ⟨rfl, rfl⟩ := hp
    refine J_nf (nh2 := 135) (ck2 := 135) (sk2 := 415506) (st2 := [.int (-1)]) rfl rfl rfl rfl ?_
    refine J_app (L3 := [(96, .inl (0, 5, .inl (upd (fun _ => 0) 0 1))), (0, .inr (11, [.ref 1, .ref 17, .ref 50, .ref 51, .ref 54, .ref 57, .ref 65, .ref 75, .ref 81, .ref 85, .ref 88, .ref 93, .ref 96, .int (-1), .int (-1), .ref 97, .int 0]))]) rfl ?_
    refine J_aload_n dL_law_840 rfl rfl ?_
    refine J_sload_n dL_law_841 rfl rfl ?_
    refine J_iload_n dL_law_842 rfl rfl ?_
    refine J_iconst (v := 1) dL_law_843 (by decide) ?_
    refine J_iadd (z := 1) dL_law_844 (by decide +kernel) ?_
    refine L_sld (i2 := 1) (v := x1) dL_law_845 (jin (by decide +kernel)) (by decide +kernel) hx1 ?_
    refine J_sload_n dL_law_846 rfl rfl ?_
    refine J_iload_n dL_law_847 rfl rfl ?_
    refine J_iconst (v := 2) dL_law_848 (by decide) ?_
    refine J_iadd (z := 2) dL_law_849 (by decide +kernel) ?_
    refine L_sld (i2 := 2) (v := x2) dL_law_850 (jin (by decide +kernel)) (by decide +kernel) hx2 ?_
    refine J_callV (st := [.int (-1)]) dL_law_851 cv_L_106 (c_X12_swapIf_1 (x1) b1 (x2) b2 H0_98 H0_99) H0_98 rfl rfl (Nat.le_of_ble_eq_true rfl) ⟨(Nat.le_of_ble_eq_true rfl), (Nat.le_of_ble_eq_true rfl)⟩ ⟨(Nat.le_of_ble_eq_true rfl), (Nat.le_of_ble_eq_true rfl)⟩ (fun r h9 hp => ?_)
    obtain ⟨rfl, rfl⟩ := hp
    refine J_nf (nh2 := 135) (ck2 := 135) (sk2 := 415506) (st2 := [.int (-1), .int (-1)]) rfl rfl rfl rfl ?_
    refine J_app (L3 := [(99, .inl (0, 7, .inl (upd (fun _ => 0) 1 1))), (98, .inr (12, [.int (-1), .int 0, .ref 99, .ref 100, .ref 101, .ref 102, .ref 103, .ref 104, .ref 105, .int 0, .int (-1), .ref 106, .ref 107, .ref 108, .int 0, .int 0, .int 0, .int 0, .int 0, .int 0, .int 0, .ref 109, .int 0, .int 0, .ref 110, .ref 111, .ref 112, .ref 113, .ref 114, .ref 115, .ref 116, .ref 117, .int 0, .int 0, .int (-1), .int (-1), .ref 118, .ref 119, .ref 120, .ref 121, .ref 122, .ref 123, .ref 124, .ref 125, .ref 126, .ref 127, .ref 128, .ref 129, .int 0, .ref 130, .ref 131, .ref 132, .ref 133, .ref 134, .int 0, .int 0])), (96, .inl (0, 5, .inl (upd (fun _ => 0) 0 1))), (0, .inr (11, [.ref 1, .ref 17, .ref 50, .ref 51, .ref 54, .ref 57, .ref 65, .ref 75, .ref 81, .ref 85, .ref 88, .ref 93, .ref 96, .int (-1), .int (-1), .ref 97, .int 0]))]) rfl ?_
    refine J_icmp_eq (tgt := 1221) dL_law_854 (by decide) (fun _ => ?_) (fun q => absurd (by decide +kernel) q)
    exact law_tail (Nat.le_of_ble_eq_true rfl) (Nat.le_of_ble_eq_true rfl)
  · have b1 : 0 ≤ x1.toInt ∧ x1.toInt ≤ 2147483647 := ⟨by omega, by omega⟩
    have b2 : (-2147483648) ≤ x2.toInt ∧ x2.toInt ≤ 2147483647 := ⟨by omega, by omega⟩
    refine J_hc0 ?_
    refine J_aload_n dL_law_826 rfl rfl ?_
    refine J_sload_n dL_law_827 rfl rfl ?_
    refine J_iload_n dL_law_828 rfl rfl ?_
    refine J_iconst (v := 1) dL_law_829 (by decide) ?_
    refine J_iadd (z := 1) dL_law_830 (by decide +kernel) ?_
    refine L_sld (i2 := 1) (v := x1) dL_law_831 (jin (by decide +kernel)) (by decide +kernel) hx1 ?_
    refine J_sload_n dL_law_832 rfl rfl ?_
    refine J_iload_n dL_law_833 rfl rfl ?_
    refine J_iconst (v := 2) dL_law_834 (by decide) ?_
    refine J_iadd (z := 2) dL_law_835 (by decide +kernel) ?_
    refine L_sld (i2 := 2) (v := x2) dL_law_836 (jin (by decide +kernel)) (by decide +kernel) hx2 ?_
    refine J_callV (st := []) dL_law_837 cv_L_103 (c_X11_swapIf_2 (x1) b1 (x2) b2 H0_0 H0_51 H0_96) H0_0 rfl rfl (Nat.le_of_ble_eq_true rfl) ⟨(Nat.le_of_ble_eq_true rfl), (Nat.le_of_ble_eq_true rfl)⟩ ⟨(Nat.le_of_ble_eq_true rfl), (Nat.le_of_ble_eq_true rfl)⟩ (fun r h9 hp => ?_)
    obtain ⟨rfl, rfl⟩ := hp
    refine J_nf (nh2 := 135) (ck2 := 135) (sk2 := 415506) (st2 := [.int (-1)]) rfl rfl rfl rfl ?_
    refine J_app (L3 := [(96, .inl (0, 5, .inl (upd (fun _ => 0) 0 1))), (0, .inr (11, [.ref 1, .ref 17, .ref 50, .ref 51, .ref 54, .ref 57, .ref 65, .ref 75, .ref 81, .ref 85, .ref 88, .ref 93, .ref 96, .int (-1), .int (-1), .ref 97, .int 0]))]) rfl ?_
    refine J_aload_n dL_law_840 rfl rfl ?_
    refine J_sload_n dL_law_841 rfl rfl ?_
    refine J_iload_n dL_law_842 rfl rfl ?_
    refine J_iconst (v := 1) dL_law_843 (by decide) ?_
    refine J_iadd (z := 1) dL_law_844 (by decide +kernel) ?_
    refine L_sld (i2 := 1) (v := x1) dL_law_845 (jin (by decide +kernel)) (by decide +kernel) hx1 ?_
    refine J_sload_n dL_law_846 rfl rfl ?_
    refine J_iload_n dL_law_847 rfl rfl ?_
    refine J_iconst (v := 2) dL_law_848 (by decide) ?_
    refine J_iadd (z := 2) dL_law_849 (by decide +kernel) ?_
    refine L_sld (i2 := 2) (v := x2) dL_law_850 (jin (by decide +kernel)) (by decide +kernel) hx2 ?_
    refine J_callV (st := [.int (-1)]) dL_law_851 cv_L_106 (c_X12_swapIf_2 (x1) b1 (x2) b2 H0_98 H0_99 H0_100) H0_98 rfl rfl (Nat.le_of_ble_eq_true rfl) ⟨(Nat.le_of_ble_eq_true rfl), (Nat.le_of_ble_eq_true rfl)⟩ ⟨(Nat.le_of_ble_eq_true rfl), (Nat.le_of_ble_eq_true rfl)⟩ (fun r h9 hp => ?_)
    obtain ⟨rfl, rfl⟩ := hp
    refine J_nf (nh2 := 135) (ck2 := 135) (sk2 := 415506) (st2 := [.int (-1), .int (-1)]) rfl rfl rfl rfl ?_
    refine J_app (L3 := [(99, .inl (0, 7, .inl (upd (fun _ => 0) 1 1))), (98, .inr (12, [.int (-1), .int 0, .ref 99, .ref 100, .ref 101, .ref 102, .ref 103, .ref 104, .ref 105, .int 0, .int (-1), .ref 106, .ref 107, .ref 108, .int 0, .int 0, .int 0, .int 0, .int 0, .int 0, .int 0, .ref 109, .int 0, .int 0, .ref 110, .ref 111, .ref 112, .ref 113, .ref 114, .ref 115, .ref 116, .ref 117, .int 0, .int 0, .int (-1), .int (-1), .ref 118, .ref 119, .ref 120, .ref 121, .ref 122, .ref 123, .ref 124, .ref 125, .ref 126, .ref 127, .ref 128, .ref 129, .int 0, .ref 130, .ref 131, .ref 132, .ref 133, .ref 134, .int 0, .int 0])), (96, .inl (0, 5, .inl (upd (fun _ => 0) 0 1))), (0, .inr (11, [.ref 1, .ref 17, .ref 50, .ref 51, .ref 54, .ref 57, .ref 65, .ref 75, .ref 81, .ref 85, .ref 88, .ref 93, .ref 96, .int (-1), .int (-1), .ref 97, .int 0]))]) rfl ?_
    refine J_icmp_eq (tgt := 1221) dL_law_854 (by decide) (fun _ => ?_) (fun q => absurd (by decide +kernel) q)
    exact law_tail (Nat.le_of_ble_eq_true rfl) (Nat.le_of_ble_eq_true rfl)
set_option maxHeartbeats 4000000 in
set_option maxRecDepth 100000 in
theorem law_case_22 {l : Launch} {G : jG} {b : Nat} {xs : Nat → Int32} (x1 : Int32) (hx1 : xs 1 = x1) : J l G ML_law room_1 (lE b 6 xs G) lQ (135, H0) 135 415506 859 [some (.retAddr 0), some (.ref 0), some (.ref 98), some (.int 0)] [] := by
  have r1 := i32_rng x1
  rcases i_cut x1.toInt 0 with h_0 | h_0
  · have b1 : (-2147483648) ≤ x1.toInt ∧ x1.toInt ≤ (-1) := ⟨by omega, by omega⟩
    refine J_hc0 ?_
    refine J_aload_n dL_law_859 rfl rfl ?_
    refine J_sload_n dL_law_860 rfl rfl ?_
    refine J_iload_n dL_law_861 rfl rfl ?_
    refine J_iconst (v := 1) dL_law_862 (by decide) ?_
    refine J_iadd (z := 1) dL_law_863 (by decide +kernel) ?_
    refine L_sld (i2 := 1) (v := x1) dL_law_864 (jin (by decide +kernel)) (by decide +kernel) hx1 ?_
    refine J_callV (st := []) dL_law_865 cv_L_107 (c_X11_keep_1 (x1) b1 H0_0 H0_96) H0_0 rfl rfl (Nat.le_of_ble_eq_true rfl) ⟨(Nat.le_of_ble_eq_true rfl), (Nat.le_of_ble_eq_true rfl)⟩ ⟨(Nat.le_of_ble_eq_true rfl), (Nat.le_of_ble_eq_true rfl)⟩ (fun r h9 hp => ?_)
    obtain ⟨rfl, rfl⟩ := hp
    refine J_nf (nh2 := 135) (ck2 := 135) (sk2 := 415506) (st2 := [.int (-1)]) rfl rfl rfl rfl ?_
    refine J_app (L3 := [(96, .inl (0, 5, .inl (upd (fun _ => 0) 0 1))), (0, .inr (11, [.ref 1, .ref 17, .ref 50, .ref 51, .ref 54, .ref 57, .ref 65, .ref 75, .ref 81, .ref 85, .ref 88, .ref 93, .ref 96, .int (-1), .int (-1), .ref 97, .int 0]))]) rfl ?_
    refine J_aload_n dL_law_868 rfl rfl ?_
    refine J_sload_n dL_law_869 rfl rfl ?_
    refine J_iload_n dL_law_870 rfl rfl ?_
    refine J_iconst (v := 1) dL_law_871 (by decide) ?_
    refine J_iadd (z := 1) dL_law_872 (by decide +kernel) ?_
    refine L_sld (i2 := 1) (v := x1) dL_law_873 (jin (by decide +kernel)) (by decide +kernel) hx1 ?_
    refine J_callV (st := [.int (-1)]) dL_law_874 cv_L_110 (c_X12_keep_1 (x1) b1 H0_98 H0_99 H0_100) H0_98 rfl rfl (Nat.le_of_ble_eq_true rfl) ⟨(Nat.le_of_ble_eq_true rfl), (Nat.le_of_ble_eq_true rfl)⟩ ⟨(Nat.le_of_ble_eq_true rfl), (Nat.le_of_ble_eq_true rfl)⟩ (fun r h9 hp => ?_)
    obtain ⟨rfl, rfl⟩ := hp
    refine J_nf (nh2 := 135) (ck2 := 135) (sk2 := 415506) (st2 := [.int (-1), .int (-1)]) rfl rfl rfl rfl ?_
    refine J_app (L3 := [(99, .inl (0, 7, .inl (upd (fun _ => 0) 1 1))), (98, .inr (12, [.int (-1), .int 0, .ref 99, .ref 100, .ref 101, .ref 102, .ref 103, .ref 104, .ref 105, .int 0, .int (-1), .ref 106, .ref 107, .ref 108, .int 0, .int 0, .int 0, .int 0, .int 0, .int 0, .int 0, .ref 109, .int 0, .int 0, .ref 110, .ref 111, .ref 112, .ref 113, .ref 114, .ref 115, .ref 116, .ref 117, .int 0, .int 0, .int (-1), .int (-1), .ref 118, .ref 119, .ref 120, .ref 121, .ref 122, .ref 123, .ref 124, .ref 125, .ref 126, .ref 127, .ref 128, .ref 129, .int 0, .ref 130, .ref 131, .ref 132, .ref 133, .ref 134, .int 0, .int 0])), (96, .inl (0, 5, .inl (upd (fun _ => 0) 0 1))), (0, .inr (11, [.ref 1, .ref 17, .ref 50, .ref 51, .ref 54, .ref 57, .ref 65, .ref 75, .ref 81, .ref 85, .ref 88, .ref 93, .ref 96, .int (-1), .int (-1), .ref 97, .int 0]))]) rfl ?_
    refine J_icmp_eq (tgt := 1221) dL_law_877 (by decide) (fun _ => ?_) (fun q => absurd (by decide +kernel) q)
    exact law_tail (Nat.le_of_ble_eq_true rfl) (Nat.le_of_ble_eq_true rfl)
  · rcases i_cut x1.toInt 1 with h_1 | h_1
    · obtain rfl : x1 = 0 := by rw [fa_eq, kc_0]; omega
      refine J_hc0 ?_
      refine J_aload_n dL_law_859 rfl rfl ?_
      refine J_sload_n dL_law_860 rfl rfl ?_
      refine J_iload_n dL_law_861 rfl rfl ?_
      refine J_iconst (v := 1) dL_law_862 (by decide) ?_
      refine J_iadd (z := 1) dL_law_863 (by decide +kernel) ?_
      refine L_sld (i2 := 1) (v := 0) dL_law_864 (jin (by decide +kernel)) (by decide +kernel) hx1 ?_
      refine J_callV (st := []) dL_law_865 cv_L_107 (c_X11_keep_2 H0_0 H0_1) H0_0 rfl rfl (Nat.le_of_ble_eq_true rfl) ⟨(Nat.le_of_ble_eq_true rfl), (Nat.le_of_ble_eq_true rfl)⟩ ⟨(Nat.le_of_ble_eq_true rfl), (Nat.le_of_ble_eq_true rfl)⟩ (fun r h9 hp => ?_)
      obtain ⟨rfl, rfl⟩ := hp
      refine J_nf (nh2 := 135) (ck2 := 135) (sk2 := 415506) (st2 := [.int 0]) rfl rfl rfl rfl ?_
      refine J_app (L3 := [(0, .inr (11, [.ref 1, .ref 17, .ref 50, .ref 51, .ref 54, .ref 57, .ref 65, .ref 75, .ref 81, .ref 85, .ref 88, .ref 93, .ref 96, .int 0, .int (-1), .ref 97, .int 0])), (1, .inr (8, [.ref 2, .ref 3, .ref 4, .int 0, .int (-1), .ref 11, .ref 12, .int 0, .ref 13, .ref 14, .int 0, .ref 15, .ref 16, .int 0]))]) rfl ?_
      refine J_aload_n dL_law_868 rfl rfl ?_
      refine J_sload_n dL_law_869 rfl rfl ?_
      refine J_iload_n dL_law_870 rfl rfl ?_
      refine J_iconst (v := 1) dL_law_871 (by decide) ?_
      refine J_iadd (z := 1) dL_law_872 (by decide +kernel) ?_
      refine L_sld (i2 := 1) (v := 0) dL_law_873 (jin (by decide +kernel)) (by decide +kernel) hx1 ?_
      refine J_callV (st := [.int 0]) dL_law_874 cv_L_110 (c_X12_keep_2 H0_98 H0_100) H0_98 rfl rfl (Nat.le_of_ble_eq_true rfl) ⟨(Nat.le_of_ble_eq_true rfl), (Nat.le_of_ble_eq_true rfl)⟩ ⟨(Nat.le_of_ble_eq_true rfl), (Nat.le_of_ble_eq_true rfl)⟩ (fun r h9 hp => ?_)
      obtain ⟨rfl, rfl⟩ := hp
      refine J_nf (nh2 := 135) (ck2 := 135) (sk2 := 415506) (st2 := [.int 0, .int 0]) rfl rfl rfl rfl ?_
      refine J_app (L3 := [(98, .inr (12, [.int 0, .int 1, .ref 99, .ref 100, .ref 101, .ref 102, .ref 103, .ref 104, .ref 105, .int 0, .int (-1), .ref 106, .ref 107, .ref 108, .int 0, .int 0, .int 0, .int 0, .int 0, .int 0, .int 0, .ref 109, .int 0, .int 0, .ref 110, .ref 111, .ref 112, .ref 113, .ref 114, .ref 115, .ref 116, .ref 117, .int 0, .int 0, .int (-1), .int (-1), .ref 118, .ref 119, .ref 120, .ref 121, .ref 122, .ref 123, .ref 124, .ref 125, .ref 126, .ref 127, .ref 128, .ref 129, .int 0, .ref 130, .ref 131, .ref 132, .ref 133, .ref 134, .int 0, .int 0])), (100, .inl (0, 4870, .inl (upd (upd (fun _ => 0) 63 (-1)) 60 0))), (0, .inr (11, [.ref 1, .ref 17, .ref 50, .ref 51, .ref 54, .ref 57, .ref 65, .ref 75, .ref 81, .ref 85, .ref 88, .ref 93, .ref 96, .int 0, .int (-1), .ref 97, .int 0])), (1, .inr (8, [.ref 2, .ref 3, .ref 4, .int 0, .int (-1), .ref 11, .ref 12, .int 0, .ref 13, .ref 14, .int 0, .ref 15, .ref 16, .int 0]))]) rfl ?_
      refine J_icmp_eq (tgt := 1221) dL_law_877 (by decide) (fun _ => ?_) (fun q => absurd (by decide +kernel) q)
      exact law_tail (Nat.le_of_ble_eq_true rfl) (Nat.le_of_ble_eq_true rfl)
    · have b1 : 1 ≤ x1.toInt ∧ x1.toInt ≤ 2147483647 := ⟨by omega, by omega⟩
      refine J_hc0 ?_
      refine J_aload_n dL_law_859 rfl rfl ?_
      refine J_sload_n dL_law_860 rfl rfl ?_
      refine J_iload_n dL_law_861 rfl rfl ?_
      refine J_iconst (v := 1) dL_law_862 (by decide) ?_
      refine J_iadd (z := 1) dL_law_863 (by decide +kernel) ?_
      refine L_sld (i2 := 1) (v := x1) dL_law_864 (jin (by decide +kernel)) (by decide +kernel) hx1 ?_
      refine J_callV (st := []) dL_law_865 cv_L_107 (c_X11_keep_3 (x1) b1 H0_0 H0_1 H0_96) H0_0 rfl rfl (Nat.le_of_ble_eq_true rfl) ⟨(Nat.le_of_ble_eq_true rfl), (Nat.le_of_ble_eq_true rfl)⟩ ⟨(Nat.le_of_ble_eq_true rfl), (Nat.le_of_ble_eq_true rfl)⟩ (fun r h9 hp => ?_)
      obtain ⟨rfl, rfl⟩ := hp
      refine J_nf (nh2 := 135) (ck2 := 135) (sk2 := 415506) (st2 := [.int (-1)]) rfl rfl rfl rfl ?_
      refine J_app (L3 := [(96, .inl (0, 5, .inl (upd (fun _ => 0) 0 1))), (0, .inr (11, [.ref 1, .ref 17, .ref 50, .ref 51, .ref 54, .ref 57, .ref 65, .ref 75, .ref 81, .ref 85, .ref 88, .ref 93, .ref 96, .int (-1), .int (-1), .ref 97, .int 0]))]) rfl ?_
      refine J_aload_n dL_law_868 rfl rfl ?_
      refine J_sload_n dL_law_869 rfl rfl ?_
      refine J_iload_n dL_law_870 rfl rfl ?_
      refine J_iconst (v := 1) dL_law_871 (by decide) ?_
      refine J_iadd (z := 1) dL_law_872 (by decide +kernel) ?_
      refine L_sld (i2 := 1) (v := x1) dL_law_873 (jin (by decide +kernel)) (by decide +kernel) hx1 ?_
      refine J_callV (st := [.int (-1)]) dL_law_874 cv_L_110 (c_X12_keep_3 (x1) b1 H0_98 H0_99 H0_100) H0_98 rfl rfl (Nat.le_of_ble_eq_true rfl) ⟨(Nat.le_of_ble_eq_true rfl), (Nat.le_of_ble_eq_true rfl)⟩ ⟨(Nat.le_of_ble_eq_true rfl), (Nat.le_of_ble_eq_true rfl)⟩ (fun r h9 hp => ?_)
      obtain ⟨rfl, rfl⟩ := hp
      refine J_nf (nh2 := 135) (ck2 := 135) (sk2 := 415506) (st2 := [.int (-1), .int (-1)]) rfl rfl rfl rfl ?_
      refine J_app (L3 := [(99, .inl (0, 7, .inl (upd (fun _ => 0) 1 1))), (98, .inr (12, [.int (-1), .int 0, .ref 99, .ref 100, .ref 101, .ref 102, .ref 103, .ref 104, .ref 105, .int 0, .int (-1), .ref 106, .ref 107, .ref 108, .int 0, .int 0, .int 0, .int 0, .int 0, .int 0, .int 0, .ref 109, .int 0, .int 0, .ref 110, .ref 111, .ref 112, .ref 113, .ref 114, .ref 115, .ref 116, .ref 117, .int 0, .int 0, .int (-1), .int (-1), .ref 118, .ref 119, .ref 120, .ref 121, .ref 122, .ref 123, .ref 124, .ref 125, .ref 126, .ref 127, .ref 128, .ref 129, .int 0, .ref 130, .ref 131, .ref 132, .ref 133, .ref 134, .int 0, .int 0])), (96, .inl (0, 5, .inl (upd (fun _ => 0) 0 1))), (0, .inr (11, [.ref 1, .ref 17, .ref 50, .ref 51, .ref 54, .ref 57, .ref 65, .ref 75, .ref 81, .ref 85, .ref 88, .ref 93, .ref 96, .int (-1), .int (-1), .ref 97, .int 0]))]) rfl ?_
      refine J_icmp_eq (tgt := 1221) dL_law_877 (by decide) (fun _ => ?_) (fun q => absurd (by decide +kernel) q)
      exact law_tail (Nat.le_of_ble_eq_true rfl) (Nat.le_of_ble_eq_true rfl)
set_option maxHeartbeats 4000000 in
set_option maxRecDepth 100000 in
theorem law_case_23 {l : Launch} {G : jG} {b : Nat} {xs : Nat → Int32} (x1 : Int32) (hx1 : xs 1 = x1) : J l G ML_law room_1 (lE b 6 xs G) lQ (135, H0) 135 415506 882 [some (.retAddr 0), some (.ref 0), some (.ref 98), some (.int 0)] [] := by
  have r1 := i32_rng x1
  rcases i_cut x1.toInt 0 with h_0 | h_0
  · have b1 : (-2147483648) ≤ x1.toInt ∧ x1.toInt ≤ (-1) := ⟨by omega, by omega⟩
    refine J_hc0 ?_
    refine J_aload_n dL_law_882 rfl rfl ?_
    refine J_sload_n dL_law_883 rfl rfl ?_
    refine J_iload_n dL_law_884 rfl rfl ?_
    refine J_iconst (v := 1) dL_law_885 (by decide) ?_
    refine J_iadd (z := 1) dL_law_886 (by decide +kernel) ?_
    refine L_sld (i2 := 1) (v := x1) dL_law_887 (jin (by decide +kernel)) (by decide +kernel) hx1 ?_
    refine J_callV (st := []) dL_law_888 cv_L_111 (c_X11_sorts_1 (x1) b1 H0_0 H0_1 H0_85) H0_0 rfl rfl (Nat.le_of_ble_eq_true rfl) ⟨(Nat.le_of_ble_eq_true rfl), (Nat.le_of_ble_eq_true rfl)⟩ ⟨(Nat.le_of_ble_eq_true rfl), (Nat.le_of_ble_eq_true rfl)⟩ (fun r h9 hp => ?_)
    obtain ⟨rfl, rfl⟩ := hp
    refine J_nf (nh2 := 135) (ck2 := 135) (sk2 := 415506) (st2 := [.int (-1)]) rfl rfl rfl rfl ?_
    refine J_aload_n dL_law_891 rfl rfl ?_
    refine J_sload_n dL_law_892 rfl rfl ?_
    refine J_iload_n dL_law_893 rfl rfl ?_
    refine J_iconst (v := 1) dL_law_894 (by decide) ?_
    refine J_iadd (z := 1) dL_law_895 (by decide +kernel) ?_
    refine L_sld (i2 := 1) (v := x1) dL_law_896 (jin (by decide +kernel)) (by decide +kernel) hx1 ?_
    refine J_callV (st := [.int (-1)]) dL_law_897 cv_L_114 (c_X12_sorts_1 (x1) b1) H0_98 rfl rfl (Nat.le_of_ble_eq_true rfl) ⟨(Nat.le_of_ble_eq_true rfl), (Nat.le_of_ble_eq_true rfl)⟩ ⟨(Nat.le_of_ble_eq_true rfl), (Nat.le_of_ble_eq_true rfl)⟩ (fun r h9 hp => ?_)
    obtain ⟨rfl, rfl⟩ := hp
    refine J_nf (nh2 := 135) (ck2 := 135) (sk2 := 415506) (st2 := [.int (-1), .int (-1)]) rfl rfl rfl rfl ?_
    refine J_icmp_eq (tgt := 1221) dL_law_900 (by decide) (fun _ => ?_) (fun q => absurd (by decide +kernel) q)
    exact law_tail (Nat.le_of_ble_eq_true rfl) (Nat.le_of_ble_eq_true rfl)
  · rcases i_cut x1.toInt 1 with h_1 | h_1
    · obtain rfl : x1 = 0 := by rw [fa_eq, kc_0]; omega
      refine J_hc0 ?_
      refine J_aload_n dL_law_882 rfl rfl ?_
      refine J_sload_n dL_law_883 rfl rfl ?_
      refine J_iload_n dL_law_884 rfl rfl ?_
      refine J_iconst (v := 1) dL_law_885 (by decide) ?_
      refine J_iadd (z := 1) dL_law_886 (by decide +kernel) ?_
      refine L_sld (i2 := 1) (v := 0) dL_law_887 (jin (by decide +kernel)) (by decide +kernel) hx1 ?_
      refine J_callV (st := []) dL_law_888 cv_L_111 (c_X11_sorts_2 H0_0 H0_1 H0_51 H0_52 H0_85) H0_0 rfl rfl (Nat.le_of_ble_eq_true rfl) ⟨(Nat.le_of_ble_eq_true rfl), (Nat.le_of_ble_eq_true rfl)⟩ ⟨(Nat.le_of_ble_eq_true rfl), (Nat.le_of_ble_eq_true rfl)⟩ (fun r h9 hp => ?_)
      obtain ⟨rfl, rfl⟩ := hp
      refine J_nf (nh2 := 135) (ck2 := 135) (sk2 := 415506) (st2 := [.int 1]) rfl rfl rfl rfl ?_
      refine J_aload_n dL_law_891 rfl rfl ?_
      refine J_sload_n dL_law_892 rfl rfl ?_
      refine J_iload_n dL_law_893 rfl rfl ?_
      refine J_iconst (v := 1) dL_law_894 (by decide) ?_
      refine J_iadd (z := 1) dL_law_895 (by decide +kernel) ?_
      refine L_sld (i2 := 1) (v := 0) dL_law_896 (jin (by decide +kernel)) (by decide +kernel) hx1 ?_
      refine J_callV (st := [.int 1]) dL_law_897 cv_L_114 (c_X12_sorts_2 H0_98 H0_100 H0_111) H0_98 rfl rfl (Nat.le_of_ble_eq_true rfl) ⟨(Nat.le_of_ble_eq_true rfl), (Nat.le_of_ble_eq_true rfl)⟩ ⟨(Nat.le_of_ble_eq_true rfl), (Nat.le_of_ble_eq_true rfl)⟩ (fun r h9 hp => ?_)
      obtain ⟨rfl, rfl⟩ := hp
      refine J_nf (nh2 := 135) (ck2 := 135) (sk2 := 415506) (st2 := [.int 1, .int 1]) rfl rfl rfl rfl ?_
      refine J_app (L3 := [(98, .inr (12, [.int 0, .int 0, .ref 99, .ref 100, .ref 101, .ref 102, .ref 103, .ref 104, .ref 105, .int 0, .int (-1), .ref 106, .ref 107, .ref 108, .int 0, .int 0, .int 0, .int 0, .int 0, .int 0, .int 0, .ref 109, .int 0, .int 0, .ref 110, .ref 111, .ref 112, .ref 113, .ref 114, .ref 115, .ref 116, .ref 117, .int 1, .int 0, .int 0, .int (-1), .ref 118, .ref 119, .ref 120, .ref 121, .ref 122, .ref 123, .ref 124, .ref 125, .ref 126, .ref 127, .ref 128, .ref 129, .int (-1), .ref 130, .ref 131, .ref 132, .ref 133, .ref 134, .int 0, .int 0])), (111, .inl (0, 1260, .inl (upd (fun _ => 0) 0 0)))]) rfl ?_
      refine J_icmp_eq (tgt := 1221) dL_law_900 (by decide) (fun _ => ?_) (fun q => absurd (by decide +kernel) q)
      exact law_tail (Nat.le_of_ble_eq_true rfl) (Nat.le_of_ble_eq_true rfl)
    · rcases i_cut x1.toInt 2 with h_2 | h_2
      · obtain rfl : x1 = 1 := by rw [fa_eq, kc_1]; omega
        refine J_hc0 ?_
        refine J_aload_n dL_law_882 rfl rfl ?_
        refine J_sload_n dL_law_883 rfl rfl ?_
        refine J_iload_n dL_law_884 rfl rfl ?_
        refine J_iconst (v := 1) dL_law_885 (by decide) ?_
        refine J_iadd (z := 1) dL_law_886 (by decide +kernel) ?_
        refine L_sld (i2 := 1) (v := 1) dL_law_887 (jin (by decide +kernel)) (by decide +kernel) hx1 ?_
        refine J_callV (st := []) dL_law_888 cv_L_111 (c_X11_sorts_3 H0_0 H0_1 H0_51 H0_52 H0_85) H0_0 rfl rfl (Nat.le_of_ble_eq_true rfl) ⟨(Nat.le_of_ble_eq_true rfl), (Nat.le_of_ble_eq_true rfl)⟩ ⟨(Nat.le_of_ble_eq_true rfl), (Nat.le_of_ble_eq_true rfl)⟩ (fun r h9 hp => ?_)
        obtain ⟨rfl, rfl⟩ := hp
        refine J_nf (nh2 := 135) (ck2 := 135) (sk2 := 415506) (st2 := [.int (-1)]) rfl rfl rfl rfl ?_
        refine J_aload_n dL_law_891 rfl rfl ?_
        refine J_sload_n dL_law_892 rfl rfl ?_
        refine J_iload_n dL_law_893 rfl rfl ?_
        refine J_iconst (v := 1) dL_law_894 (by decide) ?_
        refine J_iadd (z := 1) dL_law_895 (by decide +kernel) ?_
        refine L_sld (i2 := 1) (v := 1) dL_law_896 (jin (by decide +kernel)) (by decide +kernel) hx1 ?_
        refine J_callV (st := [.int (-1)]) dL_law_897 cv_L_114 (c_X12_sorts_3 H0_98 H0_100 H0_111) H0_98 rfl rfl (Nat.le_of_ble_eq_true rfl) ⟨(Nat.le_of_ble_eq_true rfl), (Nat.le_of_ble_eq_true rfl)⟩ ⟨(Nat.le_of_ble_eq_true rfl), (Nat.le_of_ble_eq_true rfl)⟩ (fun r h9 hp => ?_)
        obtain ⟨rfl, rfl⟩ := hp
        refine J_nf (nh2 := 135) (ck2 := 135) (sk2 := 415506) (st2 := [.int (-1), .int (-1)]) rfl rfl rfl rfl ?_
        refine J_app (L3 := [(98, .inr (12, [.int 0, .int 0, .ref 99, .ref 100, .ref 101, .ref 102, .ref 103, .ref 104, .ref 105, .int 0, .int (-1), .ref 106, .ref 107, .ref 108, .int 0, .int 0, .int 0, .int 0, .int 0, .int 0, .int 0, .ref 109, .int 0, .int 0, .ref 110, .ref 111, .ref 112, .ref 113, .ref 114, .ref 115, .ref 116, .ref 117, .int 1, .int 0, .int 0, .int (-1), .ref 118, .ref 119, .ref 120, .ref 121, .ref 122, .ref 123, .ref 124, .ref 125, .ref 126, .ref 127, .ref 128, .ref 129, .int (-1), .ref 130, .ref 131, .ref 132, .ref 133, .ref 134, .int 0, .int 0])), (111, .inl (0, 1260, .inl (upd (fun _ => 0) 0 0)))]) rfl ?_
        refine J_icmp_eq (tgt := 1221) dL_law_900 (by decide) (fun _ => ?_) (fun q => absurd (by decide +kernel) q)
        exact law_tail (Nat.le_of_ble_eq_true rfl) (Nat.le_of_ble_eq_true rfl)
      · rcases i_cut x1.toInt 3 with h_3 | h_3
        · obtain rfl : x1 = 2 := by rw [fa_eq, kc_2]; omega
          refine J_hc0 ?_
          refine J_aload_n dL_law_882 rfl rfl ?_
          refine J_sload_n dL_law_883 rfl rfl ?_
          refine J_iload_n dL_law_884 rfl rfl ?_
          refine J_iconst (v := 1) dL_law_885 (by decide) ?_
          refine J_iadd (z := 1) dL_law_886 (by decide +kernel) ?_
          refine L_sld (i2 := 1) (v := 2) dL_law_887 (jin (by decide +kernel)) (by decide +kernel) hx1 ?_
          refine J_callV (st := []) dL_law_888 cv_L_111 (c_X11_sorts_4 H0_0 H0_1 H0_51 H0_52 H0_85) H0_0 rfl rfl (Nat.le_of_ble_eq_true rfl) ⟨(Nat.le_of_ble_eq_true rfl), (Nat.le_of_ble_eq_true rfl)⟩ ⟨(Nat.le_of_ble_eq_true rfl), (Nat.le_of_ble_eq_true rfl)⟩ (fun r h9 hp => ?_)
          obtain ⟨rfl, rfl⟩ := hp
          refine J_nf (nh2 := 135) (ck2 := 135) (sk2 := 415506) (st2 := [.int 0]) rfl rfl rfl rfl ?_
          refine J_aload_n dL_law_891 rfl rfl ?_
          refine J_sload_n dL_law_892 rfl rfl ?_
          refine J_iload_n dL_law_893 rfl rfl ?_
          refine J_iconst (v := 1) dL_law_894 (by decide) ?_
          refine J_iadd (z := 1) dL_law_895 (by decide +kernel) ?_
          refine L_sld (i2 := 1) (v := 2) dL_law_896 (jin (by decide +kernel)) (by decide +kernel) hx1 ?_
          refine J_callV (st := [.int 0]) dL_law_897 cv_L_114 (c_X12_sorts_4 H0_98 H0_100 H0_111) H0_98 rfl rfl (Nat.le_of_ble_eq_true rfl) ⟨(Nat.le_of_ble_eq_true rfl), (Nat.le_of_ble_eq_true rfl)⟩ ⟨(Nat.le_of_ble_eq_true rfl), (Nat.le_of_ble_eq_true rfl)⟩ (fun r h9 hp => ?_)
          obtain ⟨rfl, rfl⟩ := hp
          refine J_nf (nh2 := 135) (ck2 := 135) (sk2 := 415506) (st2 := [.int 0, .int 0]) rfl rfl rfl rfl ?_
          refine J_app (L3 := [(98, .inr (12, [.int 0, .int 0, .ref 99, .ref 100, .ref 101, .ref 102, .ref 103, .ref 104, .ref 105, .int 0, .int (-1), .ref 106, .ref 107, .ref 108, .int 0, .int 0, .int 0, .int 0, .int 0, .int 0, .int 0, .ref 109, .int 0, .int 0, .ref 110, .ref 111, .ref 112, .ref 113, .ref 114, .ref 115, .ref 116, .ref 117, .int 1, .int 0, .int 0, .int (-1), .ref 118, .ref 119, .ref 120, .ref 121, .ref 122, .ref 123, .ref 124, .ref 125, .ref 126, .ref 127, .ref 128, .ref 129, .int (-1), .ref 130, .ref 131, .ref 132, .ref 133, .ref 134, .int 0, .int 0])), (111, .inl (0, 1260, .inl (upd (fun _ => 0) 0 0)))]) rfl ?_
          refine J_icmp_eq (tgt := 1221) dL_law_900 (by decide) (fun _ => ?_) (fun q => absurd (by decide +kernel) q)
          exact law_tail (Nat.le_of_ble_eq_true rfl) (Nat.le_of_ble_eq_true rfl)
        · rcases i_cut x1.toInt 4 with h_4 | h_4
          · obtain rfl : x1 = 3 := by rw [fa_eq, kc_3]; omega
            refine J_hc0 ?_
            refine J_aload_n dL_law_882 rfl rfl ?_
            refine J_sload_n dL_law_883 rfl rfl ?_
            refine J_iload_n dL_law_884 rfl rfl ?_
            refine J_iconst (v := 1) dL_law_885 (by decide) ?_
            refine J_iadd (z := 1) dL_law_886 (by decide +kernel) ?_
            refine L_sld (i2 := 1) (v := 3) dL_law_887 (jin (by decide +kernel)) (by decide +kernel) hx1 ?_
            refine J_callV (st := []) dL_law_888 cv_L_111 (c_X11_sorts_5 H0_0 H0_1 H0_51 H0_52 H0_85) H0_0 rfl rfl (Nat.le_of_ble_eq_true rfl) ⟨(Nat.le_of_ble_eq_true rfl), (Nat.le_of_ble_eq_true rfl)⟩ ⟨(Nat.le_of_ble_eq_true rfl), (Nat.le_of_ble_eq_true rfl)⟩ (fun r h9 hp => ?_)
            obtain ⟨rfl, rfl⟩ := hp
            refine J_nf (nh2 := 135) (ck2 := 135) (sk2 := 415506) (st2 := [.int 0]) rfl rfl rfl rfl ?_
            refine J_aload_n dL_law_891 rfl rfl ?_
            refine J_sload_n dL_law_892 rfl rfl ?_
            refine J_iload_n dL_law_893 rfl rfl ?_
            refine J_iconst (v := 1) dL_law_894 (by decide) ?_
            refine J_iadd (z := 1) dL_law_895 (by decide +kernel) ?_
            refine L_sld (i2 := 1) (v := 3) dL_law_896 (jin (by decide +kernel)) (by decide +kernel) hx1 ?_
            refine J_callV (st := [.int 0]) dL_law_897 cv_L_114 (c_X12_sorts_5 H0_98 H0_100 H0_111) H0_98 rfl rfl (Nat.le_of_ble_eq_true rfl) ⟨(Nat.le_of_ble_eq_true rfl), (Nat.le_of_ble_eq_true rfl)⟩ ⟨(Nat.le_of_ble_eq_true rfl), (Nat.le_of_ble_eq_true rfl)⟩ (fun r h9 hp => ?_)
            obtain ⟨rfl, rfl⟩ := hp
            refine J_nf (nh2 := 135) (ck2 := 135) (sk2 := 415506) (st2 := [.int 0, .int 0]) rfl rfl rfl rfl ?_
            refine J_app (L3 := [(98, .inr (12, [.int 0, .int 0, .ref 99, .ref 100, .ref 101, .ref 102, .ref 103, .ref 104, .ref 105, .int 0, .int (-1), .ref 106, .ref 107, .ref 108, .int 0, .int 0, .int 0, .int 0, .int 0, .int 0, .int 0, .ref 109, .int 0, .int 0, .ref 110, .ref 111, .ref 112, .ref 113, .ref 114, .ref 115, .ref 116, .ref 117, .int 1, .int 0, .int 0, .int (-1), .ref 118, .ref 119, .ref 120, .ref 121, .ref 122, .ref 123, .ref 124, .ref 125, .ref 126, .ref 127, .ref 128, .ref 129, .int (-1), .ref 130, .ref 131, .ref 132, .ref 133, .ref 134, .int 0, .int 0])), (111, .inl (0, 1260, .inl (upd (fun _ => 0) 0 0)))]) rfl ?_
            refine J_icmp_eq (tgt := 1221) dL_law_900 (by decide) (fun _ => ?_) (fun q => absurd (by decide +kernel) q)
            exact law_tail (Nat.le_of_ble_eq_true rfl) (Nat.le_of_ble_eq_true rfl)
          · have b1 : 4 ≤ x1.toInt ∧ x1.toInt ≤ 2147483647 := ⟨by omega, by omega⟩
            refine J_hc0 ?_
            refine J_aload_n dL_law_882 rfl rfl ?_
            refine J_sload_n dL_law_883 rfl rfl ?_
            refine J_iload_n dL_law_884 rfl rfl ?_
            refine J_iconst (v := 1) dL_law_885 (by decide) ?_
            refine J_iadd (z := 1) dL_law_886 (by decide +kernel) ?_
            refine L_sld (i2 := 1) (v := x1) dL_law_887 (jin (by decide +kernel)) (by decide +kernel) hx1 ?_
            refine J_callV (st := []) dL_law_888 cv_L_111 (c_X11_sorts_6 (x1) b1 H0_0 H0_1 H0_85) H0_0 rfl rfl (Nat.le_of_ble_eq_true rfl) ⟨(Nat.le_of_ble_eq_true rfl), (Nat.le_of_ble_eq_true rfl)⟩ ⟨(Nat.le_of_ble_eq_true rfl), (Nat.le_of_ble_eq_true rfl)⟩ (fun r h9 hp => ?_)
            obtain ⟨rfl, rfl⟩ := hp
            refine J_nf (nh2 := 135) (ck2 := 135) (sk2 := 415506) (st2 := [.int (-1)]) rfl rfl rfl rfl ?_
            refine J_aload_n dL_law_891 rfl rfl ?_
            refine J_sload_n dL_law_892 rfl rfl ?_
            refine J_iload_n dL_law_893 rfl rfl ?_
            refine J_iconst (v := 1) dL_law_894 (by decide) ?_
            refine J_iadd (z := 1) dL_law_895 (by decide +kernel) ?_
            refine L_sld (i2 := 1) (v := x1) dL_law_896 (jin (by decide +kernel)) (by decide +kernel) hx1 ?_
            refine J_callV (st := [.int (-1)]) dL_law_897 cv_L_114 (c_X12_sorts_6 (x1) b1) H0_98 rfl rfl (Nat.le_of_ble_eq_true rfl) ⟨(Nat.le_of_ble_eq_true rfl), (Nat.le_of_ble_eq_true rfl)⟩ ⟨(Nat.le_of_ble_eq_true rfl), (Nat.le_of_ble_eq_true rfl)⟩ (fun r h9 hp => ?_)
            obtain ⟨rfl, rfl⟩ := hp
            refine J_nf (nh2 := 135) (ck2 := 135) (sk2 := 415506) (st2 := [.int (-1), .int (-1)]) rfl rfl rfl rfl ?_
            refine J_icmp_eq (tgt := 1221) dL_law_900 (by decide) (fun _ => ?_) (fun q => absurd (by decide +kernel) q)
            exact law_tail (Nat.le_of_ble_eq_true rfl) (Nat.le_of_ble_eq_true rfl)
set_option maxHeartbeats 4000000 in
set_option maxRecDepth 100000 in
theorem law_case_24 {l : Launch} {G : jG} {b : Nat} {xs : Nat → Int32} (x1 : Int32) (hx1 : xs 1 = x1) : J l G ML_law room_1 (lE b 6 xs G) lQ (135, H0) 135 415506 905 [some (.retAddr 0), some (.ref 0), some (.ref 98), some (.int 0)] [] := by
  have r1 := i32_rng x1
  rcases i_cut x1.toInt 0 with h_0 | h_0
  · have b1 : (-2147483648) ≤ x1.toInt ∧ x1.toInt ≤ (-1) := ⟨by omega, by omega⟩
    refine J_hc0 ?_
    refine J_aload_n dL_law_905 rfl rfl ?_
    refine J_sload_n dL_law_906 rfl rfl ?_
    refine J_iload_n dL_law_907 rfl rfl ?_
    refine J_iconst (v := 1) dL_law_908 (by decide) ?_
    refine J_iadd (z := 1) dL_law_909 (by decide +kernel) ?_
    refine L_sld (i2 := 1) (v := x1) dL_law_910 (jin (by decide +kernel)) (by decide +kernel) hx1 ?_
    refine J_callV (st := []) dL_law_911 cv_L_115 (c_X11_sorted_1 (x1) b1 H0_0 H0_51) H0_0 rfl rfl (Nat.le_of_ble_eq_true rfl) ⟨(Nat.le_of_ble_eq_true rfl), (Nat.le_of_ble_eq_true rfl)⟩ ⟨(Nat.le_of_ble_eq_true rfl), (Nat.le_of_ble_eq_true rfl)⟩ (fun r h9 hp => ?_)
    obtain ⟨rfl, rfl⟩ := hp
    refine J_nf (nh2 := 135) (ck2 := 135) (sk2 := 415506) (st2 := [.int (-1)]) rfl rfl rfl rfl ?_
    refine J_aload_n dL_law_914 rfl rfl ?_
    refine J_sload_n dL_law_915 rfl rfl ?_
    refine J_iload_n dL_law_916 rfl rfl ?_
    refine J_iconst (v := 1) dL_law_917 (by decide) ?_
    refine J_iadd (z := 1) dL_law_918 (by decide +kernel) ?_
    refine L_sld (i2 := 1) (v := x1) dL_law_919 (jin (by decide +kernel)) (by decide +kernel) hx1 ?_
    refine J_callV (st := [.int (-1)]) dL_law_920 cv_L_118 (c_X12_sorted_1 (x1) b1 H0_98 H0_100 H0_111) H0_98 rfl rfl (Nat.le_of_ble_eq_true rfl) ⟨(Nat.le_of_ble_eq_true rfl), (Nat.le_of_ble_eq_true rfl)⟩ ⟨(Nat.le_of_ble_eq_true rfl), (Nat.le_of_ble_eq_true rfl)⟩ (fun r h9 hp => ?_)
    obtain ⟨rfl, rfl⟩ := hp
    refine J_nf (nh2 := 135) (ck2 := 135) (sk2 := 415506) (st2 := [.int (-1), .int (-1)]) rfl rfl rfl rfl ?_
    refine J_app (L3 := [(98, .inr (12, [.int 0, .int 0, .ref 99, .ref 100, .ref 101, .ref 102, .ref 103, .ref 104, .ref 105, .int 0, .int (-1), .ref 106, .ref 107, .ref 108, .int 0, .int 0, .int 0, .int 0, .int 0, .int 0, .int 0, .ref 109, .int 0, .int 0, .ref 110, .ref 111, .ref 112, .ref 113, .ref 114, .ref 115, .ref 116, .ref 117, .int 1, .int 0, .int 0, .int (-1), .ref 118, .ref 119, .ref 120, .ref 121, .ref 122, .ref 123, .ref 124, .ref 125, .ref 126, .ref 127, .ref 128, .ref 129, .int 0, .ref 130, .ref 131, .ref 132, .ref 133, .ref 134, .int 0, .int 0])), (111, .inl (0, 1260, .inl (upd (fun _ => 0) 0 0)))]) rfl ?_
    refine J_icmp_eq (tgt := 1221) dL_law_923 (by decide) (fun _ => ?_) (fun q => absurd (by decide +kernel) q)
    exact law_tail (Nat.le_of_ble_eq_true rfl) (Nat.le_of_ble_eq_true rfl)
  · rcases i_cut x1.toInt 1 with h_1 | h_1
    · obtain rfl : x1 = 0 := by rw [fa_eq, kc_0]; omega
      refine J_hc0 ?_
      refine J_aload_n dL_law_905 rfl rfl ?_
      refine J_sload_n dL_law_906 rfl rfl ?_
      refine J_iload_n dL_law_907 rfl rfl ?_
      refine J_iconst (v := 1) dL_law_908 (by decide) ?_
      refine J_iadd (z := 1) dL_law_909 (by decide +kernel) ?_
      refine L_sld (i2 := 1) (v := 0) dL_law_910 (jin (by decide +kernel)) (by decide +kernel) hx1 ?_
      refine J_callV (st := []) dL_law_911 cv_L_115 (c_X11_sorted_2 H0_0 H0_1 H0_51 H0_52 H0_85) H0_0 rfl rfl (Nat.le_of_ble_eq_true rfl) ⟨(Nat.le_of_ble_eq_true rfl), (Nat.le_of_ble_eq_true rfl)⟩ ⟨(Nat.le_of_ble_eq_true rfl), (Nat.le_of_ble_eq_true rfl)⟩ (fun r h9 hp => ?_)
      obtain ⟨rfl, rfl⟩ := hp
      refine J_nf (nh2 := 135) (ck2 := 135) (sk2 := 415506) (st2 := [.int 0]) rfl rfl rfl rfl ?_
      refine J_aload_n dL_law_914 rfl rfl ?_
      refine J_sload_n dL_law_915 rfl rfl ?_
      refine J_iload_n dL_law_916 rfl rfl ?_
      refine J_iconst (v := 1) dL_law_917 (by decide) ?_
      refine J_iadd (z := 1) dL_law_918 (by decide +kernel) ?_
      refine L_sld (i2 := 1) (v := 0) dL_law_919 (jin (by decide +kernel)) (by decide +kernel) hx1 ?_
      refine J_callV (st := [.int 0]) dL_law_920 cv_L_118 (c_X12_sorted_2 H0_98 H0_100 H0_111) H0_98 rfl rfl (Nat.le_of_ble_eq_true rfl) ⟨(Nat.le_of_ble_eq_true rfl), (Nat.le_of_ble_eq_true rfl)⟩ ⟨(Nat.le_of_ble_eq_true rfl), (Nat.le_of_ble_eq_true rfl)⟩ (fun r h9 hp => ?_)
      obtain ⟨rfl, rfl⟩ := hp
      refine J_nf (nh2 := 135) (ck2 := 135) (sk2 := 415506) (st2 := [.int 0, .int 0]) rfl rfl rfl rfl ?_
      refine J_app (L3 := [(98, .inr (12, [.int 0, .int 0, .ref 99, .ref 100, .ref 101, .ref 102, .ref 103, .ref 104, .ref 105, .int 0, .int (-1), .ref 106, .ref 107, .ref 108, .int 0, .int 0, .int 0, .int 0, .int 0, .int 0, .int 0, .ref 109, .int 0, .int 0, .ref 110, .ref 111, .ref 112, .ref 113, .ref 114, .ref 115, .ref 116, .ref 117, .int 1, .int 0, .int 0, .int (-1), .ref 118, .ref 119, .ref 120, .ref 121, .ref 122, .ref 123, .ref 124, .ref 125, .ref 126, .ref 127, .ref 128, .ref 129, .int 0, .ref 130, .ref 131, .ref 132, .ref 133, .ref 134, .int 0, .int 0])), (111, .inl (0, 1260, .inl (upd (fun _ => 0) 0 0)))]) rfl ?_
      refine J_icmp_eq (tgt := 1221) dL_law_923 (by decide) (fun _ => ?_) (fun q => absurd (by decide +kernel) q)
      exact law_tail (Nat.le_of_ble_eq_true rfl) (Nat.le_of_ble_eq_true rfl)
    · have b1 : 1 ≤ x1.toInt ∧ x1.toInt ≤ 2147483647 := ⟨by omega, by omega⟩
      refine J_hc0 ?_
      refine J_aload_n dL_law_905 rfl rfl ?_
      refine J_sload_n dL_law_906 rfl rfl ?_
      refine J_iload_n dL_law_907 rfl rfl ?_
      refine J_iconst (v := 1) dL_law_908 (by decide) ?_
      refine J_iadd (z := 1) dL_law_909 (by decide +kernel) ?_
      refine L_sld (i2 := 1) (v := x1) dL_law_910 (jin (by decide +kernel)) (by decide +kernel) hx1 ?_
      refine J_callV (st := []) dL_law_911 cv_L_115 (c_X11_sorted_3 (x1) b1 H0_0 H0_51) H0_0 rfl rfl (Nat.le_of_ble_eq_true rfl) ⟨(Nat.le_of_ble_eq_true rfl), (Nat.le_of_ble_eq_true rfl)⟩ ⟨(Nat.le_of_ble_eq_true rfl), (Nat.le_of_ble_eq_true rfl)⟩ (fun r h9 hp => ?_)
      obtain ⟨rfl, rfl⟩ := hp
      refine J_nf (nh2 := 135) (ck2 := 135) (sk2 := 415506) (st2 := [.int (-1)]) rfl rfl rfl rfl ?_
      refine J_aload_n dL_law_914 rfl rfl ?_
      refine J_sload_n dL_law_915 rfl rfl ?_
      refine J_iload_n dL_law_916 rfl rfl ?_
      refine J_iconst (v := 1) dL_law_917 (by decide) ?_
      refine J_iadd (z := 1) dL_law_918 (by decide +kernel) ?_
      refine L_sld (i2 := 1) (v := x1) dL_law_919 (jin (by decide +kernel)) (by decide +kernel) hx1 ?_
      refine J_callV (st := [.int (-1)]) dL_law_920 cv_L_118 (c_X12_sorted_3 (x1) b1 H0_98 H0_100 H0_111) H0_98 rfl rfl (Nat.le_of_ble_eq_true rfl) ⟨(Nat.le_of_ble_eq_true rfl), (Nat.le_of_ble_eq_true rfl)⟩ ⟨(Nat.le_of_ble_eq_true rfl), (Nat.le_of_ble_eq_true rfl)⟩ (fun r h9 hp => ?_)
      obtain ⟨rfl, rfl⟩ := hp
      refine J_nf (nh2 := 135) (ck2 := 135) (sk2 := 415506) (st2 := [.int (-1), .int (-1)]) rfl rfl rfl rfl ?_
      refine J_app (L3 := [(98, .inr (12, [.int 0, .int 0, .ref 99, .ref 100, .ref 101, .ref 102, .ref 103, .ref 104, .ref 105, .int 0, .int (-1), .ref 106, .ref 107, .ref 108, .int 0, .int 0, .int 0, .int 0, .int 0, .int 0, .int 0, .ref 109, .int 0, .int 0, .ref 110, .ref 111, .ref 112, .ref 113, .ref 114, .ref 115, .ref 116, .ref 117, .int 1, .int 0, .int 0, .int (-1), .ref 118, .ref 119, .ref 120, .ref 121, .ref 122, .ref 123, .ref 124, .ref 125, .ref 126, .ref 127, .ref 128, .ref 129, .int 0, .ref 130, .ref 131, .ref 132, .ref 133, .ref 134, .int 0, .int 0])), (111, .inl (0, 1260, .inl (upd (fun _ => 0) 0 0)))]) rfl ?_
      refine J_icmp_eq (tgt := 1221) dL_law_923 (by decide) (fun _ => ?_) (fun q => absurd (by decide +kernel) q)
      exact law_tail (Nat.le_of_ble_eq_true rfl) (Nat.le_of_ble_eq_true rfl)
set_option maxHeartbeats 4000000 in
set_option maxRecDepth 100000 in
theorem law_case_25 {l : Launch} {G : jG} {b : Nat} {xs : Nat → Int32} (x1 : Int32) (hx1 : xs 1 = x1) (x2 : Int32) (hx2 : xs 2 = x2) : J l G ML_law room_1 (lE b 6 xs G) lQ (135, H0) 135 415506 928 [some (.retAddr 0), some (.ref 0), some (.ref 98), some (.int 0)] [] := by
  have r1 := i32_rng x1
  have r2 := i32_rng x2
  rcases i_cut x2.toInt (-1) with h_0 | h_0
  · have b1 : (-2147483648) ≤ x1.toInt ∧ x1.toInt ≤ 2147483647 := ⟨by omega, by omega⟩
    have b2 : (-2147483648) ≤ x2.toInt ∧ x2.toInt ≤ (-2) := ⟨by omega, by omega⟩
    refine J_hc0 ?_
    refine J_aload_n dL_law_928 rfl rfl ?_
    refine J_sload_n dL_law_929 rfl rfl ?_
    refine J_iload_n dL_law_930 rfl rfl ?_
    refine J_iconst (v := 1) dL_law_931 (by decide) ?_
    refine J_iadd (z := 1) dL_law_932 (by decide +kernel) ?_
    refine L_sld (i2 := 1) (v := x1) dL_law_933 (jin (by decide +kernel)) (by decide +kernel) hx1 ?_
    refine J_sload_n dL_law_934 rfl rfl ?_
    refine J_iload_n dL_law_935 rfl rfl ?_
    refine J_iconst (v := 2) dL_law_936 (by decide) ?_
    refine J_iadd (z := 2) dL_law_937 (by decide +kernel) ?_
    refine L_sld (i2 := 2) (v := x2) dL_law_938 (jin (by decide +kernel)) (by decide +kernel) hx2 ?_
    refine J_callV (st := []) dL_law_939 cv_L_119 (c_X11_clue_1 (x1) b1 (x2) b2 H0_0 H0_96) H0_0 rfl rfl (Nat.le_of_ble_eq_true rfl) ⟨(Nat.le_of_ble_eq_true rfl), (Nat.le_of_ble_eq_true rfl)⟩ ⟨(Nat.le_of_ble_eq_true rfl), (Nat.le_of_ble_eq_true rfl)⟩ (fun r h9 hp => ?_)
    obtain ⟨rfl, rfl⟩ := hp
    refine J_nf (nh2 := 135) (ck2 := 135) (sk2 := 415506) (st2 := [.int (-1)]) rfl rfl rfl rfl ?_
    refine J_app (L3 := [(96, .inl (0, 5, .inl (upd (fun _ => 0) 0 1))), (0, .inr (11, [.ref 1, .ref 17, .ref 50, .ref 51, .ref 54, .ref 57, .ref 65, .ref 75, .ref 81, .ref 85, .ref 88, .ref 93, .ref 96, .int (-1), .int (-1), .ref 97, .int 0]))]) rfl ?_
    refine J_aload_n dL_law_942 rfl rfl ?_
    refine J_sload_n dL_law_943 rfl rfl ?_
    refine J_iload_n dL_law_944 rfl rfl ?_
    refine J_iconst (v := 1) dL_law_945 (by decide) ?_
    refine J_iadd (z := 1) dL_law_946 (by decide +kernel) ?_
    refine L_sld (i2 := 1) (v := x1) dL_law_947 (jin (by decide +kernel)) (by decide +kernel) hx1 ?_
    refine J_sload_n dL_law_948 rfl rfl ?_
    refine J_iload_n dL_law_949 rfl rfl ?_
    refine J_iconst (v := 2) dL_law_950 (by decide) ?_
    refine J_iadd (z := 2) dL_law_951 (by decide +kernel) ?_
    refine L_sld (i2 := 2) (v := x2) dL_law_952 (jin (by decide +kernel)) (by decide +kernel) hx2 ?_
    refine J_callV (st := [.int (-1)]) dL_law_953 cv_L_122 (c_X12_clue_1 (x1) b1 (x2) b2 H0_98 H0_99) H0_98 rfl rfl (Nat.le_of_ble_eq_true rfl) ⟨(Nat.le_of_ble_eq_true rfl), (Nat.le_of_ble_eq_true rfl)⟩ ⟨(Nat.le_of_ble_eq_true rfl), (Nat.le_of_ble_eq_true rfl)⟩ (fun r h9 hp => ?_)
    obtain ⟨rfl, rfl⟩ := hp
    refine J_nf (nh2 := 135) (ck2 := 135) (sk2 := 415506) (st2 := [.int (-1), .int (-1)]) rfl rfl rfl rfl ?_
    refine J_app (L3 := [(99, .inl (0, 7, .inl (upd (fun _ => 0) 1 1))), (98, .inr (12, [.int (-1), .int 0, .ref 99, .ref 100, .ref 101, .ref 102, .ref 103, .ref 104, .ref 105, .int 0, .int (-1), .ref 106, .ref 107, .ref 108, .int 0, .int 0, .int 0, .int 0, .int 0, .int 0, .int 0, .ref 109, .int 0, .int 0, .ref 110, .ref 111, .ref 112, .ref 113, .ref 114, .ref 115, .ref 116, .ref 117, .int 0, .int 0, .int (-1), .int (-1), .ref 118, .ref 119, .ref 120, .ref 121, .ref 122, .ref 123, .ref 124, .ref 125, .ref 126, .ref 127, .ref 128, .ref 129, .int 0, .ref 130, .ref 131, .ref 132, .ref 133, .ref 134, .int 0, .int 0])), (96, .inl (0, 5, .inl (upd (fun _ => 0) 0 1))), (0, .inr (11, [.ref 1, .ref 17, .ref 50, .ref 51, .ref 54, .ref 57, .ref 65, .ref 75, .ref 81, .ref 85, .ref 88, .ref 93, .ref 96, .int (-1), .int (-1), .ref 97, .int 0]))]) rfl ?_
    refine J_icmp_eq (tgt := 1221) dL_law_956 (by decide) (fun _ => ?_) (fun q => absurd (by decide +kernel) q)
    exact law_tail (Nat.le_of_ble_eq_true rfl) (Nat.le_of_ble_eq_true rfl)
  · rcases i_cut x1.toInt 0 with h_1 | h_1
    · have b1 : (-2147483648) ≤ x1.toInt ∧ x1.toInt ≤ (-1) := ⟨by omega, by omega⟩
      have b2 : (-1) ≤ x2.toInt ∧ x2.toInt ≤ 2147483647 := ⟨by omega, by omega⟩
      refine J_hc0 ?_
      refine J_aload_n dL_law_928 rfl rfl ?_
      refine J_sload_n dL_law_929 rfl rfl ?_
      refine J_iload_n dL_law_930 rfl rfl ?_
      refine J_iconst (v := 1) dL_law_931 (by decide) ?_
      refine J_iadd (z := 1) dL_law_932 (by decide +kernel) ?_
      refine L_sld (i2 := 1) (v := x1) dL_law_933 (jin (by decide +kernel)) (by decide +kernel) hx1 ?_
      refine J_sload_n dL_law_934 rfl rfl ?_
      refine J_iload_n dL_law_935 rfl rfl ?_
      refine J_iconst (v := 2) dL_law_936 (by decide) ?_
      refine J_iadd (z := 2) dL_law_937 (by decide +kernel) ?_
      refine L_sld (i2 := 2) (v := x2) dL_law_938 (jin (by decide +kernel)) (by decide +kernel) hx2 ?_
      refine J_callV (st := []) dL_law_939 cv_L_119 (c_X11_clue_2 (x1) b1 (x2) b2 H0_0 H0_51 H0_96) H0_0 rfl rfl (Nat.le_of_ble_eq_true rfl) ⟨(Nat.le_of_ble_eq_true rfl), (Nat.le_of_ble_eq_true rfl)⟩ ⟨(Nat.le_of_ble_eq_true rfl), (Nat.le_of_ble_eq_true rfl)⟩ (fun r h9 hp => ?_)
      obtain ⟨rfl, rfl⟩ := hp
      refine J_nf (nh2 := 135) (ck2 := 135) (sk2 := 415506) (st2 := [.int (-2)]) rfl rfl rfl rfl ?_
      refine J_app (L3 := [(96, .inl (0, 5, .inl (upd (fun _ => 0) 1 1))), (0, .inr (11, [.ref 1, .ref 17, .ref 50, .ref 51, .ref 54, .ref 57, .ref 65, .ref 75, .ref 81, .ref 85, .ref 88, .ref 93, .ref 96, .int (-2), .int (-1), .ref 97, .int 0]))]) rfl ?_
      refine J_aload_n dL_law_942 rfl rfl ?_
      refine J_sload_n dL_law_943 rfl rfl ?_
      refine J_iload_n dL_law_944 rfl rfl ?_
      refine J_iconst (v := 1) dL_law_945 (by decide) ?_
      refine J_iadd (z := 1) dL_law_946 (by decide +kernel) ?_
      refine L_sld (i2 := 1) (v := x1) dL_law_947 (jin (by decide +kernel)) (by decide +kernel) hx1 ?_
      refine J_sload_n dL_law_948 rfl rfl ?_
      refine J_iload_n dL_law_949 rfl rfl ?_
      refine J_iconst (v := 2) dL_law_950 (by decide) ?_
      refine J_iadd (z := 2) dL_law_951 (by decide +kernel) ?_
      refine L_sld (i2 := 2) (v := x2) dL_law_952 (jin (by decide +kernel)) (by decide +kernel) hx2 ?_
      refine J_callV (st := [.int (-2)]) dL_law_953 cv_L_122 (c_X12_clue_2 (x1) b1 (x2) b2 H0_98 H0_99 H0_100 H0_111) H0_98 rfl rfl (Nat.le_of_ble_eq_true rfl) ⟨(Nat.le_of_ble_eq_true rfl), (Nat.le_of_ble_eq_true rfl)⟩ ⟨(Nat.le_of_ble_eq_true rfl), (Nat.le_of_ble_eq_true rfl)⟩ (fun r h9 hp => ?_)
      obtain ⟨rfl, rfl⟩ := hp
      refine J_nf (nh2 := 135) (ck2 := 135) (sk2 := 415506) (st2 := [.int (-2), .int (-2)]) rfl rfl rfl rfl ?_
      refine J_app (L3 := [(99, .inl (0, 7, .inl (upd (fun _ => 0) 2 1))), (98, .inr (12, [.int (-2), .int 0, .ref 99, .ref 100, .ref 101, .ref 102, .ref 103, .ref 104, .ref 105, .int 0, .int (-1), .ref 106, .ref 107, .ref 108, .int 0, .int 0, .int 0, .int 0, .int 0, .int 0, .int 0, .ref 109, .int 0, .int 0, .ref 110, .ref 111, .ref 112, .ref 113, .ref 114, .ref 115, .ref 116, .ref 117, .int 1, .int 0, .int 0, .int (-1), .ref 118, .ref 119, .ref 120, .ref 121, .ref 122, .ref 123, .ref 124, .ref 125, .ref 126, .ref 127, .ref 128, .ref 129, .int 0, .ref 130, .ref 131, .ref 132, .ref 133, .ref 134, .int 0, .int 0])), (111, .inl (0, 1260, .inl (upd (fun _ => 0) 0 0))), (96, .inl (0, 5, .inl (upd (fun _ => 0) 1 1))), (0, .inr (11, [.ref 1, .ref 17, .ref 50, .ref 51, .ref 54, .ref 57, .ref 65, .ref 75, .ref 81, .ref 85, .ref 88, .ref 93, .ref 96, .int (-2), .int (-1), .ref 97, .int 0]))]) rfl ?_
      refine J_icmp_eq (tgt := 1221) dL_law_956 (by decide) (fun _ => ?_) (fun q => absurd (by decide +kernel) q)
      exact law_tail (Nat.le_of_ble_eq_true rfl) (Nat.le_of_ble_eq_true rfl)
    · rcases i_cut x1.toInt 1 with h_2 | h_2
      · obtain rfl : x1 = 0 := by rw [fa_eq, kc_0]; omega
        have b2 : (-1) ≤ x2.toInt ∧ x2.toInt ≤ 2147483647 := ⟨by omega, by omega⟩
        refine J_hc0 ?_
        refine J_aload_n dL_law_928 rfl rfl ?_
        refine J_sload_n dL_law_929 rfl rfl ?_
        refine J_iload_n dL_law_930 rfl rfl ?_
        refine J_iconst (v := 1) dL_law_931 (by decide) ?_
        refine J_iadd (z := 1) dL_law_932 (by decide +kernel) ?_
        refine L_sld (i2 := 1) (v := 0) dL_law_933 (jin (by decide +kernel)) (by decide +kernel) hx1 ?_
        refine J_sload_n dL_law_934 rfl rfl ?_
        refine J_iload_n dL_law_935 rfl rfl ?_
        refine J_iconst (v := 2) dL_law_936 (by decide) ?_
        refine J_iadd (z := 2) dL_law_937 (by decide +kernel) ?_
        refine L_sld (i2 := 2) (v := x2) dL_law_938 (jin (by decide +kernel)) (by decide +kernel) hx2 ?_
        refine J_callV (st := []) dL_law_939 cv_L_119 (c_X11_clue_3 (x2) b2 H0_0 H0_1 H0_13 H0_14 H0_51 H0_88) H0_0 rfl rfl (Nat.le_of_ble_eq_true rfl) ⟨(Nat.le_of_ble_eq_true rfl), (Nat.le_of_ble_eq_true rfl)⟩ ⟨(Nat.le_of_ble_eq_true rfl), (Nat.le_of_ble_eq_true rfl)⟩ (fun r h9 hp => ?_)
        obtain ⟨rfl, rfl⟩ := hp
        refine J_nf (nh2 := 135) (ck2 := 135) (sk2 := 415506) (st2 := [.int 1]) rfl rfl rfl rfl ?_
        refine J_app (L3 := [(0, .inr (11, [.ref 1, .ref 17, .ref 50, .ref 51, .ref 54, .ref 57, .ref 65, .ref 75, .ref 81, .ref 85, .ref 88, .ref 93, .ref 96, .int 0, .int (-1), .ref 97, .int 0])), (88, .inr (6, [.ref 1, .ref 51, .ref 57, .ref 65, .ref 89, .ref 90, .int 0, .int (-1), .ref 91, .ref 92, .int (-1), .int (-1), .int (-1)])), (1, .inr (8, [.ref 2, .ref 3, .ref 4, .int 0, .int (-1), .ref 11, .ref 12, .int 0, .ref 13, .ref 14, .int 1, .ref 15, .ref 16, .int 0])), (14, .inl (0, 6, .inl (upd (fun _ => 0) 0 x2))), (13, .inl (0, 6, .inl (upd (fun _ => 0) 0 0)))]) rfl ?_
        refine J_aload_n dL_law_942 rfl rfl ?_
        refine J_sload_n dL_law_943 rfl rfl ?_
        refine J_iload_n dL_law_944 rfl rfl ?_
        refine J_iconst (v := 1) dL_law_945 (by decide) ?_
        refine J_iadd (z := 1) dL_law_946 (by decide +kernel) ?_
        refine L_sld (i2 := 1) (v := 0) dL_law_947 (jin (by decide +kernel)) (by decide +kernel) hx1 ?_
        refine J_sload_n dL_law_948 rfl rfl ?_
        refine J_iload_n dL_law_949 rfl rfl ?_
        refine J_iconst (v := 2) dL_law_950 (by decide) ?_
        refine J_iadd (z := 2) dL_law_951 (by decide +kernel) ?_
        refine L_sld (i2 := 2) (v := x2) dL_law_952 (jin (by decide +kernel)) (by decide +kernel) hx2 ?_
        refine J_callV (st := [.int 1]) dL_law_953 cv_L_122 (c_X12_clue_3 (x2) b2 H0_98 H0_100 H0_111) H0_98 rfl rfl (Nat.le_of_ble_eq_true rfl) ⟨(Nat.le_of_ble_eq_true rfl), (Nat.le_of_ble_eq_true rfl)⟩ ⟨(Nat.le_of_ble_eq_true rfl), (Nat.le_of_ble_eq_true rfl)⟩ (fun r h9 hp => ?_)
        obtain ⟨rfl, rfl⟩ := hp
        refine J_nf (nh2 := 135) (ck2 := 135) (sk2 := 415506) (st2 := [.int 1, .int 1]) rfl rfl rfl rfl ?_
        refine J_app (L3 := [(98, .inr (12, [.int 0, .int 1, .ref 99, .ref 100, .ref 101, .ref 102, .ref 103, .ref 104, .ref 105, .int 0, .int (-1), .ref 106, .ref 107, .ref 108, .int 0, .int 0, .int 0, .int 0, .int 0, .int 0, .int 0, .ref 109, .int 0, .int 0, .ref 110, .ref 111, .ref 112, .ref 113, .ref 114, .ref 115, .ref 116, .ref 117, .int 1, .int 0, .int 0, .int (-1), .ref 118, .ref 119, .ref 120, .ref 121, .ref 122, .ref 123, .ref 124, .ref 125, .ref 126, .ref 127, .ref 128, .ref 129, .int 0, .ref 130, .ref 131, .ref 132, .ref 133, .ref 134, .int 0, .int 0])), (100, .inl (0, 4870, .inl (upd (upd (upd (upd (fun _ => 0) 63 (-1)) 47 0) 48 x2) 61 1))), (111, .inl (0, 1260, .inl (upd (fun _ => 0) 0 0))), (0, .inr (11, [.ref 1, .ref 17, .ref 50, .ref 51, .ref 54, .ref 57, .ref 65, .ref 75, .ref 81, .ref 85, .ref 88, .ref 93, .ref 96, .int 0, .int (-1), .ref 97, .int 0])), (88, .inr (6, [.ref 1, .ref 51, .ref 57, .ref 65, .ref 89, .ref 90, .int 0, .int (-1), .ref 91, .ref 92, .int (-1), .int (-1), .int (-1)])), (1, .inr (8, [.ref 2, .ref 3, .ref 4, .int 0, .int (-1), .ref 11, .ref 12, .int 0, .ref 13, .ref 14, .int 1, .ref 15, .ref 16, .int 0])), (14, .inl (0, 6, .inl (upd (fun _ => 0) 0 x2))), (13, .inl (0, 6, .inl (upd (fun _ => 0) 0 0)))]) rfl ?_
        refine J_icmp_eq (tgt := 1221) dL_law_956 (by decide) (fun _ => ?_) (fun q => absurd (by decide +kernel) q)
        exact law_tail (Nat.le_of_ble_eq_true rfl) (Nat.le_of_ble_eq_true rfl)
      · have b1 : 1 ≤ x1.toInt ∧ x1.toInt ≤ 2147483647 := ⟨by omega, by omega⟩
        have b2 : (-1) ≤ x2.toInt ∧ x2.toInt ≤ 2147483647 := ⟨by omega, by omega⟩
        refine J_hc0 ?_
        refine J_aload_n dL_law_928 rfl rfl ?_
        refine J_sload_n dL_law_929 rfl rfl ?_
        refine J_iload_n dL_law_930 rfl rfl ?_
        refine J_iconst (v := 1) dL_law_931 (by decide) ?_
        refine J_iadd (z := 1) dL_law_932 (by decide +kernel) ?_
        refine L_sld (i2 := 1) (v := x1) dL_law_933 (jin (by decide +kernel)) (by decide +kernel) hx1 ?_
        refine J_sload_n dL_law_934 rfl rfl ?_
        refine J_iload_n dL_law_935 rfl rfl ?_
        refine J_iconst (v := 2) dL_law_936 (by decide) ?_
        refine J_iadd (z := 2) dL_law_937 (by decide +kernel) ?_
        refine L_sld (i2 := 2) (v := x2) dL_law_938 (jin (by decide +kernel)) (by decide +kernel) hx2 ?_
        refine J_callV (st := []) dL_law_939 cv_L_119 (c_X11_clue_4 (x1) b1 (x2) b2 H0_0 H0_51 H0_96) H0_0 rfl rfl (Nat.le_of_ble_eq_true rfl) ⟨(Nat.le_of_ble_eq_true rfl), (Nat.le_of_ble_eq_true rfl)⟩ ⟨(Nat.le_of_ble_eq_true rfl), (Nat.le_of_ble_eq_true rfl)⟩ (fun r h9 hp => ?_)
        obtain ⟨rfl, rfl⟩ := hp
        refine J_nf (nh2 := 135) (ck2 := 135) (sk2 := 415506) (st2 := [.int (-2)]) rfl rfl rfl rfl ?_
        refine J_app (L3 := [(96, .inl (0, 5, .inl (upd (fun _ => 0) 1 1))), (0, .inr (11, [.ref 1, .ref 17, .ref 50, .ref 51, .ref 54, .ref 57, .ref 65, .ref 75, .ref 81, .ref 85, .ref 88, .ref 93, .ref 96, .int (-2), .int (-1), .ref 97, .int 0]))]) rfl ?_
        refine J_aload_n dL_law_942 rfl rfl ?_
        refine J_sload_n dL_law_943 rfl rfl ?_
        refine J_iload_n dL_law_944 rfl rfl ?_
        refine J_iconst (v := 1) dL_law_945 (by decide) ?_
        refine J_iadd (z := 1) dL_law_946 (by decide +kernel) ?_
        refine L_sld (i2 := 1) (v := x1) dL_law_947 (jin (by decide +kernel)) (by decide +kernel) hx1 ?_
        refine J_sload_n dL_law_948 rfl rfl ?_
        refine J_iload_n dL_law_949 rfl rfl ?_
        refine J_iconst (v := 2) dL_law_950 (by decide) ?_
        refine J_iadd (z := 2) dL_law_951 (by decide +kernel) ?_
        refine L_sld (i2 := 2) (v := x2) dL_law_952 (jin (by decide +kernel)) (by decide +kernel) hx2 ?_
        refine J_callV (st := [.int (-2)]) dL_law_953 cv_L_122 (c_X12_clue_4 (x1) b1 (x2) b2 H0_98 H0_99 H0_100 H0_111) H0_98 rfl rfl (Nat.le_of_ble_eq_true rfl) ⟨(Nat.le_of_ble_eq_true rfl), (Nat.le_of_ble_eq_true rfl)⟩ ⟨(Nat.le_of_ble_eq_true rfl), (Nat.le_of_ble_eq_true rfl)⟩ (fun r h9 hp => ?_)
        obtain ⟨rfl, rfl⟩ := hp
        refine J_nf (nh2 := 135) (ck2 := 135) (sk2 := 415506) (st2 := [.int (-2), .int (-2)]) rfl rfl rfl rfl ?_
        refine J_app (L3 := [(99, .inl (0, 7, .inl (upd (fun _ => 0) 2 1))), (98, .inr (12, [.int (-2), .int 0, .ref 99, .ref 100, .ref 101, .ref 102, .ref 103, .ref 104, .ref 105, .int 0, .int (-1), .ref 106, .ref 107, .ref 108, .int 0, .int 0, .int 0, .int 0, .int 0, .int 0, .int 0, .ref 109, .int 0, .int 0, .ref 110, .ref 111, .ref 112, .ref 113, .ref 114, .ref 115, .ref 116, .ref 117, .int 1, .int 0, .int 0, .int (-1), .ref 118, .ref 119, .ref 120, .ref 121, .ref 122, .ref 123, .ref 124, .ref 125, .ref 126, .ref 127, .ref 128, .ref 129, .int 0, .ref 130, .ref 131, .ref 132, .ref 133, .ref 134, .int 0, .int 0])), (111, .inl (0, 1260, .inl (upd (fun _ => 0) 0 0))), (96, .inl (0, 5, .inl (upd (fun _ => 0) 1 1))), (0, .inr (11, [.ref 1, .ref 17, .ref 50, .ref 51, .ref 54, .ref 57, .ref 65, .ref 75, .ref 81, .ref 85, .ref 88, .ref 93, .ref 96, .int (-2), .int (-1), .ref 97, .int 0]))]) rfl ?_
        refine J_icmp_eq (tgt := 1221) dL_law_956 (by decide) (fun _ => ?_) (fun q => absurd (by decide +kernel) q)
        exact law_tail (Nat.le_of_ble_eq_true rfl) (Nat.le_of_ble_eq_true rfl)
set_option maxHeartbeats 4000000 in
set_option maxRecDepth 100000 in
theorem law_case_26 {l : Launch} {G : jG} {b : Nat} {xs : Nat → Int32}  : J l G ML_law room_1 (lE b 6 xs G) lQ (135, H0) 135 415506 961 [some (.retAddr 0), some (.ref 0), some (.ref 98), some (.int 0)] [] := by
  refine J_hc0 ?_
  refine J_aload_n dL_law_961 rfl rfl ?_
  refine J_callV (st := []) dL_law_962 cv_L_123 (c_X11_forget_1 H0_0 H0_1 H0_88) H0_0 rfl rfl (Nat.le_of_ble_eq_true rfl) ⟨(Nat.le_of_ble_eq_true rfl), (Nat.le_of_ble_eq_true rfl)⟩ ⟨(Nat.le_of_ble_eq_true rfl), (Nat.le_of_ble_eq_true rfl)⟩ (fun r h9 hp => ?_)
  obtain ⟨rfl, rfl⟩ := hp
  refine J_nf (nh2 := 135) (ck2 := 135) (sk2 := 415506) (st2 := [.int 0]) rfl rfl rfl rfl ?_
  refine J_app (L3 := [(88, .inr (6, [.ref 1, .ref 51, .ref 57, .ref 65, .ref 89, .ref 90, .int 0, .int (-1), .ref 91, .ref 92, .int (-1), .int (-1), .int (-1)])), (1, .inr (8, [.ref 2, .ref 3, .ref 4, .int 0, .int (-1), .ref 11, .ref 12, .int 0, .ref 13, .ref 14, .int 0, .ref 15, .ref 16, .int 0]))]) rfl ?_
  refine J_aload_n dL_law_965 rfl rfl ?_
  refine J_callV (st := [.int 0]) dL_law_966 cv_L_126 (c_X12_forget_1 H0_98 H0_100) H0_98 rfl rfl (Nat.le_of_ble_eq_true rfl) ⟨(Nat.le_of_ble_eq_true rfl), (Nat.le_of_ble_eq_true rfl)⟩ ⟨(Nat.le_of_ble_eq_true rfl), (Nat.le_of_ble_eq_true rfl)⟩ (fun r h9 hp => ?_)
  obtain ⟨rfl, rfl⟩ := hp
  refine J_nf (nh2 := 135) (ck2 := 135) (sk2 := 415506) (st2 := [.int 0, .int 0]) rfl rfl rfl rfl ?_
  refine J_app (L3 := [(98, .inr (12, [.int 0, .int 1, .ref 99, .ref 100, .ref 101, .ref 102, .ref 103, .ref 104, .ref 105, .int 0, .int (-1), .ref 106, .ref 107, .ref 108, .int 0, .int 0, .int 0, .int 0, .int 0, .int 0, .int 0, .ref 109, .int 0, .int 0, .ref 110, .ref 111, .ref 112, .ref 113, .ref 114, .ref 115, .ref 116, .ref 117, .int 0, .int 0, .int (-1), .int (-1), .ref 118, .ref 119, .ref 120, .ref 121, .ref 122, .ref 123, .ref 124, .ref 125, .ref 126, .ref 127, .ref 128, .ref 129, .int 0, .ref 130, .ref 131, .ref 132, .ref 133, .ref 134, .int 0, .int 0])), (100, .inl (0, 4870, .inl (upd (upd (fun _ => 0) 63 (-1)) 61 0))), (88, .inr (6, [.ref 1, .ref 51, .ref 57, .ref 65, .ref 89, .ref 90, .int 0, .int (-1), .ref 91, .ref 92, .int (-1), .int (-1), .int (-1)])), (1, .inr (8, [.ref 2, .ref 3, .ref 4, .int 0, .int (-1), .ref 11, .ref 12, .int 0, .ref 13, .ref 14, .int 0, .ref 15, .ref 16, .int 0]))]) rfl ?_
  refine J_icmp_eq (tgt := 1221) dL_law_969 (by decide) (fun _ => ?_) (fun q => absurd (by decide +kernel) q)
  exact law_tail (Nat.le_of_ble_eq_true rfl) (Nat.le_of_ble_eq_true rfl)
set_option maxHeartbeats 4000000 in
set_option maxRecDepth 100000 in
theorem law_case_27 {l : Launch} {G : jG} {b : Nat} {xs : Nat → Int32} (x1 : Int32) (hx1 : xs 1 = x1) : J l G ML_law room_1 (lE b 6 xs G) lQ (135, H0) 135 415506 974 [some (.retAddr 0), some (.ref 0), some (.ref 98), some (.int 0)] [] := by
  have r1 := i32_rng x1
  rcases i_cut x1.toInt (-1) with h_0 | h_0
  · have b1 : (-2147483648) ≤ x1.toInt ∧ x1.toInt ≤ (-2) := ⟨by omega, by omega⟩
    refine J_hc0 ?_
    refine J_aload_n dL_law_974 rfl rfl ?_
    refine J_sload_n dL_law_975 rfl rfl ?_
    refine J_iload_n dL_law_976 rfl rfl ?_
    refine J_iconst (v := 1) dL_law_977 (by decide) ?_
    refine J_iadd (z := 1) dL_law_978 (by decide +kernel) ?_
    refine L_sld (i2 := 1) (v := x1) dL_law_979 (jin (by decide +kernel)) (by decide +kernel) hx1 ?_
    refine J_callV (st := []) dL_law_980 cv_L_127 (c_X11_fits_1 (x1) b1 H0_0 H0_1 H0_3 H0_51 H0_57 H0_58 H0_59 H0_62 H0_63 H0_88 H0_89 H0_90) H0_0 rfl rfl (Nat.le_of_ble_eq_true rfl) ⟨(Nat.le_of_ble_eq_true rfl), (Nat.le_of_ble_eq_true rfl)⟩ ⟨(Nat.le_of_ble_eq_true rfl), (Nat.le_of_ble_eq_true rfl)⟩ (fun r h9 hp => ?_)
    obtain ⟨rfl, rfl⟩ := hp
    refine J_nf (nh2 := 136) (ck2 := 136) (sk2 := 415528) (st2 := [.int (-1)]) rfl rfl rfl rfl ?_
    refine J_app (L3 := [(88, .inr (6, [.ref 1, .ref 51, .ref 57, .ref 65, .ref 89, .ref 90, .int 1, .int 0, .ref 91, .ref 92, .int (-1), .int (-1), .int (-1)])), (90, .inl (0, 1260, .inl (upd (fun _ => 0) 0 0))), (89, .inl (2, 1260, .inl (upd (fun _ => 0) 0 1))), (57, .inr (9, [.ref 1, .ref 51, .ref 58, .ref 61, .ref 62, .ref 135, .ref 64, .int 0, .int 0, .int 0])), (62, .inl (0, 1260, .inl (upd (fun _ => 0) 0 (-1)))), (135, .inl (0, 22, .inl (fun _ => 0))), (59, .inl (0, 8, .inl (upd (upd (fun _ => 0) 6 0) 7 0)))]) rfl ?_
    refine J_aload_n dL_law_983 rfl rfl ?_
    refine J_sload_n dL_law_984 rfl rfl ?_
    refine J_iload_n dL_law_985 rfl rfl ?_
    refine J_iconst (v := 1) dL_law_986 (by decide) ?_
    refine J_iadd (z := 1) dL_law_987 (by decide +kernel) ?_
    refine L_sld (i2 := 1) (v := x1) dL_law_988 (jin (by decide +kernel)) (by decide +kernel) hx1 ?_
    refine J_callV (st := [.int (-1)]) dL_law_989 cv_L_130 (c_X12_fits_1 (x1) b1 H0_98 H0_100 H0_111 H0_114 H0_116 H0_130) H0_98 rfl rfl (Nat.le_of_ble_eq_true rfl) ⟨(Nat.le_of_ble_eq_true rfl), (Nat.le_of_ble_eq_true rfl)⟩ ⟨(Nat.le_of_ble_eq_true rfl), (Nat.le_of_ble_eq_true rfl)⟩ (fun r h9 hp => ?_)
    obtain ⟨rfl, rfl⟩ := hp
    refine J_nf (nh2 := 136) (ck2 := 136) (sk2 := 415528) (st2 := [.int (-1), .int (-1)]) rfl rfl rfl rfl ?_
    refine J_app (L3 := [(130, .inl (2, 1260, .inl (upd (fun _ => 0) 0 1))), (114, .inl (0, 1260, .inl (upd (fun _ => 0) 0 0))), (116, .inl (0, 1260, .inl (upd (fun _ => 0) 0 0))), (98, .inr (12, [.int 0, .int 0, .ref 99, .ref 100, .ref 101, .ref 102, .ref 103, .ref 104, .ref 105, .int 0, .int (-1), .ref 106, .ref 107, .ref 108, .int 0, .int 0, .int 0, .int 0, .int 0, .int 0, .int 0, .ref 109, .int 0, .int 0, .ref 110, .ref 111, .ref 112, .ref 113, .ref 114, .ref 115, .ref 116, .ref 117, .int 1, .int 0, .int 0, .int 0, .ref 118, .ref 119, .ref 120, .ref 121, .ref 122, .ref 123, .ref 124, .ref 125, .ref 126, .ref 127, .ref 128, .ref 129, .int 0, .ref 130, .ref 131, .ref 132, .ref 133, .ref 134, .int 0, .int 0])), (111, .inl (0, 1260, .inl (upd (fun _ => 0) 0 0))), (88, .inr (6, [.ref 1, .ref 51, .ref 57, .ref 65, .ref 89, .ref 90, .int 1, .int 0, .ref 91, .ref 92, .int (-1), .int (-1), .int (-1)])), (90, .inl (0, 1260, .inl (upd (fun _ => 0) 0 0))), (89, .inl (2, 1260, .inl (upd (fun _ => 0) 0 1))), (57, .inr (9, [.ref 1, .ref 51, .ref 58, .ref 61, .ref 62, .ref 135, .ref 64, .int 0, .int 0, .int 0])), (62, .inl (0, 1260, .inl (upd (fun _ => 0) 0 (-1)))), (135, .inl (0, 22, .inl (fun _ => 0))), (59, .inl (0, 8, .inl (upd (upd (fun _ => 0) 6 0) 7 0)))]) rfl ?_
    refine J_icmp_eq (tgt := 1221) dL_law_992 (by decide) (fun _ => ?_) (fun q => absurd (by decide +kernel) q)
    exact law_tail (Nat.le_of_ble_eq_true rfl) (Nat.le_of_ble_eq_true rfl)
  · rcases i_cut x1.toInt 0 with h_1 | h_1
    · obtain rfl : x1 = (-1) := by rw [fa_eq, kc_m1]; omega
      refine J_hc0 ?_
      refine J_aload_n dL_law_974 rfl rfl ?_
      refine J_sload_n dL_law_975 rfl rfl ?_
      refine J_iload_n dL_law_976 rfl rfl ?_
      refine J_iconst (v := 1) dL_law_977 (by decide) ?_
      refine J_iadd (z := 1) dL_law_978 (by decide +kernel) ?_
      refine L_sld (i2 := 1) (v := (-1)) dL_law_979 (jin (by decide +kernel)) (by decide +kernel) hx1 ?_
      refine J_callV (st := []) dL_law_980 cv_L_127 (c_X11_fits_2 H0_0 H0_1 H0_3 H0_51 H0_57 H0_58 H0_59 H0_62 H0_63 H0_88 H0_89 H0_90) H0_0 rfl rfl (Nat.le_of_ble_eq_true rfl) ⟨(Nat.le_of_ble_eq_true rfl), (Nat.le_of_ble_eq_true rfl)⟩ ⟨(Nat.le_of_ble_eq_true rfl), (Nat.le_of_ble_eq_true rfl)⟩ (fun r h9 hp => ?_)
      obtain ⟨rfl, rfl⟩ := hp
      refine J_nf (nh2 := 136) (ck2 := 136) (sk2 := 415528) (st2 := [.int 1]) rfl rfl rfl rfl ?_
      refine J_app (L3 := [(88, .inr (6, [.ref 1, .ref 51, .ref 57, .ref 65, .ref 89, .ref 90, .int 1, .int 0, .ref 91, .ref 92, .int (-1), .int (-1), .int (-1)])), (90, .inl (0, 1260, .inl (upd (fun _ => 0) 0 0))), (89, .inl (2, 1260, .inl (upd (fun _ => 0) 0 1))), (57, .inr (9, [.ref 1, .ref 51, .ref 58, .ref 61, .ref 62, .ref 135, .ref 64, .int 0, .int 0, .int 0])), (62, .inl (0, 1260, .inl (upd (fun _ => 0) 0 (-1)))), (135, .inl (0, 22, .inl (fun _ => 0))), (59, .inl (0, 8, .inl (upd (upd (fun _ => 0) 6 0) 7 0)))]) rfl ?_
      refine J_aload_n dL_law_983 rfl rfl ?_
      refine J_sload_n dL_law_984 rfl rfl ?_
      refine J_iload_n dL_law_985 rfl rfl ?_
      refine J_iconst (v := 1) dL_law_986 (by decide) ?_
      refine J_iadd (z := 1) dL_law_987 (by decide +kernel) ?_
      refine L_sld (i2 := 1) (v := (-1)) dL_law_988 (jin (by decide +kernel)) (by decide +kernel) hx1 ?_
      refine J_callV (st := [.int 1]) dL_law_989 cv_L_130 (c_X12_fits_2 H0_98 H0_100 H0_111 H0_114 H0_116 H0_130) H0_98 rfl rfl (Nat.le_of_ble_eq_true rfl) ⟨(Nat.le_of_ble_eq_true rfl), (Nat.le_of_ble_eq_true rfl)⟩ ⟨(Nat.le_of_ble_eq_true rfl), (Nat.le_of_ble_eq_true rfl)⟩ (fun r h9 hp => ?_)
      obtain ⟨rfl, rfl⟩ := hp
      refine J_nf (nh2 := 136) (ck2 := 136) (sk2 := 415528) (st2 := [.int 1, .int 1]) rfl rfl rfl rfl ?_
      refine J_app (L3 := [(130, .inl (2, 1260, .inl (upd (fun _ => 0) 0 1))), (114, .inl (0, 1260, .inl (upd (fun _ => 0) 0 0))), (116, .inl (0, 1260, .inl (upd (fun _ => 0) 0 0))), (98, .inr (12, [.int 0, .int 0, .ref 99, .ref 100, .ref 101, .ref 102, .ref 103, .ref 104, .ref 105, .int 0, .int (-1), .ref 106, .ref 107, .ref 108, .int 0, .int 0, .int 0, .int 0, .int 0, .int 0, .int 0, .ref 109, .int 0, .int 0, .ref 110, .ref 111, .ref 112, .ref 113, .ref 114, .ref 115, .ref 116, .ref 117, .int 1, .int 0, .int 0, .int 0, .ref 118, .ref 119, .ref 120, .ref 121, .ref 122, .ref 123, .ref 124, .ref 125, .ref 126, .ref 127, .ref 128, .ref 129, .int 0, .ref 130, .ref 131, .ref 132, .ref 133, .ref 134, .int 0, .int 0])), (111, .inl (0, 1260, .inl (upd (fun _ => 0) 0 0))), (88, .inr (6, [.ref 1, .ref 51, .ref 57, .ref 65, .ref 89, .ref 90, .int 1, .int 0, .ref 91, .ref 92, .int (-1), .int (-1), .int (-1)])), (90, .inl (0, 1260, .inl (upd (fun _ => 0) 0 0))), (89, .inl (2, 1260, .inl (upd (fun _ => 0) 0 1))), (57, .inr (9, [.ref 1, .ref 51, .ref 58, .ref 61, .ref 62, .ref 135, .ref 64, .int 0, .int 0, .int 0])), (62, .inl (0, 1260, .inl (upd (fun _ => 0) 0 (-1)))), (135, .inl (0, 22, .inl (fun _ => 0))), (59, .inl (0, 8, .inl (upd (upd (fun _ => 0) 6 0) 7 0)))]) rfl ?_
      refine J_icmp_eq (tgt := 1221) dL_law_992 (by decide) (fun _ => ?_) (fun q => absurd (by decide +kernel) q)
      exact law_tail (Nat.le_of_ble_eq_true rfl) (Nat.le_of_ble_eq_true rfl)
    · rcases i_cut x1.toInt 1 with h_2 | h_2
      · obtain rfl : x1 = 0 := by rw [fa_eq, kc_0]; omega
        refine J_hc0 ?_
        refine J_aload_n dL_law_974 rfl rfl ?_
        refine J_sload_n dL_law_975 rfl rfl ?_
        refine J_iload_n dL_law_976 rfl rfl ?_
        refine J_iconst (v := 1) dL_law_977 (by decide) ?_
        refine J_iadd (z := 1) dL_law_978 (by decide +kernel) ?_
        refine L_sld (i2 := 1) (v := 0) dL_law_979 (jin (by decide +kernel)) (by decide +kernel) hx1 ?_
        refine J_callV (st := []) dL_law_980 cv_L_127 (c_X11_fits_3 H0_0 H0_1 H0_3 H0_51 H0_57 H0_58 H0_59 H0_62 H0_63 H0_88 H0_89 H0_90) H0_0 rfl rfl (Nat.le_of_ble_eq_true rfl) ⟨(Nat.le_of_ble_eq_true rfl), (Nat.le_of_ble_eq_true rfl)⟩ ⟨(Nat.le_of_ble_eq_true rfl), (Nat.le_of_ble_eq_true rfl)⟩ (fun r h9 hp => ?_)
        obtain ⟨rfl, rfl⟩ := hp
        refine J_nf (nh2 := 136) (ck2 := 136) (sk2 := 415528) (st2 := [.int 0]) rfl rfl rfl rfl ?_
        refine J_app (L3 := [(88, .inr (6, [.ref 1, .ref 51, .ref 57, .ref 65, .ref 89, .ref 90, .int 1, .int 0, .ref 91, .ref 92, .int (-1), .int (-1), .int (-1)])), (90, .inl (0, 1260, .inl (upd (fun _ => 0) 0 0))), (89, .inl (2, 1260, .inl (upd (fun _ => 0) 0 1))), (57, .inr (9, [.ref 1, .ref 51, .ref 58, .ref 61, .ref 62, .ref 135, .ref 64, .int 0, .int 0, .int 0])), (62, .inl (0, 1260, .inl (upd (fun _ => 0) 0 (-1)))), (135, .inl (0, 22, .inl (fun _ => 0))), (59, .inl (0, 8, .inl (upd (upd (fun _ => 0) 6 0) 7 0)))]) rfl ?_
        refine J_aload_n dL_law_983 rfl rfl ?_
        refine J_sload_n dL_law_984 rfl rfl ?_
        refine J_iload_n dL_law_985 rfl rfl ?_
        refine J_iconst (v := 1) dL_law_986 (by decide) ?_
        refine J_iadd (z := 1) dL_law_987 (by decide +kernel) ?_
        refine L_sld (i2 := 1) (v := 0) dL_law_988 (jin (by decide +kernel)) (by decide +kernel) hx1 ?_
        refine J_callV (st := [.int 0]) dL_law_989 cv_L_130 (c_X12_fits_3 H0_98 H0_100 H0_111 H0_114 H0_116 H0_130) H0_98 rfl rfl (Nat.le_of_ble_eq_true rfl) ⟨(Nat.le_of_ble_eq_true rfl), (Nat.le_of_ble_eq_true rfl)⟩ ⟨(Nat.le_of_ble_eq_true rfl), (Nat.le_of_ble_eq_true rfl)⟩ (fun r h9 hp => ?_)
        obtain ⟨rfl, rfl⟩ := hp
        refine J_nf (nh2 := 136) (ck2 := 136) (sk2 := 415528) (st2 := [.int 0, .int 0]) rfl rfl rfl rfl ?_
        refine J_app (L3 := [(130, .inl (2, 1260, .inl (upd (fun _ => 0) 0 1))), (114, .inl (0, 1260, .inl (upd (fun _ => 0) 0 0))), (116, .inl (0, 1260, .inl (upd (fun _ => 0) 0 0))), (98, .inr (12, [.int 0, .int 0, .ref 99, .ref 100, .ref 101, .ref 102, .ref 103, .ref 104, .ref 105, .int 0, .int (-1), .ref 106, .ref 107, .ref 108, .int 0, .int 0, .int 0, .int 0, .int 0, .int 0, .int 0, .ref 109, .int 0, .int 0, .ref 110, .ref 111, .ref 112, .ref 113, .ref 114, .ref 115, .ref 116, .ref 117, .int 1, .int 0, .int 0, .int 0, .ref 118, .ref 119, .ref 120, .ref 121, .ref 122, .ref 123, .ref 124, .ref 125, .ref 126, .ref 127, .ref 128, .ref 129, .int 0, .ref 130, .ref 131, .ref 132, .ref 133, .ref 134, .int 0, .int 0])), (111, .inl (0, 1260, .inl (upd (fun _ => 0) 0 0))), (88, .inr (6, [.ref 1, .ref 51, .ref 57, .ref 65, .ref 89, .ref 90, .int 1, .int 0, .ref 91, .ref 92, .int (-1), .int (-1), .int (-1)])), (90, .inl (0, 1260, .inl (upd (fun _ => 0) 0 0))), (89, .inl (2, 1260, .inl (upd (fun _ => 0) 0 1))), (57, .inr (9, [.ref 1, .ref 51, .ref 58, .ref 61, .ref 62, .ref 135, .ref 64, .int 0, .int 0, .int 0])), (62, .inl (0, 1260, .inl (upd (fun _ => 0) 0 (-1)))), (135, .inl (0, 22, .inl (fun _ => 0))), (59, .inl (0, 8, .inl (upd (upd (fun _ => 0) 6 0) 7 0)))]) rfl ?_
        refine J_icmp_eq (tgt := 1221) dL_law_992 (by decide) (fun _ => ?_) (fun q => absurd (by decide +kernel) q)
        exact law_tail (Nat.le_of_ble_eq_true rfl) (Nat.le_of_ble_eq_true rfl)
      · have b1 : 1 ≤ x1.toInt ∧ x1.toInt ≤ 2147483647 := ⟨by omega, by omega⟩
        refine J_hc0 ?_
        refine J_aload_n dL_law_974 rfl rfl ?_
        refine J_sload_n dL_law_975 rfl rfl ?_
        refine J_iload_n dL_law_976 rfl rfl ?_
        refine J_iconst (v := 1) dL_law_977 (by decide) ?_
        refine J_iadd (z := 1) dL_law_978 (by decide +kernel) ?_
        refine L_sld (i2 := 1) (v := x1) dL_law_979 (jin (by decide +kernel)) (by decide +kernel) hx1 ?_
        refine J_callV (st := []) dL_law_980 cv_L_127 (c_X11_fits_4 (x1) b1 H0_0 H0_1 H0_3 H0_51 H0_57 H0_58 H0_59 H0_62 H0_63 H0_88 H0_89 H0_90) H0_0 rfl rfl (Nat.le_of_ble_eq_true rfl) ⟨(Nat.le_of_ble_eq_true rfl), (Nat.le_of_ble_eq_true rfl)⟩ ⟨(Nat.le_of_ble_eq_true rfl), (Nat.le_of_ble_eq_true rfl)⟩ (fun r h9 hp => ?_)
        obtain ⟨rfl, rfl⟩ := hp
        refine J_nf (nh2 := 136) (ck2 := 136) (sk2 := 415528) (st2 := [.int (-1)]) rfl rfl rfl rfl ?_
        refine J_app (L3 := [(88, .inr (6, [.ref 1, .ref 51, .ref 57, .ref 65, .ref 89, .ref 90, .int 1, .int 0, .ref 91, .ref 92, .int (-1), .int (-1), .int (-1)])), (90, .inl (0, 1260, .inl (upd (fun _ => 0) 0 0))), (89, .inl (2, 1260, .inl (upd (fun _ => 0) 0 1))), (57, .inr (9, [.ref 1, .ref 51, .ref 58, .ref 61, .ref 62, .ref 135, .ref 64, .int 0, .int 0, .int 0])), (62, .inl (0, 1260, .inl (upd (fun _ => 0) 0 (-1)))), (135, .inl (0, 22, .inl (fun _ => 0))), (59, .inl (0, 8, .inl (upd (upd (fun _ => 0) 6 0) 7 0)))]) rfl ?_
        refine J_aload_n dL_law_983 rfl rfl ?_
        refine J_sload_n dL_law_984 rfl rfl ?_
        refine J_iload_n dL_law_985 rfl rfl ?_
        refine J_iconst (v := 1) dL_law_986 (by decide) ?_
        refine J_iadd (z := 1) dL_law_987 (by decide +kernel) ?_
        refine L_sld (i2 := 1) (v := x1) dL_law_988 (jin (by decide +kernel)) (by decide +kernel) hx1 ?_
        refine J_callV (st := [.int (-1)]) dL_law_989 cv_L_130 (c_X12_fits_4 (x1) b1 H0_98 H0_100 H0_111 H0_114 H0_116 H0_130) H0_98 rfl rfl (Nat.le_of_ble_eq_true rfl) ⟨(Nat.le_of_ble_eq_true rfl), (Nat.le_of_ble_eq_true rfl)⟩ ⟨(Nat.le_of_ble_eq_true rfl), (Nat.le_of_ble_eq_true rfl)⟩ (fun r h9 hp => ?_)
        obtain ⟨rfl, rfl⟩ := hp
        refine J_nf (nh2 := 136) (ck2 := 136) (sk2 := 415528) (st2 := [.int (-1), .int (-1)]) rfl rfl rfl rfl ?_
        refine J_app (L3 := [(130, .inl (2, 1260, .inl (upd (fun _ => 0) 0 1))), (114, .inl (0, 1260, .inl (upd (fun _ => 0) 0 0))), (116, .inl (0, 1260, .inl (upd (fun _ => 0) 0 0))), (98, .inr (12, [.int 0, .int 0, .ref 99, .ref 100, .ref 101, .ref 102, .ref 103, .ref 104, .ref 105, .int 0, .int (-1), .ref 106, .ref 107, .ref 108, .int 0, .int 0, .int 0, .int 0, .int 0, .int 0, .int 0, .ref 109, .int 0, .int 0, .ref 110, .ref 111, .ref 112, .ref 113, .ref 114, .ref 115, .ref 116, .ref 117, .int 1, .int 0, .int 0, .int 0, .ref 118, .ref 119, .ref 120, .ref 121, .ref 122, .ref 123, .ref 124, .ref 125, .ref 126, .ref 127, .ref 128, .ref 129, .int 0, .ref 130, .ref 131, .ref 132, .ref 133, .ref 134, .int 0, .int 0])), (111, .inl (0, 1260, .inl (upd (fun _ => 0) 0 0))), (88, .inr (6, [.ref 1, .ref 51, .ref 57, .ref 65, .ref 89, .ref 90, .int 1, .int 0, .ref 91, .ref 92, .int (-1), .int (-1), .int (-1)])), (90, .inl (0, 1260, .inl (upd (fun _ => 0) 0 0))), (89, .inl (2, 1260, .inl (upd (fun _ => 0) 0 1))), (57, .inr (9, [.ref 1, .ref 51, .ref 58, .ref 61, .ref 62, .ref 135, .ref 64, .int 0, .int 0, .int 0])), (62, .inl (0, 1260, .inl (upd (fun _ => 0) 0 (-1)))), (135, .inl (0, 22, .inl (fun _ => 0))), (59, .inl (0, 8, .inl (upd (upd (fun _ => 0) 6 0) 7 0)))]) rfl ?_
        refine J_icmp_eq (tgt := 1221) dL_law_992 (by decide) (fun _ => ?_) (fun q => absurd (by decide +kernel) q)
        exact law_tail (Nat.le_of_ble_eq_true rfl) (Nat.le_of_ble_eq_true rfl)
set_option maxHeartbeats 4000000 in
set_option maxRecDepth 100000 in
theorem law_case_28 {l : Launch} {G : jG} {b : Nat} {xs : Nat → Int32} (x1 : Int32) (hx1 : xs 1 = x1) : J l G ML_law room_1 (lE b 6 xs G) lQ (135, H0) 135 415506 997 [some (.retAddr 0), some (.ref 0), some (.ref 98), some (.int 0)] [] := by
  have r1 := i32_rng x1
  rcases i_cut x1.toInt 0 with h_0 | h_0
  · have b1 : (-2147483648) ≤ x1.toInt ∧ x1.toInt ≤ (-1) := ⟨by omega, by omega⟩
    refine J_hc0 ?_
    refine J_aload_n dL_law_997 rfl rfl ?_
    refine J_sload_n dL_law_998 rfl rfl ?_
    refine J_iload_n dL_law_999 rfl rfl ?_
    refine J_iconst (v := 1) dL_law_1000 (by decide) ?_
    refine J_iadd (z := 1) dL_law_1001 (by decide +kernel) ?_
    refine L_sld (i2 := 1) (v := x1) dL_law_1002 (jin (by decide +kernel)) (by decide +kernel) hx1 ?_
    refine J_callV (st := []) dL_law_1003 cv_L_131 (c_X11_ask_1 (x1) b1 H0_0 H0_1 H0_3 H0_51 H0_57 H0_58 H0_59 H0_62 H0_63 H0_88 H0_89 H0_90) H0_0 rfl rfl (Nat.le_of_ble_eq_true rfl) ⟨(Nat.le_of_ble_eq_true rfl), (Nat.le_of_ble_eq_true rfl)⟩ ⟨(Nat.le_of_ble_eq_true rfl), (Nat.le_of_ble_eq_true rfl)⟩ (fun r h9 hp => ?_)
    obtain ⟨rfl, rfl⟩ := hp
    refine J_nf (nh2 := 136) (ck2 := 136) (sk2 := 415528) (st2 := [.int (-1)]) rfl rfl rfl rfl ?_
    refine J_app (L3 := [(88, .inr (6, [.ref 1, .ref 51, .ref 57, .ref 65, .ref 89, .ref 90, .int 1, .int 0, .ref 91, .ref 92, .int (-1), .int (-1), .int (-1)])), (90, .inl (0, 1260, .inl (upd (fun _ => 0) 0 0))), (89, .inl (2, 1260, .inl (upd (fun _ => 0) 0 1))), (57, .inr (9, [.ref 1, .ref 51, .ref 58, .ref 61, .ref 62, .ref 135, .ref 64, .int 0, .int 0, .int 0])), (62, .inl (0, 1260, .inl (upd (fun _ => 0) 0 (-1)))), (135, .inl (0, 22, .inl (fun _ => 0))), (59, .inl (0, 8, .inl (upd (upd (fun _ => 0) 6 0) 7 0)))]) rfl ?_
    refine J_aload_n dL_law_1006 rfl rfl ?_
    refine J_sload_n dL_law_1007 rfl rfl ?_
    refine J_iload_n dL_law_1008 rfl rfl ?_
    refine J_iconst (v := 1) dL_law_1009 (by decide) ?_
    refine J_iadd (z := 1) dL_law_1010 (by decide +kernel) ?_
    refine L_sld (i2 := 1) (v := x1) dL_law_1011 (jin (by decide +kernel)) (by decide +kernel) hx1 ?_
    refine J_callV (st := [.int (-1)]) dL_law_1012 cv_L_134 (c_X12_ask_1 (x1) b1) H0_98 rfl rfl (Nat.le_of_ble_eq_true rfl) ⟨(Nat.le_of_ble_eq_true rfl), (Nat.le_of_ble_eq_true rfl)⟩ ⟨(Nat.le_of_ble_eq_true rfl), (Nat.le_of_ble_eq_true rfl)⟩ (fun r h9 hp => ?_)
    obtain ⟨rfl, rfl⟩ := hp
    refine J_nf (nh2 := 136) (ck2 := 136) (sk2 := 415528) (st2 := [.int (-1), .int (-1)]) rfl rfl rfl rfl ?_
    refine J_icmp_eq (tgt := 1221) dL_law_1015 (by decide) (fun _ => ?_) (fun q => absurd (by decide +kernel) q)
    exact law_tail (Nat.le_of_ble_eq_true rfl) (Nat.le_of_ble_eq_true rfl)
  · rcases i_cut x1.toInt 2 with h_1 | h_1
    · rcases i_cut x1.toInt 1 with h_2 | h_2
      · obtain rfl : x1 = 0 := by rw [fa_eq, kc_0]; omega
        refine J_hc0 ?_
        refine J_aload_n dL_law_997 rfl rfl ?_
        refine J_sload_n dL_law_998 rfl rfl ?_
        refine J_iload_n dL_law_999 rfl rfl ?_
        refine J_iconst (v := 1) dL_law_1000 (by decide) ?_
        refine J_iadd (z := 1) dL_law_1001 (by decide +kernel) ?_
        refine L_sld (i2 := 1) (v := 0) dL_law_1002 (jin (by decide +kernel)) (by decide +kernel) hx1 ?_
        refine J_callV (st := []) dL_law_1003 cv_L_131 (c_X11_ask_2 H0_0 H0_1 H0_3 H0_51 H0_57 H0_58 H0_59 H0_62 H0_63 H0_88 H0_89 H0_90 H0_91 H0_92) H0_0 rfl rfl (Nat.le_of_ble_eq_true rfl) ⟨(Nat.le_of_ble_eq_true rfl), (Nat.le_of_ble_eq_true rfl)⟩ ⟨(Nat.le_of_ble_eq_true rfl), (Nat.le_of_ble_eq_true rfl)⟩ (fun r h9 hp => ?_)
        obtain ⟨rfl, rfl⟩ := hp
        refine J_nf (nh2 := 136) (ck2 := 136) (sk2 := 415528) (st2 := [.int 0]) rfl rfl rfl rfl ?_
        refine J_app (L3 := [(88, .inr (6, [.ref 1, .ref 51, .ref 57, .ref 65, .ref 89, .ref 90, .int 1, .int 0, .ref 91, .ref 92, .int 0, .int 1, .int 0])), (92, .inl (0, 1260, .inl (upd (fun _ => 0) 0 0))), (91, .inl (0, 1260, .inl (upd (upd (fun _ => 0) 0 (-1)) 0 0))), (90, .inl (0, 1260, .inl (upd (fun _ => 0) 0 0))), (89, .inl (2, 1260, .inl (upd (fun _ => 0) 0 1))), (57, .inr (9, [.ref 1, .ref 51, .ref 58, .ref 61, .ref 62, .ref 135, .ref 64, .int 0, .int 0, .int 0])), (62, .inl (0, 1260, .inl (upd (fun _ => 0) 0 (-1)))), (135, .inl (0, 22, .inl (fun _ => 0))), (59, .inl (0, 8, .inl (upd (upd (fun _ => 0) 6 0) 7 0)))]) rfl ?_
        refine J_aload_n dL_law_1006 rfl rfl ?_
        refine J_sload_n dL_law_1007 rfl rfl ?_
        refine J_iload_n dL_law_1008 rfl rfl ?_
        refine J_iconst (v := 1) dL_law_1009 (by decide) ?_
        refine J_iadd (z := 1) dL_law_1010 (by decide +kernel) ?_
        refine L_sld (i2 := 1) (v := 0) dL_law_1011 (jin (by decide +kernel)) (by decide +kernel) hx1 ?_
        refine J_callV (st := [.int 0]) dL_law_1012 cv_L_134 (c_X12_ask_2 H0_98 H0_100 H0_111 H0_114 H0_116 H0_118 H0_119 H0_120 H0_130 H0_131) H0_98 rfl rfl (Nat.le_of_ble_eq_true rfl) ⟨(Nat.le_of_ble_eq_true rfl), (Nat.le_of_ble_eq_true rfl)⟩ ⟨(Nat.le_of_ble_eq_true rfl), (Nat.le_of_ble_eq_true rfl)⟩ (fun r h9 hp => ?_)
        obtain ⟨rfl, rfl⟩ := hp
        refine J_nf (nh2 := 136) (ck2 := 136) (sk2 := 415528) (st2 := [.int 0, .int 0]) rfl rfl rfl rfl ?_
        refine J_app (L3 := [(131, .inl (0, 1261, .inl (upd (upd (upd (fun _ => 0) 0 0) 1 0) 0 1))), (120, .inl (0, 1260, .inl (upd (fun _ => 0) 0 0))), (119, .inl (1, 1260, .inr (.inl (vp_updL (vp_updL (fun _ => 0) 0 0) 0 1)))), (118, .inl (0, 1260, .inl (upd (upd (fun _ => 0) 0 (-1)) 0 0))), (130, .inl (2, 1260, .inl (upd (fun _ => 0) 0 1))), (114, .inl (0, 1260, .inl (upd (fun _ => 0) 0 0))), (116, .inl (0, 1260, .inl (upd (fun _ => 0) 0 0))), (98, .inr (12, [.int 0, .int 0, .ref 99, .ref 100, .ref 101, .ref 102, .ref 103, .ref 104, .ref 105, .int 0, .int (-1), .ref 106, .ref 107, .ref 108, .int 0, .int 0, .int 0, .int 0, .int 0, .int 0, .int 0, .ref 109, .int 0, .int 0, .ref 110, .ref 111, .ref 112, .ref 113, .ref 114, .ref 115, .ref 116, .ref 117, .int 1, .int 0, .int 0, .int 0, .ref 118, .ref 119, .ref 120, .ref 121, .ref 122, .ref 123, .ref 124, .ref 125, .ref 126, .ref 127, .ref 128, .ref 129, .int 0, .ref 130, .ref 131, .ref 132, .ref 133, .ref 134, .int 0, .int 0])), (111, .inl (0, 1260, .inl (upd (fun _ => 0) 0 0))), (88, .inr (6, [.ref 1, .ref 51, .ref 57, .ref 65, .ref 89, .ref 90, .int 1, .int 0, .ref 91, .ref 92, .int 0, .int 1, .int 0])), (92, .inl (0, 1260, .inl (upd (fun _ => 0) 0 0))), (91, .inl (0, 1260, .inl (upd (upd (fun _ => 0) 0 (-1)) 0 0))), (90, .inl (0, 1260, .inl (upd (fun _ => 0) 0 0))), (89, .inl (2, 1260, .inl (upd (fun _ => 0) 0 1))), (57, .inr (9, [.ref 1, .ref 51, .ref 58, .ref 61, .ref 62, .ref 135, .ref 64, .int 0, .int 0, .int 0])), (62, .inl (0, 1260, .inl (upd (fun _ => 0) 0 (-1)))), (135, .inl (0, 22, .inl (fun _ => 0))), (59, .inl (0, 8, .inl (upd (upd (fun _ => 0) 6 0) 7 0)))]) rfl ?_
        refine J_icmp_eq (tgt := 1221) dL_law_1015 (by decide) (fun _ => ?_) (fun q => absurd (by decide +kernel) q)
        exact law_tail (Nat.le_of_ble_eq_true rfl) (Nat.le_of_ble_eq_true rfl)
      · obtain rfl : x1 = 1 := by rw [fa_eq, kc_1]; omega
        refine J_hc0 ?_
        refine J_aload_n dL_law_997 rfl rfl ?_
        refine J_sload_n dL_law_998 rfl rfl ?_
        refine J_iload_n dL_law_999 rfl rfl ?_
        refine J_iconst (v := 1) dL_law_1000 (by decide) ?_
        refine J_iadd (z := 1) dL_law_1001 (by decide +kernel) ?_
        refine L_sld (i2 := 1) (v := 1) dL_law_1002 (jin (by decide +kernel)) (by decide +kernel) hx1 ?_
        refine J_callV (st := []) dL_law_1003 cv_L_131 (c_X11_ask_3 H0_0 H0_1 H0_3 H0_51 H0_57 H0_58 H0_59 H0_62 H0_63 H0_88 H0_89 H0_90 H0_91 H0_92) H0_0 rfl rfl (Nat.le_of_ble_eq_true rfl) ⟨(Nat.le_of_ble_eq_true rfl), (Nat.le_of_ble_eq_true rfl)⟩ ⟨(Nat.le_of_ble_eq_true rfl), (Nat.le_of_ble_eq_true rfl)⟩ (fun r h9 hp => ?_)
        obtain ⟨rfl, rfl⟩ := hp
        refine J_nf (nh2 := 136) (ck2 := 136) (sk2 := 415528) (st2 := [.int 1]) rfl rfl rfl rfl ?_
        refine J_app (L3 := [(88, .inr (6, [.ref 1, .ref 51, .ref 57, .ref 65, .ref 89, .ref 90, .int 1, .int 0, .ref 91, .ref 92, .int 0, .int 1, .int 0])), (92, .inl (0, 1260, .inl (upd (fun _ => 0) 0 0))), (91, .inl (0, 1260, .inl (upd (upd (fun _ => 0) 0 (-1)) 0 0))), (90, .inl (0, 1260, .inl (upd (fun _ => 0) 0 0))), (89, .inl (2, 1260, .inl (upd (fun _ => 0) 0 1))), (57, .inr (9, [.ref 1, .ref 51, .ref 58, .ref 61, .ref 62, .ref 135, .ref 64, .int 0, .int 0, .int 0])), (62, .inl (0, 1260, .inl (upd (fun _ => 0) 0 (-1)))), (135, .inl (0, 22, .inl (fun _ => 0))), (59, .inl (0, 8, .inl (upd (upd (fun _ => 0) 6 0) 7 0)))]) rfl ?_
        refine J_aload_n dL_law_1006 rfl rfl ?_
        refine J_sload_n dL_law_1007 rfl rfl ?_
        refine J_iload_n dL_law_1008 rfl rfl ?_
        refine J_iconst (v := 1) dL_law_1009 (by decide) ?_
        refine J_iadd (z := 1) dL_law_1010 (by decide +kernel) ?_
        refine L_sld (i2 := 1) (v := 1) dL_law_1011 (jin (by decide +kernel)) (by decide +kernel) hx1 ?_
        refine J_callV (st := [.int 1]) dL_law_1012 cv_L_134 (c_X12_ask_3 H0_98 H0_100 H0_111 H0_114 H0_116 H0_118 H0_119 H0_120 H0_130 H0_131) H0_98 rfl rfl (Nat.le_of_ble_eq_true rfl) ⟨(Nat.le_of_ble_eq_true rfl), (Nat.le_of_ble_eq_true rfl)⟩ ⟨(Nat.le_of_ble_eq_true rfl), (Nat.le_of_ble_eq_true rfl)⟩ (fun r h9 hp => ?_)
        obtain ⟨rfl, rfl⟩ := hp
        refine J_nf (nh2 := 136) (ck2 := 136) (sk2 := 415528) (st2 := [.int 1, .int 1]) rfl rfl rfl rfl ?_
        refine J_app (L3 := [(131, .inl (0, 1261, .inl (upd (upd (upd (fun _ => 0) 0 0) 1 0) 0 1))), (120, .inl (0, 1260, .inl (upd (fun _ => 0) 0 0))), (119, .inl (1, 1260, .inr (.inl (vp_updL (vp_updL (fun _ => 0) 0 0) 0 1)))), (118, .inl (0, 1260, .inl (upd (upd (fun _ => 0) 0 (-1)) 0 0))), (130, .inl (2, 1260, .inl (upd (fun _ => 0) 0 1))), (114, .inl (0, 1260, .inl (upd (fun _ => 0) 0 0))), (116, .inl (0, 1260, .inl (upd (fun _ => 0) 0 0))), (98, .inr (12, [.int 0, .int 0, .ref 99, .ref 100, .ref 101, .ref 102, .ref 103, .ref 104, .ref 105, .int 0, .int (-1), .ref 106, .ref 107, .ref 108, .int 0, .int 0, .int 0, .int 0, .int 0, .int 0, .int 0, .ref 109, .int 0, .int 0, .ref 110, .ref 111, .ref 112, .ref 113, .ref 114, .ref 115, .ref 116, .ref 117, .int 1, .int 0, .int 0, .int 0, .ref 118, .ref 119, .ref 120, .ref 121, .ref 122, .ref 123, .ref 124, .ref 125, .ref 126, .ref 127, .ref 128, .ref 129, .int 0, .ref 130, .ref 131, .ref 132, .ref 133, .ref 134, .int 0, .int 0])), (111, .inl (0, 1260, .inl (upd (fun _ => 0) 0 0))), (88, .inr (6, [.ref 1, .ref 51, .ref 57, .ref 65, .ref 89, .ref 90, .int 1, .int 0, .ref 91, .ref 92, .int 0, .int 1, .int 0])), (92, .inl (0, 1260, .inl (upd (fun _ => 0) 0 0))), (91, .inl (0, 1260, .inl (upd (upd (fun _ => 0) 0 (-1)) 0 0))), (90, .inl (0, 1260, .inl (upd (fun _ => 0) 0 0))), (89, .inl (2, 1260, .inl (upd (fun _ => 0) 0 1))), (57, .inr (9, [.ref 1, .ref 51, .ref 58, .ref 61, .ref 62, .ref 135, .ref 64, .int 0, .int 0, .int 0])), (62, .inl (0, 1260, .inl (upd (fun _ => 0) 0 (-1)))), (135, .inl (0, 22, .inl (fun _ => 0))), (59, .inl (0, 8, .inl (upd (upd (fun _ => 0) 6 0) 7 0)))]) rfl ?_
        refine J_icmp_eq (tgt := 1221) dL_law_1015 (by decide) (fun _ => ?_) (fun q => absurd (by decide +kernel) q)
        exact law_tail (Nat.le_of_ble_eq_true rfl) (Nat.le_of_ble_eq_true rfl)
    · have b1 : 2 ≤ x1.toInt ∧ x1.toInt ≤ 2147483647 := ⟨by omega, by omega⟩
      refine J_hc0 ?_
      refine J_aload_n dL_law_997 rfl rfl ?_
      refine J_sload_n dL_law_998 rfl rfl ?_
      refine J_iload_n dL_law_999 rfl rfl ?_
      refine J_iconst (v := 1) dL_law_1000 (by decide) ?_
      refine J_iadd (z := 1) dL_law_1001 (by decide +kernel) ?_
      refine L_sld (i2 := 1) (v := x1) dL_law_1002 (jin (by decide +kernel)) (by decide +kernel) hx1 ?_
      refine J_callV (st := []) dL_law_1003 cv_L_131 (c_X11_ask_4 (x1) b1 H0_0 H0_1 H0_3 H0_51 H0_57 H0_58 H0_59 H0_62 H0_63 H0_88 H0_89 H0_90) H0_0 rfl rfl (Nat.le_of_ble_eq_true rfl) ⟨(Nat.le_of_ble_eq_true rfl), (Nat.le_of_ble_eq_true rfl)⟩ ⟨(Nat.le_of_ble_eq_true rfl), (Nat.le_of_ble_eq_true rfl)⟩ (fun r h9 hp => ?_)
      obtain ⟨rfl, rfl⟩ := hp
      refine J_nf (nh2 := 136) (ck2 := 136) (sk2 := 415528) (st2 := [.int (-1)]) rfl rfl rfl rfl ?_
      refine J_app (L3 := [(88, .inr (6, [.ref 1, .ref 51, .ref 57, .ref 65, .ref 89, .ref 90, .int 1, .int 0, .ref 91, .ref 92, .int (-1), .int (-1), .int (-1)])), (90, .inl (0, 1260, .inl (upd (fun _ => 0) 0 0))), (89, .inl (2, 1260, .inl (upd (fun _ => 0) 0 1))), (57, .inr (9, [.ref 1, .ref 51, .ref 58, .ref 61, .ref 62, .ref 135, .ref 64, .int 0, .int 0, .int 0])), (62, .inl (0, 1260, .inl (upd (fun _ => 0) 0 (-1)))), (135, .inl (0, 22, .inl (fun _ => 0))), (59, .inl (0, 8, .inl (upd (upd (fun _ => 0) 6 0) 7 0)))]) rfl ?_
      refine J_aload_n dL_law_1006 rfl rfl ?_
      refine J_sload_n dL_law_1007 rfl rfl ?_
      refine J_iload_n dL_law_1008 rfl rfl ?_
      refine J_iconst (v := 1) dL_law_1009 (by decide) ?_
      refine J_iadd (z := 1) dL_law_1010 (by decide +kernel) ?_
      refine L_sld (i2 := 1) (v := x1) dL_law_1011 (jin (by decide +kernel)) (by decide +kernel) hx1 ?_
      refine J_callV (st := [.int (-1)]) dL_law_1012 cv_L_134 (c_X12_ask_4 (x1) b1) H0_98 rfl rfl (Nat.le_of_ble_eq_true rfl) ⟨(Nat.le_of_ble_eq_true rfl), (Nat.le_of_ble_eq_true rfl)⟩ ⟨(Nat.le_of_ble_eq_true rfl), (Nat.le_of_ble_eq_true rfl)⟩ (fun r h9 hp => ?_)
      obtain ⟨rfl, rfl⟩ := hp
      refine J_nf (nh2 := 136) (ck2 := 136) (sk2 := 415528) (st2 := [.int (-1), .int (-1)]) rfl rfl rfl rfl ?_
      refine J_icmp_eq (tgt := 1221) dL_law_1015 (by decide) (fun _ => ?_) (fun q => absurd (by decide +kernel) q)
      exact law_tail (Nat.le_of_ble_eq_true rfl) (Nat.le_of_ble_eq_true rfl)
set_option maxHeartbeats 4000000 in
set_option maxRecDepth 100000 in
theorem law_case_29 {l : Launch} {G : jG} {b : Nat} {xs : Nat → Int32} (x1 : Int32) (hx1 : xs 1 = x1) (x2 : Int32) (hx2 : xs 2 = x2) (x3 : Int32) (hx3 : xs 3 = x3) (x4 : Int32) (hx4 : xs 4 = x4) : J l G ML_law room_1 (lE b 6 xs G) lQ (135, H0) 135 415506 1020 [some (.retAddr 0), some (.ref 0), some (.ref 98), some (.int 0)] [] := by
  have r1 := i32_rng x1
  have r2 := i32_rng x2
  have r3 := i32_rng x3
  have r4 := i32_rng x4
  rcases i_cut x1.toInt 0 with h_0 | h_0
  · have b1 : (-2147483648) ≤ x1.toInt ∧ x1.toInt ≤ (-1) := ⟨by omega, by omega⟩
    have b2 : (-2147483648) ≤ x2.toInt ∧ x2.toInt ≤ 2147483647 := ⟨by omega, by omega⟩
    have b3 : (-2147483648) ≤ x3.toInt ∧ x3.toInt ≤ 2147483647 := ⟨by omega, by omega⟩
    have b4 : (-2147483648) ≤ x4.toInt ∧ x4.toInt ≤ 2147483647 := ⟨by omega, by omega⟩
    refine J_hc0 ?_
    refine J_aload_n dL_law_1020 rfl rfl ?_
    refine J_sload_n dL_law_1021 rfl rfl ?_
    refine J_iload_n dL_law_1022 rfl rfl ?_
    refine J_iconst (v := 1) dL_law_1023 (by decide) ?_
    refine J_iadd (z := 1) dL_law_1024 (by decide +kernel) ?_
    refine L_sld (i2 := 1) (v := x1) dL_law_1025 (jin (by decide +kernel)) (by decide +kernel) hx1 ?_
    refine J_sload_n dL_law_1026 rfl rfl ?_
    refine J_iload_n dL_law_1027 rfl rfl ?_
    refine J_iconst (v := 2) dL_law_1028 (by decide) ?_
    refine J_iadd (z := 2) dL_law_1029 (by decide +kernel) ?_
    refine L_sld (i2 := 2) (v := x2) dL_law_1030 (jin (by decide +kernel)) (by decide +kernel) hx2 ?_
    refine J_sload_n dL_law_1031 rfl rfl ?_
    refine J_iload_n dL_law_1032 rfl rfl ?_
    refine J_iconst (v := 3) dL_law_1033 (by decide) ?_
    refine J_iadd (z := 3) dL_law_1034 (by decide +kernel) ?_
    refine L_sld (i2 := 3) (v := x3) dL_law_1035 (jin (by decide +kernel)) (by decide +kernel) hx3 ?_
    refine J_sload_n dL_law_1036 rfl rfl ?_
    refine J_iload_n dL_law_1037 rfl rfl ?_
    refine J_iconst (v := 4) dL_law_1038 (by decide) ?_
    refine J_iadd (z := 4) dL_law_1039 (by decide +kernel) ?_
    refine L_sld (i2 := 4) (v := x4) dL_law_1040 (jin (by decide +kernel)) (by decide +kernel) hx4 ?_
    refine J_callV (st := []) dL_law_1041 cv_L_135 (c_X11_post_1 (x1) b1 (x2) b2 (x3) b3 (x4) b4 H0_0 H0_51) H0_0 rfl rfl (Nat.le_of_ble_eq_true rfl) ⟨(Nat.le_of_ble_eq_true rfl), (Nat.le_of_ble_eq_true rfl)⟩ ⟨(Nat.le_of_ble_eq_true rfl), (Nat.le_of_ble_eq_true rfl)⟩ (fun r h9 hp => ?_)
    obtain ⟨rfl, rfl⟩ := hp
    refine J_nf (nh2 := 135) (ck2 := 135) (sk2 := 415506) (st2 := [.int (-1)]) rfl rfl rfl rfl ?_
    refine J_aload_n dL_law_1044 rfl rfl ?_
    refine J_sload_n dL_law_1045 rfl rfl ?_
    refine J_iload_n dL_law_1046 rfl rfl ?_
    refine J_iconst (v := 1) dL_law_1047 (by decide) ?_
    refine J_iadd (z := 1) dL_law_1048 (by decide +kernel) ?_
    refine L_sld (i2 := 1) (v := x1) dL_law_1049 (jin (by decide +kernel)) (by decide +kernel) hx1 ?_
    refine J_sload_n dL_law_1050 rfl rfl ?_
    refine J_iload_n dL_law_1051 rfl rfl ?_
    refine J_iconst (v := 2) dL_law_1052 (by decide) ?_
    refine J_iadd (z := 2) dL_law_1053 (by decide +kernel) ?_
    refine L_sld (i2 := 2) (v := x2) dL_law_1054 (jin (by decide +kernel)) (by decide +kernel) hx2 ?_
    refine J_sload_n dL_law_1055 rfl rfl ?_
    refine J_iload_n dL_law_1056 rfl rfl ?_
    refine J_iconst (v := 3) dL_law_1057 (by decide) ?_
    refine J_iadd (z := 3) dL_law_1058 (by decide +kernel) ?_
    refine L_sld (i2 := 3) (v := x3) dL_law_1059 (jin (by decide +kernel)) (by decide +kernel) hx3 ?_
    refine J_sload_n dL_law_1060 rfl rfl ?_
    refine J_iload_n dL_law_1061 rfl rfl ?_
    refine J_iconst (v := 4) dL_law_1062 (by decide) ?_
    refine J_iadd (z := 4) dL_law_1063 (by decide +kernel) ?_
    refine L_sld (i2 := 4) (v := x4) dL_law_1064 (jin (by decide +kernel)) (by decide +kernel) hx4 ?_
    refine J_callV (st := [.int (-1)]) dL_law_1065 cv_L_139 (c_X12_post_1 (x1) b1 (x2) b2 (x3) b3 (x4) b4 H0_98 H0_100 H0_111) H0_98 rfl rfl (Nat.le_of_ble_eq_true rfl) ⟨(Nat.le_of_ble_eq_true rfl), (Nat.le_of_ble_eq_true rfl)⟩ ⟨(Nat.le_of_ble_eq_true rfl), (Nat.le_of_ble_eq_true rfl)⟩ (fun r h9 hp => ?_)
    obtain ⟨rfl, rfl⟩ := hp
    refine J_nf (nh2 := 135) (ck2 := 135) (sk2 := 415506) (st2 := [.int (-1), .int (-1)]) rfl rfl rfl rfl ?_
    refine J_app (L3 := [(98, .inr (12, [.int 0, .int 0, .ref 99, .ref 100, .ref 101, .ref 102, .ref 103, .ref 104, .ref 105, .int 0, .int (-1), .ref 106, .ref 107, .ref 108, .int 0, .int 0, .int 0, .int 0, .int 0, .int 0, .int 0, .ref 109, .int 0, .int 0, .ref 110, .ref 111, .ref 112, .ref 113, .ref 114, .ref 115, .ref 116, .ref 117, .int 1, .int 0, .int 0, .int (-1), .ref 118, .ref 119, .ref 120, .ref 121, .ref 122, .ref 123, .ref 124, .ref 125, .ref 126, .ref 127, .ref 128, .ref 129, .int 0, .ref 130, .ref 131, .ref 132, .ref 133, .ref 134, .int 0, .int 0])), (111, .inl (0, 1260, .inl (upd (fun _ => 0) 0 0)))]) rfl ?_
    refine J_icmp_eq (tgt := 1221) dL_law_1068 (by decide) (fun _ => ?_) (fun q => absurd (by decide +kernel) q)
    exact law_tail (Nat.le_of_ble_eq_true rfl) (Nat.le_of_ble_eq_true rfl)
  · rcases i_cut x1.toInt 1 with h_1 | h_1
    · rcases i_cut x2.toInt 0 with h_2 | h_2
      · obtain rfl : x1 = 0 := by rw [fa_eq, kc_0]; omega
        have b2 : (-2147483648) ≤ x2.toInt ∧ x2.toInt ≤ (-1) := ⟨by omega, by omega⟩
        have b3 : (-2147483648) ≤ x3.toInt ∧ x3.toInt ≤ 2147483647 := ⟨by omega, by omega⟩
        have b4 : (-2147483648) ≤ x4.toInt ∧ x4.toInt ≤ 2147483647 := ⟨by omega, by omega⟩
        refine J_hc0 ?_
        refine J_aload_n dL_law_1020 rfl rfl ?_
        refine J_sload_n dL_law_1021 rfl rfl ?_
        refine J_iload_n dL_law_1022 rfl rfl ?_
        refine J_iconst (v := 1) dL_law_1023 (by decide) ?_
        refine J_iadd (z := 1) dL_law_1024 (by decide +kernel) ?_
        refine L_sld (i2 := 1) (v := 0) dL_law_1025 (jin (by decide +kernel)) (by decide +kernel) hx1 ?_
        refine J_sload_n dL_law_1026 rfl rfl ?_
        refine J_iload_n dL_law_1027 rfl rfl ?_
        refine J_iconst (v := 2) dL_law_1028 (by decide) ?_
        refine J_iadd (z := 2) dL_law_1029 (by decide +kernel) ?_
        refine L_sld (i2 := 2) (v := x2) dL_law_1030 (jin (by decide +kernel)) (by decide +kernel) hx2 ?_
        refine J_sload_n dL_law_1031 rfl rfl ?_
        refine J_iload_n dL_law_1032 rfl rfl ?_
        refine J_iconst (v := 3) dL_law_1033 (by decide) ?_
        refine J_iadd (z := 3) dL_law_1034 (by decide +kernel) ?_
        refine L_sld (i2 := 3) (v := x3) dL_law_1035 (jin (by decide +kernel)) (by decide +kernel) hx3 ?_
        refine J_sload_n dL_law_1036 rfl rfl ?_
        refine J_iload_n dL_law_1037 rfl rfl ?_
        refine J_iconst (v := 4) dL_law_1038 (by decide) ?_
        refine J_iadd (z := 4) dL_law_1039 (by decide +kernel) ?_
        refine L_sld (i2 := 4) (v := x4) dL_law_1040 (jin (by decide +kernel)) (by decide +kernel) hx4 ?_
        refine J_callV (st := []) dL_law_1041 cv_L_135 (c_X11_post_2 (x2) b2 (x3) b3 (x4) b4 H0_0 H0_51) H0_0 rfl rfl (Nat.le_of_ble_eq_true rfl) ⟨(Nat.le_of_ble_eq_true rfl), (Nat.le_of_ble_eq_true rfl)⟩ ⟨(Nat.le_of_ble_eq_true rfl), (Nat.le_of_ble_eq_true rfl)⟩ (fun r h9 hp => ?_)
        obtain ⟨rfl, rfl⟩ := hp
        refine J_nf (nh2 := 135) (ck2 := 135) (sk2 := 415506) (st2 := [.int (-1)]) rfl rfl rfl rfl ?_
        refine J_aload_n dL_law_1044 rfl rfl ?_
        refine J_sload_n dL_law_1045 rfl rfl ?_
        refine J_iload_n dL_law_1046 rfl rfl ?_
        refine J_iconst (v := 1) dL_law_1047 (by decide) ?_
        refine J_iadd (z := 1) dL_law_1048 (by decide +kernel) ?_
        refine L_sld (i2 := 1) (v := 0) dL_law_1049 (jin (by decide +kernel)) (by decide +kernel) hx1 ?_
        refine J_sload_n dL_law_1050 rfl rfl ?_
        refine J_iload_n dL_law_1051 rfl rfl ?_
        refine J_iconst (v := 2) dL_law_1052 (by decide) ?_
        refine J_iadd (z := 2) dL_law_1053 (by decide +kernel) ?_
        refine L_sld (i2 := 2) (v := x2) dL_law_1054 (jin (by decide +kernel)) (by decide +kernel) hx2 ?_
        refine J_sload_n dL_law_1055 rfl rfl ?_
        refine J_iload_n dL_law_1056 rfl rfl ?_
        refine J_iconst (v := 3) dL_law_1057 (by decide) ?_
        refine J_iadd (z := 3) dL_law_1058 (by decide +kernel) ?_
        refine L_sld (i2 := 3) (v := x3) dL_law_1059 (jin (by decide +kernel)) (by decide +kernel) hx3 ?_
        refine J_sload_n dL_law_1060 rfl rfl ?_
        refine J_iload_n dL_law_1061 rfl rfl ?_
        refine J_iconst (v := 4) dL_law_1062 (by decide) ?_
        refine J_iadd (z := 4) dL_law_1063 (by decide +kernel) ?_
        refine L_sld (i2 := 4) (v := x4) dL_law_1064 (jin (by decide +kernel)) (by decide +kernel) hx4 ?_
        refine J_callV (st := [.int (-1)]) dL_law_1065 cv_L_139 (c_X12_post_2 (x2) b2 (x3) b3 (x4) b4 H0_98 H0_100 H0_111) H0_98 rfl rfl (Nat.le_of_ble_eq_true rfl) ⟨(Nat.le_of_ble_eq_true rfl), (Nat.le_of_ble_eq_true rfl)⟩ ⟨(Nat.le_of_ble_eq_true rfl), (Nat.le_of_ble_eq_true rfl)⟩ (fun r h9 hp => ?_)
        obtain ⟨rfl, rfl⟩ := hp
        refine J_nf (nh2 := 135) (ck2 := 135) (sk2 := 415506) (st2 := [.int (-1), .int (-1)]) rfl rfl rfl rfl ?_
        refine J_app (L3 := [(98, .inr (12, [.int 0, .int 0, .ref 99, .ref 100, .ref 101, .ref 102, .ref 103, .ref 104, .ref 105, .int 0, .int (-1), .ref 106, .ref 107, .ref 108, .int 0, .int 0, .int 0, .int 0, .int 0, .int 0, .int 0, .ref 109, .int 0, .int 0, .ref 110, .ref 111, .ref 112, .ref 113, .ref 114, .ref 115, .ref 116, .ref 117, .int 1, .int 0, .int 0, .int (-1), .ref 118, .ref 119, .ref 120, .ref 121, .ref 122, .ref 123, .ref 124, .ref 125, .ref 126, .ref 127, .ref 128, .ref 129, .int 0, .ref 130, .ref 131, .ref 132, .ref 133, .ref 134, .int 0, .int 0])), (111, .inl (0, 1260, .inl (upd (fun _ => 0) 0 0)))]) rfl ?_
        refine J_icmp_eq (tgt := 1221) dL_law_1068 (by decide) (fun _ => ?_) (fun q => absurd (by decide +kernel) q)
        exact law_tail (Nat.le_of_ble_eq_true rfl) (Nat.le_of_ble_eq_true rfl)
      · rcases i_cut x2.toInt 1 with h_3 | h_3
        · rcases i_cut x3.toInt 0 with h_4 | h_4
          · obtain rfl : x1 = 0 := by rw [fa_eq, kc_0]; omega
            obtain rfl : x2 = 0 := by rw [fa_eq, kc_0]; omega
            have b3 : (-2147483648) ≤ x3.toInt ∧ x3.toInt ≤ (-1) := ⟨by omega, by omega⟩
            have b4 : (-2147483648) ≤ x4.toInt ∧ x4.toInt ≤ 2147483647 := ⟨by omega, by omega⟩
            refine J_hc0 ?_
            refine J_aload_n dL_law_1020 rfl rfl ?_
            refine J_sload_n dL_law_1021 rfl rfl ?_
            refine J_iload_n dL_law_1022 rfl rfl ?_
            refine J_iconst (v := 1) dL_law_1023 (by decide) ?_
            refine J_iadd (z := 1) dL_law_1024 (by decide +kernel) ?_
            refine L_sld (i2 := 1) (v := 0) dL_law_1025 (jin (by decide +kernel)) (by decide +kernel) hx1 ?_
            refine J_sload_n dL_law_1026 rfl rfl ?_
            refine J_iload_n dL_law_1027 rfl rfl ?_
            refine J_iconst (v := 2) dL_law_1028 (by decide) ?_
            refine J_iadd (z := 2) dL_law_1029 (by decide +kernel) ?_
            refine L_sld (i2 := 2) (v := 0) dL_law_1030 (jin (by decide +kernel)) (by decide +kernel) hx2 ?_
            refine J_sload_n dL_law_1031 rfl rfl ?_
            refine J_iload_n dL_law_1032 rfl rfl ?_
            refine J_iconst (v := 3) dL_law_1033 (by decide) ?_
            refine J_iadd (z := 3) dL_law_1034 (by decide +kernel) ?_
            refine L_sld (i2 := 3) (v := x3) dL_law_1035 (jin (by decide +kernel)) (by decide +kernel) hx3 ?_
            refine J_sload_n dL_law_1036 rfl rfl ?_
            refine J_iload_n dL_law_1037 rfl rfl ?_
            refine J_iconst (v := 4) dL_law_1038 (by decide) ?_
            refine J_iadd (z := 4) dL_law_1039 (by decide +kernel) ?_
            refine L_sld (i2 := 4) (v := x4) dL_law_1040 (jin (by decide +kernel)) (by decide +kernel) hx4 ?_
            refine J_callV (st := []) dL_law_1041 cv_L_135 (c_X11_post_3 (x3) b3 (x4) b4 H0_0 H0_51) H0_0 rfl rfl (Nat.le_of_ble_eq_true rfl) ⟨(Nat.le_of_ble_eq_true rfl), (Nat.le_of_ble_eq_true rfl)⟩ ⟨(Nat.le_of_ble_eq_true rfl), (Nat.le_of_ble_eq_true rfl)⟩ (fun r h9 hp => ?_)
            obtain ⟨rfl, rfl⟩ := hp
            refine J_nf (nh2 := 135) (ck2 := 135) (sk2 := 415506) (st2 := [.int (-1)]) rfl rfl rfl rfl ?_
            refine J_aload_n dL_law_1044 rfl rfl ?_
            refine J_sload_n dL_law_1045 rfl rfl ?_
            refine J_iload_n dL_law_1046 rfl rfl ?_
            refine J_iconst (v := 1) dL_law_1047 (by decide) ?_
            refine J_iadd (z := 1) dL_law_1048 (by decide +kernel) ?_
            refine L_sld (i2 := 1) (v := 0) dL_law_1049 (jin (by decide +kernel)) (by decide +kernel) hx1 ?_
            refine J_sload_n dL_law_1050 rfl rfl ?_
            refine J_iload_n dL_law_1051 rfl rfl ?_
            refine J_iconst (v := 2) dL_law_1052 (by decide) ?_
            refine J_iadd (z := 2) dL_law_1053 (by decide +kernel) ?_
            refine L_sld (i2 := 2) (v := 0) dL_law_1054 (jin (by decide +kernel)) (by decide +kernel) hx2 ?_
            refine J_sload_n dL_law_1055 rfl rfl ?_
            refine J_iload_n dL_law_1056 rfl rfl ?_
            refine J_iconst (v := 3) dL_law_1057 (by decide) ?_
            refine J_iadd (z := 3) dL_law_1058 (by decide +kernel) ?_
            refine L_sld (i2 := 3) (v := x3) dL_law_1059 (jin (by decide +kernel)) (by decide +kernel) hx3 ?_
            refine J_sload_n dL_law_1060 rfl rfl ?_
            refine J_iload_n dL_law_1061 rfl rfl ?_
            refine J_iconst (v := 4) dL_law_1062 (by decide) ?_
            refine J_iadd (z := 4) dL_law_1063 (by decide +kernel) ?_
            refine L_sld (i2 := 4) (v := x4) dL_law_1064 (jin (by decide +kernel)) (by decide +kernel) hx4 ?_
            refine J_callV (st := [.int (-1)]) dL_law_1065 cv_L_139 (c_X12_post_3 (x3) b3 (x4) b4 H0_98 H0_100 H0_111) H0_98 rfl rfl (Nat.le_of_ble_eq_true rfl) ⟨(Nat.le_of_ble_eq_true rfl), (Nat.le_of_ble_eq_true rfl)⟩ ⟨(Nat.le_of_ble_eq_true rfl), (Nat.le_of_ble_eq_true rfl)⟩ (fun r h9 hp => ?_)
            obtain ⟨rfl, rfl⟩ := hp
            refine J_nf (nh2 := 135) (ck2 := 135) (sk2 := 415506) (st2 := [.int (-1), .int (-1)]) rfl rfl rfl rfl ?_
            refine J_app (L3 := [(98, .inr (12, [.int 0, .int 0, .ref 99, .ref 100, .ref 101, .ref 102, .ref 103, .ref 104, .ref 105, .int 0, .int (-1), .ref 106, .ref 107, .ref 108, .int 0, .int 0, .int 0, .int 0, .int 0, .int 0, .int 0, .ref 109, .int 0, .int 0, .ref 110, .ref 111, .ref 112, .ref 113, .ref 114, .ref 115, .ref 116, .ref 117, .int 1, .int 0, .int 0, .int (-1), .ref 118, .ref 119, .ref 120, .ref 121, .ref 122, .ref 123, .ref 124, .ref 125, .ref 126, .ref 127, .ref 128, .ref 129, .int 0, .ref 130, .ref 131, .ref 132, .ref 133, .ref 134, .int 0, .int 0])), (111, .inl (0, 1260, .inl (upd (fun _ => 0) 0 0)))]) rfl ?_
            refine J_icmp_eq (tgt := 1221) dL_law_1068 (by decide) (fun _ => ?_) (fun q => absurd (by decide +kernel) q)
            exact law_tail (Nat.le_of_ble_eq_true rfl) (Nat.le_of_ble_eq_true rfl)
          · rcases i_cut x3.toInt 1 with h_5 | h_5
            · rcases i_cut x4.toInt 0 with h_6 | h_6
              · obtain rfl : x1 = 0 := by rw [fa_eq, kc_0]; omega
                obtain rfl : x2 = 0 := by rw [fa_eq, kc_0]; omega
                obtain rfl : x3 = 0 := by rw [fa_eq, kc_0]; omega
                have b4 : (-2147483648) ≤ x4.toInt ∧ x4.toInt ≤ (-1) := ⟨by omega, by omega⟩
                refine J_hc0 ?_
                refine J_aload_n dL_law_1020 rfl rfl ?_
                refine J_sload_n dL_law_1021 rfl rfl ?_
                refine J_iload_n dL_law_1022 rfl rfl ?_
                refine J_iconst (v := 1) dL_law_1023 (by decide) ?_
                refine J_iadd (z := 1) dL_law_1024 (by decide +kernel) ?_
                refine L_sld (i2 := 1) (v := 0) dL_law_1025 (jin (by decide +kernel)) (by decide +kernel) hx1 ?_
                refine J_sload_n dL_law_1026 rfl rfl ?_
                refine J_iload_n dL_law_1027 rfl rfl ?_
                refine J_iconst (v := 2) dL_law_1028 (by decide) ?_
                refine J_iadd (z := 2) dL_law_1029 (by decide +kernel) ?_
                refine L_sld (i2 := 2) (v := 0) dL_law_1030 (jin (by decide +kernel)) (by decide +kernel) hx2 ?_
                refine J_sload_n dL_law_1031 rfl rfl ?_
                refine J_iload_n dL_law_1032 rfl rfl ?_
                refine J_iconst (v := 3) dL_law_1033 (by decide) ?_
                refine J_iadd (z := 3) dL_law_1034 (by decide +kernel) ?_
                refine L_sld (i2 := 3) (v := 0) dL_law_1035 (jin (by decide +kernel)) (by decide +kernel) hx3 ?_
                refine J_sload_n dL_law_1036 rfl rfl ?_
                refine J_iload_n dL_law_1037 rfl rfl ?_
                refine J_iconst (v := 4) dL_law_1038 (by decide) ?_
                refine J_iadd (z := 4) dL_law_1039 (by decide +kernel) ?_
                refine L_sld (i2 := 4) (v := x4) dL_law_1040 (jin (by decide +kernel)) (by decide +kernel) hx4 ?_
                refine J_callV (st := []) dL_law_1041 cv_L_135 (c_X11_post_4 (x4) b4 H0_0 H0_51) H0_0 rfl rfl (Nat.le_of_ble_eq_true rfl) ⟨(Nat.le_of_ble_eq_true rfl), (Nat.le_of_ble_eq_true rfl)⟩ ⟨(Nat.le_of_ble_eq_true rfl), (Nat.le_of_ble_eq_true rfl)⟩ (fun r h9 hp => ?_)
                obtain ⟨rfl, rfl⟩ := hp
                refine J_nf (nh2 := 135) (ck2 := 135) (sk2 := 415506) (st2 := [.int (-1)]) rfl rfl rfl rfl ?_
                refine J_aload_n dL_law_1044 rfl rfl ?_
                refine J_sload_n dL_law_1045 rfl rfl ?_
                refine J_iload_n dL_law_1046 rfl rfl ?_
                refine J_iconst (v := 1) dL_law_1047 (by decide) ?_
                refine J_iadd (z := 1) dL_law_1048 (by decide +kernel) ?_
                refine L_sld (i2 := 1) (v := 0) dL_law_1049 (jin (by decide +kernel)) (by decide +kernel) hx1 ?_
                refine J_sload_n dL_law_1050 rfl rfl ?_
                refine J_iload_n dL_law_1051 rfl rfl ?_
                refine J_iconst (v := 2) dL_law_1052 (by decide) ?_
                refine J_iadd (z := 2) dL_law_1053 (by decide +kernel) ?_
                refine L_sld (i2 := 2) (v := 0) dL_law_1054 (jin (by decide +kernel)) (by decide +kernel) hx2 ?_
                refine J_sload_n dL_law_1055 rfl rfl ?_
                refine J_iload_n dL_law_1056 rfl rfl ?_
                refine J_iconst (v := 3) dL_law_1057 (by decide) ?_
                refine J_iadd (z := 3) dL_law_1058 (by decide +kernel) ?_
                refine L_sld (i2 := 3) (v := 0) dL_law_1059 (jin (by decide +kernel)) (by decide +kernel) hx3 ?_
                refine J_sload_n dL_law_1060 rfl rfl ?_
                refine J_iload_n dL_law_1061 rfl rfl ?_
                refine J_iconst (v := 4) dL_law_1062 (by decide) ?_
                refine J_iadd (z := 4) dL_law_1063 (by decide +kernel) ?_
                refine L_sld (i2 := 4) (v := x4) dL_law_1064 (jin (by decide +kernel)) (by decide +kernel) hx4 ?_
                refine J_callV (st := [.int (-1)]) dL_law_1065 cv_L_139 (c_X12_post_4 (x4) b4 H0_98 H0_100 H0_111) H0_98 rfl rfl (Nat.le_of_ble_eq_true rfl) ⟨(Nat.le_of_ble_eq_true rfl), (Nat.le_of_ble_eq_true rfl)⟩ ⟨(Nat.le_of_ble_eq_true rfl), (Nat.le_of_ble_eq_true rfl)⟩ (fun r h9 hp => ?_)
                obtain ⟨rfl, rfl⟩ := hp
                refine J_nf (nh2 := 135) (ck2 := 135) (sk2 := 415506) (st2 := [.int (-1), .int (-1)]) rfl rfl rfl rfl ?_
                refine J_app (L3 := [(98, .inr (12, [.int 0, .int 0, .ref 99, .ref 100, .ref 101, .ref 102, .ref 103, .ref 104, .ref 105, .int 0, .int (-1), .ref 106, .ref 107, .ref 108, .int 0, .int 0, .int 0, .int 0, .int 0, .int 0, .int 0, .ref 109, .int 0, .int 0, .ref 110, .ref 111, .ref 112, .ref 113, .ref 114, .ref 115, .ref 116, .ref 117, .int 1, .int 0, .int 0, .int (-1), .ref 118, .ref 119, .ref 120, .ref 121, .ref 122, .ref 123, .ref 124, .ref 125, .ref 126, .ref 127, .ref 128, .ref 129, .int 0, .ref 130, .ref 131, .ref 132, .ref 133, .ref 134, .int 0, .int 0])), (111, .inl (0, 1260, .inl (upd (fun _ => 0) 0 0)))]) rfl ?_
                refine J_icmp_eq (tgt := 1221) dL_law_1068 (by decide) (fun _ => ?_) (fun q => absurd (by decide +kernel) q)
                exact law_tail (Nat.le_of_ble_eq_true rfl) (Nat.le_of_ble_eq_true rfl)
              · rcases i_cut x4.toInt 1 with h_7 | h_7
                · obtain rfl : x1 = 0 := by rw [fa_eq, kc_0]; omega
                  obtain rfl : x2 = 0 := by rw [fa_eq, kc_0]; omega
                  obtain rfl : x3 = 0 := by rw [fa_eq, kc_0]; omega
                  obtain rfl : x4 = 0 := by rw [fa_eq, kc_0]; omega
                  refine J_hc0 ?_
                  refine J_aload_n dL_law_1020 rfl rfl ?_
                  refine J_sload_n dL_law_1021 rfl rfl ?_
                  refine J_iload_n dL_law_1022 rfl rfl ?_
                  refine J_iconst (v := 1) dL_law_1023 (by decide) ?_
                  refine J_iadd (z := 1) dL_law_1024 (by decide +kernel) ?_
                  refine L_sld (i2 := 1) (v := 0) dL_law_1025 (jin (by decide +kernel)) (by decide +kernel) hx1 ?_
                  refine J_sload_n dL_law_1026 rfl rfl ?_
                  refine J_iload_n dL_law_1027 rfl rfl ?_
                  refine J_iconst (v := 2) dL_law_1028 (by decide) ?_
                  refine J_iadd (z := 2) dL_law_1029 (by decide +kernel) ?_
                  refine L_sld (i2 := 2) (v := 0) dL_law_1030 (jin (by decide +kernel)) (by decide +kernel) hx2 ?_
                  refine J_sload_n dL_law_1031 rfl rfl ?_
                  refine J_iload_n dL_law_1032 rfl rfl ?_
                  refine J_iconst (v := 3) dL_law_1033 (by decide) ?_
                  refine J_iadd (z := 3) dL_law_1034 (by decide +kernel) ?_
                  refine L_sld (i2 := 3) (v := 0) dL_law_1035 (jin (by decide +kernel)) (by decide +kernel) hx3 ?_
                  refine J_sload_n dL_law_1036 rfl rfl ?_
                  refine J_iload_n dL_law_1037 rfl rfl ?_
                  refine J_iconst (v := 4) dL_law_1038 (by decide) ?_
                  refine J_iadd (z := 4) dL_law_1039 (by decide +kernel) ?_
                  refine L_sld (i2 := 4) (v := 0) dL_law_1040 (jin (by decide +kernel)) (by decide +kernel) hx4 ?_
                  refine J_callV (st := []) dL_law_1041 cv_L_135 (c_X11_post_5 H0_0 H0_51) H0_0 rfl rfl (Nat.le_of_ble_eq_true rfl) ⟨(Nat.le_of_ble_eq_true rfl), (Nat.le_of_ble_eq_true rfl)⟩ ⟨(Nat.le_of_ble_eq_true rfl), (Nat.le_of_ble_eq_true rfl)⟩ (fun r h9 hp => ?_)
                  obtain ⟨rfl, rfl⟩ := hp
                  refine J_nf (nh2 := 135) (ck2 := 135) (sk2 := 415506) (st2 := [.int (-1)]) rfl rfl rfl rfl ?_
                  refine J_aload_n dL_law_1044 rfl rfl ?_
                  refine J_sload_n dL_law_1045 rfl rfl ?_
                  refine J_iload_n dL_law_1046 rfl rfl ?_
                  refine J_iconst (v := 1) dL_law_1047 (by decide) ?_
                  refine J_iadd (z := 1) dL_law_1048 (by decide +kernel) ?_
                  refine L_sld (i2 := 1) (v := 0) dL_law_1049 (jin (by decide +kernel)) (by decide +kernel) hx1 ?_
                  refine J_sload_n dL_law_1050 rfl rfl ?_
                  refine J_iload_n dL_law_1051 rfl rfl ?_
                  refine J_iconst (v := 2) dL_law_1052 (by decide) ?_
                  refine J_iadd (z := 2) dL_law_1053 (by decide +kernel) ?_
                  refine L_sld (i2 := 2) (v := 0) dL_law_1054 (jin (by decide +kernel)) (by decide +kernel) hx2 ?_
                  refine J_sload_n dL_law_1055 rfl rfl ?_
                  refine J_iload_n dL_law_1056 rfl rfl ?_
                  refine J_iconst (v := 3) dL_law_1057 (by decide) ?_
                  refine J_iadd (z := 3) dL_law_1058 (by decide +kernel) ?_
                  refine L_sld (i2 := 3) (v := 0) dL_law_1059 (jin (by decide +kernel)) (by decide +kernel) hx3 ?_
                  refine J_sload_n dL_law_1060 rfl rfl ?_
                  refine J_iload_n dL_law_1061 rfl rfl ?_
                  refine J_iconst (v := 4) dL_law_1062 (by decide) ?_
                  refine J_iadd (z := 4) dL_law_1063 (by decide +kernel) ?_
                  refine L_sld (i2 := 4) (v := 0) dL_law_1064 (jin (by decide +kernel)) (by decide +kernel) hx4 ?_
                  refine J_callV (st := [.int (-1)]) dL_law_1065 cv_L_139 (c_X12_post_5 H0_98 H0_100 H0_111) H0_98 rfl rfl (Nat.le_of_ble_eq_true rfl) ⟨(Nat.le_of_ble_eq_true rfl), (Nat.le_of_ble_eq_true rfl)⟩ ⟨(Nat.le_of_ble_eq_true rfl), (Nat.le_of_ble_eq_true rfl)⟩ (fun r h9 hp => ?_)
                  obtain ⟨rfl, rfl⟩ := hp
                  refine J_nf (nh2 := 135) (ck2 := 135) (sk2 := 415506) (st2 := [.int (-1), .int (-1)]) rfl rfl rfl rfl ?_
                  refine J_app (L3 := [(98, .inr (12, [.int 0, .int 0, .ref 99, .ref 100, .ref 101, .ref 102, .ref 103, .ref 104, .ref 105, .int 0, .int (-1), .ref 106, .ref 107, .ref 108, .int 0, .int 0, .int 0, .int 0, .int 0, .int 0, .int 0, .ref 109, .int 0, .int 0, .ref 110, .ref 111, .ref 112, .ref 113, .ref 114, .ref 115, .ref 116, .ref 117, .int 1, .int 0, .int 0, .int (-1), .ref 118, .ref 119, .ref 120, .ref 121, .ref 122, .ref 123, .ref 124, .ref 125, .ref 126, .ref 127, .ref 128, .ref 129, .int 0, .ref 130, .ref 131, .ref 132, .ref 133, .ref 134, .int 0, .int 0])), (111, .inl (0, 1260, .inl (upd (fun _ => 0) 0 0)))]) rfl ?_
                  refine J_icmp_eq (tgt := 1221) dL_law_1068 (by decide) (fun _ => ?_) (fun q => absurd (by decide +kernel) q)
                  exact law_tail (Nat.le_of_ble_eq_true rfl) (Nat.le_of_ble_eq_true rfl)
                · obtain rfl : x1 = 0 := by rw [fa_eq, kc_0]; omega
                  obtain rfl : x2 = 0 := by rw [fa_eq, kc_0]; omega
                  obtain rfl : x3 = 0 := by rw [fa_eq, kc_0]; omega
                  have b4 : 1 ≤ x4.toInt ∧ x4.toInt ≤ 2147483647 := ⟨by omega, by omega⟩
                  refine J_hc0 ?_
                  refine J_aload_n dL_law_1020 rfl rfl ?_
                  refine J_sload_n dL_law_1021 rfl rfl ?_
                  refine J_iload_n dL_law_1022 rfl rfl ?_
                  refine J_iconst (v := 1) dL_law_1023 (by decide) ?_
                  refine J_iadd (z := 1) dL_law_1024 (by decide +kernel) ?_
                  refine L_sld (i2 := 1) (v := 0) dL_law_1025 (jin (by decide +kernel)) (by decide +kernel) hx1 ?_
                  refine J_sload_n dL_law_1026 rfl rfl ?_
                  refine J_iload_n dL_law_1027 rfl rfl ?_
                  refine J_iconst (v := 2) dL_law_1028 (by decide) ?_
                  refine J_iadd (z := 2) dL_law_1029 (by decide +kernel) ?_
                  refine L_sld (i2 := 2) (v := 0) dL_law_1030 (jin (by decide +kernel)) (by decide +kernel) hx2 ?_
                  refine J_sload_n dL_law_1031 rfl rfl ?_
                  refine J_iload_n dL_law_1032 rfl rfl ?_
                  refine J_iconst (v := 3) dL_law_1033 (by decide) ?_
                  refine J_iadd (z := 3) dL_law_1034 (by decide +kernel) ?_
                  refine L_sld (i2 := 3) (v := 0) dL_law_1035 (jin (by decide +kernel)) (by decide +kernel) hx3 ?_
                  refine J_sload_n dL_law_1036 rfl rfl ?_
                  refine J_iload_n dL_law_1037 rfl rfl ?_
                  refine J_iconst (v := 4) dL_law_1038 (by decide) ?_
                  refine J_iadd (z := 4) dL_law_1039 (by decide +kernel) ?_
                  refine L_sld (i2 := 4) (v := x4) dL_law_1040 (jin (by decide +kernel)) (by decide +kernel) hx4 ?_
                  refine J_callV (st := []) dL_law_1041 cv_L_135 (c_X11_post_6 (x4) b4 H0_0 H0_51) H0_0 rfl rfl (Nat.le_of_ble_eq_true rfl) ⟨(Nat.le_of_ble_eq_true rfl), (Nat.le_of_ble_eq_true rfl)⟩ ⟨(Nat.le_of_ble_eq_true rfl), (Nat.le_of_ble_eq_true rfl)⟩ (fun r h9 hp => ?_)
                  obtain ⟨rfl, rfl⟩ := hp
                  refine J_nf (nh2 := 135) (ck2 := 135) (sk2 := 415506) (st2 := [.int (-1)]) rfl rfl rfl rfl ?_
                  refine J_aload_n dL_law_1044 rfl rfl ?_
                  refine J_sload_n dL_law_1045 rfl rfl ?_
                  refine J_iload_n dL_law_1046 rfl rfl ?_
                  refine J_iconst (v := 1) dL_law_1047 (by decide) ?_
                  refine J_iadd (z := 1) dL_law_1048 (by decide +kernel) ?_
                  refine L_sld (i2 := 1) (v := 0) dL_law_1049 (jin (by decide +kernel)) (by decide +kernel) hx1 ?_
                  refine J_sload_n dL_law_1050 rfl rfl ?_
                  refine J_iload_n dL_law_1051 rfl rfl ?_
                  refine J_iconst (v := 2) dL_law_1052 (by decide) ?_
                  refine J_iadd (z := 2) dL_law_1053 (by decide +kernel) ?_
                  refine L_sld (i2 := 2) (v := 0) dL_law_1054 (jin (by decide +kernel)) (by decide +kernel) hx2 ?_
                  refine J_sload_n dL_law_1055 rfl rfl ?_
                  refine J_iload_n dL_law_1056 rfl rfl ?_
                  refine J_iconst (v := 3) dL_law_1057 (by decide) ?_
                  refine J_iadd (z := 3) dL_law_1058 (by decide +kernel) ?_
                  refine L_sld (i2 := 3) (v := 0) dL_law_1059 (jin (by decide +kernel)) (by decide +kernel) hx3 ?_
                  refine J_sload_n dL_law_1060 rfl rfl ?_
                  refine J_iload_n dL_law_1061 rfl rfl ?_
                  refine J_iconst (v := 4) dL_law_1062 (by decide) ?_
                  refine J_iadd (z := 4) dL_law_1063 (by decide +kernel) ?_
                  refine L_sld (i2 := 4) (v := x4) dL_law_1064 (jin (by decide +kernel)) (by decide +kernel) hx4 ?_
                  refine J_callV (st := [.int (-1)]) dL_law_1065 cv_L_139 (c_X12_post_6 (x4) b4 H0_98 H0_100 H0_111) H0_98 rfl rfl (Nat.le_of_ble_eq_true rfl) ⟨(Nat.le_of_ble_eq_true rfl), (Nat.le_of_ble_eq_true rfl)⟩ ⟨(Nat.le_of_ble_eq_true rfl), (Nat.le_of_ble_eq_true rfl)⟩ (fun r h9 hp => ?_)
                  obtain ⟨rfl, rfl⟩ := hp
                  refine J_nf (nh2 := 135) (ck2 := 135) (sk2 := 415506) (st2 := [.int (-1), .int (-1)]) rfl rfl rfl rfl ?_
                  refine J_app (L3 := [(98, .inr (12, [.int 0, .int 0, .ref 99, .ref 100, .ref 101, .ref 102, .ref 103, .ref 104, .ref 105, .int 0, .int (-1), .ref 106, .ref 107, .ref 108, .int 0, .int 0, .int 0, .int 0, .int 0, .int 0, .int 0, .ref 109, .int 0, .int 0, .ref 110, .ref 111, .ref 112, .ref 113, .ref 114, .ref 115, .ref 116, .ref 117, .int 1, .int 0, .int 0, .int (-1), .ref 118, .ref 119, .ref 120, .ref 121, .ref 122, .ref 123, .ref 124, .ref 125, .ref 126, .ref 127, .ref 128, .ref 129, .int 0, .ref 130, .ref 131, .ref 132, .ref 133, .ref 134, .int 0, .int 0])), (111, .inl (0, 1260, .inl (upd (fun _ => 0) 0 0)))]) rfl ?_
                  refine J_icmp_eq (tgt := 1221) dL_law_1068 (by decide) (fun _ => ?_) (fun q => absurd (by decide +kernel) q)
                  exact law_tail (Nat.le_of_ble_eq_true rfl) (Nat.le_of_ble_eq_true rfl)
            · obtain rfl : x1 = 0 := by rw [fa_eq, kc_0]; omega
              obtain rfl : x2 = 0 := by rw [fa_eq, kc_0]; omega
              have b3 : 1 ≤ x3.toInt ∧ x3.toInt ≤ 2147483647 := ⟨by omega, by omega⟩
              have b4 : (-2147483648) ≤ x4.toInt ∧ x4.toInt ≤ 2147483647 := ⟨by omega, by omega⟩
              refine J_hc0 ?_
              refine J_aload_n dL_law_1020 rfl rfl ?_
              refine J_sload_n dL_law_1021 rfl rfl ?_
              refine J_iload_n dL_law_1022 rfl rfl ?_
              refine J_iconst (v := 1) dL_law_1023 (by decide) ?_
              refine J_iadd (z := 1) dL_law_1024 (by decide +kernel) ?_
              refine L_sld (i2 := 1) (v := 0) dL_law_1025 (jin (by decide +kernel)) (by decide +kernel) hx1 ?_
              refine J_sload_n dL_law_1026 rfl rfl ?_
              refine J_iload_n dL_law_1027 rfl rfl ?_
              refine J_iconst (v := 2) dL_law_1028 (by decide) ?_
              refine J_iadd (z := 2) dL_law_1029 (by decide +kernel) ?_
              refine L_sld (i2 := 2) (v := 0) dL_law_1030 (jin (by decide +kernel)) (by decide +kernel) hx2 ?_
              refine J_sload_n dL_law_1031 rfl rfl ?_
              refine J_iload_n dL_law_1032 rfl rfl ?_
              refine J_iconst (v := 3) dL_law_1033 (by decide) ?_
              refine J_iadd (z := 3) dL_law_1034 (by decide +kernel) ?_
              refine L_sld (i2 := 3) (v := x3) dL_law_1035 (jin (by decide +kernel)) (by decide +kernel) hx3 ?_
              refine J_sload_n dL_law_1036 rfl rfl ?_
              refine J_iload_n dL_law_1037 rfl rfl ?_
              refine J_iconst (v := 4) dL_law_1038 (by decide) ?_
              refine J_iadd (z := 4) dL_law_1039 (by decide +kernel) ?_
              refine L_sld (i2 := 4) (v := x4) dL_law_1040 (jin (by decide +kernel)) (by decide +kernel) hx4 ?_
              refine J_callV (st := []) dL_law_1041 cv_L_135 (c_X11_post_7 (x3) b3 (x4) b4 H0_0 H0_51) H0_0 rfl rfl (Nat.le_of_ble_eq_true rfl) ⟨(Nat.le_of_ble_eq_true rfl), (Nat.le_of_ble_eq_true rfl)⟩ ⟨(Nat.le_of_ble_eq_true rfl), (Nat.le_of_ble_eq_true rfl)⟩ (fun r h9 hp => ?_)
              obtain ⟨rfl, rfl⟩ := hp
              refine J_nf (nh2 := 135) (ck2 := 135) (sk2 := 415506) (st2 := [.int (-1)]) rfl rfl rfl rfl ?_
              refine J_aload_n dL_law_1044 rfl rfl ?_
              refine J_sload_n dL_law_1045 rfl rfl ?_
              refine J_iload_n dL_law_1046 rfl rfl ?_
              refine J_iconst (v := 1) dL_law_1047 (by decide) ?_
              refine J_iadd (z := 1) dL_law_1048 (by decide +kernel) ?_
              refine L_sld (i2 := 1) (v := 0) dL_law_1049 (jin (by decide +kernel)) (by decide +kernel) hx1 ?_
              refine J_sload_n dL_law_1050 rfl rfl ?_
              refine J_iload_n dL_law_1051 rfl rfl ?_
              refine J_iconst (v := 2) dL_law_1052 (by decide) ?_
              refine J_iadd (z := 2) dL_law_1053 (by decide +kernel) ?_
              refine L_sld (i2 := 2) (v := 0) dL_law_1054 (jin (by decide +kernel)) (by decide +kernel) hx2 ?_
              refine J_sload_n dL_law_1055 rfl rfl ?_
              refine J_iload_n dL_law_1056 rfl rfl ?_
              refine J_iconst (v := 3) dL_law_1057 (by decide) ?_
              refine J_iadd (z := 3) dL_law_1058 (by decide +kernel) ?_
              refine L_sld (i2 := 3) (v := x3) dL_law_1059 (jin (by decide +kernel)) (by decide +kernel) hx3 ?_
              refine J_sload_n dL_law_1060 rfl rfl ?_
              refine J_iload_n dL_law_1061 rfl rfl ?_
              refine J_iconst (v := 4) dL_law_1062 (by decide) ?_
              refine J_iadd (z := 4) dL_law_1063 (by decide +kernel) ?_
              refine L_sld (i2 := 4) (v := x4) dL_law_1064 (jin (by decide +kernel)) (by decide +kernel) hx4 ?_
              refine J_callV (st := [.int (-1)]) dL_law_1065 cv_L_139 (c_X12_post_7 (x3) b3 (x4) b4 H0_98 H0_100 H0_111) H0_98 rfl rfl (Nat.le_of_ble_eq_true rfl) ⟨(Nat.le_of_ble_eq_true rfl), (Nat.le_of_ble_eq_true rfl)⟩ ⟨(Nat.le_of_ble_eq_true rfl), (Nat.le_of_ble_eq_true rfl)⟩ (fun r h9 hp => ?_)
              obtain ⟨rfl, rfl⟩ := hp
              refine J_nf (nh2 := 135) (ck2 := 135) (sk2 := 415506) (st2 := [.int (-1), .int (-1)]) rfl rfl rfl rfl ?_
              refine J_app (L3 := [(98, .inr (12, [.int 0, .int 0, .ref 99, .ref 100, .ref 101, .ref 102, .ref 103, .ref 104, .ref 105, .int 0, .int (-1), .ref 106, .ref 107, .ref 108, .int 0, .int 0, .int 0, .int 0, .int 0, .int 0, .int 0, .ref 109, .int 0, .int 0, .ref 110, .ref 111, .ref 112, .ref 113, .ref 114, .ref 115, .ref 116, .ref 117, .int 1, .int 0, .int 0, .int (-1), .ref 118, .ref 119, .ref 120, .ref 121, .ref 122, .ref 123, .ref 124, .ref 125, .ref 126, .ref 127, .ref 128, .ref 129, .int 0, .ref 130, .ref 131, .ref 132, .ref 133, .ref 134, .int 0, .int 0])), (111, .inl (0, 1260, .inl (upd (fun _ => 0) 0 0)))]) rfl ?_
              refine J_icmp_eq (tgt := 1221) dL_law_1068 (by decide) (fun _ => ?_) (fun q => absurd (by decide +kernel) q)
              exact law_tail (Nat.le_of_ble_eq_true rfl) (Nat.le_of_ble_eq_true rfl)
        · obtain rfl : x1 = 0 := by rw [fa_eq, kc_0]; omega
          have b2 : 1 ≤ x2.toInt ∧ x2.toInt ≤ 2147483647 := ⟨by omega, by omega⟩
          have b3 : (-2147483648) ≤ x3.toInt ∧ x3.toInt ≤ 2147483647 := ⟨by omega, by omega⟩
          have b4 : (-2147483648) ≤ x4.toInt ∧ x4.toInt ≤ 2147483647 := ⟨by omega, by omega⟩
          refine J_hc0 ?_
          refine J_aload_n dL_law_1020 rfl rfl ?_
          refine J_sload_n dL_law_1021 rfl rfl ?_
          refine J_iload_n dL_law_1022 rfl rfl ?_
          refine J_iconst (v := 1) dL_law_1023 (by decide) ?_
          refine J_iadd (z := 1) dL_law_1024 (by decide +kernel) ?_
          refine L_sld (i2 := 1) (v := 0) dL_law_1025 (jin (by decide +kernel)) (by decide +kernel) hx1 ?_
          refine J_sload_n dL_law_1026 rfl rfl ?_
          refine J_iload_n dL_law_1027 rfl rfl ?_
          refine J_iconst (v := 2) dL_law_1028 (by decide) ?_
          refine J_iadd (z := 2) dL_law_1029 (by decide +kernel) ?_
          refine L_sld (i2 := 2) (v := x2) dL_law_1030 (jin (by decide +kernel)) (by decide +kernel) hx2 ?_
          refine J_sload_n dL_law_1031 rfl rfl ?_
          refine J_iload_n dL_law_1032 rfl rfl ?_
          refine J_iconst (v := 3) dL_law_1033 (by decide) ?_
          refine J_iadd (z := 3) dL_law_1034 (by decide +kernel) ?_
          refine L_sld (i2 := 3) (v := x3) dL_law_1035 (jin (by decide +kernel)) (by decide +kernel) hx3 ?_
          refine J_sload_n dL_law_1036 rfl rfl ?_
          refine J_iload_n dL_law_1037 rfl rfl ?_
          refine J_iconst (v := 4) dL_law_1038 (by decide) ?_
          refine J_iadd (z := 4) dL_law_1039 (by decide +kernel) ?_
          refine L_sld (i2 := 4) (v := x4) dL_law_1040 (jin (by decide +kernel)) (by decide +kernel) hx4 ?_
          refine J_callV (st := []) dL_law_1041 cv_L_135 (c_X11_post_8 (x2) b2 (x3) b3 (x4) b4 H0_0 H0_51) H0_0 rfl rfl (Nat.le_of_ble_eq_true rfl) ⟨(Nat.le_of_ble_eq_true rfl), (Nat.le_of_ble_eq_true rfl)⟩ ⟨(Nat.le_of_ble_eq_true rfl), (Nat.le_of_ble_eq_true rfl)⟩ (fun r h9 hp => ?_)
          obtain ⟨rfl, rfl⟩ := hp
          refine J_nf (nh2 := 135) (ck2 := 135) (sk2 := 415506) (st2 := [.int (-1)]) rfl rfl rfl rfl ?_
          refine J_aload_n dL_law_1044 rfl rfl ?_
          refine J_sload_n dL_law_1045 rfl rfl ?_
          refine J_iload_n dL_law_1046 rfl rfl ?_
          refine J_iconst (v := 1) dL_law_1047 (by decide) ?_
          refine J_iadd (z := 1) dL_law_1048 (by decide +kernel) ?_
          refine L_sld (i2 := 1) (v := 0) dL_law_1049 (jin (by decide +kernel)) (by decide +kernel) hx1 ?_
          refine J_sload_n dL_law_1050 rfl rfl ?_
          refine J_iload_n dL_law_1051 rfl rfl ?_
          refine J_iconst (v := 2) dL_law_1052 (by decide) ?_
          refine J_iadd (z := 2) dL_law_1053 (by decide +kernel) ?_
          refine L_sld (i2 := 2) (v := x2) dL_law_1054 (jin (by decide +kernel)) (by decide +kernel) hx2 ?_
          refine J_sload_n dL_law_1055 rfl rfl ?_
          refine J_iload_n dL_law_1056 rfl rfl ?_
          refine J_iconst (v := 3) dL_law_1057 (by decide) ?_
          refine J_iadd (z := 3) dL_law_1058 (by decide +kernel) ?_
          refine L_sld (i2 := 3) (v := x3) dL_law_1059 (jin (by decide +kernel)) (by decide +kernel) hx3 ?_
          refine J_sload_n dL_law_1060 rfl rfl ?_
          refine J_iload_n dL_law_1061 rfl rfl ?_
          refine J_iconst (v := 4) dL_law_1062 (by decide) ?_
          refine J_iadd (z := 4) dL_law_1063 (by decide +kernel) ?_
          refine L_sld (i2 := 4) (v := x4) dL_law_1064 (jin (by decide +kernel)) (by decide +kernel) hx4 ?_
          refine J_callV (st := [.int (-1)]) dL_law_1065 cv_L_139 (c_X12_post_8 (x2) b2 (x3) b3 (x4) b4 H0_98 H0_100 H0_111) H0_98 rfl rfl (Nat.le_of_ble_eq_true rfl) ⟨(Nat.le_of_ble_eq_true rfl), (Nat.le_of_ble_eq_true rfl)⟩ ⟨(Nat.le_of_ble_eq_true rfl), (Nat.le_of_ble_eq_true rfl)⟩ (fun r h9 hp => ?_)
          obtain ⟨rfl, rfl⟩ := hp
          refine J_nf (nh2 := 135) (ck2 := 135) (sk2 := 415506) (st2 := [.int (-1), .int (-1)]) rfl rfl rfl rfl ?_
          refine J_app (L3 := [(98, .inr (12, [.int 0, .int 0, .ref 99, .ref 100, .ref 101, .ref 102, .ref 103, .ref 104, .ref 105, .int 0, .int (-1), .ref 106, .ref 107, .ref 108, .int 0, .int 0, .int 0, .int 0, .int 0, .int 0, .int 0, .ref 109, .int 0, .int 0, .ref 110, .ref 111, .ref 112, .ref 113, .ref 114, .ref 115, .ref 116, .ref 117, .int 1, .int 0, .int 0, .int (-1), .ref 118, .ref 119, .ref 120, .ref 121, .ref 122, .ref 123, .ref 124, .ref 125, .ref 126, .ref 127, .ref 128, .ref 129, .int 0, .ref 130, .ref 131, .ref 132, .ref 133, .ref 134, .int 0, .int 0])), (111, .inl (0, 1260, .inl (upd (fun _ => 0) 0 0)))]) rfl ?_
          refine J_icmp_eq (tgt := 1221) dL_law_1068 (by decide) (fun _ => ?_) (fun q => absurd (by decide +kernel) q)
          exact law_tail (Nat.le_of_ble_eq_true rfl) (Nat.le_of_ble_eq_true rfl)
    · have b1 : 1 ≤ x1.toInt ∧ x1.toInt ≤ 2147483647 := ⟨by omega, by omega⟩
      have b2 : (-2147483648) ≤ x2.toInt ∧ x2.toInt ≤ 2147483647 := ⟨by omega, by omega⟩
      have b3 : (-2147483648) ≤ x3.toInt ∧ x3.toInt ≤ 2147483647 := ⟨by omega, by omega⟩
      have b4 : (-2147483648) ≤ x4.toInt ∧ x4.toInt ≤ 2147483647 := ⟨by omega, by omega⟩
      refine J_hc0 ?_
      refine J_aload_n dL_law_1020 rfl rfl ?_
      refine J_sload_n dL_law_1021 rfl rfl ?_
      refine J_iload_n dL_law_1022 rfl rfl ?_
      refine J_iconst (v := 1) dL_law_1023 (by decide) ?_
      refine J_iadd (z := 1) dL_law_1024 (by decide +kernel) ?_
      refine L_sld (i2 := 1) (v := x1) dL_law_1025 (jin (by decide +kernel)) (by decide +kernel) hx1 ?_
      refine J_sload_n dL_law_1026 rfl rfl ?_
      refine J_iload_n dL_law_1027 rfl rfl ?_
      refine J_iconst (v := 2) dL_law_1028 (by decide) ?_
      refine J_iadd (z := 2) dL_law_1029 (by decide +kernel) ?_
      refine L_sld (i2 := 2) (v := x2) dL_law_1030 (jin (by decide +kernel)) (by decide +kernel) hx2 ?_
      refine J_sload_n dL_law_1031 rfl rfl ?_
      refine J_iload_n dL_law_1032 rfl rfl ?_
      refine J_iconst (v := 3) dL_law_1033 (by decide) ?_
      refine J_iadd (z := 3) dL_law_1034 (by decide +kernel) ?_
      refine L_sld (i2 := 3) (v := x3) dL_law_1035 (jin (by decide +kernel)) (by decide +kernel) hx3 ?_
      refine J_sload_n dL_law_1036 rfl rfl ?_
      refine J_iload_n dL_law_1037 rfl rfl ?_
      refine J_iconst (v := 4) dL_law_1038 (by decide) ?_
      refine J_iadd (z := 4) dL_law_1039 (by decide +kernel) ?_
      refine L_sld (i2 := 4) (v := x4) dL_law_1040 (jin (by decide +kernel)) (by decide +kernel) hx4 ?_
      refine J_callV (st := []) dL_law_1041 cv_L_135 (c_X11_post_9 (x1) b1 (x2) b2 (x3) b3 (x4) b4 H0_0 H0_51) H0_0 rfl rfl (Nat.le_of_ble_eq_true rfl) ⟨(Nat.le_of_ble_eq_true rfl), (Nat.le_of_ble_eq_true rfl)⟩ ⟨(Nat.le_of_ble_eq_true rfl), (Nat.le_of_ble_eq_true rfl)⟩ (fun r h9 hp => ?_)
      obtain ⟨rfl, rfl⟩ := hp
      refine J_nf (nh2 := 135) (ck2 := 135) (sk2 := 415506) (st2 := [.int (-1)]) rfl rfl rfl rfl ?_
      refine J_aload_n dL_law_1044 rfl rfl ?_
      refine J_sload_n dL_law_1045 rfl rfl ?_
      refine J_iload_n dL_law_1046 rfl rfl ?_
      refine J_iconst (v := 1) dL_law_1047 (by decide) ?_
      refine J_iadd (z := 1) dL_law_1048 (by decide +kernel) ?_
      refine L_sld (i2 := 1) (v := x1) dL_law_1049 (jin (by decide +kernel)) (by decide +kernel) hx1 ?_
      refine J_sload_n dL_law_1050 rfl rfl ?_
      refine J_iload_n dL_law_1051 rfl rfl ?_
      refine J_iconst (v := 2) dL_law_1052 (by decide) ?_
      refine J_iadd (z := 2) dL_law_1053 (by decide +kernel) ?_
      refine L_sld (i2 := 2) (v := x2) dL_law_1054 (jin (by decide +kernel)) (by decide +kernel) hx2 ?_
      refine J_sload_n dL_law_1055 rfl rfl ?_
      refine J_iload_n dL_law_1056 rfl rfl ?_
      refine J_iconst (v := 3) dL_law_1057 (by decide) ?_
      refine J_iadd (z := 3) dL_law_1058 (by decide +kernel) ?_
      refine L_sld (i2 := 3) (v := x3) dL_law_1059 (jin (by decide +kernel)) (by decide +kernel) hx3 ?_
      refine J_sload_n dL_law_1060 rfl rfl ?_
      refine J_iload_n dL_law_1061 rfl rfl ?_
      refine J_iconst (v := 4) dL_law_1062 (by decide) ?_
      refine J_iadd (z := 4) dL_law_1063 (by decide +kernel) ?_
      refine L_sld (i2 := 4) (v := x4) dL_law_1064 (jin (by decide +kernel)) (by decide +kernel) hx4 ?_
      refine J_callV (st := [.int (-1)]) dL_law_1065 cv_L_139 (c_X12_post_9 (x1) b1 (x2) b2 (x3) b3 (x4) b4 H0_98 H0_100 H0_111) H0_98 rfl rfl (Nat.le_of_ble_eq_true rfl) ⟨(Nat.le_of_ble_eq_true rfl), (Nat.le_of_ble_eq_true rfl)⟩ ⟨(Nat.le_of_ble_eq_true rfl), (Nat.le_of_ble_eq_true rfl)⟩ (fun r h9 hp => ?_)
      obtain ⟨rfl, rfl⟩ := hp
      refine J_nf (nh2 := 135) (ck2 := 135) (sk2 := 415506) (st2 := [.int (-1), .int (-1)]) rfl rfl rfl rfl ?_
      refine J_app (L3 := [(98, .inr (12, [.int 0, .int 0, .ref 99, .ref 100, .ref 101, .ref 102, .ref 103, .ref 104, .ref 105, .int 0, .int (-1), .ref 106, .ref 107, .ref 108, .int 0, .int 0, .int 0, .int 0, .int 0, .int 0, .int 0, .ref 109, .int 0, .int 0, .ref 110, .ref 111, .ref 112, .ref 113, .ref 114, .ref 115, .ref 116, .ref 117, .int 1, .int 0, .int 0, .int (-1), .ref 118, .ref 119, .ref 120, .ref 121, .ref 122, .ref 123, .ref 124, .ref 125, .ref 126, .ref 127, .ref 128, .ref 129, .int 0, .ref 130, .ref 131, .ref 132, .ref 133, .ref 134, .int 0, .int 0])), (111, .inl (0, 1260, .inl (upd (fun _ => 0) 0 0)))]) rfl ?_
      refine J_icmp_eq (tgt := 1221) dL_law_1068 (by decide) (fun _ => ?_) (fun q => absurd (by decide +kernel) q)
      exact law_tail (Nat.le_of_ble_eq_true rfl) (Nat.le_of_ble_eq_true rfl)
set_option maxHeartbeats 4000000 in
set_option maxRecDepth 100000 in
theorem law_case_30 {l : Launch} {G : jG} {b : Nat} {xs : Nat → Int32} (x1 : Int32) (hx1 : xs 1 = x1) (x2 : Int32) (hx2 : xs 2 = x2) (x3 : Int32) (hx3 : xs 3 = x3) : J l G ML_law room_1 (lE b 6 xs G) lQ (135, H0) 135 415506 1073 [some (.retAddr 0), some (.ref 0), some (.ref 98), some (.int 0)] [] := by
  have r1 := i32_rng x1
  have r2 := i32_rng x2
  have r3 := i32_rng x3
  rcases i_cut x1.toInt 0 with h_0 | h_0
  · have b1 : (-2147483648) ≤ x1.toInt ∧ x1.toInt ≤ (-1) := ⟨by omega, by omega⟩
    have b2 : (-2147483648) ≤ x2.toInt ∧ x2.toInt ≤ 2147483647 := ⟨by omega, by omega⟩
    have b3 : (-2147483648) ≤ x3.toInt ∧ x3.toInt ≤ 2147483647 := ⟨by omega, by omega⟩
    refine J_hc0 ?_
    refine J_aload_n dL_law_1073 rfl rfl ?_
    refine J_sload_n dL_law_1074 rfl rfl ?_
    refine J_iload_n dL_law_1075 rfl rfl ?_
    refine J_iconst (v := 1) dL_law_1076 (by decide) ?_
    refine J_iadd (z := 1) dL_law_1077 (by decide +kernel) ?_
    refine L_sld (i2 := 1) (v := x1) dL_law_1078 (jin (by decide +kernel)) (by decide +kernel) hx1 ?_
    refine J_sload_n dL_law_1079 rfl rfl ?_
    refine J_iload_n dL_law_1080 rfl rfl ?_
    refine J_iconst (v := 2) dL_law_1081 (by decide) ?_
    refine J_iadd (z := 2) dL_law_1082 (by decide +kernel) ?_
    refine L_sld (i2 := 2) (v := x2) dL_law_1083 (jin (by decide +kernel)) (by decide +kernel) hx2 ?_
    refine J_sload_n dL_law_1084 rfl rfl ?_
    refine J_iload_n dL_law_1085 rfl rfl ?_
    refine J_iconst (v := 3) dL_law_1086 (by decide) ?_
    refine J_iadd (z := 3) dL_law_1087 (by decide +kernel) ?_
    refine L_sld (i2 := 3) (v := x3) dL_law_1088 (jin (by decide +kernel)) (by decide +kernel) hx3 ?_
    refine J_callV (st := []) dL_law_1089 cv_L_140 (c_X11_drunk_1 (x1) b1 (x2) b2 (x3) b3 H0_0 H0_96) H0_0 rfl rfl (Nat.le_of_ble_eq_true rfl) ⟨(Nat.le_of_ble_eq_true rfl), (Nat.le_of_ble_eq_true rfl)⟩ ⟨(Nat.le_of_ble_eq_true rfl), (Nat.le_of_ble_eq_true rfl)⟩ (fun r h9 hp => ?_)
    obtain ⟨rfl, rfl⟩ := hp
    refine J_nf (nh2 := 135) (ck2 := 135) (sk2 := 415506) (st2 := [.int (-1)]) rfl rfl rfl rfl ?_
    refine J_app (L3 := [(96, .inl (0, 5, .inl (upd (fun _ => 0) 0 1))), (0, .inr (11, [.ref 1, .ref 17, .ref 50, .ref 51, .ref 54, .ref 57, .ref 65, .ref 75, .ref 81, .ref 85, .ref 88, .ref 93, .ref 96, .int (-1), .int (-1), .ref 97, .int 0]))]) rfl ?_
    refine J_aload_n dL_law_1092 rfl rfl ?_
    refine J_sload_n dL_law_1093 rfl rfl ?_
    refine J_iload_n dL_law_1094 rfl rfl ?_
    refine J_iconst (v := 1) dL_law_1095 (by decide) ?_
    refine J_iadd (z := 1) dL_law_1096 (by decide +kernel) ?_
    refine L_sld (i2 := 1) (v := x1) dL_law_1097 (jin (by decide +kernel)) (by decide +kernel) hx1 ?_
    refine J_sload_n dL_law_1098 rfl rfl ?_
    refine J_iload_n dL_law_1099 rfl rfl ?_
    refine J_iconst (v := 2) dL_law_1100 (by decide) ?_
    refine J_iadd (z := 2) dL_law_1101 (by decide +kernel) ?_
    refine L_sld (i2 := 2) (v := x2) dL_law_1102 (jin (by decide +kernel)) (by decide +kernel) hx2 ?_
    refine J_sload_n dL_law_1103 rfl rfl ?_
    refine J_iload_n dL_law_1104 rfl rfl ?_
    refine J_iconst (v := 3) dL_law_1105 (by decide) ?_
    refine J_iadd (z := 3) dL_law_1106 (by decide +kernel) ?_
    refine L_sld (i2 := 3) (v := x3) dL_law_1107 (jin (by decide +kernel)) (by decide +kernel) hx3 ?_
    refine J_callV (st := [.int (-1)]) dL_law_1108 cv_L_143 (c_X12_drunk_1 (x1) b1 (x2) b2 (x3) b3 H0_98 H0_99) H0_98 rfl rfl (Nat.le_of_ble_eq_true rfl) ⟨(Nat.le_of_ble_eq_true rfl), (Nat.le_of_ble_eq_true rfl)⟩ ⟨(Nat.le_of_ble_eq_true rfl), (Nat.le_of_ble_eq_true rfl)⟩ (fun r h9 hp => ?_)
    obtain ⟨rfl, rfl⟩ := hp
    refine J_nf (nh2 := 135) (ck2 := 135) (sk2 := 415506) (st2 := [.int (-1), .int (-1)]) rfl rfl rfl rfl ?_
    refine J_app (L3 := [(99, .inl (0, 7, .inl (upd (fun _ => 0) 1 1))), (98, .inr (12, [.int (-1), .int 0, .ref 99, .ref 100, .ref 101, .ref 102, .ref 103, .ref 104, .ref 105, .int 0, .int (-1), .ref 106, .ref 107, .ref 108, .int 0, .int 0, .int 0, .int 0, .int 0, .int 0, .int 0, .ref 109, .int 0, .int 0, .ref 110, .ref 111, .ref 112, .ref 113, .ref 114, .ref 115, .ref 116, .ref 117, .int 0, .int 0, .int (-1), .int (-1), .ref 118, .ref 119, .ref 120, .ref 121, .ref 122, .ref 123, .ref 124, .ref 125, .ref 126, .ref 127, .ref 128, .ref 129, .int 0, .ref 130, .ref 131, .ref 132, .ref 133, .ref 134, .int 0, .int 0])), (96, .inl (0, 5, .inl (upd (fun _ => 0) 0 1))), (0, .inr (11, [.ref 1, .ref 17, .ref 50, .ref 51, .ref 54, .ref 57, .ref 65, .ref 75, .ref 81, .ref 85, .ref 88, .ref 93, .ref 96, .int (-1), .int (-1), .ref 97, .int 0]))]) rfl ?_
    refine J_icmp_eq (tgt := 1221) dL_law_1111 (by decide) (fun _ => ?_) (fun q => absurd (by decide +kernel) q)
    exact law_tail (Nat.le_of_ble_eq_true rfl) (Nat.le_of_ble_eq_true rfl)
  · rcases i_cut x1.toInt 1000001 with h_1 | h_1
    · rcases i_cut x3.toInt 0 with h_2 | h_2
      · have b1 : 0 ≤ x1.toInt ∧ x1.toInt ≤ 1000000 := ⟨by omega, by omega⟩
        have b2 : (-2147483648) ≤ x2.toInt ∧ x2.toInt ≤ 2147483647 := ⟨by omega, by omega⟩
        have b3 : (-2147483648) ≤ x3.toInt ∧ x3.toInt ≤ (-1) := ⟨by omega, by omega⟩
        refine J_hc0 ?_
        refine J_aload_n dL_law_1073 rfl rfl ?_
        refine J_sload_n dL_law_1074 rfl rfl ?_
        refine J_iload_n dL_law_1075 rfl rfl ?_
        refine J_iconst (v := 1) dL_law_1076 (by decide) ?_
        refine J_iadd (z := 1) dL_law_1077 (by decide +kernel) ?_
        refine L_sld (i2 := 1) (v := x1) dL_law_1078 (jin (by decide +kernel)) (by decide +kernel) hx1 ?_
        refine J_sload_n dL_law_1079 rfl rfl ?_
        refine J_iload_n dL_law_1080 rfl rfl ?_
        refine J_iconst (v := 2) dL_law_1081 (by decide) ?_
        refine J_iadd (z := 2) dL_law_1082 (by decide +kernel) ?_
        refine L_sld (i2 := 2) (v := x2) dL_law_1083 (jin (by decide +kernel)) (by decide +kernel) hx2 ?_
        refine J_sload_n dL_law_1084 rfl rfl ?_
        refine J_iload_n dL_law_1085 rfl rfl ?_
        refine J_iconst (v := 3) dL_law_1086 (by decide) ?_
        refine J_iadd (z := 3) dL_law_1087 (by decide +kernel) ?_
        refine L_sld (i2 := 3) (v := x3) dL_law_1088 (jin (by decide +kernel)) (by decide +kernel) hx3 ?_
        refine J_callV (st := []) dL_law_1089 cv_L_140 (c_X11_drunk_2 (x1) b1 (x2) b2 (x3) b3 H0_0 H0_96) H0_0 rfl rfl (Nat.le_of_ble_eq_true rfl) ⟨(Nat.le_of_ble_eq_true rfl), (Nat.le_of_ble_eq_true rfl)⟩ ⟨(Nat.le_of_ble_eq_true rfl), (Nat.le_of_ble_eq_true rfl)⟩ (fun r h9 hp => ?_)
        obtain ⟨rfl, rfl⟩ := hp
        refine J_nf (nh2 := 135) (ck2 := 135) (sk2 := 415506) (st2 := [.int (-1)]) rfl rfl rfl rfl ?_
        refine J_app (L3 := [(96, .inl (0, 5, .inl (upd (fun _ => 0) 0 1))), (0, .inr (11, [.ref 1, .ref 17, .ref 50, .ref 51, .ref 54, .ref 57, .ref 65, .ref 75, .ref 81, .ref 85, .ref 88, .ref 93, .ref 96, .int (-1), .int (-1), .ref 97, .int 0]))]) rfl ?_
        refine J_aload_n dL_law_1092 rfl rfl ?_
        refine J_sload_n dL_law_1093 rfl rfl ?_
        refine J_iload_n dL_law_1094 rfl rfl ?_
        refine J_iconst (v := 1) dL_law_1095 (by decide) ?_
        refine J_iadd (z := 1) dL_law_1096 (by decide +kernel) ?_
        refine L_sld (i2 := 1) (v := x1) dL_law_1097 (jin (by decide +kernel)) (by decide +kernel) hx1 ?_
        refine J_sload_n dL_law_1098 rfl rfl ?_
        refine J_iload_n dL_law_1099 rfl rfl ?_
        refine J_iconst (v := 2) dL_law_1100 (by decide) ?_
        refine J_iadd (z := 2) dL_law_1101 (by decide +kernel) ?_
        refine L_sld (i2 := 2) (v := x2) dL_law_1102 (jin (by decide +kernel)) (by decide +kernel) hx2 ?_
        refine J_sload_n dL_law_1103 rfl rfl ?_
        refine J_iload_n dL_law_1104 rfl rfl ?_
        refine J_iconst (v := 3) dL_law_1105 (by decide) ?_
        refine J_iadd (z := 3) dL_law_1106 (by decide +kernel) ?_
        refine L_sld (i2 := 3) (v := x3) dL_law_1107 (jin (by decide +kernel)) (by decide +kernel) hx3 ?_
        refine J_callV (st := [.int (-1)]) dL_law_1108 cv_L_143 (c_X12_drunk_2 (x1) b1 (x2) b2 (x3) b3 H0_98 H0_99) H0_98 rfl rfl (Nat.le_of_ble_eq_true rfl) ⟨(Nat.le_of_ble_eq_true rfl), (Nat.le_of_ble_eq_true rfl)⟩ ⟨(Nat.le_of_ble_eq_true rfl), (Nat.le_of_ble_eq_true rfl)⟩ (fun r h9 hp => ?_)
        obtain ⟨rfl, rfl⟩ := hp
        refine J_nf (nh2 := 135) (ck2 := 135) (sk2 := 415506) (st2 := [.int (-1), .int (-1)]) rfl rfl rfl rfl ?_
        refine J_app (L3 := [(99, .inl (0, 7, .inl (upd (fun _ => 0) 1 1))), (98, .inr (12, [.int (-1), .int 0, .ref 99, .ref 100, .ref 101, .ref 102, .ref 103, .ref 104, .ref 105, .int 0, .int (-1), .ref 106, .ref 107, .ref 108, .int 0, .int 0, .int 0, .int 0, .int 0, .int 0, .int 0, .ref 109, .int 0, .int 0, .ref 110, .ref 111, .ref 112, .ref 113, .ref 114, .ref 115, .ref 116, .ref 117, .int 0, .int 0, .int (-1), .int (-1), .ref 118, .ref 119, .ref 120, .ref 121, .ref 122, .ref 123, .ref 124, .ref 125, .ref 126, .ref 127, .ref 128, .ref 129, .int 0, .ref 130, .ref 131, .ref 132, .ref 133, .ref 134, .int 0, .int 0])), (96, .inl (0, 5, .inl (upd (fun _ => 0) 0 1))), (0, .inr (11, [.ref 1, .ref 17, .ref 50, .ref 51, .ref 54, .ref 57, .ref 65, .ref 75, .ref 81, .ref 85, .ref 88, .ref 93, .ref 96, .int (-1), .int (-1), .ref 97, .int 0]))]) rfl ?_
        refine J_icmp_eq (tgt := 1221) dL_law_1111 (by decide) (fun _ => ?_) (fun q => absurd (by decide +kernel) q)
        exact law_tail (Nat.le_of_ble_eq_true rfl) (Nat.le_of_ble_eq_true rfl)
      · rcases i_cut x3.toInt 501 with h_3 | h_3
        · rcases i_cut x2.toInt 0 with h_4 | h_4
          · have b1 : 0 ≤ x1.toInt ∧ x1.toInt ≤ 1000000 := ⟨by omega, by omega⟩
            have b2 : (-2147483648) ≤ x2.toInt ∧ x2.toInt ≤ (-1) := ⟨by omega, by omega⟩
            have b3 : 0 ≤ x3.toInt ∧ x3.toInt ≤ 500 := ⟨by omega, by omega⟩
            refine J_hc0 ?_
            refine J_aload_n dL_law_1073 rfl rfl ?_
            refine J_sload_n dL_law_1074 rfl rfl ?_
            refine J_iload_n dL_law_1075 rfl rfl ?_
            refine J_iconst (v := 1) dL_law_1076 (by decide) ?_
            refine J_iadd (z := 1) dL_law_1077 (by decide +kernel) ?_
            refine L_sld (i2 := 1) (v := x1) dL_law_1078 (jin (by decide +kernel)) (by decide +kernel) hx1 ?_
            refine J_sload_n dL_law_1079 rfl rfl ?_
            refine J_iload_n dL_law_1080 rfl rfl ?_
            refine J_iconst (v := 2) dL_law_1081 (by decide) ?_
            refine J_iadd (z := 2) dL_law_1082 (by decide +kernel) ?_
            refine L_sld (i2 := 2) (v := x2) dL_law_1083 (jin (by decide +kernel)) (by decide +kernel) hx2 ?_
            refine J_sload_n dL_law_1084 rfl rfl ?_
            refine J_iload_n dL_law_1085 rfl rfl ?_
            refine J_iconst (v := 3) dL_law_1086 (by decide) ?_
            refine J_iadd (z := 3) dL_law_1087 (by decide +kernel) ?_
            refine L_sld (i2 := 3) (v := x3) dL_law_1088 (jin (by decide +kernel)) (by decide +kernel) hx3 ?_
            refine J_callV (st := []) dL_law_1089 cv_L_140 (c_X11_drunk_3 (x1) b1 (x2) b2 (x3) b3 H0_0 H0_51 H0_96) H0_0 rfl rfl (Nat.le_of_ble_eq_true rfl) ⟨(Nat.le_of_ble_eq_true rfl), (Nat.le_of_ble_eq_true rfl)⟩ ⟨(Nat.le_of_ble_eq_true rfl), (Nat.le_of_ble_eq_true rfl)⟩ (fun r h9 hp => ?_)
            obtain ⟨rfl, rfl⟩ := hp
            refine J_nf (nh2 := 135) (ck2 := 135) (sk2 := 415506) (st2 := [.int (-2)]) rfl rfl rfl rfl ?_
            refine J_app (L3 := [(96, .inl (0, 5, .inl (upd (fun _ => 0) 1 1))), (0, .inr (11, [.ref 1, .ref 17, .ref 50, .ref 51, .ref 54, .ref 57, .ref 65, .ref 75, .ref 81, .ref 85, .ref 88, .ref 93, .ref 96, .int (-2), .int (-1), .ref 97, .int 0]))]) rfl ?_
            refine J_aload_n dL_law_1092 rfl rfl ?_
            refine J_sload_n dL_law_1093 rfl rfl ?_
            refine J_iload_n dL_law_1094 rfl rfl ?_
            refine J_iconst (v := 1) dL_law_1095 (by decide) ?_
            refine J_iadd (z := 1) dL_law_1096 (by decide +kernel) ?_
            refine L_sld (i2 := 1) (v := x1) dL_law_1097 (jin (by decide +kernel)) (by decide +kernel) hx1 ?_
            refine J_sload_n dL_law_1098 rfl rfl ?_
            refine J_iload_n dL_law_1099 rfl rfl ?_
            refine J_iconst (v := 2) dL_law_1100 (by decide) ?_
            refine J_iadd (z := 2) dL_law_1101 (by decide +kernel) ?_
            refine L_sld (i2 := 2) (v := x2) dL_law_1102 (jin (by decide +kernel)) (by decide +kernel) hx2 ?_
            refine J_sload_n dL_law_1103 rfl rfl ?_
            refine J_iload_n dL_law_1104 rfl rfl ?_
            refine J_iconst (v := 3) dL_law_1105 (by decide) ?_
            refine J_iadd (z := 3) dL_law_1106 (by decide +kernel) ?_
            refine L_sld (i2 := 3) (v := x3) dL_law_1107 (jin (by decide +kernel)) (by decide +kernel) hx3 ?_
            refine J_callV (st := [.int (-2)]) dL_law_1108 cv_L_143 (c_X12_drunk_3 (x1) b1 (x2) b2 (x3) b3 H0_98 H0_99 H0_100 H0_111) H0_98 rfl rfl (Nat.le_of_ble_eq_true rfl) ⟨(Nat.le_of_ble_eq_true rfl), (Nat.le_of_ble_eq_true rfl)⟩ ⟨(Nat.le_of_ble_eq_true rfl), (Nat.le_of_ble_eq_true rfl)⟩ (fun r h9 hp => ?_)
            obtain ⟨rfl, rfl⟩ := hp
            refine J_nf (nh2 := 135) (ck2 := 135) (sk2 := 415506) (st2 := [.int (-2), .int (-2)]) rfl rfl rfl rfl ?_
            refine J_app (L3 := [(99, .inl (0, 7, .inl (upd (fun _ => 0) 2 1))), (98, .inr (12, [.int (-2), .int 0, .ref 99, .ref 100, .ref 101, .ref 102, .ref 103, .ref 104, .ref 105, .int 0, .int (-1), .ref 106, .ref 107, .ref 108, .int 0, .int 0, .int 0, .int 0, .int 0, .int 0, .int 0, .ref 109, .int 0, .int 0, .ref 110, .ref 111, .ref 112, .ref 113, .ref 114, .ref 115, .ref 116, .ref 117, .int 1, .int 0, .int 0, .int (-1), .ref 118, .ref 119, .ref 120, .ref 121, .ref 122, .ref 123, .ref 124, .ref 125, .ref 126, .ref 127, .ref 128, .ref 129, .int 0, .ref 130, .ref 131, .ref 132, .ref 133, .ref 134, .int 0, .int 0])), (111, .inl (0, 1260, .inl (upd (fun _ => 0) 0 0))), (96, .inl (0, 5, .inl (upd (fun _ => 0) 1 1))), (0, .inr (11, [.ref 1, .ref 17, .ref 50, .ref 51, .ref 54, .ref 57, .ref 65, .ref 75, .ref 81, .ref 85, .ref 88, .ref 93, .ref 96, .int (-2), .int (-1), .ref 97, .int 0]))]) rfl ?_
            refine J_icmp_eq (tgt := 1221) dL_law_1111 (by decide) (fun _ => ?_) (fun q => absurd (by decide +kernel) q)
            exact law_tail (Nat.le_of_ble_eq_true rfl) (Nat.le_of_ble_eq_true rfl)
          · rcases i_cut x2.toInt 1 with h_5 | h_5
            · rcases i_cut x3.toInt 1 with h_6 | h_6
              · have b1 : 0 ≤ x1.toInt ∧ x1.toInt ≤ 1000000 := ⟨by omega, by omega⟩
                obtain rfl : x2 = 0 := by rw [fa_eq, kc_0]; omega
                obtain rfl : x3 = 0 := by rw [fa_eq, kc_0]; omega
                refine J_hc0 ?_
                refine J_aload_n dL_law_1073 rfl rfl ?_
                refine J_sload_n dL_law_1074 rfl rfl ?_
                refine J_iload_n dL_law_1075 rfl rfl ?_
                refine J_iconst (v := 1) dL_law_1076 (by decide) ?_
                refine J_iadd (z := 1) dL_law_1077 (by decide +kernel) ?_
                refine L_sld (i2 := 1) (v := x1) dL_law_1078 (jin (by decide +kernel)) (by decide +kernel) hx1 ?_
                refine J_sload_n dL_law_1079 rfl rfl ?_
                refine J_iload_n dL_law_1080 rfl rfl ?_
                refine J_iconst (v := 2) dL_law_1081 (by decide) ?_
                refine J_iadd (z := 2) dL_law_1082 (by decide +kernel) ?_
                refine L_sld (i2 := 2) (v := 0) dL_law_1083 (jin (by decide +kernel)) (by decide +kernel) hx2 ?_
                refine J_sload_n dL_law_1084 rfl rfl ?_
                refine J_iload_n dL_law_1085 rfl rfl ?_
                refine J_iconst (v := 3) dL_law_1086 (by decide) ?_
                refine J_iadd (z := 3) dL_law_1087 (by decide +kernel) ?_
                refine L_sld (i2 := 3) (v := 0) dL_law_1088 (jin (by decide +kernel)) (by decide +kernel) hx3 ?_
                refine J_callV (st := []) dL_law_1089 cv_L_140 (c_X11_drunk_4 (x1) b1 H0_0 H0_1 H0_3 H0_51 H0_57 H0_58 H0_59 H0_62 H0_63 H0_97) H0_0 rfl rfl (Nat.le_of_ble_eq_true rfl) ⟨(Nat.le_of_ble_eq_true rfl), (Nat.le_of_ble_eq_true rfl)⟩ ⟨(Nat.le_of_ble_eq_true rfl), (Nat.le_of_ble_eq_true rfl)⟩ (fun r h9 hp => ?_)
                obtain ⟨rfl, rfl⟩ := hp
                refine J_nf (nh2 := 136) (ck2 := 136) (sk2 := 415528) (st2 := [.int 0]) rfl rfl rfl rfl ?_
                refine J_app (L3 := [(0, .inr (11, [.ref 1, .ref 17, .ref 50, .ref 51, .ref 54, .ref 57, .ref 65, .ref 75, .ref 81, .ref 85, .ref 88, .ref 93, .ref 96, .int 0, .int (-1), .ref 97, .int 1])), (97, .inl (0, 1260, .inl (upd (fun _ => 0) 0 1))), (57, .inr (9, [.ref 1, .ref 51, .ref 58, .ref 61, .ref 62, .ref 135, .ref 64, .int 0, .int 0, .int 0])), (62, .inl (0, 1260, .inl (upd (fun _ => 0) 0 (-1)))), (135, .inl (0, 22, .inl (fun _ => 0))), (59, .inl (0, 8, .inl (upd (upd (fun _ => 0) 6 0) 7 0)))]) rfl ?_
                refine J_aload_n dL_law_1092 rfl rfl ?_
                refine J_sload_n dL_law_1093 rfl rfl ?_
                refine J_iload_n dL_law_1094 rfl rfl ?_
                refine J_iconst (v := 1) dL_law_1095 (by decide) ?_
                refine J_iadd (z := 1) dL_law_1096 (by decide +kernel) ?_
                refine L_sld (i2 := 1) (v := x1) dL_law_1097 (jin (by decide +kernel)) (by decide +kernel) hx1 ?_
                refine J_sload_n dL_law_1098 rfl rfl ?_
                refine J_iload_n dL_law_1099 rfl rfl ?_
                refine J_iconst (v := 2) dL_law_1100 (by decide) ?_
                refine J_iadd (z := 2) dL_law_1101 (by decide +kernel) ?_
                refine L_sld (i2 := 2) (v := 0) dL_law_1102 (jin (by decide +kernel)) (by decide +kernel) hx2 ?_
                refine J_sload_n dL_law_1103 rfl rfl ?_
                refine J_iload_n dL_law_1104 rfl rfl ?_
                refine J_iconst (v := 3) dL_law_1105 (by decide) ?_
                refine J_iadd (z := 3) dL_law_1106 (by decide +kernel) ?_
                refine L_sld (i2 := 3) (v := 0) dL_law_1107 (jin (by decide +kernel)) (by decide +kernel) hx3 ?_
                refine J_callV (st := [.int 0]) dL_law_1108 cv_L_143 (c_X12_drunk_4 (x1) b1 H0_98 H0_100 H0_111 H0_114 H0_116 H0_134) H0_98 rfl rfl (Nat.le_of_ble_eq_true rfl) ⟨(Nat.le_of_ble_eq_true rfl), (Nat.le_of_ble_eq_true rfl)⟩ ⟨(Nat.le_of_ble_eq_true rfl), (Nat.le_of_ble_eq_true rfl)⟩ (fun r h9 hp => ?_)
                obtain ⟨rfl, rfl⟩ := hp
                refine J_nf (nh2 := 136) (ck2 := 136) (sk2 := 415528) (st2 := [.int 0, .int 0]) rfl rfl rfl rfl ?_
                refine J_app (L3 := [(98, .inr (12, [.int 0, .int 1, .ref 99, .ref 100, .ref 101, .ref 102, .ref 103, .ref 104, .ref 105, .int 0, .int (-1), .ref 106, .ref 107, .ref 108, .int 0, .int 0, .int 0, .int 0, .int 0, .int 0, .int 0, .ref 109, .int 0, .int 0, .ref 110, .ref 111, .ref 112, .ref 113, .ref 114, .ref 115, .ref 116, .ref 117, .int 1, .int 0, .int 0, .int 0, .ref 118, .ref 119, .ref 120, .ref 121, .ref 122, .ref 123, .ref 124, .ref 125, .ref 126, .ref 127, .ref 128, .ref 129, .int 0, .ref 130, .ref 131, .ref 132, .ref 133, .ref 134, .int 1, .int x1])), (134, .inl (0, 1260, .inl (upd (upd (fun _ => 0) 0 0) 0 1))), (114, .inl (0, 1260, .inl (upd (fun _ => 0) 0 0))), (116, .inl (0, 1260, .inl (upd (fun _ => 0) 0 0))), (111, .inl (0, 1260, .inl (upd (fun _ => 0) 0 0))), (0, .inr (11, [.ref 1, .ref 17, .ref 50, .ref 51, .ref 54, .ref 57, .ref 65, .ref 75, .ref 81, .ref 85, .ref 88, .ref 93, .ref 96, .int 0, .int (-1), .ref 97, .int 1])), (97, .inl (0, 1260, .inl (upd (fun _ => 0) 0 1))), (57, .inr (9, [.ref 1, .ref 51, .ref 58, .ref 61, .ref 62, .ref 135, .ref 64, .int 0, .int 0, .int 0])), (62, .inl (0, 1260, .inl (upd (fun _ => 0) 0 (-1)))), (135, .inl (0, 22, .inl (fun _ => 0))), (59, .inl (0, 8, .inl (upd (upd (fun _ => 0) 6 0) 7 0)))]) rfl ?_
                refine J_icmp_eq (tgt := 1221) dL_law_1111 (by decide) (fun _ => ?_) (fun q => absurd (by decide +kernel) q)
                exact law_tail (Nat.le_of_ble_eq_true rfl) (Nat.le_of_ble_eq_true rfl)
              · have b1 : 0 ≤ x1.toInt ∧ x1.toInt ≤ 1000000 := ⟨by omega, by omega⟩
                obtain rfl : x2 = 0 := by rw [fa_eq, kc_0]; omega
                have b3 : 1 ≤ x3.toInt ∧ x3.toInt ≤ 500 := ⟨by omega, by omega⟩
                refine J_hc0 ?_
                refine J_aload_n dL_law_1073 rfl rfl ?_
                refine J_sload_n dL_law_1074 rfl rfl ?_
                refine J_iload_n dL_law_1075 rfl rfl ?_
                refine J_iconst (v := 1) dL_law_1076 (by decide) ?_
                refine J_iadd (z := 1) dL_law_1077 (by decide +kernel) ?_
                refine L_sld (i2 := 1) (v := x1) dL_law_1078 (jin (by decide +kernel)) (by decide +kernel) hx1 ?_
                refine J_sload_n dL_law_1079 rfl rfl ?_
                refine J_iload_n dL_law_1080 rfl rfl ?_
                refine J_iconst (v := 2) dL_law_1081 (by decide) ?_
                refine J_iadd (z := 2) dL_law_1082 (by decide +kernel) ?_
                refine L_sld (i2 := 2) (v := 0) dL_law_1083 (jin (by decide +kernel)) (by decide +kernel) hx2 ?_
                refine J_sload_n dL_law_1084 rfl rfl ?_
                refine J_iload_n dL_law_1085 rfl rfl ?_
                refine J_iconst (v := 3) dL_law_1086 (by decide) ?_
                refine J_iadd (z := 3) dL_law_1087 (by decide +kernel) ?_
                refine L_sld (i2 := 3) (v := x3) dL_law_1088 (jin (by decide +kernel)) (by decide +kernel) hx3 ?_
                refine J_callV (st := []) dL_law_1089 cv_L_140 (c_X11_drunk_loop (x1) b1 (x3) b3 H0_0 H0_1 H0_3 H0_51 H0_52 H0_57 H0_58 H0_59 H0_62 H0_63 H0_97) H0_0 rfl rfl (Nat.le_of_ble_eq_true rfl) ⟨(Nat.le_of_ble_eq_true rfl), (Nat.le_of_ble_eq_true rfl)⟩ ⟨(Nat.le_of_ble_eq_true rfl), (Nat.le_of_ble_eq_true rfl)⟩ (fun r h9 hp => ?_)
                obtain ⟨rfl, gc, rfl⟩ := hp
                refine J_nf (nh2 := 136) (ck2 := 136) (sk2 := 415528) (st2 := [.int 0]) rfl rfl rfl rfl ?_
                refine J_app (L3 := [(0, .inr (11, [.ref 1, .ref 17, .ref 50, .ref 51, .ref 54, .ref 57, .ref 65, .ref 75, .ref 81, .ref 85, .ref 88, .ref 93, .ref 96, .int 0, .int (-1), .ref 97, .int 1])), (97, .inl (0, 1260, .inl gc)), (62, .inl (0, 1260, .inl (upd (upd (fun _ => 0) 0 (-1)) 0 0))), (57, .inr (9, [.ref 1, .ref 51, .ref 58, .ref 61, .ref 62, .ref 135, .ref 64, .int 0, .int 0, .int 0])), (135, .inl (0, 22, .inl (fun _ => 0))), (59, .inl (0, 8, .inl (upd (upd (fun _ => 0) 6 0) 7 0)))]) rfl ?_
                refine J_aload_n dL_law_1092 rfl rfl ?_
                refine J_sload_n dL_law_1093 rfl rfl ?_
                refine J_iload_n dL_law_1094 rfl rfl ?_
                refine J_iconst (v := 1) dL_law_1095 (by decide) ?_
                refine J_iadd (z := 1) dL_law_1096 (by decide +kernel) ?_
                refine L_sld (i2 := 1) (v := x1) dL_law_1097 (jin (by decide +kernel)) (by decide +kernel) hx1 ?_
                refine J_sload_n dL_law_1098 rfl rfl ?_
                refine J_iload_n dL_law_1099 rfl rfl ?_
                refine J_iconst (v := 2) dL_law_1100 (by decide) ?_
                refine J_iadd (z := 2) dL_law_1101 (by decide +kernel) ?_
                refine L_sld (i2 := 2) (v := 0) dL_law_1102 (jin (by decide +kernel)) (by decide +kernel) hx2 ?_
                refine J_sload_n dL_law_1103 rfl rfl ?_
                refine J_iload_n dL_law_1104 rfl rfl ?_
                refine J_iconst (v := 3) dL_law_1105 (by decide) ?_
                refine J_iadd (z := 3) dL_law_1106 (by decide +kernel) ?_
                refine L_sld (i2 := 3) (v := x3) dL_law_1107 (jin (by decide +kernel)) (by decide +kernel) hx3 ?_
                refine J_callV (st := [.int 0]) dL_law_1108 cv_L_143 (c_X12_drunk_loop (x1) b1 (x3) b3 H0_98 H0_100 H0_111 H0_114 H0_116 H0_134) H0_98 rfl rfl (Nat.le_of_ble_eq_true rfl) ⟨(Nat.le_of_ble_eq_true rfl), (Nat.le_of_ble_eq_true rfl)⟩ ⟨(Nat.le_of_ble_eq_true rfl), (Nat.le_of_ble_eq_true rfl)⟩ (fun r h9 hp => ?_)
                obtain ⟨rfl, gm, rfl⟩ := hp
                refine J_nf (nh2 := 136) (ck2 := 136) (sk2 := 415528) (st2 := [.int 0, .int 0]) rfl rfl rfl rfl ?_
                refine J_app (L3 := [(98, .inr (12, [.int 0, .int 1, .ref 99, .ref 100, .ref 101, .ref 102, .ref 103, .ref 104, .ref 105, .int 0, .int (-1), .ref 106, .ref 107, .ref 108, .int 0, .int 0, .int 0, .int 0, .int 0, .int 0, .int 0, .ref 109, .int 0, .int 0, .ref 110, .ref 111, .ref 112, .ref 113, .ref 114, .ref 115, .ref 116, .ref 117, .int 1, .int 0, .int 0, .int 0, .ref 118, .ref 119, .ref 120, .ref 121, .ref 122, .ref 123, .ref 124, .ref 125, .ref 126, .ref 127, .ref 128, .ref 129, .int 0, .ref 130, .ref 131, .ref 132, .ref 133, .ref 134, .int 1, .int x1])), (134, .inl (0, 1260, .inl gm)), (114, .inl (0, 1260, .inl (upd (fun _ => 0) 0 0))), (116, .inl (0, 1260, .inl (upd (fun _ => 0) 0 0))), (111, .inl (0, 1260, .inl (upd (fun _ => 0) 0 0))), (0, .inr (11, [.ref 1, .ref 17, .ref 50, .ref 51, .ref 54, .ref 57, .ref 65, .ref 75, .ref 81, .ref 85, .ref 88, .ref 93, .ref 96, .int 0, .int (-1), .ref 97, .int 1])), (97, .inl (0, 1260, .inl gc)), (62, .inl (0, 1260, .inl (upd (upd (fun _ => 0) 0 (-1)) 0 0))), (57, .inr (9, [.ref 1, .ref 51, .ref 58, .ref 61, .ref 62, .ref 135, .ref 64, .int 0, .int 0, .int 0])), (135, .inl (0, 22, .inl (fun _ => 0))), (59, .inl (0, 8, .inl (upd (upd (fun _ => 0) 6 0) 7 0)))]) rfl ?_
                refine J_icmp_eq (tgt := 1221) dL_law_1111 (by decide) (fun _ => ?_) (fun q => absurd (by decide +kernel) q)
                exact law_tail (Nat.le_of_ble_eq_true rfl) (Nat.le_of_ble_eq_true rfl)
            · have b1 : 0 ≤ x1.toInt ∧ x1.toInt ≤ 1000000 := ⟨by omega, by omega⟩
              have b2 : 1 ≤ x2.toInt ∧ x2.toInt ≤ 2147483647 := ⟨by omega, by omega⟩
              have b3 : 0 ≤ x3.toInt ∧ x3.toInt ≤ 500 := ⟨by omega, by omega⟩
              refine J_hc0 ?_
              refine J_aload_n dL_law_1073 rfl rfl ?_
              refine J_sload_n dL_law_1074 rfl rfl ?_
              refine J_iload_n dL_law_1075 rfl rfl ?_
              refine J_iconst (v := 1) dL_law_1076 (by decide) ?_
              refine J_iadd (z := 1) dL_law_1077 (by decide +kernel) ?_
              refine L_sld (i2 := 1) (v := x1) dL_law_1078 (jin (by decide +kernel)) (by decide +kernel) hx1 ?_
              refine J_sload_n dL_law_1079 rfl rfl ?_
              refine J_iload_n dL_law_1080 rfl rfl ?_
              refine J_iconst (v := 2) dL_law_1081 (by decide) ?_
              refine J_iadd (z := 2) dL_law_1082 (by decide +kernel) ?_
              refine L_sld (i2 := 2) (v := x2) dL_law_1083 (jin (by decide +kernel)) (by decide +kernel) hx2 ?_
              refine J_sload_n dL_law_1084 rfl rfl ?_
              refine J_iload_n dL_law_1085 rfl rfl ?_
              refine J_iconst (v := 3) dL_law_1086 (by decide) ?_
              refine J_iadd (z := 3) dL_law_1087 (by decide +kernel) ?_
              refine L_sld (i2 := 3) (v := x3) dL_law_1088 (jin (by decide +kernel)) (by decide +kernel) hx3 ?_
              refine J_callV (st := []) dL_law_1089 cv_L_140 (c_X11_drunk_5 (x1) b1 (x2) b2 (x3) b3 H0_0 H0_51 H0_96) H0_0 rfl rfl (Nat.le_of_ble_eq_true rfl) ⟨(Nat.le_of_ble_eq_true rfl), (Nat.le_of_ble_eq_true rfl)⟩ ⟨(Nat.le_of_ble_eq_true rfl), (Nat.le_of_ble_eq_true rfl)⟩ (fun r h9 hp => ?_)
              obtain ⟨rfl, rfl⟩ := hp
              refine J_nf (nh2 := 135) (ck2 := 135) (sk2 := 415506) (st2 := [.int (-2)]) rfl rfl rfl rfl ?_
              refine J_app (L3 := [(96, .inl (0, 5, .inl (upd (fun _ => 0) 1 1))), (0, .inr (11, [.ref 1, .ref 17, .ref 50, .ref 51, .ref 54, .ref 57, .ref 65, .ref 75, .ref 81, .ref 85, .ref 88, .ref 93, .ref 96, .int (-2), .int (-1), .ref 97, .int 0]))]) rfl ?_
              refine J_aload_n dL_law_1092 rfl rfl ?_
              refine J_sload_n dL_law_1093 rfl rfl ?_
              refine J_iload_n dL_law_1094 rfl rfl ?_
              refine J_iconst (v := 1) dL_law_1095 (by decide) ?_
              refine J_iadd (z := 1) dL_law_1096 (by decide +kernel) ?_
              refine L_sld (i2 := 1) (v := x1) dL_law_1097 (jin (by decide +kernel)) (by decide +kernel) hx1 ?_
              refine J_sload_n dL_law_1098 rfl rfl ?_
              refine J_iload_n dL_law_1099 rfl rfl ?_
              refine J_iconst (v := 2) dL_law_1100 (by decide) ?_
              refine J_iadd (z := 2) dL_law_1101 (by decide +kernel) ?_
              refine L_sld (i2 := 2) (v := x2) dL_law_1102 (jin (by decide +kernel)) (by decide +kernel) hx2 ?_
              refine J_sload_n dL_law_1103 rfl rfl ?_
              refine J_iload_n dL_law_1104 rfl rfl ?_
              refine J_iconst (v := 3) dL_law_1105 (by decide) ?_
              refine J_iadd (z := 3) dL_law_1106 (by decide +kernel) ?_
              refine L_sld (i2 := 3) (v := x3) dL_law_1107 (jin (by decide +kernel)) (by decide +kernel) hx3 ?_
              refine J_callV (st := [.int (-2)]) dL_law_1108 cv_L_143 (c_X12_drunk_5 (x1) b1 (x2) b2 (x3) b3 H0_98 H0_99 H0_100 H0_111) H0_98 rfl rfl (Nat.le_of_ble_eq_true rfl) ⟨(Nat.le_of_ble_eq_true rfl), (Nat.le_of_ble_eq_true rfl)⟩ ⟨(Nat.le_of_ble_eq_true rfl), (Nat.le_of_ble_eq_true rfl)⟩ (fun r h9 hp => ?_)
              obtain ⟨rfl, rfl⟩ := hp
              refine J_nf (nh2 := 135) (ck2 := 135) (sk2 := 415506) (st2 := [.int (-2), .int (-2)]) rfl rfl rfl rfl ?_
              refine J_app (L3 := [(99, .inl (0, 7, .inl (upd (fun _ => 0) 2 1))), (98, .inr (12, [.int (-2), .int 0, .ref 99, .ref 100, .ref 101, .ref 102, .ref 103, .ref 104, .ref 105, .int 0, .int (-1), .ref 106, .ref 107, .ref 108, .int 0, .int 0, .int 0, .int 0, .int 0, .int 0, .int 0, .ref 109, .int 0, .int 0, .ref 110, .ref 111, .ref 112, .ref 113, .ref 114, .ref 115, .ref 116, .ref 117, .int 1, .int 0, .int 0, .int (-1), .ref 118, .ref 119, .ref 120, .ref 121, .ref 122, .ref 123, .ref 124, .ref 125, .ref 126, .ref 127, .ref 128, .ref 129, .int 0, .ref 130, .ref 131, .ref 132, .ref 133, .ref 134, .int 0, .int 0])), (111, .inl (0, 1260, .inl (upd (fun _ => 0) 0 0))), (96, .inl (0, 5, .inl (upd (fun _ => 0) 1 1))), (0, .inr (11, [.ref 1, .ref 17, .ref 50, .ref 51, .ref 54, .ref 57, .ref 65, .ref 75, .ref 81, .ref 85, .ref 88, .ref 93, .ref 96, .int (-2), .int (-1), .ref 97, .int 0]))]) rfl ?_
              refine J_icmp_eq (tgt := 1221) dL_law_1111 (by decide) (fun _ => ?_) (fun q => absurd (by decide +kernel) q)
              exact law_tail (Nat.le_of_ble_eq_true rfl) (Nat.le_of_ble_eq_true rfl)
        · have b1 : 0 ≤ x1.toInt ∧ x1.toInt ≤ 1000000 := ⟨by omega, by omega⟩
          have b2 : (-2147483648) ≤ x2.toInt ∧ x2.toInt ≤ 2147483647 := ⟨by omega, by omega⟩
          have b3 : 501 ≤ x3.toInt ∧ x3.toInt ≤ 2147483647 := ⟨by omega, by omega⟩
          refine J_hc0 ?_
          refine J_aload_n dL_law_1073 rfl rfl ?_
          refine J_sload_n dL_law_1074 rfl rfl ?_
          refine J_iload_n dL_law_1075 rfl rfl ?_
          refine J_iconst (v := 1) dL_law_1076 (by decide) ?_
          refine J_iadd (z := 1) dL_law_1077 (by decide +kernel) ?_
          refine L_sld (i2 := 1) (v := x1) dL_law_1078 (jin (by decide +kernel)) (by decide +kernel) hx1 ?_
          refine J_sload_n dL_law_1079 rfl rfl ?_
          refine J_iload_n dL_law_1080 rfl rfl ?_
          refine J_iconst (v := 2) dL_law_1081 (by decide) ?_
          refine J_iadd (z := 2) dL_law_1082 (by decide +kernel) ?_
          refine L_sld (i2 := 2) (v := x2) dL_law_1083 (jin (by decide +kernel)) (by decide +kernel) hx2 ?_
          refine J_sload_n dL_law_1084 rfl rfl ?_
          refine J_iload_n dL_law_1085 rfl rfl ?_
          refine J_iconst (v := 3) dL_law_1086 (by decide) ?_
          refine J_iadd (z := 3) dL_law_1087 (by decide +kernel) ?_
          refine L_sld (i2 := 3) (v := x3) dL_law_1088 (jin (by decide +kernel)) (by decide +kernel) hx3 ?_
          refine J_callV (st := []) dL_law_1089 cv_L_140 (c_X11_drunk_6 (x1) b1 (x2) b2 (x3) b3 H0_0 H0_96) H0_0 rfl rfl (Nat.le_of_ble_eq_true rfl) ⟨(Nat.le_of_ble_eq_true rfl), (Nat.le_of_ble_eq_true rfl)⟩ ⟨(Nat.le_of_ble_eq_true rfl), (Nat.le_of_ble_eq_true rfl)⟩ (fun r h9 hp => ?_)
          obtain ⟨rfl, rfl⟩ := hp
          refine J_nf (nh2 := 135) (ck2 := 135) (sk2 := 415506) (st2 := [.int (-1)]) rfl rfl rfl rfl ?_
          refine J_app (L3 := [(96, .inl (0, 5, .inl (upd (fun _ => 0) 0 1))), (0, .inr (11, [.ref 1, .ref 17, .ref 50, .ref 51, .ref 54, .ref 57, .ref 65, .ref 75, .ref 81, .ref 85, .ref 88, .ref 93, .ref 96, .int (-1), .int (-1), .ref 97, .int 0]))]) rfl ?_
          refine J_aload_n dL_law_1092 rfl rfl ?_
          refine J_sload_n dL_law_1093 rfl rfl ?_
          refine J_iload_n dL_law_1094 rfl rfl ?_
          refine J_iconst (v := 1) dL_law_1095 (by decide) ?_
          refine J_iadd (z := 1) dL_law_1096 (by decide +kernel) ?_
          refine L_sld (i2 := 1) (v := x1) dL_law_1097 (jin (by decide +kernel)) (by decide +kernel) hx1 ?_
          refine J_sload_n dL_law_1098 rfl rfl ?_
          refine J_iload_n dL_law_1099 rfl rfl ?_
          refine J_iconst (v := 2) dL_law_1100 (by decide) ?_
          refine J_iadd (z := 2) dL_law_1101 (by decide +kernel) ?_
          refine L_sld (i2 := 2) (v := x2) dL_law_1102 (jin (by decide +kernel)) (by decide +kernel) hx2 ?_
          refine J_sload_n dL_law_1103 rfl rfl ?_
          refine J_iload_n dL_law_1104 rfl rfl ?_
          refine J_iconst (v := 3) dL_law_1105 (by decide) ?_
          refine J_iadd (z := 3) dL_law_1106 (by decide +kernel) ?_
          refine L_sld (i2 := 3) (v := x3) dL_law_1107 (jin (by decide +kernel)) (by decide +kernel) hx3 ?_
          refine J_callV (st := [.int (-1)]) dL_law_1108 cv_L_143 (c_X12_drunk_6 (x1) b1 (x2) b2 (x3) b3 H0_98 H0_99) H0_98 rfl rfl (Nat.le_of_ble_eq_true rfl) ⟨(Nat.le_of_ble_eq_true rfl), (Nat.le_of_ble_eq_true rfl)⟩ ⟨(Nat.le_of_ble_eq_true rfl), (Nat.le_of_ble_eq_true rfl)⟩ (fun r h9 hp => ?_)
          obtain ⟨rfl, rfl⟩ := hp
          refine J_nf (nh2 := 135) (ck2 := 135) (sk2 := 415506) (st2 := [.int (-1), .int (-1)]) rfl rfl rfl rfl ?_
          refine J_app (L3 := [(99, .inl (0, 7, .inl (upd (fun _ => 0) 1 1))), (98, .inr (12, [.int (-1), .int 0, .ref 99, .ref 100, .ref 101, .ref 102, .ref 103, .ref 104, .ref 105, .int 0, .int (-1), .ref 106, .ref 107, .ref 108, .int 0, .int 0, .int 0, .int 0, .int 0, .int 0, .int 0, .ref 109, .int 0, .int 0, .ref 110, .ref 111, .ref 112, .ref 113, .ref 114, .ref 115, .ref 116, .ref 117, .int 0, .int 0, .int (-1), .int (-1), .ref 118, .ref 119, .ref 120, .ref 121, .ref 122, .ref 123, .ref 124, .ref 125, .ref 126, .ref 127, .ref 128, .ref 129, .int 0, .ref 130, .ref 131, .ref 132, .ref 133, .ref 134, .int 0, .int 0])), (96, .inl (0, 5, .inl (upd (fun _ => 0) 0 1))), (0, .inr (11, [.ref 1, .ref 17, .ref 50, .ref 51, .ref 54, .ref 57, .ref 65, .ref 75, .ref 81, .ref 85, .ref 88, .ref 93, .ref 96, .int (-1), .int (-1), .ref 97, .int 0]))]) rfl ?_
          refine J_icmp_eq (tgt := 1221) dL_law_1111 (by decide) (fun _ => ?_) (fun q => absurd (by decide +kernel) q)
          exact law_tail (Nat.le_of_ble_eq_true rfl) (Nat.le_of_ble_eq_true rfl)
    · have b1 : 1000001 ≤ x1.toInt ∧ x1.toInt ≤ 2147483647 := ⟨by omega, by omega⟩
      have b2 : (-2147483648) ≤ x2.toInt ∧ x2.toInt ≤ 2147483647 := ⟨by omega, by omega⟩
      have b3 : (-2147483648) ≤ x3.toInt ∧ x3.toInt ≤ 2147483647 := ⟨by omega, by omega⟩
      refine J_hc0 ?_
      refine J_aload_n dL_law_1073 rfl rfl ?_
      refine J_sload_n dL_law_1074 rfl rfl ?_
      refine J_iload_n dL_law_1075 rfl rfl ?_
      refine J_iconst (v := 1) dL_law_1076 (by decide) ?_
      refine J_iadd (z := 1) dL_law_1077 (by decide +kernel) ?_
      refine L_sld (i2 := 1) (v := x1) dL_law_1078 (jin (by decide +kernel)) (by decide +kernel) hx1 ?_
      refine J_sload_n dL_law_1079 rfl rfl ?_
      refine J_iload_n dL_law_1080 rfl rfl ?_
      refine J_iconst (v := 2) dL_law_1081 (by decide) ?_
      refine J_iadd (z := 2) dL_law_1082 (by decide +kernel) ?_
      refine L_sld (i2 := 2) (v := x2) dL_law_1083 (jin (by decide +kernel)) (by decide +kernel) hx2 ?_
      refine J_sload_n dL_law_1084 rfl rfl ?_
      refine J_iload_n dL_law_1085 rfl rfl ?_
      refine J_iconst (v := 3) dL_law_1086 (by decide) ?_
      refine J_iadd (z := 3) dL_law_1087 (by decide +kernel) ?_
      refine L_sld (i2 := 3) (v := x3) dL_law_1088 (jin (by decide +kernel)) (by decide +kernel) hx3 ?_
      refine J_callV (st := []) dL_law_1089 cv_L_140 (c_X11_drunk_7 (x1) b1 (x2) b2 (x3) b3 H0_0 H0_96) H0_0 rfl rfl (Nat.le_of_ble_eq_true rfl) ⟨(Nat.le_of_ble_eq_true rfl), (Nat.le_of_ble_eq_true rfl)⟩ ⟨(Nat.le_of_ble_eq_true rfl), (Nat.le_of_ble_eq_true rfl)⟩ (fun r h9 hp => ?_)
      obtain ⟨rfl, rfl⟩ := hp
      refine J_nf (nh2 := 135) (ck2 := 135) (sk2 := 415506) (st2 := [.int (-1)]) rfl rfl rfl rfl ?_
      refine J_app (L3 := [(96, .inl (0, 5, .inl (upd (fun _ => 0) 0 1))), (0, .inr (11, [.ref 1, .ref 17, .ref 50, .ref 51, .ref 54, .ref 57, .ref 65, .ref 75, .ref 81, .ref 85, .ref 88, .ref 93, .ref 96, .int (-1), .int (-1), .ref 97, .int 0]))]) rfl ?_
      refine J_aload_n dL_law_1092 rfl rfl ?_
      refine J_sload_n dL_law_1093 rfl rfl ?_
      refine J_iload_n dL_law_1094 rfl rfl ?_
      refine J_iconst (v := 1) dL_law_1095 (by decide) ?_
      refine J_iadd (z := 1) dL_law_1096 (by decide +kernel) ?_
      refine L_sld (i2 := 1) (v := x1) dL_law_1097 (jin (by decide +kernel)) (by decide +kernel) hx1 ?_
      refine J_sload_n dL_law_1098 rfl rfl ?_
      refine J_iload_n dL_law_1099 rfl rfl ?_
      refine J_iconst (v := 2) dL_law_1100 (by decide) ?_
      refine J_iadd (z := 2) dL_law_1101 (by decide +kernel) ?_
      refine L_sld (i2 := 2) (v := x2) dL_law_1102 (jin (by decide +kernel)) (by decide +kernel) hx2 ?_
      refine J_sload_n dL_law_1103 rfl rfl ?_
      refine J_iload_n dL_law_1104 rfl rfl ?_
      refine J_iconst (v := 3) dL_law_1105 (by decide) ?_
      refine J_iadd (z := 3) dL_law_1106 (by decide +kernel) ?_
      refine L_sld (i2 := 3) (v := x3) dL_law_1107 (jin (by decide +kernel)) (by decide +kernel) hx3 ?_
      refine J_callV (st := [.int (-1)]) dL_law_1108 cv_L_143 (c_X12_drunk_7 (x1) b1 (x2) b2 (x3) b3 H0_98 H0_99) H0_98 rfl rfl (Nat.le_of_ble_eq_true rfl) ⟨(Nat.le_of_ble_eq_true rfl), (Nat.le_of_ble_eq_true rfl)⟩ ⟨(Nat.le_of_ble_eq_true rfl), (Nat.le_of_ble_eq_true rfl)⟩ (fun r h9 hp => ?_)
      obtain ⟨rfl, rfl⟩ := hp
      refine J_nf (nh2 := 135) (ck2 := 135) (sk2 := 415506) (st2 := [.int (-1), .int (-1)]) rfl rfl rfl rfl ?_
      refine J_app (L3 := [(99, .inl (0, 7, .inl (upd (fun _ => 0) 1 1))), (98, .inr (12, [.int (-1), .int 0, .ref 99, .ref 100, .ref 101, .ref 102, .ref 103, .ref 104, .ref 105, .int 0, .int (-1), .ref 106, .ref 107, .ref 108, .int 0, .int 0, .int 0, .int 0, .int 0, .int 0, .int 0, .ref 109, .int 0, .int 0, .ref 110, .ref 111, .ref 112, .ref 113, .ref 114, .ref 115, .ref 116, .ref 117, .int 0, .int 0, .int (-1), .int (-1), .ref 118, .ref 119, .ref 120, .ref 121, .ref 122, .ref 123, .ref 124, .ref 125, .ref 126, .ref 127, .ref 128, .ref 129, .int 0, .ref 130, .ref 131, .ref 132, .ref 133, .ref 134, .int 0, .int 0])), (96, .inl (0, 5, .inl (upd (fun _ => 0) 0 1))), (0, .inr (11, [.ref 1, .ref 17, .ref 50, .ref 51, .ref 54, .ref 57, .ref 65, .ref 75, .ref 81, .ref 85, .ref 88, .ref 93, .ref 96, .int (-1), .int (-1), .ref 97, .int 0]))]) rfl ?_
      refine J_icmp_eq (tgt := 1221) dL_law_1111 (by decide) (fun _ => ?_) (fun q => absurd (by decide +kernel) q)
      exact law_tail (Nat.le_of_ble_eq_true rfl) (Nat.le_of_ble_eq_true rfl)
