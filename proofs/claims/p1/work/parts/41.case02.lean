/-! the law's cases -/
set_option maxHeartbeats 4000000 in
set_option maxRecDepth 100000 in
theorem law_case_15 {l : Launch} {G : jG} {b : Nat} {xs : Nat → Int32} (x1 : Int32) (hx1 : xs 1 = x1) (x2 : Int32) (hx2 : xs 2 = x2) (x3 : Int32) (hx3 : xs 3 = x3) : J l G ML_law room_1 (lE b 6 xs G) lQ (135, H0) 135 415506 617 [some (.retAddr 0), some (.ref 0), some (.ref 98), some (.int 0)] [] := by
  have r1 := i32_rng x1
  have r2 := i32_rng x2
  have r3 := i32_rng x3
  rcases i_cut x1.toInt 0 with h_0 | h_0
  · have b1 : (-2147483648) ≤ x1.toInt ∧ x1.toInt ≤ (-1) := ⟨by omega, by omega⟩
    have b2 : (-2147483648) ≤ x2.toInt ∧ x2.toInt ≤ 2147483647 := ⟨by omega, by omega⟩
    have b3 : (-2147483648) ≤ x3.toInt ∧ x3.toInt ≤ 2147483647 := ⟨by omega, by omega⟩
    refine J_hc0 ?_
    refine J_aload_n dL_law_617 rfl rfl ?_
    refine J_sload_n dL_law_618 rfl rfl ?_
    refine J_iload_n dL_law_619 rfl rfl ?_
    refine J_iconst (v := 1) dL_law_620 (by decide) ?_
    refine J_iadd (z := 1) dL_law_621 (by decide +kernel) ?_
    refine L_sld (i2 := 1) (v := x1) dL_law_622 (jin (by decide +kernel)) (by decide +kernel) hx1 ?_
    refine J_sload_n dL_law_623 rfl rfl ?_
    refine J_iload_n dL_law_624 rfl rfl ?_
    refine J_iconst (v := 2) dL_law_625 (by decide) ?_
    refine J_iadd (z := 2) dL_law_626 (by decide +kernel) ?_
    refine L_sld (i2 := 2) (v := x2) dL_law_627 (jin (by decide +kernel)) (by decide +kernel) hx2 ?_
    refine J_sload_n dL_law_628 rfl rfl ?_
    refine J_iload_n dL_law_629 rfl rfl ?_
    refine J_iconst (v := 3) dL_law_630 (by decide) ?_
    refine J_iadd (z := 3) dL_law_631 (by decide +kernel) ?_
    refine L_sld (i2 := 3) (v := x3) dL_law_632 (jin (by decide +kernel)) (by decide +kernel) hx3 ?_
    refine J_callV (st := []) dL_law_633 cv_L_78 (c_X11_way_1 (x1) b1 (x2) b2 (x3) b3 H0_0 H0_51) H0_0 rfl rfl (Nat.le_of_ble_eq_true rfl) ⟨(Nat.le_of_ble_eq_true rfl), (Nat.le_of_ble_eq_true rfl)⟩ ⟨(Nat.le_of_ble_eq_true rfl), (Nat.le_of_ble_eq_true rfl)⟩ (fun r h9 hp => ?_)
    obtain ⟨rfl, rfl⟩ := hp
    refine J_nf (nh2 := 135) (ck2 := 135) (sk2 := 415506) (st2 := [.int (-1)]) rfl rfl rfl rfl ?_
    refine J_aload_n dL_law_636 rfl rfl ?_
    refine J_sload_n dL_law_637 rfl rfl ?_
    refine J_iload_n dL_law_638 rfl rfl ?_
    refine J_iconst (v := 1) dL_law_639 (by decide) ?_
    refine J_iadd (z := 1) dL_law_640 (by decide +kernel) ?_
    refine L_sld (i2 := 1) (v := x1) dL_law_641 (jin (by decide +kernel)) (by decide +kernel) hx1 ?_
    refine J_sload_n dL_law_642 rfl rfl ?_
    refine J_iload_n dL_law_643 rfl rfl ?_
    refine J_iconst (v := 2) dL_law_644 (by decide) ?_
    refine J_iadd (z := 2) dL_law_645 (by decide +kernel) ?_
    refine L_sld (i2 := 2) (v := x2) dL_law_646 (jin (by decide +kernel)) (by decide +kernel) hx2 ?_
    refine J_sload_n dL_law_647 rfl rfl ?_
    refine J_iload_n dL_law_648 rfl rfl ?_
    refine J_iconst (v := 3) dL_law_649 (by decide) ?_
    refine J_iadd (z := 3) dL_law_650 (by decide +kernel) ?_
    refine L_sld (i2 := 3) (v := x3) dL_law_651 (jin (by decide +kernel)) (by decide +kernel) hx3 ?_
    refine J_callV (st := [.int (-1)]) dL_law_652 cv_L_81 (c_X12_way_1 (x1) b1 (x2) b2 (x3) b3 H0_98 H0_100 H0_111) H0_98 rfl rfl (Nat.le_of_ble_eq_true rfl) ⟨(Nat.le_of_ble_eq_true rfl), (Nat.le_of_ble_eq_true rfl)⟩ ⟨(Nat.le_of_ble_eq_true rfl), (Nat.le_of_ble_eq_true rfl)⟩ (fun r h9 hp => ?_)
    obtain ⟨rfl, rfl⟩ := hp
    refine J_nf (nh2 := 135) (ck2 := 135) (sk2 := 415506) (st2 := [.int (-1), .int (-1)]) rfl rfl rfl rfl ?_
    refine J_app (L3 := [(98, .inr (12, [.int 0, .int 0, .ref 99, .ref 100, .ref 101, .ref 102, .ref 103, .ref 104, .ref 105, .int 0, .int (-1), .ref 106, .ref 107, .ref 108, .int 0, .int 0, .int 0, .int 0, .int 0, .int 0, .int 0, .ref 109, .int 0, .int 0, .ref 110, .ref 111, .ref 112, .ref 113, .ref 114, .ref 115, .ref 116, .ref 117, .int 1, .int 0, .int 0, .int (-1), .ref 118, .ref 119, .ref 120, .ref 121, .ref 122, .ref 123, .ref 124, .ref 125, .ref 126, .ref 127, .ref 128, .ref 129, .int 0, .ref 130, .ref 131, .ref 132, .ref 133, .ref 134, .int 0, .int 0])), (111, .inl (0, 1260, .inl (upd (fun _ => 0) 0 0)))]) rfl ?_
    refine J_icmp_eq (tgt := 1221) dL_law_655 (by decide) (fun _ => ?_) (fun q => absurd (by decide +kernel) q)
    exact law_tail (Nat.le_of_ble_eq_true rfl) (Nat.le_of_ble_eq_true rfl)
  · rcases i_cut x1.toInt 1 with h_1 | h_1
    · rcases i_cut x2.toInt 0 with h_2 | h_2
      · obtain rfl : x1 = 0 := by rw [fa_eq, kc_0]; omega
        have b2 : (-2147483648) ≤ x2.toInt ∧ x2.toInt ≤ (-1) := ⟨by omega, by omega⟩
        have b3 : (-2147483648) ≤ x3.toInt ∧ x3.toInt ≤ 2147483647 := ⟨by omega, by omega⟩
        refine J_hc0 ?_
        refine J_aload_n dL_law_617 rfl rfl ?_
        refine J_sload_n dL_law_618 rfl rfl ?_
        refine J_iload_n dL_law_619 rfl rfl ?_
        refine J_iconst (v := 1) dL_law_620 (by decide) ?_
        refine J_iadd (z := 1) dL_law_621 (by decide +kernel) ?_
        refine L_sld (i2 := 1) (v := 0) dL_law_622 (jin (by decide +kernel)) (by decide +kernel) hx1 ?_
        refine J_sload_n dL_law_623 rfl rfl ?_
        refine J_iload_n dL_law_624 rfl rfl ?_
        refine J_iconst (v := 2) dL_law_625 (by decide) ?_
        refine J_iadd (z := 2) dL_law_626 (by decide +kernel) ?_
        refine L_sld (i2 := 2) (v := x2) dL_law_627 (jin (by decide +kernel)) (by decide +kernel) hx2 ?_
        refine J_sload_n dL_law_628 rfl rfl ?_
        refine J_iload_n dL_law_629 rfl rfl ?_
        refine J_iconst (v := 3) dL_law_630 (by decide) ?_
        refine J_iadd (z := 3) dL_law_631 (by decide +kernel) ?_
        refine L_sld (i2 := 3) (v := x3) dL_law_632 (jin (by decide +kernel)) (by decide +kernel) hx3 ?_
        refine J_callV (st := []) dL_law_633 cv_L_78 (c_X11_way_2 (x2) b2 (x3) b3 H0_0 H0_51) H0_0 rfl rfl (Nat.le_of_ble_eq_true rfl) ⟨(Nat.le_of_ble_eq_true rfl), (Nat.le_of_ble_eq_true rfl)⟩ ⟨(Nat.le_of_ble_eq_true rfl), (Nat.le_of_ble_eq_true rfl)⟩ (fun r h9 hp => ?_)
        obtain ⟨rfl, rfl⟩ := hp
        refine J_nf (nh2 := 135) (ck2 := 135) (sk2 := 415506) (st2 := [.int (-1)]) rfl rfl rfl rfl ?_
        refine J_aload_n dL_law_636 rfl rfl ?_
        refine J_sload_n dL_law_637 rfl rfl ?_
        refine J_iload_n dL_law_638 rfl rfl ?_
        refine J_iconst (v := 1) dL_law_639 (by decide) ?_
        refine J_iadd (z := 1) dL_law_640 (by decide +kernel) ?_
        refine L_sld (i2 := 1) (v := 0) dL_law_641 (jin (by decide +kernel)) (by decide +kernel) hx1 ?_
        refine J_sload_n dL_law_642 rfl rfl ?_
        refine J_iload_n dL_law_643 rfl rfl ?_
        refine J_iconst (v := 2) dL_law_644 (by decide) ?_
        refine J_iadd (z := 2) dL_law_645 (by decide +kernel) ?_
        refine L_sld (i2 := 2) (v := x2) dL_law_646 (jin (by decide +kernel)) (by decide +kernel) hx2 ?_
        refine J_sload_n dL_law_647 rfl rfl ?_
        refine J_iload_n dL_law_648 rfl rfl ?_
        refine J_iconst (v := 3) dL_law_649 (by decide) ?_
        refine J_iadd (z := 3) dL_law_650 (by decide +kernel) ?_
        refine L_sld (i2 := 3) (v := x3) dL_law_651 (jin (by decide +kernel)) (by decide +kernel) hx3 ?_
        refine J_callV (st := [.int (-1)]) dL_law_652 cv_L_81 (c_X12_way_2 (x2) b2 (x3) b3 H0_98 H0_100 H0_111) H0_98 rfl rfl (Nat.le_of_ble_eq_true rfl) ⟨(Nat.le_of_ble_eq_true rfl), (Nat.le_of_ble_eq_true rfl)⟩ ⟨(Nat.le_of_ble_eq_true rfl), (Nat.le_of_ble_eq_true rfl)⟩ (fun r h9 hp => ?_)
        obtain ⟨rfl, rfl⟩ := hp
        refine J_nf (nh2 := 135) (ck2 := 135) (sk2 := 415506) (st2 := [.int (-1), .int (-1)]) rfl rfl rfl rfl ?_
        refine J_app (L3 := [(98, .inr (12, [.int 0, .int 0, .ref 99, .ref 100, .ref 101, .ref 102, .ref 103, .ref 104, .ref 105, .int 0, .int (-1), .ref 106, .ref 107, .ref 108, .int 0, .int 0, .int 0, .int 0, .int 0, .int 0, .int 0, .ref 109, .int 0, .int 0, .ref 110, .ref 111, .ref 112, .ref 113, .ref 114, .ref 115, .ref 116, .ref 117, .int 1, .int 0, .int 0, .int (-1), .ref 118, .ref 119, .ref 120, .ref 121, .ref 122, .ref 123, .ref 124, .ref 125, .ref 126, .ref 127, .ref 128, .ref 129, .int 0, .ref 130, .ref 131, .ref 132, .ref 133, .ref 134, .int 0, .int 0])), (111, .inl (0, 1260, .inl (upd (fun _ => 0) 0 0)))]) rfl ?_
        refine J_icmp_eq (tgt := 1221) dL_law_655 (by decide) (fun _ => ?_) (fun q => absurd (by decide +kernel) q)
        exact law_tail (Nat.le_of_ble_eq_true rfl) (Nat.le_of_ble_eq_true rfl)
      · rcases i_cut x2.toInt 1 with h_3 | h_3
        · rcases i_cut x3.toInt 0 with h_4 | h_4
          · obtain rfl : x1 = 0 := by rw [fa_eq, kc_0]; omega
            obtain rfl : x2 = 0 := by rw [fa_eq, kc_0]; omega
            have b3 : (-2147483648) ≤ x3.toInt ∧ x3.toInt ≤ (-1) := ⟨by omega, by omega⟩
            refine J_hc0 ?_
            refine J_aload_n dL_law_617 rfl rfl ?_
            refine J_sload_n dL_law_618 rfl rfl ?_
            refine J_iload_n dL_law_619 rfl rfl ?_
            refine J_iconst (v := 1) dL_law_620 (by decide) ?_
            refine J_iadd (z := 1) dL_law_621 (by decide +kernel) ?_
            refine L_sld (i2 := 1) (v := 0) dL_law_622 (jin (by decide +kernel)) (by decide +kernel) hx1 ?_
            refine J_sload_n dL_law_623 rfl rfl ?_
            refine J_iload_n dL_law_624 rfl rfl ?_
            refine J_iconst (v := 2) dL_law_625 (by decide) ?_
            refine J_iadd (z := 2) dL_law_626 (by decide +kernel) ?_
            refine L_sld (i2 := 2) (v := 0) dL_law_627 (jin (by decide +kernel)) (by decide +kernel) hx2 ?_
            refine J_sload_n dL_law_628 rfl rfl ?_
            refine J_iload_n dL_law_629 rfl rfl ?_
            refine J_iconst (v := 3) dL_law_630 (by decide) ?_
            refine J_iadd (z := 3) dL_law_631 (by decide +kernel) ?_
            refine L_sld (i2 := 3) (v := x3) dL_law_632 (jin (by decide +kernel)) (by decide +kernel) hx3 ?_
            refine J_callV (st := []) dL_law_633 cv_L_78 (c_X11_way_3 (x3) b3 H0_0 H0_1 H0_3 H0_51 H0_52 H0_57 H0_58 H0_59 H0_62 H0_63 H0_65 H0_66 H0_67 H0_68) H0_0 rfl rfl (Nat.le_of_ble_eq_true rfl) ⟨(Nat.le_of_ble_eq_true rfl), (Nat.le_of_ble_eq_true rfl)⟩ ⟨(Nat.le_of_ble_eq_true rfl), (Nat.le_of_ble_eq_true rfl)⟩ (fun r h9 hp => ?_)
            obtain ⟨rfl, rfl⟩ := hp
            refine J_nf (nh2 := 136) (ck2 := 136) (sk2 := 415528) (st2 := [.int (-1)]) rfl rfl rfl rfl ?_
            refine J_app (L3 := [(62, .inl (0, 1260, .inl (upd (upd (fun _ => 0) 0 (-1)) 0 0))), (65, .inr (10, [.ref 51, .ref 57, .ref 66, .ref 67, .ref 68, .int 1, .int 0, .int 0, .ref 69, .ref 70, .ref 71, .ref 72, .int 0, .int (-1), .int (-1), .ref 73, .ref 74])), (68, .inl (0, 1260, .inl (upd (fun _ => 0) 0 0))), (67, .inl (0, 1260, .inl (upd (fun _ => 0) 0 1))), (66, .inl (0, 1260, .inl (upd (upd (fun _ => 0) 0 (-1)) 0 0))), (57, .inr (9, [.ref 1, .ref 51, .ref 58, .ref 61, .ref 62, .ref 135, .ref 64, .int 0, .int 0, .int 0])), (135, .inl (0, 22, .inl (fun _ => 0))), (59, .inl (0, 8, .inl (upd (upd (fun _ => 0) 6 0) 7 0)))]) rfl ?_
            refine J_aload_n dL_law_636 rfl rfl ?_
            refine J_sload_n dL_law_637 rfl rfl ?_
            refine J_iload_n dL_law_638 rfl rfl ?_
            refine J_iconst (v := 1) dL_law_639 (by decide) ?_
            refine J_iadd (z := 1) dL_law_640 (by decide +kernel) ?_
            refine L_sld (i2 := 1) (v := 0) dL_law_641 (jin (by decide +kernel)) (by decide +kernel) hx1 ?_
            refine J_sload_n dL_law_642 rfl rfl ?_
            refine J_iload_n dL_law_643 rfl rfl ?_
            refine J_iconst (v := 2) dL_law_644 (by decide) ?_
            refine J_iadd (z := 2) dL_law_645 (by decide +kernel) ?_
            refine L_sld (i2 := 2) (v := 0) dL_law_646 (jin (by decide +kernel)) (by decide +kernel) hx2 ?_
            refine J_sload_n dL_law_647 rfl rfl ?_
            refine J_iload_n dL_law_648 rfl rfl ?_
            refine J_iconst (v := 3) dL_law_649 (by decide) ?_
            refine J_iadd (z := 3) dL_law_650 (by decide +kernel) ?_
            refine L_sld (i2 := 3) (v := x3) dL_law_651 (jin (by decide +kernel)) (by decide +kernel) hx3 ?_
            refine J_callV (st := [.int (-1)]) dL_law_652 cv_L_81 (c_X12_way_3 (x3) b3 H0_98 H0_100 H0_111) H0_98 rfl rfl (Nat.le_of_ble_eq_true rfl) ⟨(Nat.le_of_ble_eq_true rfl), (Nat.le_of_ble_eq_true rfl)⟩ ⟨(Nat.le_of_ble_eq_true rfl), (Nat.le_of_ble_eq_true rfl)⟩ (fun r h9 hp => ?_)
            obtain ⟨rfl, rfl⟩ := hp
            refine J_nf (nh2 := 136) (ck2 := 136) (sk2 := 415528) (st2 := [.int (-1), .int (-1)]) rfl rfl rfl rfl ?_
            refine J_app (L3 := [(98, .inr (12, [.int 0, .int 0, .ref 99, .ref 100, .ref 101, .ref 102, .ref 103, .ref 104, .ref 105, .int 0, .int (-1), .ref 106, .ref 107, .ref 108, .int 0, .int 0, .int 0, .int 0, .int 0, .int 0, .int 0, .ref 109, .int 0, .int 0, .ref 110, .ref 111, .ref 112, .ref 113, .ref 114, .ref 115, .ref 116, .ref 117, .int 1, .int 0, .int 0, .int (-1), .ref 118, .ref 119, .ref 120, .ref 121, .ref 122, .ref 123, .ref 124, .ref 125, .ref 126, .ref 127, .ref 128, .ref 129, .int 0, .ref 130, .ref 131, .ref 132, .ref 133, .ref 134, .int 0, .int 0])), (111, .inl (0, 1260, .inl (upd (fun _ => 0) 0 0))), (62, .inl (0, 1260, .inl (upd (upd (fun _ => 0) 0 (-1)) 0 0))), (65, .inr (10, [.ref 51, .ref 57, .ref 66, .ref 67, .ref 68, .int 1, .int 0, .int 0, .ref 69, .ref 70, .ref 71, .ref 72, .int 0, .int (-1), .int (-1), .ref 73, .ref 74])), (68, .inl (0, 1260, .inl (upd (fun _ => 0) 0 0))), (67, .inl (0, 1260, .inl (upd (fun _ => 0) 0 1))), (66, .inl (0, 1260, .inl (upd (upd (fun _ => 0) 0 (-1)) 0 0))), (57, .inr (9, [.ref 1, .ref 51, .ref 58, .ref 61, .ref 62, .ref 135, .ref 64, .int 0, .int 0, .int 0])), (135, .inl (0, 22, .inl (fun _ => 0))), (59, .inl (0, 8, .inl (upd (upd (fun _ => 0) 6 0) 7 0)))]) rfl ?_
            refine J_icmp_eq (tgt := 1221) dL_law_655 (by decide) (fun _ => ?_) (fun q => absurd (by decide +kernel) q)
            exact law_tail (Nat.le_of_ble_eq_true rfl) (Nat.le_of_ble_eq_true rfl)
          · rcases i_cut x3.toInt 1 with h_5 | h_5
            · obtain rfl : x1 = 0 := by rw [fa_eq, kc_0]; omega
              obtain rfl : x2 = 0 := by rw [fa_eq, kc_0]; omega
              obtain rfl : x3 = 0 := by rw [fa_eq, kc_0]; omega
              refine J_hc0 ?_
              refine J_aload_n dL_law_617 rfl rfl ?_
              refine J_sload_n dL_law_618 rfl rfl ?_
              refine J_iload_n dL_law_619 rfl rfl ?_
              refine J_iconst (v := 1) dL_law_620 (by decide) ?_
              refine J_iadd (z := 1) dL_law_621 (by decide +kernel) ?_
              refine L_sld (i2 := 1) (v := 0) dL_law_622 (jin (by decide +kernel)) (by decide +kernel) hx1 ?_
              refine J_sload_n dL_law_623 rfl rfl ?_
              refine J_iload_n dL_law_624 rfl rfl ?_
              refine J_iconst (v := 2) dL_law_625 (by decide) ?_
              refine J_iadd (z := 2) dL_law_626 (by decide +kernel) ?_
              refine L_sld (i2 := 2) (v := 0) dL_law_627 (jin (by decide +kernel)) (by decide +kernel) hx2 ?_
              refine J_sload_n dL_law_628 rfl rfl ?_
              refine J_iload_n dL_law_629 rfl rfl ?_
              refine J_iconst (v := 3) dL_law_630 (by decide) ?_
              refine J_iadd (z := 3) dL_law_631 (by decide +kernel) ?_
              refine L_sld (i2 := 3) (v := 0) dL_law_632 (jin (by decide +kernel)) (by decide +kernel) hx3 ?_
              refine J_callV (st := []) dL_law_633 cv_L_78 (c_X11_way_4 H0_0 H0_1 H0_3 H0_51 H0_52 H0_57 H0_58 H0_59 H0_62 H0_63 H0_65 H0_66 H0_67 H0_68 H0_71) H0_0 rfl rfl (Nat.le_of_ble_eq_true rfl) ⟨(Nat.le_of_ble_eq_true rfl), (Nat.le_of_ble_eq_true rfl)⟩ ⟨(Nat.le_of_ble_eq_true rfl), (Nat.le_of_ble_eq_true rfl)⟩ (fun r h9 hp => ?_)
              obtain ⟨rfl, rfl⟩ := hp
              refine J_nf (nh2 := 136) (ck2 := 136) (sk2 := 415528) (st2 := [.int 0]) rfl rfl rfl rfl ?_
              refine J_app (L3 := [(71, .inl (0, 1260, .inl (upd (fun _ => 0) 0 (-1)))), (62, .inl (0, 1260, .inl (upd (upd (fun _ => 0) 0 (-1)) 0 0))), (65, .inr (10, [.ref 51, .ref 57, .ref 66, .ref 67, .ref 68, .int 1, .int 0, .int 0, .ref 69, .ref 70, .ref 71, .ref 72, .int 0, .int (-1), .int (-1), .ref 73, .ref 74])), (68, .inl (0, 1260, .inl (upd (fun _ => 0) 0 0))), (67, .inl (0, 1260, .inl (upd (fun _ => 0) 0 1))), (66, .inl (0, 1260, .inl (upd (upd (fun _ => 0) 0 (-1)) 0 0))), (57, .inr (9, [.ref 1, .ref 51, .ref 58, .ref 61, .ref 62, .ref 135, .ref 64, .int 0, .int 0, .int 0])), (135, .inl (0, 22, .inl (fun _ => 0))), (59, .inl (0, 8, .inl (upd (upd (fun _ => 0) 6 0) 7 0)))]) rfl ?_
              refine J_aload_n dL_law_636 rfl rfl ?_
              refine J_sload_n dL_law_637 rfl rfl ?_
              refine J_iload_n dL_law_638 rfl rfl ?_
              refine J_iconst (v := 1) dL_law_639 (by decide) ?_
              refine J_iadd (z := 1) dL_law_640 (by decide +kernel) ?_
              refine L_sld (i2 := 1) (v := 0) dL_law_641 (jin (by decide +kernel)) (by decide +kernel) hx1 ?_
              refine J_sload_n dL_law_642 rfl rfl ?_
              refine J_iload_n dL_law_643 rfl rfl ?_
              refine J_iconst (v := 2) dL_law_644 (by decide) ?_
              refine J_iadd (z := 2) dL_law_645 (by decide +kernel) ?_
              refine L_sld (i2 := 2) (v := 0) dL_law_646 (jin (by decide +kernel)) (by decide +kernel) hx2 ?_
              refine J_sload_n dL_law_647 rfl rfl ?_
              refine J_iload_n dL_law_648 rfl rfl ?_
              refine J_iconst (v := 3) dL_law_649 (by decide) ?_
              refine J_iadd (z := 3) dL_law_650 (by decide +kernel) ?_
              refine L_sld (i2 := 3) (v := 0) dL_law_651 (jin (by decide +kernel)) (by decide +kernel) hx3 ?_
              refine J_callV (st := [.int 0]) dL_law_652 cv_L_81 (c_X12_way_4 H0_98 H0_100 H0_111 H0_114 H0_116 H0_123) H0_98 rfl rfl (Nat.le_of_ble_eq_true rfl) ⟨(Nat.le_of_ble_eq_true rfl), (Nat.le_of_ble_eq_true rfl)⟩ ⟨(Nat.le_of_ble_eq_true rfl), (Nat.le_of_ble_eq_true rfl)⟩ (fun r h9 hp => ?_)
              obtain ⟨rfl, rfl⟩ := hp
              refine J_nf (nh2 := 136) (ck2 := 136) (sk2 := 415528) (st2 := [.int 0, .int 0]) rfl rfl rfl rfl ?_
              refine J_app (L3 := [(123, .inl (0, 1260, .inl (upd (fun _ => 0) 0 0))), (114, .inl (0, 1260, .inl (upd (fun _ => 0) 0 0))), (116, .inl (0, 1260, .inl (upd (fun _ => 0) 0 0))), (98, .inr (12, [.int 0, .int 0, .ref 99, .ref 100, .ref 101, .ref 102, .ref 103, .ref 104, .ref 105, .int 0, .int (-1), .ref 106, .ref 107, .ref 108, .int 0, .int 0, .int 0, .int 0, .int 0, .int 0, .int 0, .ref 109, .int 0, .int 0, .ref 110, .ref 111, .ref 112, .ref 113, .ref 114, .ref 115, .ref 116, .ref 117, .int 1, .int 0, .int 0, .int 0, .ref 118, .ref 119, .ref 120, .ref 121, .ref 122, .ref 123, .ref 124, .ref 125, .ref 126, .ref 127, .ref 128, .ref 129, .int 0, .ref 130, .ref 131, .ref 132, .ref 133, .ref 134, .int 0, .int 0])), (111, .inl (0, 1260, .inl (upd (fun _ => 0) 0 0))), (71, .inl (0, 1260, .inl (upd (fun _ => 0) 0 (-1)))), (62, .inl (0, 1260, .inl (upd (upd (fun _ => 0) 0 (-1)) 0 0))), (65, .inr (10, [.ref 51, .ref 57, .ref 66, .ref 67, .ref 68, .int 1, .int 0, .int 0, .ref 69, .ref 70, .ref 71, .ref 72, .int 0, .int (-1), .int (-1), .ref 73, .ref 74])), (68, .inl (0, 1260, .inl (upd (fun _ => 0) 0 0))), (67, .inl (0, 1260, .inl (upd (fun _ => 0) 0 1))), (66, .inl (0, 1260, .inl (upd (upd (fun _ => 0) 0 (-1)) 0 0))), (57, .inr (9, [.ref 1, .ref 51, .ref 58, .ref 61, .ref 62, .ref 135, .ref 64, .int 0, .int 0, .int 0])), (135, .inl (0, 22, .inl (fun _ => 0))), (59, .inl (0, 8, .inl (upd (upd (fun _ => 0) 6 0) 7 0)))]) rfl ?_
              refine J_icmp_eq (tgt := 1221) dL_law_655 (by decide) (fun _ => ?_) (fun q => absurd (by decide +kernel) q)
              exact law_tail (Nat.le_of_ble_eq_true rfl) (Nat.le_of_ble_eq_true rfl)
            · obtain rfl : x1 = 0 := by rw [fa_eq, kc_0]; omega
              obtain rfl : x2 = 0 := by rw [fa_eq, kc_0]; omega
              have b3 : 1 ≤ x3.toInt ∧ x3.toInt ≤ 2147483647 := ⟨by omega, by omega⟩
              refine J_hc0 ?_
              refine J_aload_n dL_law_617 rfl rfl ?_
              refine J_sload_n dL_law_618 rfl rfl ?_
              refine J_iload_n dL_law_619 rfl rfl ?_
              refine J_iconst (v := 1) dL_law_620 (by decide) ?_
              refine J_iadd (z := 1) dL_law_621 (by decide +kernel) ?_
              refine L_sld (i2 := 1) (v := 0) dL_law_622 (jin (by decide +kernel)) (by decide +kernel) hx1 ?_
              refine J_sload_n dL_law_623 rfl rfl ?_
              refine J_iload_n dL_law_624 rfl rfl ?_
              refine J_iconst (v := 2) dL_law_625 (by decide) ?_
              refine J_iadd (z := 2) dL_law_626 (by decide +kernel) ?_
              refine L_sld (i2 := 2) (v := 0) dL_law_627 (jin (by decide +kernel)) (by decide +kernel) hx2 ?_
              refine J_sload_n dL_law_628 rfl rfl ?_
              refine J_iload_n dL_law_629 rfl rfl ?_
              refine J_iconst (v := 3) dL_law_630 (by decide) ?_
              refine J_iadd (z := 3) dL_law_631 (by decide +kernel) ?_
              refine L_sld (i2 := 3) (v := x3) dL_law_632 (jin (by decide +kernel)) (by decide +kernel) hx3 ?_
              refine J_callV (st := []) dL_law_633 cv_L_78 (c_X11_way_5 (x3) b3 H0_0 H0_1 H0_3 H0_51 H0_52 H0_57 H0_58 H0_59 H0_62 H0_63 H0_65 H0_66 H0_67 H0_68) H0_0 rfl rfl (Nat.le_of_ble_eq_true rfl) ⟨(Nat.le_of_ble_eq_true rfl), (Nat.le_of_ble_eq_true rfl)⟩ ⟨(Nat.le_of_ble_eq_true rfl), (Nat.le_of_ble_eq_true rfl)⟩ (fun r h9 hp => ?_)
              obtain ⟨rfl, rfl⟩ := hp
              refine J_nf (nh2 := 136) (ck2 := 136) (sk2 := 415528) (st2 := [.int (-1)]) rfl rfl rfl rfl ?_
              refine J_app (L3 := [(62, .inl (0, 1260, .inl (upd (upd (fun _ => 0) 0 (-1)) 0 0))), (65, .inr (10, [.ref 51, .ref 57, .ref 66, .ref 67, .ref 68, .int 1, .int 0, .int 0, .ref 69, .ref 70, .ref 71, .ref 72, .int 0, .int (-1), .int (-1), .ref 73, .ref 74])), (68, .inl (0, 1260, .inl (upd (fun _ => 0) 0 0))), (67, .inl (0, 1260, .inl (upd (fun _ => 0) 0 1))), (66, .inl (0, 1260, .inl (upd (upd (fun _ => 0) 0 (-1)) 0 0))), (57, .inr (9, [.ref 1, .ref 51, .ref 58, .ref 61, .ref 62, .ref 135, .ref 64, .int 0, .int 0, .int 0])), (135, .inl (0, 22, .inl (fun _ => 0))), (59, .inl (0, 8, .inl (upd (upd (fun _ => 0) 6 0) 7 0)))]) rfl ?_
              refine J_aload_n dL_law_636 rfl rfl ?_
              refine J_sload_n dL_law_637 rfl rfl ?_
              refine J_iload_n dL_law_638 rfl rfl ?_
              refine J_iconst (v := 1) dL_law_639 (by decide) ?_
              refine J_iadd (z := 1) dL_law_640 (by decide +kernel) ?_
              refine L_sld (i2 := 1) (v := 0) dL_law_641 (jin (by decide +kernel)) (by decide +kernel) hx1 ?_
              refine J_sload_n dL_law_642 rfl rfl ?_
              refine J_iload_n dL_law_643 rfl rfl ?_
              refine J_iconst (v := 2) dL_law_644 (by decide) ?_
              refine J_iadd (z := 2) dL_law_645 (by decide +kernel) ?_
              refine L_sld (i2 := 2) (v := 0) dL_law_646 (jin (by decide +kernel)) (by decide +kernel) hx2 ?_
              refine J_sload_n dL_law_647 rfl rfl ?_
              refine J_iload_n dL_law_648 rfl rfl ?_
              refine J_iconst (v := 3) dL_law_649 (by decide) ?_
              refine J_iadd (z := 3) dL_law_650 (by decide +kernel) ?_
              refine L_sld (i2 := 3) (v := x3) dL_law_651 (jin (by decide +kernel)) (by decide +kernel) hx3 ?_
              refine J_callV (st := [.int (-1)]) dL_law_652 cv_L_81 (c_X12_way_5 (x3) b3 H0_98 H0_100 H0_111 H0_114 H0_116 H0_123) H0_98 rfl rfl (Nat.le_of_ble_eq_true rfl) ⟨(Nat.le_of_ble_eq_true rfl), (Nat.le_of_ble_eq_true rfl)⟩ ⟨(Nat.le_of_ble_eq_true rfl), (Nat.le_of_ble_eq_true rfl)⟩ (fun r h9 hp => ?_)
              obtain ⟨rfl, rfl⟩ := hp
              refine J_nf (nh2 := 136) (ck2 := 136) (sk2 := 415528) (st2 := [.int (-1), .int (-1)]) rfl rfl rfl rfl ?_
              refine J_app (L3 := [(123, .inl (0, 1260, .inl (upd (fun _ => 0) 0 0))), (114, .inl (0, 1260, .inl (upd (fun _ => 0) 0 0))), (116, .inl (0, 1260, .inl (upd (fun _ => 0) 0 0))), (98, .inr (12, [.int 0, .int 0, .ref 99, .ref 100, .ref 101, .ref 102, .ref 103, .ref 104, .ref 105, .int 0, .int (-1), .ref 106, .ref 107, .ref 108, .int 0, .int 0, .int 0, .int 0, .int 0, .int 0, .int 0, .ref 109, .int 0, .int 0, .ref 110, .ref 111, .ref 112, .ref 113, .ref 114, .ref 115, .ref 116, .ref 117, .int 1, .int 0, .int 0, .int 0, .ref 118, .ref 119, .ref 120, .ref 121, .ref 122, .ref 123, .ref 124, .ref 125, .ref 126, .ref 127, .ref 128, .ref 129, .int 0, .ref 130, .ref 131, .ref 132, .ref 133, .ref 134, .int 0, .int 0])), (111, .inl (0, 1260, .inl (upd (fun _ => 0) 0 0))), (62, .inl (0, 1260, .inl (upd (upd (fun _ => 0) 0 (-1)) 0 0))), (65, .inr (10, [.ref 51, .ref 57, .ref 66, .ref 67, .ref 68, .int 1, .int 0, .int 0, .ref 69, .ref 70, .ref 71, .ref 72, .int 0, .int (-1), .int (-1), .ref 73, .ref 74])), (68, .inl (0, 1260, .inl (upd (fun _ => 0) 0 0))), (67, .inl (0, 1260, .inl (upd (fun _ => 0) 0 1))), (66, .inl (0, 1260, .inl (upd (upd (fun _ => 0) 0 (-1)) 0 0))), (57, .inr (9, [.ref 1, .ref 51, .ref 58, .ref 61, .ref 62, .ref 135, .ref 64, .int 0, .int 0, .int 0])), (135, .inl (0, 22, .inl (fun _ => 0))), (59, .inl (0, 8, .inl (upd (upd (fun _ => 0) 6 0) 7 0)))]) rfl ?_
              refine J_icmp_eq (tgt := 1221) dL_law_655 (by decide) (fun _ => ?_) (fun q => absurd (by decide +kernel) q)
              exact law_tail (Nat.le_of_ble_eq_true rfl) (Nat.le_of_ble_eq_true rfl)
        · obtain rfl : x1 = 0 := by rw [fa_eq, kc_0]; omega
          have b2 : 1 ≤ x2.toInt ∧ x2.toInt ≤ 2147483647 := ⟨by omega, by omega⟩
          have b3 : (-2147483648) ≤ x3.toInt ∧ x3.toInt ≤ 2147483647 := ⟨by omega, by omega⟩
          refine J_hc0 ?_
          refine J_aload_n dL_law_617 rfl rfl ?_
          refine J_sload_n dL_law_618 rfl rfl ?_
          refine J_iload_n dL_law_619 rfl rfl ?_
          refine J_iconst (v := 1) dL_law_620 (by decide) ?_
          refine J_iadd (z := 1) dL_law_621 (by decide +kernel) ?_
          refine L_sld (i2 := 1) (v := 0) dL_law_622 (jin (by decide +kernel)) (by decide +kernel) hx1 ?_
          refine J_sload_n dL_law_623 rfl rfl ?_
          refine J_iload_n dL_law_624 rfl rfl ?_
          refine J_iconst (v := 2) dL_law_625 (by decide) ?_
          refine J_iadd (z := 2) dL_law_626 (by decide +kernel) ?_
          refine L_sld (i2 := 2) (v := x2) dL_law_627 (jin (by decide +kernel)) (by decide +kernel) hx2 ?_
          refine J_sload_n dL_law_628 rfl rfl ?_
          refine J_iload_n dL_law_629 rfl rfl ?_
          refine J_iconst (v := 3) dL_law_630 (by decide) ?_
          refine J_iadd (z := 3) dL_law_631 (by decide +kernel) ?_
          refine L_sld (i2 := 3) (v := x3) dL_law_632 (jin (by decide +kernel)) (by decide +kernel) hx3 ?_
          refine J_callV (st := []) dL_law_633 cv_L_78 (c_X11_way_6 (x2) b2 (x3) b3 H0_0 H0_51) H0_0 rfl rfl (Nat.le_of_ble_eq_true rfl) ⟨(Nat.le_of_ble_eq_true rfl), (Nat.le_of_ble_eq_true rfl)⟩ ⟨(Nat.le_of_ble_eq_true rfl), (Nat.le_of_ble_eq_true rfl)⟩ (fun r h9 hp => ?_)
          obtain ⟨rfl, rfl⟩ := hp
          refine J_nf (nh2 := 135) (ck2 := 135) (sk2 := 415506) (st2 := [.int (-1)]) rfl rfl rfl rfl ?_
          refine J_aload_n dL_law_636 rfl rfl ?_
          refine J_sload_n dL_law_637 rfl rfl ?_
          refine J_iload_n dL_law_638 rfl rfl ?_
          refine J_iconst (v := 1) dL_law_639 (by decide) ?_
          refine J_iadd (z := 1) dL_law_640 (by decide +kernel) ?_
          refine L_sld (i2 := 1) (v := 0) dL_law_641 (jin (by decide +kernel)) (by decide +kernel) hx1 ?_
          refine J_sload_n dL_law_642 rfl rfl ?_
          refine J_iload_n dL_law_643 rfl rfl ?_
          refine J_iconst (v := 2) dL_law_644 (by decide) ?_
          refine J_iadd (z := 2) dL_law_645 (by decide +kernel) ?_
          refine L_sld (i2 := 2) (v := x2) dL_law_646 (jin (by decide +kernel)) (by decide +kernel) hx2 ?_
          refine J_sload_n dL_law_647 rfl rfl ?_
          refine J_iload_n dL_law_648 rfl rfl ?_
          refine J_iconst (v := 3) dL_law_649 (by decide) ?_
          refine J_iadd (z := 3) dL_law_650 (by decide +kernel) ?_
          refine L_sld (i2 := 3) (v := x3) dL_law_651 (jin (by decide +kernel)) (by decide +kernel) hx3 ?_
          refine J_callV (st := [.int (-1)]) dL_law_652 cv_L_81 (c_X12_way_6 (x2) b2 (x3) b3 H0_98 H0_100 H0_111) H0_98 rfl rfl (Nat.le_of_ble_eq_true rfl) ⟨(Nat.le_of_ble_eq_true rfl), (Nat.le_of_ble_eq_true rfl)⟩ ⟨(Nat.le_of_ble_eq_true rfl), (Nat.le_of_ble_eq_true rfl)⟩ (fun r h9 hp => ?_)
          obtain ⟨rfl, rfl⟩ := hp
          refine J_nf (nh2 := 135) (ck2 := 135) (sk2 := 415506) (st2 := [.int (-1), .int (-1)]) rfl rfl rfl rfl ?_
          refine J_app (L3 := [(98, .inr (12, [.int 0, .int 0, .ref 99, .ref 100, .ref 101, .ref 102, .ref 103, .ref 104, .ref 105, .int 0, .int (-1), .ref 106, .ref 107, .ref 108, .int 0, .int 0, .int 0, .int 0, .int 0, .int 0, .int 0, .ref 109, .int 0, .int 0, .ref 110, .ref 111, .ref 112, .ref 113, .ref 114, .ref 115, .ref 116, .ref 117, .int 1, .int 0, .int 0, .int (-1), .ref 118, .ref 119, .ref 120, .ref 121, .ref 122, .ref 123, .ref 124, .ref 125, .ref 126, .ref 127, .ref 128, .ref 129, .int 0, .ref 130, .ref 131, .ref 132, .ref 133, .ref 134, .int 0, .int 0])), (111, .inl (0, 1260, .inl (upd (fun _ => 0) 0 0)))]) rfl ?_
          refine J_icmp_eq (tgt := 1221) dL_law_655 (by decide) (fun _ => ?_) (fun q => absurd (by decide +kernel) q)
          exact law_tail (Nat.le_of_ble_eq_true rfl) (Nat.le_of_ble_eq_true rfl)
    · have b1 : 1 ≤ x1.toInt ∧ x1.toInt ≤ 2147483647 := ⟨by omega, by omega⟩
      have b2 : (-2147483648) ≤ x2.toInt ∧ x2.toInt ≤ 2147483647 := ⟨by omega, by omega⟩
      have b3 : (-2147483648) ≤ x3.toInt ∧ x3.toInt ≤ 2147483647 := ⟨by omega, by omega⟩
      refine J_hc0 ?_
      refine J_aload_n dL_law_617 rfl rfl ?_
      refine J_sload_n dL_law_618 rfl rfl ?_
      refine J_iload_n dL_law_619 rfl rfl ?_
      refine J_iconst (v := 1) dL_law_620 (by decide) ?_
      refine J_iadd (z := 1) dL_law_621 (by decide +kernel) ?_
      refine L_sld (i2 := 1) (v := x1) dL_law_622 (jin (by decide +kernel)) (by decide +kernel) hx1 ?_
      refine J_sload_n dL_law_623 rfl rfl ?_
      refine J_iload_n dL_law_624 rfl rfl ?_
      refine J_iconst (v := 2) dL_law_625 (by decide) ?_
      refine J_iadd (z := 2) dL_law_626 (by decide +kernel) ?_
      refine L_sld (i2 := 2) (v := x2) dL_law_627 (jin (by decide +kernel)) (by decide +kernel) hx2 ?_
      refine J_sload_n dL_law_628 rfl rfl ?_
      refine J_iload_n dL_law_629 rfl rfl ?_
      refine J_iconst (v := 3) dL_law_630 (by decide) ?_
      refine J_iadd (z := 3) dL_law_631 (by decide +kernel) ?_
      refine L_sld (i2 := 3) (v := x3) dL_law_632 (jin (by decide +kernel)) (by decide +kernel) hx3 ?_
      refine J_callV (st := []) dL_law_633 cv_L_78 (c_X11_way_7 (x1) b1 (x2) b2 (x3) b3 H0_0 H0_51) H0_0 rfl rfl (Nat.le_of_ble_eq_true rfl) ⟨(Nat.le_of_ble_eq_true rfl), (Nat.le_of_ble_eq_true rfl)⟩ ⟨(Nat.le_of_ble_eq_true rfl), (Nat.le_of_ble_eq_true rfl)⟩ (fun r h9 hp => ?_)
      obtain ⟨rfl, rfl⟩ := hp
      refine J_nf (nh2 := 135) (ck2 := 135) (sk2 := 415506) (st2 := [.int (-1)]) rfl rfl rfl rfl ?_
      refine J_aload_n dL_law_636 rfl rfl ?_
      refine J_sload_n dL_law_637 rfl rfl ?_
      refine J_iload_n dL_law_638 rfl rfl ?_
      refine J_iconst (v := 1) dL_law_639 (by decide) ?_
      refine J_iadd (z := 1) dL_law_640 (by decide +kernel) ?_
      refine L_sld (i2 := 1) (v := x1) dL_law_641 (jin (by decide +kernel)) (by decide +kernel) hx1 ?_
      refine J_sload_n dL_law_642 rfl rfl ?_
      refine J_iload_n dL_law_643 rfl rfl ?_
      refine J_iconst (v := 2) dL_law_644 (by decide) ?_
      refine J_iadd (z := 2) dL_law_645 (by decide +kernel) ?_
      refine L_sld (i2 := 2) (v := x2) dL_law_646 (jin (by decide +kernel)) (by decide +kernel) hx2 ?_
      refine J_sload_n dL_law_647 rfl rfl ?_
      refine J_iload_n dL_law_648 rfl rfl ?_
      refine J_iconst (v := 3) dL_law_649 (by decide) ?_
      refine J_iadd (z := 3) dL_law_650 (by decide +kernel) ?_
      refine L_sld (i2 := 3) (v := x3) dL_law_651 (jin (by decide +kernel)) (by decide +kernel) hx3 ?_
      refine J_callV (st := [.int (-1)]) dL_law_652 cv_L_81 (c_X12_way_7 (x1) b1 (x2) b2 (x3) b3 H0_98 H0_100 H0_111) H0_98 rfl rfl (Nat.le_of_ble_eq_true rfl) ⟨(Nat.le_of_ble_eq_true rfl), (Nat.le_of_ble_eq_true rfl)⟩ ⟨(Nat.le_of_ble_eq_true rfl), (Nat.le_of_ble_eq_true rfl)⟩ (fun r h9 hp => ?_)
      obtain ⟨rfl, rfl⟩ := hp
      refine J_nf (nh2 := 135) (ck2 := 135) (sk2 := 415506) (st2 := [.int (-1), .int (-1)]) rfl rfl rfl rfl ?_
      refine J_app (L3 := [(98, .inr (12, [.int 0, .int 0, .ref 99, .ref 100, .ref 101, .ref 102, .ref 103, .ref 104, .ref 105, .int 0, .int (-1), .ref 106, .ref 107, .ref 108, .int 0, .int 0, .int 0, .int 0, .int 0, .int 0, .int 0, .ref 109, .int 0, .int 0, .ref 110, .ref 111, .ref 112, .ref 113, .ref 114, .ref 115, .ref 116, .ref 117, .int 1, .int 0, .int 0, .int (-1), .ref 118, .ref 119, .ref 120, .ref 121, .ref 122, .ref 123, .ref 124, .ref 125, .ref 126, .ref 127, .ref 128, .ref 129, .int 0, .ref 130, .ref 131, .ref 132, .ref 133, .ref 134, .int 0, .int 0])), (111, .inl (0, 1260, .inl (upd (fun _ => 0) 0 0)))]) rfl ?_
      refine J_icmp_eq (tgt := 1221) dL_law_655 (by decide) (fun _ => ?_) (fun q => absurd (by decide +kernel) q)
      exact law_tail (Nat.le_of_ble_eq_true rfl) (Nat.le_of_ble_eq_true rfl)
set_option maxHeartbeats 4000000 in
set_option maxRecDepth 100000 in
theorem law_case_16 {l : Launch} {G : jG} {b : Nat} {xs : Nat → Int32} (x1 : Int32) (hx1 : xs 1 = x1) (x2 : Int32) (hx2 : xs 2 = x2) : J l G ML_law room_1 (lE b 6 xs G) lQ (135, H0) 135 415506 660 [some (.retAddr 0), some (.ref 0), some (.ref 98), some (.int 0)] [] := by
  have r1 := i32_rng x1
  have r2 := i32_rng x2
  rcases i_cut x1.toInt 0 with h_0 | h_0
  · have b1 : (-2147483648) ≤ x1.toInt ∧ x1.toInt ≤ (-1) := ⟨by omega, by omega⟩
    have b2 : (-2147483648) ≤ x2.toInt ∧ x2.toInt ≤ 2147483647 := ⟨by omega, by omega⟩
    refine J_hc0 ?_
    refine J_aload_n dL_law_660 rfl rfl ?_
    refine J_sload_n dL_law_661 rfl rfl ?_
    refine J_iload_n dL_law_662 rfl rfl ?_
    refine J_iconst (v := 1) dL_law_663 (by decide) ?_
    refine J_iadd (z := 1) dL_law_664 (by decide +kernel) ?_
    refine L_sld (i2 := 1) (v := x1) dL_law_665 (jin (by decide +kernel)) (by decide +kernel) hx1 ?_
    refine J_sload_n dL_law_666 rfl rfl ?_
    refine J_iload_n dL_law_667 rfl rfl ?_
    refine J_iconst (v := 2) dL_law_668 (by decide) ?_
    refine J_iadd (z := 2) dL_law_669 (by decide +kernel) ?_
    refine L_sld (i2 := 2) (v := x2) dL_law_670 (jin (by decide +kernel)) (by decide +kernel) hx2 ?_
    refine J_callV (st := []) dL_law_671 cv_L_82 (c_X11_reach_1 (x1) b1 (x2) b2 H0_0 H0_51) H0_0 rfl rfl (Nat.le_of_ble_eq_true rfl) ⟨(Nat.le_of_ble_eq_true rfl), (Nat.le_of_ble_eq_true rfl)⟩ ⟨(Nat.le_of_ble_eq_true rfl), (Nat.le_of_ble_eq_true rfl)⟩ (fun r h9 hp => ?_)
    obtain ⟨rfl, rfl⟩ := hp
    refine J_nf (nh2 := 135) (ck2 := 135) (sk2 := 415506) (st2 := [.int (-1)]) rfl rfl rfl rfl ?_
    refine J_aload_n dL_law_674 rfl rfl ?_
    refine J_sload_n dL_law_675 rfl rfl ?_
    refine J_iload_n dL_law_676 rfl rfl ?_
    refine J_iconst (v := 1) dL_law_677 (by decide) ?_
    refine J_iadd (z := 1) dL_law_678 (by decide +kernel) ?_
    refine L_sld (i2 := 1) (v := x1) dL_law_679 (jin (by decide +kernel)) (by decide +kernel) hx1 ?_
    refine J_sload_n dL_law_680 rfl rfl ?_
    refine J_iload_n dL_law_681 rfl rfl ?_
    refine J_iconst (v := 2) dL_law_682 (by decide) ?_
    refine J_iadd (z := 2) dL_law_683 (by decide +kernel) ?_
    refine L_sld (i2 := 2) (v := x2) dL_law_684 (jin (by decide +kernel)) (by decide +kernel) hx2 ?_
    refine J_callV (st := [.int (-1)]) dL_law_685 cv_L_85 (c_X12_reach_1 (x1) b1 (x2) b2 H0_98 H0_100 H0_111) H0_98 rfl rfl (Nat.le_of_ble_eq_true rfl) ⟨(Nat.le_of_ble_eq_true rfl), (Nat.le_of_ble_eq_true rfl)⟩ ⟨(Nat.le_of_ble_eq_true rfl), (Nat.le_of_ble_eq_true rfl)⟩ (fun r h9 hp => ?_)
    obtain ⟨rfl, rfl⟩ := hp
    refine J_nf (nh2 := 135) (ck2 := 135) (sk2 := 415506) (st2 := [.int (-1), .int (-1)]) rfl rfl rfl rfl ?_
    refine J_app (L3 := [(98, .inr (12, [.int 0, .int 0, .ref 99, .ref 100, .ref 101, .ref 102, .ref 103, .ref 104, .ref 105, .int 0, .int (-1), .ref 106, .ref 107, .ref 108, .int 0, .int 0, .int 0, .int 0, .int 0, .int 0, .int 0, .ref 109, .int 0, .int 0, .ref 110, .ref 111, .ref 112, .ref 113, .ref 114, .ref 115, .ref 116, .ref 117, .int 1, .int 0, .int 0, .int (-1), .ref 118, .ref 119, .ref 120, .ref 121, .ref 122, .ref 123, .ref 124, .ref 125, .ref 126, .ref 127, .ref 128, .ref 129, .int 0, .ref 130, .ref 131, .ref 132, .ref 133, .ref 134, .int 0, .int 0])), (111, .inl (0, 1260, .inl (upd (fun _ => 0) 0 0)))]) rfl ?_
    refine J_icmp_eq (tgt := 1221) dL_law_688 (by decide) (fun _ => ?_) (fun q => absurd (by decide +kernel) q)
    exact law_tail (Nat.le_of_ble_eq_true rfl) (Nat.le_of_ble_eq_true rfl)
  · rcases i_cut x1.toInt 1 with h_1 | h_1
    · rcases i_cut x2.toInt 0 with h_2 | h_2
      · obtain rfl : x1 = 0 := by rw [fa_eq, kc_0]; omega
        have b2 : (-2147483648) ≤ x2.toInt ∧ x2.toInt ≤ (-1) := ⟨by omega, by omega⟩
        refine J_hc0 ?_
        refine J_aload_n dL_law_660 rfl rfl ?_
        refine J_sload_n dL_law_661 rfl rfl ?_
        refine J_iload_n dL_law_662 rfl rfl ?_
        refine J_iconst (v := 1) dL_law_663 (by decide) ?_
        refine J_iadd (z := 1) dL_law_664 (by decide +kernel) ?_
        refine L_sld (i2 := 1) (v := 0) dL_law_665 (jin (by decide +kernel)) (by decide +kernel) hx1 ?_
        refine J_sload_n dL_law_666 rfl rfl ?_
        refine J_iload_n dL_law_667 rfl rfl ?_
        refine J_iconst (v := 2) dL_law_668 (by decide) ?_
        refine J_iadd (z := 2) dL_law_669 (by decide +kernel) ?_
        refine L_sld (i2 := 2) (v := x2) dL_law_670 (jin (by decide +kernel)) (by decide +kernel) hx2 ?_
        refine J_callV (st := []) dL_law_671 cv_L_82 (c_X11_reach_2 (x2) b2 H0_0 H0_1 H0_3 H0_51 H0_52 H0_57 H0_58 H0_59 H0_62 H0_63 H0_65 H0_66 H0_67 H0_68) H0_0 rfl rfl (Nat.le_of_ble_eq_true rfl) ⟨(Nat.le_of_ble_eq_true rfl), (Nat.le_of_ble_eq_true rfl)⟩ ⟨(Nat.le_of_ble_eq_true rfl), (Nat.le_of_ble_eq_true rfl)⟩ (fun r h9 hp => ?_)
        obtain ⟨rfl, rfl⟩ := hp
        refine J_nf (nh2 := 136) (ck2 := 136) (sk2 := 415528) (st2 := [.int (-1)]) rfl rfl rfl rfl ?_
        refine J_app (L3 := [(62, .inl (0, 1260, .inl (upd (upd (fun _ => 0) 0 (-1)) 0 0))), (65, .inr (10, [.ref 51, .ref 57, .ref 66, .ref 67, .ref 68, .int 1, .int 0, .int 0, .ref 69, .ref 70, .ref 71, .ref 72, .int 0, .int (-1), .int (-1), .ref 73, .ref 74])), (68, .inl (0, 1260, .inl (upd (fun _ => 0) 0 0))), (67, .inl (0, 1260, .inl (upd (fun _ => 0) 0 1))), (66, .inl (0, 1260, .inl (upd (upd (fun _ => 0) 0 (-1)) 0 0))), (57, .inr (9, [.ref 1, .ref 51, .ref 58, .ref 61, .ref 62, .ref 135, .ref 64, .int 0, .int 0, .int 0])), (135, .inl (0, 22, .inl (fun _ => 0))), (59, .inl (0, 8, .inl (upd (upd (fun _ => 0) 6 0) 7 0)))]) rfl ?_
        refine J_aload_n dL_law_674 rfl rfl ?_
        refine J_sload_n dL_law_675 rfl rfl ?_
        refine J_iload_n dL_law_676 rfl rfl ?_
        refine J_iconst (v := 1) dL_law_677 (by decide) ?_
        refine J_iadd (z := 1) dL_law_678 (by decide +kernel) ?_
        refine L_sld (i2 := 1) (v := 0) dL_law_679 (jin (by decide +kernel)) (by decide +kernel) hx1 ?_
        refine J_sload_n dL_law_680 rfl rfl ?_
        refine J_iload_n dL_law_681 rfl rfl ?_
        refine J_iconst (v := 2) dL_law_682 (by decide) ?_
        refine J_iadd (z := 2) dL_law_683 (by decide +kernel) ?_
        refine L_sld (i2 := 2) (v := x2) dL_law_684 (jin (by decide +kernel)) (by decide +kernel) hx2 ?_
        refine J_callV (st := [.int (-1)]) dL_law_685 cv_L_85 (c_X12_reach_2 (x2) b2 H0_98 H0_100 H0_111) H0_98 rfl rfl (Nat.le_of_ble_eq_true rfl) ⟨(Nat.le_of_ble_eq_true rfl), (Nat.le_of_ble_eq_true rfl)⟩ ⟨(Nat.le_of_ble_eq_true rfl), (Nat.le_of_ble_eq_true rfl)⟩ (fun r h9 hp => ?_)
        obtain ⟨rfl, rfl⟩ := hp
        refine J_nf (nh2 := 136) (ck2 := 136) (sk2 := 415528) (st2 := [.int (-1), .int (-1)]) rfl rfl rfl rfl ?_
        refine J_app (L3 := [(98, .inr (12, [.int 0, .int 0, .ref 99, .ref 100, .ref 101, .ref 102, .ref 103, .ref 104, .ref 105, .int 0, .int (-1), .ref 106, .ref 107, .ref 108, .int 0, .int 0, .int 0, .int 0, .int 0, .int 0, .int 0, .ref 109, .int 0, .int 0, .ref 110, .ref 111, .ref 112, .ref 113, .ref 114, .ref 115, .ref 116, .ref 117, .int 1, .int 0, .int 0, .int (-1), .ref 118, .ref 119, .ref 120, .ref 121, .ref 122, .ref 123, .ref 124, .ref 125, .ref 126, .ref 127, .ref 128, .ref 129, .int 0, .ref 130, .ref 131, .ref 132, .ref 133, .ref 134, .int 0, .int 0])), (111, .inl (0, 1260, .inl (upd (fun _ => 0) 0 0))), (62, .inl (0, 1260, .inl (upd (upd (fun _ => 0) 0 (-1)) 0 0))), (65, .inr (10, [.ref 51, .ref 57, .ref 66, .ref 67, .ref 68, .int 1, .int 0, .int 0, .ref 69, .ref 70, .ref 71, .ref 72, .int 0, .int (-1), .int (-1), .ref 73, .ref 74])), (68, .inl (0, 1260, .inl (upd (fun _ => 0) 0 0))), (67, .inl (0, 1260, .inl (upd (fun _ => 0) 0 1))), (66, .inl (0, 1260, .inl (upd (upd (fun _ => 0) 0 (-1)) 0 0))), (57, .inr (9, [.ref 1, .ref 51, .ref 58, .ref 61, .ref 62, .ref 135, .ref 64, .int 0, .int 0, .int 0])), (135, .inl (0, 22, .inl (fun _ => 0))), (59, .inl (0, 8, .inl (upd (upd (fun _ => 0) 6 0) 7 0)))]) rfl ?_
        refine J_icmp_eq (tgt := 1221) dL_law_688 (by decide) (fun _ => ?_) (fun q => absurd (by decide +kernel) q)
        exact law_tail (Nat.le_of_ble_eq_true rfl) (Nat.le_of_ble_eq_true rfl)
      · rcases i_cut x2.toInt 1 with h_3 | h_3
        · obtain rfl : x1 = 0 := by rw [fa_eq, kc_0]; omega
          obtain rfl : x2 = 0 := by rw [fa_eq, kc_0]; omega
          refine J_hc0 ?_
          refine J_aload_n dL_law_660 rfl rfl ?_
          refine J_sload_n dL_law_661 rfl rfl ?_
          refine J_iload_n dL_law_662 rfl rfl ?_
          refine J_iconst (v := 1) dL_law_663 (by decide) ?_
          refine J_iadd (z := 1) dL_law_664 (by decide +kernel) ?_
          refine L_sld (i2 := 1) (v := 0) dL_law_665 (jin (by decide +kernel)) (by decide +kernel) hx1 ?_
          refine J_sload_n dL_law_666 rfl rfl ?_
          refine J_iload_n dL_law_667 rfl rfl ?_
          refine J_iconst (v := 2) dL_law_668 (by decide) ?_
          refine J_iadd (z := 2) dL_law_669 (by decide +kernel) ?_
          refine L_sld (i2 := 2) (v := 0) dL_law_670 (jin (by decide +kernel)) (by decide +kernel) hx2 ?_
          refine J_callV (st := []) dL_law_671 cv_L_82 (c_X11_reach_3 H0_0 H0_1 H0_3 H0_51 H0_52 H0_57 H0_58 H0_59 H0_62 H0_63 H0_65 H0_66 H0_67 H0_68) H0_0 rfl rfl (Nat.le_of_ble_eq_true rfl) ⟨(Nat.le_of_ble_eq_true rfl), (Nat.le_of_ble_eq_true rfl)⟩ ⟨(Nat.le_of_ble_eq_true rfl), (Nat.le_of_ble_eq_true rfl)⟩ (fun r h9 hp => ?_)
          obtain ⟨rfl, rfl⟩ := hp
          refine J_nf (nh2 := 136) (ck2 := 136) (sk2 := 415528) (st2 := [.int 1]) rfl rfl rfl rfl ?_
          refine J_app (L3 := [(62, .inl (0, 1260, .inl (upd (upd (fun _ => 0) 0 (-1)) 0 0))), (65, .inr (10, [.ref 51, .ref 57, .ref 66, .ref 67, .ref 68, .int 1, .int 0, .int 0, .ref 69, .ref 70, .ref 71, .ref 72, .int 0, .int (-1), .int (-1), .ref 73, .ref 74])), (68, .inl (0, 1260, .inl (upd (fun _ => 0) 0 0))), (67, .inl (0, 1260, .inl (upd (fun _ => 0) 0 1))), (66, .inl (0, 1260, .inl (upd (upd (fun _ => 0) 0 (-1)) 0 0))), (57, .inr (9, [.ref 1, .ref 51, .ref 58, .ref 61, .ref 62, .ref 135, .ref 64, .int 0, .int 0, .int 0])), (135, .inl (0, 22, .inl (fun _ => 0))), (59, .inl (0, 8, .inl (upd (upd (fun _ => 0) 6 0) 7 0)))]) rfl ?_
          refine J_aload_n dL_law_674 rfl rfl ?_
          refine J_sload_n dL_law_675 rfl rfl ?_
          refine J_iload_n dL_law_676 rfl rfl ?_
          refine J_iconst (v := 1) dL_law_677 (by decide) ?_
          refine J_iadd (z := 1) dL_law_678 (by decide +kernel) ?_
          refine L_sld (i2 := 1) (v := 0) dL_law_679 (jin (by decide +kernel)) (by decide +kernel) hx1 ?_
          refine J_sload_n dL_law_680 rfl rfl ?_
          refine J_iload_n dL_law_681 rfl rfl ?_
          refine J_iconst (v := 2) dL_law_682 (by decide) ?_
          refine J_iadd (z := 2) dL_law_683 (by decide +kernel) ?_
          refine L_sld (i2 := 2) (v := 0) dL_law_684 (jin (by decide +kernel)) (by decide +kernel) hx2 ?_
          refine J_callV (st := [.int 1]) dL_law_685 cv_L_85 (c_X12_reach_3 H0_98 H0_100 H0_111 H0_114 H0_116 H0_118 H0_119 H0_120) H0_98 rfl rfl (Nat.le_of_ble_eq_true rfl) ⟨(Nat.le_of_ble_eq_true rfl), (Nat.le_of_ble_eq_true rfl)⟩ ⟨(Nat.le_of_ble_eq_true rfl), (Nat.le_of_ble_eq_true rfl)⟩ (fun r h9 hp => ?_)
          obtain ⟨rfl, rfl⟩ := hp
          refine J_nf (nh2 := 136) (ck2 := 136) (sk2 := 415528) (st2 := [.int 1, .int 1]) rfl rfl rfl rfl ?_
          refine J_app (L3 := [(120, .inl (0, 1260, .inl (upd (fun _ => 0) 0 0))), (119, .inl (1, 1260, .inr (.inl (vp_updL (vp_updL (fun _ => 0) 0 0) 0 1)))), (118, .inl (0, 1260, .inl (upd (upd (fun _ => 0) 0 (-1)) 0 0))), (114, .inl (0, 1260, .inl (upd (fun _ => 0) 0 0))), (116, .inl (0, 1260, .inl (upd (fun _ => 0) 0 0))), (98, .inr (12, [.int 0, .int 0, .ref 99, .ref 100, .ref 101, .ref 102, .ref 103, .ref 104, .ref 105, .int 0, .int (-1), .ref 106, .ref 107, .ref 108, .int 0, .int 0, .int 0, .int 0, .int 0, .int 0, .int 0, .ref 109, .int 0, .int 0, .ref 110, .ref 111, .ref 112, .ref 113, .ref 114, .ref 115, .ref 116, .ref 117, .int 1, .int 0, .int 0, .int 0, .ref 118, .ref 119, .ref 120, .ref 121, .ref 122, .ref 123, .ref 124, .ref 125, .ref 126, .ref 127, .ref 128, .ref 129, .int 0, .ref 130, .ref 131, .ref 132, .ref 133, .ref 134, .int 0, .int 0])), (111, .inl (0, 1260, .inl (upd (fun _ => 0) 0 0))), (62, .inl (0, 1260, .inl (upd (upd (fun _ => 0) 0 (-1)) 0 0))), (65, .inr (10, [.ref 51, .ref 57, .ref 66, .ref 67, .ref 68, .int 1, .int 0, .int 0, .ref 69, .ref 70, .ref 71, .ref 72, .int 0, .int (-1), .int (-1), .ref 73, .ref 74])), (68, .inl (0, 1260, .inl (upd (fun _ => 0) 0 0))), (67, .inl (0, 1260, .inl (upd (fun _ => 0) 0 1))), (66, .inl (0, 1260, .inl (upd (upd (fun _ => 0) 0 (-1)) 0 0))), (57, .inr (9, [.ref 1, .ref 51, .ref 58, .ref 61, .ref 62, .ref 135, .ref 64, .int 0, .int 0, .int 0])), (135, .inl (0, 22, .inl (fun _ => 0))), (59, .inl (0, 8, .inl (upd (upd (fun _ => 0) 6 0) 7 0)))]) rfl ?_
          refine J_icmp_eq (tgt := 1221) dL_law_688 (by decide) (fun _ => ?_) (fun q => absurd (by decide +kernel) q)
          exact law_tail (Nat.le_of_ble_eq_true rfl) (Nat.le_of_ble_eq_true rfl)
        · rcases i_cut x2.toInt 2 with h_4 | h_4
          · obtain rfl : x1 = 0 := by rw [fa_eq, kc_0]; omega
            obtain rfl : x2 = 1 := by rw [fa_eq, kc_1]; omega
            refine J_hc0 ?_
            refine J_aload_n dL_law_660 rfl rfl ?_
            refine J_sload_n dL_law_661 rfl rfl ?_
            refine J_iload_n dL_law_662 rfl rfl ?_
            refine J_iconst (v := 1) dL_law_663 (by decide) ?_
            refine J_iadd (z := 1) dL_law_664 (by decide +kernel) ?_
            refine L_sld (i2 := 1) (v := 0) dL_law_665 (jin (by decide +kernel)) (by decide +kernel) hx1 ?_
            refine J_sload_n dL_law_666 rfl rfl ?_
            refine J_iload_n dL_law_667 rfl rfl ?_
            refine J_iconst (v := 2) dL_law_668 (by decide) ?_
            refine J_iadd (z := 2) dL_law_669 (by decide +kernel) ?_
            refine L_sld (i2 := 2) (v := 1) dL_law_670 (jin (by decide +kernel)) (by decide +kernel) hx2 ?_
            refine J_callV (st := []) dL_law_671 cv_L_82 (c_X11_reach_4 H0_0 H0_1 H0_3 H0_51 H0_52 H0_57 H0_58 H0_59 H0_62 H0_63 H0_65 H0_66 H0_67 H0_68) H0_0 rfl rfl (Nat.le_of_ble_eq_true rfl) ⟨(Nat.le_of_ble_eq_true rfl), (Nat.le_of_ble_eq_true rfl)⟩ ⟨(Nat.le_of_ble_eq_true rfl), (Nat.le_of_ble_eq_true rfl)⟩ (fun r h9 hp => ?_)
            obtain ⟨rfl, rfl⟩ := hp
            refine J_nf (nh2 := 136) (ck2 := 136) (sk2 := 415528) (st2 := [.int 0]) rfl rfl rfl rfl ?_
            refine J_app (L3 := [(62, .inl (0, 1260, .inl (upd (upd (fun _ => 0) 0 (-1)) 0 0))), (65, .inr (10, [.ref 51, .ref 57, .ref 66, .ref 67, .ref 68, .int 1, .int 0, .int 0, .ref 69, .ref 70, .ref 71, .ref 72, .int 0, .int (-1), .int (-1), .ref 73, .ref 74])), (68, .inl (0, 1260, .inl (upd (fun _ => 0) 0 0))), (67, .inl (0, 1260, .inl (upd (fun _ => 0) 0 1))), (66, .inl (0, 1260, .inl (upd (upd (fun _ => 0) 0 (-1)) 0 0))), (57, .inr (9, [.ref 1, .ref 51, .ref 58, .ref 61, .ref 62, .ref 135, .ref 64, .int 0, .int 0, .int 0])), (135, .inl (0, 22, .inl (fun _ => 0))), (59, .inl (0, 8, .inl (upd (upd (fun _ => 0) 6 0) 7 0)))]) rfl ?_
            refine J_aload_n dL_law_674 rfl rfl ?_
            refine J_sload_n dL_law_675 rfl rfl ?_
            refine J_iload_n dL_law_676 rfl rfl ?_
            refine J_iconst (v := 1) dL_law_677 (by decide) ?_
            refine J_iadd (z := 1) dL_law_678 (by decide +kernel) ?_
            refine L_sld (i2 := 1) (v := 0) dL_law_679 (jin (by decide +kernel)) (by decide +kernel) hx1 ?_
            refine J_sload_n dL_law_680 rfl rfl ?_
            refine J_iload_n dL_law_681 rfl rfl ?_
            refine J_iconst (v := 2) dL_law_682 (by decide) ?_
            refine J_iadd (z := 2) dL_law_683 (by decide +kernel) ?_
            refine L_sld (i2 := 2) (v := 1) dL_law_684 (jin (by decide +kernel)) (by decide +kernel) hx2 ?_
            refine J_callV (st := [.int 0]) dL_law_685 cv_L_85 (c_X12_reach_4 H0_98 H0_100 H0_111 H0_114 H0_116 H0_118 H0_119 H0_120) H0_98 rfl rfl (Nat.le_of_ble_eq_true rfl) ⟨(Nat.le_of_ble_eq_true rfl), (Nat.le_of_ble_eq_true rfl)⟩ ⟨(Nat.le_of_ble_eq_true rfl), (Nat.le_of_ble_eq_true rfl)⟩ (fun r h9 hp => ?_)
            obtain ⟨rfl, rfl⟩ := hp
            refine J_nf (nh2 := 136) (ck2 := 136) (sk2 := 415528) (st2 := [.int 0, .int 0]) rfl rfl rfl rfl ?_
            refine J_app (L3 := [(120, .inl (0, 1260, .inl (upd (fun _ => 0) 0 0))), (119, .inl (1, 1260, .inr (.inl (vp_updL (vp_updL (fun _ => 0) 0 0) 0 1)))), (118, .inl (0, 1260, .inl (upd (upd (fun _ => 0) 0 (-1)) 0 0))), (114, .inl (0, 1260, .inl (upd (fun _ => 0) 0 0))), (116, .inl (0, 1260, .inl (upd (fun _ => 0) 0 0))), (98, .inr (12, [.int 0, .int 0, .ref 99, .ref 100, .ref 101, .ref 102, .ref 103, .ref 104, .ref 105, .int 0, .int (-1), .ref 106, .ref 107, .ref 108, .int 0, .int 0, .int 0, .int 0, .int 0, .int 0, .int 0, .ref 109, .int 0, .int 0, .ref 110, .ref 111, .ref 112, .ref 113, .ref 114, .ref 115, .ref 116, .ref 117, .int 1, .int 0, .int 0, .int 0, .ref 118, .ref 119, .ref 120, .ref 121, .ref 122, .ref 123, .ref 124, .ref 125, .ref 126, .ref 127, .ref 128, .ref 129, .int 0, .ref 130, .ref 131, .ref 132, .ref 133, .ref 134, .int 0, .int 0])), (111, .inl (0, 1260, .inl (upd (fun _ => 0) 0 0))), (62, .inl (0, 1260, .inl (upd (upd (fun _ => 0) 0 (-1)) 0 0))), (65, .inr (10, [.ref 51, .ref 57, .ref 66, .ref 67, .ref 68, .int 1, .int 0, .int 0, .ref 69, .ref 70, .ref 71, .ref 72, .int 0, .int (-1), .int (-1), .ref 73, .ref 74])), (68, .inl (0, 1260, .inl (upd (fun _ => 0) 0 0))), (67, .inl (0, 1260, .inl (upd (fun _ => 0) 0 1))), (66, .inl (0, 1260, .inl (upd (upd (fun _ => 0) 0 (-1)) 0 0))), (57, .inr (9, [.ref 1, .ref 51, .ref 58, .ref 61, .ref 62, .ref 135, .ref 64, .int 0, .int 0, .int 0])), (135, .inl (0, 22, .inl (fun _ => 0))), (59, .inl (0, 8, .inl (upd (upd (fun _ => 0) 6 0) 7 0)))]) rfl ?_
            refine J_icmp_eq (tgt := 1221) dL_law_688 (by decide) (fun _ => ?_) (fun q => absurd (by decide +kernel) q)
            exact law_tail (Nat.le_of_ble_eq_true rfl) (Nat.le_of_ble_eq_true rfl)
          · rcases i_cut x2.toInt 3 with h_5 | h_5
            · obtain rfl : x1 = 0 := by rw [fa_eq, kc_0]; omega
              obtain rfl : x2 = 2 := by rw [fa_eq, kc_2]; omega
              refine J_hc0 ?_
              refine J_aload_n dL_law_660 rfl rfl ?_
              refine J_sload_n dL_law_661 rfl rfl ?_
              refine J_iload_n dL_law_662 rfl rfl ?_
              refine J_iconst (v := 1) dL_law_663 (by decide) ?_
              refine J_iadd (z := 1) dL_law_664 (by decide +kernel) ?_
              refine L_sld (i2 := 1) (v := 0) dL_law_665 (jin (by decide +kernel)) (by decide +kernel) hx1 ?_
              refine J_sload_n dL_law_666 rfl rfl ?_
              refine J_iload_n dL_law_667 rfl rfl ?_
              refine J_iconst (v := 2) dL_law_668 (by decide) ?_
              refine J_iadd (z := 2) dL_law_669 (by decide +kernel) ?_
              refine L_sld (i2 := 2) (v := 2) dL_law_670 (jin (by decide +kernel)) (by decide +kernel) hx2 ?_
              refine J_callV (st := []) dL_law_671 cv_L_82 (c_X11_reach_5 H0_0 H0_1 H0_3 H0_51 H0_52 H0_57 H0_58 H0_59 H0_62 H0_63 H0_65 H0_66 H0_67 H0_68) H0_0 rfl rfl (Nat.le_of_ble_eq_true rfl) ⟨(Nat.le_of_ble_eq_true rfl), (Nat.le_of_ble_eq_true rfl)⟩ ⟨(Nat.le_of_ble_eq_true rfl), (Nat.le_of_ble_eq_true rfl)⟩ (fun r h9 hp => ?_)
              obtain ⟨rfl, rfl⟩ := hp
              refine J_nf (nh2 := 136) (ck2 := 136) (sk2 := 415528) (st2 := [.int 1]) rfl rfl rfl rfl ?_
              refine J_app (L3 := [(62, .inl (0, 1260, .inl (upd (upd (fun _ => 0) 0 (-1)) 0 0))), (65, .inr (10, [.ref 51, .ref 57, .ref 66, .ref 67, .ref 68, .int 1, .int 0, .int 0, .ref 69, .ref 70, .ref 71, .ref 72, .int 0, .int (-1), .int (-1), .ref 73, .ref 74])), (68, .inl (0, 1260, .inl (upd (fun _ => 0) 0 0))), (67, .inl (0, 1260, .inl (upd (fun _ => 0) 0 1))), (66, .inl (0, 1260, .inl (upd (upd (fun _ => 0) 0 (-1)) 0 0))), (57, .inr (9, [.ref 1, .ref 51, .ref 58, .ref 61, .ref 62, .ref 135, .ref 64, .int 0, .int 0, .int 0])), (135, .inl (0, 22, .inl (fun _ => 0))), (59, .inl (0, 8, .inl (upd (upd (fun _ => 0) 6 0) 7 0)))]) rfl ?_
              refine J_aload_n dL_law_674 rfl rfl ?_
              refine J_sload_n dL_law_675 rfl rfl ?_
              refine J_iload_n dL_law_676 rfl rfl ?_
              refine J_iconst (v := 1) dL_law_677 (by decide) ?_
              refine J_iadd (z := 1) dL_law_678 (by decide +kernel) ?_
              refine L_sld (i2 := 1) (v := 0) dL_law_679 (jin (by decide +kernel)) (by decide +kernel) hx1 ?_
              refine J_sload_n dL_law_680 rfl rfl ?_
              refine J_iload_n dL_law_681 rfl rfl ?_
              refine J_iconst (v := 2) dL_law_682 (by decide) ?_
              refine J_iadd (z := 2) dL_law_683 (by decide +kernel) ?_
              refine L_sld (i2 := 2) (v := 2) dL_law_684 (jin (by decide +kernel)) (by decide +kernel) hx2 ?_
              refine J_callV (st := [.int 1]) dL_law_685 cv_L_85 (c_X12_reach_5 H0_98 H0_100 H0_111 H0_114 H0_116 H0_118 H0_119 H0_120) H0_98 rfl rfl (Nat.le_of_ble_eq_true rfl) ⟨(Nat.le_of_ble_eq_true rfl), (Nat.le_of_ble_eq_true rfl)⟩ ⟨(Nat.le_of_ble_eq_true rfl), (Nat.le_of_ble_eq_true rfl)⟩ (fun r h9 hp => ?_)
              obtain ⟨rfl, rfl⟩ := hp
              refine J_nf (nh2 := 136) (ck2 := 136) (sk2 := 415528) (st2 := [.int 1, .int 1]) rfl rfl rfl rfl ?_
              refine J_app (L3 := [(120, .inl (0, 1260, .inl (upd (fun _ => 0) 0 0))), (119, .inl (1, 1260, .inr (.inl (vp_updL (vp_updL (fun _ => 0) 0 0) 0 1)))), (118, .inl (0, 1260, .inl (upd (upd (fun _ => 0) 0 (-1)) 0 0))), (114, .inl (0, 1260, .inl (upd (fun _ => 0) 0 0))), (116, .inl (0, 1260, .inl (upd (fun _ => 0) 0 0))), (98, .inr (12, [.int 0, .int 0, .ref 99, .ref 100, .ref 101, .ref 102, .ref 103, .ref 104, .ref 105, .int 0, .int (-1), .ref 106, .ref 107, .ref 108, .int 0, .int 0, .int 0, .int 0, .int 0, .int 0, .int 0, .ref 109, .int 0, .int 0, .ref 110, .ref 111, .ref 112, .ref 113, .ref 114, .ref 115, .ref 116, .ref 117, .int 1, .int 0, .int 0, .int 0, .ref 118, .ref 119, .ref 120, .ref 121, .ref 122, .ref 123, .ref 124, .ref 125, .ref 126, .ref 127, .ref 128, .ref 129, .int 0, .ref 130, .ref 131, .ref 132, .ref 133, .ref 134, .int 0, .int 0])), (111, .inl (0, 1260, .inl (upd (fun _ => 0) 0 0))), (62, .inl (0, 1260, .inl (upd (upd (fun _ => 0) 0 (-1)) 0 0))), (65, .inr (10, [.ref 51, .ref 57, .ref 66, .ref 67, .ref 68, .int 1, .int 0, .int 0, .ref 69, .ref 70, .ref 71, .ref 72, .int 0, .int (-1), .int (-1), .ref 73, .ref 74])), (68, .inl (0, 1260, .inl (upd (fun _ => 0) 0 0))), (67, .inl (0, 1260, .inl (upd (fun _ => 0) 0 1))), (66, .inl (0, 1260, .inl (upd (upd (fun _ => 0) 0 (-1)) 0 0))), (57, .inr (9, [.ref 1, .ref 51, .ref 58, .ref 61, .ref 62, .ref 135, .ref 64, .int 0, .int 0, .int 0])), (135, .inl (0, 22, .inl (fun _ => 0))), (59, .inl (0, 8, .inl (upd (upd (fun _ => 0) 6 0) 7 0)))]) rfl ?_
              refine J_icmp_eq (tgt := 1221) dL_law_688 (by decide) (fun _ => ?_) (fun q => absurd (by decide +kernel) q)
              exact law_tail (Nat.le_of_ble_eq_true rfl) (Nat.le_of_ble_eq_true rfl)
            · rcases i_cut x2.toInt 4 with h_6 | h_6
              · obtain rfl : x1 = 0 := by rw [fa_eq, kc_0]; omega
                obtain rfl : x2 = 3 := by rw [fa_eq, kc_3]; omega
                refine J_hc0 ?_
                refine J_aload_n dL_law_660 rfl rfl ?_
                refine J_sload_n dL_law_661 rfl rfl ?_
                refine J_iload_n dL_law_662 rfl rfl ?_
                refine J_iconst (v := 1) dL_law_663 (by decide) ?_
                refine J_iadd (z := 1) dL_law_664 (by decide +kernel) ?_
                refine L_sld (i2 := 1) (v := 0) dL_law_665 (jin (by decide +kernel)) (by decide +kernel) hx1 ?_
                refine J_sload_n dL_law_666 rfl rfl ?_
                refine J_iload_n dL_law_667 rfl rfl ?_
                refine J_iconst (v := 2) dL_law_668 (by decide) ?_
                refine J_iadd (z := 2) dL_law_669 (by decide +kernel) ?_
                refine L_sld (i2 := 2) (v := 3) dL_law_670 (jin (by decide +kernel)) (by decide +kernel) hx2 ?_
                refine J_callV (st := []) dL_law_671 cv_L_82 (c_X11_reach_6 H0_0 H0_1 H0_3 H0_51 H0_52 H0_57 H0_58 H0_59 H0_62 H0_63 H0_65 H0_66 H0_67 H0_68) H0_0 rfl rfl (Nat.le_of_ble_eq_true rfl) ⟨(Nat.le_of_ble_eq_true rfl), (Nat.le_of_ble_eq_true rfl)⟩ ⟨(Nat.le_of_ble_eq_true rfl), (Nat.le_of_ble_eq_true rfl)⟩ (fun r h9 hp => ?_)
                obtain ⟨rfl, rfl⟩ := hp
                refine J_nf (nh2 := 136) (ck2 := 136) (sk2 := 415528) (st2 := [.int 0]) rfl rfl rfl rfl ?_
                refine J_app (L3 := [(62, .inl (0, 1260, .inl (upd (upd (fun _ => 0) 0 (-1)) 0 0))), (65, .inr (10, [.ref 51, .ref 57, .ref 66, .ref 67, .ref 68, .int 1, .int 0, .int 0, .ref 69, .ref 70, .ref 71, .ref 72, .int 0, .int (-1), .int (-1), .ref 73, .ref 74])), (68, .inl (0, 1260, .inl (upd (fun _ => 0) 0 0))), (67, .inl (0, 1260, .inl (upd (fun _ => 0) 0 1))), (66, .inl (0, 1260, .inl (upd (upd (fun _ => 0) 0 (-1)) 0 0))), (57, .inr (9, [.ref 1, .ref 51, .ref 58, .ref 61, .ref 62, .ref 135, .ref 64, .int 0, .int 0, .int 0])), (135, .inl (0, 22, .inl (fun _ => 0))), (59, .inl (0, 8, .inl (upd (upd (fun _ => 0) 6 0) 7 0)))]) rfl ?_
                refine J_aload_n dL_law_674 rfl rfl ?_
                refine J_sload_n dL_law_675 rfl rfl ?_
                refine J_iload_n dL_law_676 rfl rfl ?_
                refine J_iconst (v := 1) dL_law_677 (by decide) ?_
                refine J_iadd (z := 1) dL_law_678 (by decide +kernel) ?_
                refine L_sld (i2 := 1) (v := 0) dL_law_679 (jin (by decide +kernel)) (by decide +kernel) hx1 ?_
                refine J_sload_n dL_law_680 rfl rfl ?_
                refine J_iload_n dL_law_681 rfl rfl ?_
                refine J_iconst (v := 2) dL_law_682 (by decide) ?_
                refine J_iadd (z := 2) dL_law_683 (by decide +kernel) ?_
                refine L_sld (i2 := 2) (v := 3) dL_law_684 (jin (by decide +kernel)) (by decide +kernel) hx2 ?_
                refine J_callV (st := [.int 0]) dL_law_685 cv_L_85 (c_X12_reach_6 H0_98 H0_100 H0_111 H0_114 H0_116 H0_118 H0_119 H0_120) H0_98 rfl rfl (Nat.le_of_ble_eq_true rfl) ⟨(Nat.le_of_ble_eq_true rfl), (Nat.le_of_ble_eq_true rfl)⟩ ⟨(Nat.le_of_ble_eq_true rfl), (Nat.le_of_ble_eq_true rfl)⟩ (fun r h9 hp => ?_)
                obtain ⟨rfl, rfl⟩ := hp
                refine J_nf (nh2 := 136) (ck2 := 136) (sk2 := 415528) (st2 := [.int 0, .int 0]) rfl rfl rfl rfl ?_
                refine J_app (L3 := [(120, .inl (0, 1260, .inl (upd (fun _ => 0) 0 0))), (119, .inl (1, 1260, .inr (.inl (vp_updL (vp_updL (fun _ => 0) 0 0) 0 1)))), (118, .inl (0, 1260, .inl (upd (upd (fun _ => 0) 0 (-1)) 0 0))), (114, .inl (0, 1260, .inl (upd (fun _ => 0) 0 0))), (116, .inl (0, 1260, .inl (upd (fun _ => 0) 0 0))), (98, .inr (12, [.int 0, .int 0, .ref 99, .ref 100, .ref 101, .ref 102, .ref 103, .ref 104, .ref 105, .int 0, .int (-1), .ref 106, .ref 107, .ref 108, .int 0, .int 0, .int 0, .int 0, .int 0, .int 0, .int 0, .ref 109, .int 0, .int 0, .ref 110, .ref 111, .ref 112, .ref 113, .ref 114, .ref 115, .ref 116, .ref 117, .int 1, .int 0, .int 0, .int 0, .ref 118, .ref 119, .ref 120, .ref 121, .ref 122, .ref 123, .ref 124, .ref 125, .ref 126, .ref 127, .ref 128, .ref 129, .int 0, .ref 130, .ref 131, .ref 132, .ref 133, .ref 134, .int 0, .int 0])), (111, .inl (0, 1260, .inl (upd (fun _ => 0) 0 0))), (62, .inl (0, 1260, .inl (upd (upd (fun _ => 0) 0 (-1)) 0 0))), (65, .inr (10, [.ref 51, .ref 57, .ref 66, .ref 67, .ref 68, .int 1, .int 0, .int 0, .ref 69, .ref 70, .ref 71, .ref 72, .int 0, .int (-1), .int (-1), .ref 73, .ref 74])), (68, .inl (0, 1260, .inl (upd (fun _ => 0) 0 0))), (67, .inl (0, 1260, .inl (upd (fun _ => 0) 0 1))), (66, .inl (0, 1260, .inl (upd (upd (fun _ => 0) 0 (-1)) 0 0))), (57, .inr (9, [.ref 1, .ref 51, .ref 58, .ref 61, .ref 62, .ref 135, .ref 64, .int 0, .int 0, .int 0])), (135, .inl (0, 22, .inl (fun _ => 0))), (59, .inl (0, 8, .inl (upd (upd (fun _ => 0) 6 0) 7 0)))]) rfl ?_
                refine J_icmp_eq (tgt := 1221) dL_law_688 (by decide) (fun _ => ?_) (fun q => absurd (by decide +kernel) q)
                exact law_tail (Nat.le_of_ble_eq_true rfl) (Nat.le_of_ble_eq_true rfl)
              · obtain rfl : x1 = 0 := by rw [fa_eq, kc_0]; omega
                have b2 : 4 ≤ x2.toInt ∧ x2.toInt ≤ 2147483647 := ⟨by omega, by omega⟩
                refine J_hc0 ?_
                refine J_aload_n dL_law_660 rfl rfl ?_
                refine J_sload_n dL_law_661 rfl rfl ?_
                refine J_iload_n dL_law_662 rfl rfl ?_
                refine J_iconst (v := 1) dL_law_663 (by decide) ?_
                refine J_iadd (z := 1) dL_law_664 (by decide +kernel) ?_
                refine L_sld (i2 := 1) (v := 0) dL_law_665 (jin (by decide +kernel)) (by decide +kernel) hx1 ?_
                refine J_sload_n dL_law_666 rfl rfl ?_
                refine J_iload_n dL_law_667 rfl rfl ?_
                refine J_iconst (v := 2) dL_law_668 (by decide) ?_
                refine J_iadd (z := 2) dL_law_669 (by decide +kernel) ?_
                refine L_sld (i2 := 2) (v := x2) dL_law_670 (jin (by decide +kernel)) (by decide +kernel) hx2 ?_
                refine J_callV (st := []) dL_law_671 cv_L_82 (c_X11_reach_7 (x2) b2 H0_0 H0_1 H0_3 H0_51 H0_52 H0_57 H0_58 H0_59 H0_62 H0_63 H0_65 H0_66 H0_67 H0_68) H0_0 rfl rfl (Nat.le_of_ble_eq_true rfl) ⟨(Nat.le_of_ble_eq_true rfl), (Nat.le_of_ble_eq_true rfl)⟩ ⟨(Nat.le_of_ble_eq_true rfl), (Nat.le_of_ble_eq_true rfl)⟩ (fun r h9 hp => ?_)
                obtain ⟨rfl, rfl⟩ := hp
                refine J_nf (nh2 := 136) (ck2 := 136) (sk2 := 415528) (st2 := [.int (-1)]) rfl rfl rfl rfl ?_
                refine J_app (L3 := [(62, .inl (0, 1260, .inl (upd (upd (fun _ => 0) 0 (-1)) 0 0))), (65, .inr (10, [.ref 51, .ref 57, .ref 66, .ref 67, .ref 68, .int 1, .int 0, .int 0, .ref 69, .ref 70, .ref 71, .ref 72, .int 0, .int (-1), .int (-1), .ref 73, .ref 74])), (68, .inl (0, 1260, .inl (upd (fun _ => 0) 0 0))), (67, .inl (0, 1260, .inl (upd (fun _ => 0) 0 1))), (66, .inl (0, 1260, .inl (upd (upd (fun _ => 0) 0 (-1)) 0 0))), (57, .inr (9, [.ref 1, .ref 51, .ref 58, .ref 61, .ref 62, .ref 135, .ref 64, .int 0, .int 0, .int 0])), (135, .inl (0, 22, .inl (fun _ => 0))), (59, .inl (0, 8, .inl (upd (upd (fun _ => 0) 6 0) 7 0)))]) rfl ?_
                refine J_aload_n dL_law_674 rfl rfl ?_
                refine J_sload_n dL_law_675 rfl rfl ?_
                refine J_iload_n dL_law_676 rfl rfl ?_
                refine J_iconst (v := 1) dL_law_677 (by decide) ?_
                refine J_iadd (z := 1) dL_law_678 (by decide +kernel) ?_
                refine L_sld (i2 := 1) (v := 0) dL_law_679 (jin (by decide +kernel)) (by decide +kernel) hx1 ?_
                refine J_sload_n dL_law_680 rfl rfl ?_
                refine J_iload_n dL_law_681 rfl rfl ?_
                refine J_iconst (v := 2) dL_law_682 (by decide) ?_
                refine J_iadd (z := 2) dL_law_683 (by decide +kernel) ?_
                refine L_sld (i2 := 2) (v := x2) dL_law_684 (jin (by decide +kernel)) (by decide +kernel) hx2 ?_
                refine J_callV (st := [.int (-1)]) dL_law_685 cv_L_85 (c_X12_reach_7 (x2) b2 H0_98 H0_100 H0_111) H0_98 rfl rfl (Nat.le_of_ble_eq_true rfl) ⟨(Nat.le_of_ble_eq_true rfl), (Nat.le_of_ble_eq_true rfl)⟩ ⟨(Nat.le_of_ble_eq_true rfl), (Nat.le_of_ble_eq_true rfl)⟩ (fun r h9 hp => ?_)
                obtain ⟨rfl, rfl⟩ := hp
                refine J_nf (nh2 := 136) (ck2 := 136) (sk2 := 415528) (st2 := [.int (-1), .int (-1)]) rfl rfl rfl rfl ?_
                refine J_app (L3 := [(98, .inr (12, [.int 0, .int 0, .ref 99, .ref 100, .ref 101, .ref 102, .ref 103, .ref 104, .ref 105, .int 0, .int (-1), .ref 106, .ref 107, .ref 108, .int 0, .int 0, .int 0, .int 0, .int 0, .int 0, .int 0, .ref 109, .int 0, .int 0, .ref 110, .ref 111, .ref 112, .ref 113, .ref 114, .ref 115, .ref 116, .ref 117, .int 1, .int 0, .int 0, .int (-1), .ref 118, .ref 119, .ref 120, .ref 121, .ref 122, .ref 123, .ref 124, .ref 125, .ref 126, .ref 127, .ref 128, .ref 129, .int 0, .ref 130, .ref 131, .ref 132, .ref 133, .ref 134, .int 0, .int 0])), (111, .inl (0, 1260, .inl (upd (fun _ => 0) 0 0))), (62, .inl (0, 1260, .inl (upd (upd (fun _ => 0) 0 (-1)) 0 0))), (65, .inr (10, [.ref 51, .ref 57, .ref 66, .ref 67, .ref 68, .int 1, .int 0, .int 0, .ref 69, .ref 70, .ref 71, .ref 72, .int 0, .int (-1), .int (-1), .ref 73, .ref 74])), (68, .inl (0, 1260, .inl (upd (fun _ => 0) 0 0))), (67, .inl (0, 1260, .inl (upd (fun _ => 0) 0 1))), (66, .inl (0, 1260, .inl (upd (upd (fun _ => 0) 0 (-1)) 0 0))), (57, .inr (9, [.ref 1, .ref 51, .ref 58, .ref 61, .ref 62, .ref 135, .ref 64, .int 0, .int 0, .int 0])), (135, .inl (0, 22, .inl (fun _ => 0))), (59, .inl (0, 8, .inl (upd (upd (fun _ => 0) 6 0) 7 0)))]) rfl ?_
                refine J_icmp_eq (tgt := 1221) dL_law_688 (by decide) (fun _ => ?_) (fun q => absurd (by decide +kernel) q)
                exact law_tail (Nat.le_of_ble_eq_true rfl) (Nat.le_of_ble_eq_true rfl)
    · have b1 : 1 ≤ x1.toInt ∧ x1.toInt ≤ 2147483647 := ⟨by omega, by omega⟩
      have b2 : (-2147483648) ≤ x2.toInt ∧ x2.toInt ≤ 2147483647 := ⟨by omega, by omega⟩
      refine J_hc0 ?_
      refine J_aload_n dL_law_660 rfl rfl ?_
      refine J_sload_n dL_law_661 rfl rfl ?_
      refine J_iload_n dL_law_662 rfl rfl ?_
      refine J_iconst (v := 1) dL_law_663 (by decide) ?_
      refine J_iadd (z := 1) dL_law_664 (by decide +kernel) ?_
      refine L_sld (i2 := 1) (v := x1) dL_law_665 (jin (by decide +kernel)) (by decide +kernel) hx1 ?_
      refine J_sload_n dL_law_666 rfl rfl ?_
      refine J_iload_n dL_law_667 rfl rfl ?_
      refine J_iconst (v := 2) dL_law_668 (by decide) ?_
      refine J_iadd (z := 2) dL_law_669 (by decide +kernel) ?_
      refine L_sld (i2 := 2) (v := x2) dL_law_670 (jin (by decide +kernel)) (by decide +kernel) hx2 ?_
      refine J_callV (st := []) dL_law_671 cv_L_82 (c_X11_reach_8 (x1) b1 (x2) b2 H0_0 H0_51) H0_0 rfl rfl (Nat.le_of_ble_eq_true rfl) ⟨(Nat.le_of_ble_eq_true rfl), (Nat.le_of_ble_eq_true rfl)⟩ ⟨(Nat.le_of_ble_eq_true rfl), (Nat.le_of_ble_eq_true rfl)⟩ (fun r h9 hp => ?_)
      obtain ⟨rfl, rfl⟩ := hp
      refine J_nf (nh2 := 135) (ck2 := 135) (sk2 := 415506) (st2 := [.int (-1)]) rfl rfl rfl rfl ?_
      refine J_aload_n dL_law_674 rfl rfl ?_
      refine J_sload_n dL_law_675 rfl rfl ?_
      refine J_iload_n dL_law_676 rfl rfl ?_
      refine J_iconst (v := 1) dL_law_677 (by decide) ?_
      refine J_iadd (z := 1) dL_law_678 (by decide +kernel) ?_
      refine L_sld (i2 := 1) (v := x1) dL_law_679 (jin (by decide +kernel)) (by decide +kernel) hx1 ?_
      refine J_sload_n dL_law_680 rfl rfl ?_
      refine J_iload_n dL_law_681 rfl rfl ?_
      refine J_iconst (v := 2) dL_law_682 (by decide) ?_
      refine J_iadd (z := 2) dL_law_683 (by decide +kernel) ?_
      refine L_sld (i2 := 2) (v := x2) dL_law_684 (jin (by decide +kernel)) (by decide +kernel) hx2 ?_
      refine J_callV (st := [.int (-1)]) dL_law_685 cv_L_85 (c_X12_reach_8 (x1) b1 (x2) b2 H0_98 H0_100 H0_111) H0_98 rfl rfl (Nat.le_of_ble_eq_true rfl) ⟨(Nat.le_of_ble_eq_true rfl), (Nat.le_of_ble_eq_true rfl)⟩ ⟨(Nat.le_of_ble_eq_true rfl), (Nat.le_of_ble_eq_true rfl)⟩ (fun r h9 hp => ?_)
      obtain ⟨rfl, rfl⟩ := hp
      refine J_nf (nh2 := 135) (ck2 := 135) (sk2 := 415506) (st2 := [.int (-1), .int (-1)]) rfl rfl rfl rfl ?_
      refine J_app (L3 := [(98, .inr (12, [.int 0, .int 0, .ref 99, .ref 100, .ref 101, .ref 102, .ref 103, .ref 104, .ref 105, .int 0, .int (-1), .ref 106, .ref 107, .ref 108, .int 0, .int 0, .int 0, .int 0, .int 0, .int 0, .int 0, .ref 109, .int 0, .int 0, .ref 110, .ref 111, .ref 112, .ref 113, .ref 114, .ref 115, .ref 116, .ref 117, .int 1, .int 0, .int 0, .int (-1), .ref 118, .ref 119, .ref 120, .ref 121, .ref 122, .ref 123, .ref 124, .ref 125, .ref 126, .ref 127, .ref 128, .ref 129, .int 0, .ref 130, .ref 131, .ref 132, .ref 133, .ref 134, .int 0, .int 0])), (111, .inl (0, 1260, .inl (upd (fun _ => 0) 0 0)))]) rfl ?_
      refine J_icmp_eq (tgt := 1221) dL_law_688 (by decide) (fun _ => ?_) (fun q => absurd (by decide +kernel) q)
      exact law_tail (Nat.le_of_ble_eq_true rfl) (Nat.le_of_ble_eq_true rfl)
set_option maxHeartbeats 4000000 in
set_option maxRecDepth 100000 in
theorem law_case_17 {l : Launch} {G : jG} {b : Nat} {xs : Nat → Int32} (x1 : Int32) (hx1 : xs 1 = x1) (x2 : Int32) (hx2 : xs 2 = x2) : J l G ML_law room_1 (lE b 6 xs G) lQ (135, H0) 135 415506 693 [some (.retAddr 0), some (.ref 0), some (.ref 98), some (.int 0)] [] := by
  have r1 := i32_rng x1
  have r2 := i32_rng x2
  rcases i_cut x1.toInt 0 with h_0 | h_0
  · have b1 : (-2147483648) ≤ x1.toInt ∧ x1.toInt ≤ (-1) := ⟨by omega, by omega⟩
    have b2 : (-2147483648) ≤ x2.toInt ∧ x2.toInt ≤ 2147483647 := ⟨by omega, by omega⟩
    refine J_hc0 ?_
    refine J_aload_n dL_law_693 rfl rfl ?_
    refine J_sload_n dL_law_694 rfl rfl ?_
    refine J_iload_n dL_law_695 rfl rfl ?_
    refine J_iconst (v := 1) dL_law_696 (by decide) ?_
    refine J_iadd (z := 1) dL_law_697 (by decide +kernel) ?_
    refine L_sld (i2 := 1) (v := x1) dL_law_698 (jin (by decide +kernel)) (by decide +kernel) hx1 ?_
    refine J_sload_n dL_law_699 rfl rfl ?_
    refine J_iload_n dL_law_700 rfl rfl ?_
    refine J_iconst (v := 2) dL_law_701 (by decide) ?_
    refine J_iadd (z := 2) dL_law_702 (by decide +kernel) ?_
    refine L_sld (i2 := 2) (v := x2) dL_law_703 (jin (by decide +kernel)) (by decide +kernel) hx2 ?_
    refine J_callV (st := []) dL_law_704 cv_L_86 (c_X11_read_1 (x1) b1 (x2) b2 H0_0 H0_51) H0_0 rfl rfl (Nat.le_of_ble_eq_true rfl) ⟨(Nat.le_of_ble_eq_true rfl), (Nat.le_of_ble_eq_true rfl)⟩ ⟨(Nat.le_of_ble_eq_true rfl), (Nat.le_of_ble_eq_true rfl)⟩ (fun r h9 hp => ?_)
    obtain ⟨rfl, rfl⟩ := hp
    refine J_nf (nh2 := 135) (ck2 := 135) (sk2 := 415506) (st2 := [.int (-1)]) rfl rfl rfl rfl ?_
    refine J_aload_n dL_law_707 rfl rfl ?_
    refine J_sload_n dL_law_708 rfl rfl ?_
    refine J_iload_n dL_law_709 rfl rfl ?_
    refine J_iconst (v := 1) dL_law_710 (by decide) ?_
    refine J_iadd (z := 1) dL_law_711 (by decide +kernel) ?_
    refine L_sld (i2 := 1) (v := x1) dL_law_712 (jin (by decide +kernel)) (by decide +kernel) hx1 ?_
    refine J_sload_n dL_law_713 rfl rfl ?_
    refine J_iload_n dL_law_714 rfl rfl ?_
    refine J_iconst (v := 2) dL_law_715 (by decide) ?_
    refine J_iadd (z := 2) dL_law_716 (by decide +kernel) ?_
    refine L_sld (i2 := 2) (v := x2) dL_law_717 (jin (by decide +kernel)) (by decide +kernel) hx2 ?_
    refine J_callV (st := [.int (-1)]) dL_law_718 cv_L_89 (c_X12_read_1 (x1) b1 (x2) b2 H0_98 H0_100 H0_111) H0_98 rfl rfl (Nat.le_of_ble_eq_true rfl) ⟨(Nat.le_of_ble_eq_true rfl), (Nat.le_of_ble_eq_true rfl)⟩ ⟨(Nat.le_of_ble_eq_true rfl), (Nat.le_of_ble_eq_true rfl)⟩ (fun r h9 hp => ?_)
    obtain ⟨rfl, rfl⟩ := hp
    refine J_nf (nh2 := 135) (ck2 := 135) (sk2 := 415506) (st2 := [.int (-1), .int (-1)]) rfl rfl rfl rfl ?_
    refine J_app (L3 := [(98, .inr (12, [.int 0, .int 0, .ref 99, .ref 100, .ref 101, .ref 102, .ref 103, .ref 104, .ref 105, .int 0, .int (-1), .ref 106, .ref 107, .ref 108, .int 0, .int 0, .int 0, .int 0, .int 0, .int 0, .int 0, .ref 109, .int 0, .int 0, .ref 110, .ref 111, .ref 112, .ref 113, .ref 114, .ref 115, .ref 116, .ref 117, .int 1, .int 0, .int 0, .int (-1), .ref 118, .ref 119, .ref 120, .ref 121, .ref 122, .ref 123, .ref 124, .ref 125, .ref 126, .ref 127, .ref 128, .ref 129, .int 0, .ref 130, .ref 131, .ref 132, .ref 133, .ref 134, .int 0, .int 0])), (111, .inl (0, 1260, .inl (upd (fun _ => 0) 0 0)))]) rfl ?_
    refine J_icmp_eq (tgt := 1221) dL_law_721 (by decide) (fun _ => ?_) (fun q => absurd (by decide +kernel) q)
    exact law_tail (Nat.le_of_ble_eq_true rfl) (Nat.le_of_ble_eq_true rfl)
  · rcases i_cut x1.toInt 1 with h_1 | h_1
    · rcases i_cut x2.toInt 0 with h_2 | h_2
      · obtain rfl : x1 = 0 := by rw [fa_eq, kc_0]; omega
        have b2 : (-2147483648) ≤ x2.toInt ∧ x2.toInt ≤ (-1) := ⟨by omega, by omega⟩
        refine J_hc0 ?_
        refine J_aload_n dL_law_693 rfl rfl ?_
        refine J_sload_n dL_law_694 rfl rfl ?_
        refine J_iload_n dL_law_695 rfl rfl ?_
        refine J_iconst (v := 1) dL_law_696 (by decide) ?_
        refine J_iadd (z := 1) dL_law_697 (by decide +kernel) ?_
        refine L_sld (i2 := 1) (v := 0) dL_law_698 (jin (by decide +kernel)) (by decide +kernel) hx1 ?_
        refine J_sload_n dL_law_699 rfl rfl ?_
        refine J_iload_n dL_law_700 rfl rfl ?_
        refine J_iconst (v := 2) dL_law_701 (by decide) ?_
        refine J_iadd (z := 2) dL_law_702 (by decide +kernel) ?_
        refine L_sld (i2 := 2) (v := x2) dL_law_703 (jin (by decide +kernel)) (by decide +kernel) hx2 ?_
        refine J_callV (st := []) dL_law_704 cv_L_86 (c_X11_read_2 (x2) b2 H0_0 H0_51) H0_0 rfl rfl (Nat.le_of_ble_eq_true rfl) ⟨(Nat.le_of_ble_eq_true rfl), (Nat.le_of_ble_eq_true rfl)⟩ ⟨(Nat.le_of_ble_eq_true rfl), (Nat.le_of_ble_eq_true rfl)⟩ (fun r h9 hp => ?_)
        obtain ⟨rfl, rfl⟩ := hp
        refine J_nf (nh2 := 135) (ck2 := 135) (sk2 := 415506) (st2 := [.int (-1)]) rfl rfl rfl rfl ?_
        refine J_aload_n dL_law_707 rfl rfl ?_
        refine J_sload_n dL_law_708 rfl rfl ?_
        refine J_iload_n dL_law_709 rfl rfl ?_
        refine J_iconst (v := 1) dL_law_710 (by decide) ?_
        refine J_iadd (z := 1) dL_law_711 (by decide +kernel) ?_
        refine L_sld (i2 := 1) (v := 0) dL_law_712 (jin (by decide +kernel)) (by decide +kernel) hx1 ?_
        refine J_sload_n dL_law_713 rfl rfl ?_
        refine J_iload_n dL_law_714 rfl rfl ?_
        refine J_iconst (v := 2) dL_law_715 (by decide) ?_
        refine J_iadd (z := 2) dL_law_716 (by decide +kernel) ?_
        refine L_sld (i2 := 2) (v := x2) dL_law_717 (jin (by decide +kernel)) (by decide +kernel) hx2 ?_
        refine J_callV (st := [.int (-1)]) dL_law_718 cv_L_89 (c_X12_read_2 (x2) b2 H0_98 H0_100 H0_111) H0_98 rfl rfl (Nat.le_of_ble_eq_true rfl) ⟨(Nat.le_of_ble_eq_true rfl), (Nat.le_of_ble_eq_true rfl)⟩ ⟨(Nat.le_of_ble_eq_true rfl), (Nat.le_of_ble_eq_true rfl)⟩ (fun r h9 hp => ?_)
        obtain ⟨rfl, rfl⟩ := hp
        refine J_nf (nh2 := 135) (ck2 := 135) (sk2 := 415506) (st2 := [.int (-1), .int (-1)]) rfl rfl rfl rfl ?_
        refine J_app (L3 := [(98, .inr (12, [.int 0, .int 0, .ref 99, .ref 100, .ref 101, .ref 102, .ref 103, .ref 104, .ref 105, .int 0, .int (-1), .ref 106, .ref 107, .ref 108, .int 0, .int 0, .int 0, .int 0, .int 0, .int 0, .int 0, .ref 109, .int 0, .int 0, .ref 110, .ref 111, .ref 112, .ref 113, .ref 114, .ref 115, .ref 116, .ref 117, .int 1, .int 0, .int 0, .int (-1), .ref 118, .ref 119, .ref 120, .ref 121, .ref 122, .ref 123, .ref 124, .ref 125, .ref 126, .ref 127, .ref 128, .ref 129, .int 0, .ref 130, .ref 131, .ref 132, .ref 133, .ref 134, .int 0, .int 0])), (111, .inl (0, 1260, .inl (upd (fun _ => 0) 0 0)))]) rfl ?_
        refine J_icmp_eq (tgt := 1221) dL_law_721 (by decide) (fun _ => ?_) (fun q => absurd (by decide +kernel) q)
        exact law_tail (Nat.le_of_ble_eq_true rfl) (Nat.le_of_ble_eq_true rfl)
      · rcases i_cut x2.toInt 1 with h_3 | h_3
        · obtain rfl : x1 = 0 := by rw [fa_eq, kc_0]; omega
          obtain rfl : x2 = 0 := by rw [fa_eq, kc_0]; omega
          refine J_hc0 ?_
          refine J_aload_n dL_law_693 rfl rfl ?_
          refine J_sload_n dL_law_694 rfl rfl ?_
          refine J_iload_n dL_law_695 rfl rfl ?_
          refine J_iconst (v := 1) dL_law_696 (by decide) ?_
          refine J_iadd (z := 1) dL_law_697 (by decide +kernel) ?_
          refine L_sld (i2 := 1) (v := 0) dL_law_698 (jin (by decide +kernel)) (by decide +kernel) hx1 ?_
          refine J_sload_n dL_law_699 rfl rfl ?_
          refine J_iload_n dL_law_700 rfl rfl ?_
          refine J_iconst (v := 2) dL_law_701 (by decide) ?_
          refine J_iadd (z := 2) dL_law_702 (by decide +kernel) ?_
          refine L_sld (i2 := 2) (v := 0) dL_law_703 (jin (by decide +kernel)) (by decide +kernel) hx2 ?_
          refine J_callV (st := []) dL_law_704 cv_L_86 (c_X11_read_3 H0_0 H0_51 H0_52) H0_0 rfl rfl (Nat.le_of_ble_eq_true rfl) ⟨(Nat.le_of_ble_eq_true rfl), (Nat.le_of_ble_eq_true rfl)⟩ ⟨(Nat.le_of_ble_eq_true rfl), (Nat.le_of_ble_eq_true rfl)⟩ (fun r h9 hp => ?_)
          obtain ⟨rfl, rfl⟩ := hp
          refine J_nf (nh2 := 135) (ck2 := 135) (sk2 := 415506) (st2 := [.int 0]) rfl rfl rfl rfl ?_
          refine J_aload_n dL_law_707 rfl rfl ?_
          refine J_sload_n dL_law_708 rfl rfl ?_
          refine J_iload_n dL_law_709 rfl rfl ?_
          refine J_iconst (v := 1) dL_law_710 (by decide) ?_
          refine J_iadd (z := 1) dL_law_711 (by decide +kernel) ?_
          refine L_sld (i2 := 1) (v := 0) dL_law_712 (jin (by decide +kernel)) (by decide +kernel) hx1 ?_
          refine J_sload_n dL_law_713 rfl rfl ?_
          refine J_iload_n dL_law_714 rfl rfl ?_
          refine J_iconst (v := 2) dL_law_715 (by decide) ?_
          refine J_iadd (z := 2) dL_law_716 (by decide +kernel) ?_
          refine L_sld (i2 := 2) (v := 0) dL_law_717 (jin (by decide +kernel)) (by decide +kernel) hx2 ?_
          refine J_callV (st := [.int 0]) dL_law_718 cv_L_89 (c_X12_read_3 H0_98 H0_100 H0_111) H0_98 rfl rfl (Nat.le_of_ble_eq_true rfl) ⟨(Nat.le_of_ble_eq_true rfl), (Nat.le_of_ble_eq_true rfl)⟩ ⟨(Nat.le_of_ble_eq_true rfl), (Nat.le_of_ble_eq_true rfl)⟩ (fun r h9 hp => ?_)
          obtain ⟨rfl, rfl⟩ := hp
          refine J_nf (nh2 := 135) (ck2 := 135) (sk2 := 415506) (st2 := [.int 0, .int 0]) rfl rfl rfl rfl ?_
          refine J_app (L3 := [(98, .inr (12, [.int 0, .int 0, .ref 99, .ref 100, .ref 101, .ref 102, .ref 103, .ref 104, .ref 105, .int 0, .int (-1), .ref 106, .ref 107, .ref 108, .int 0, .int 0, .int 0, .int 0, .int 0, .int 0, .int 0, .ref 109, .int 0, .int 0, .ref 110, .ref 111, .ref 112, .ref 113, .ref 114, .ref 115, .ref 116, .ref 117, .int 1, .int 0, .int 0, .int (-1), .ref 118, .ref 119, .ref 120, .ref 121, .ref 122, .ref 123, .ref 124, .ref 125, .ref 126, .ref 127, .ref 128, .ref 129, .int 0, .ref 130, .ref 131, .ref 132, .ref 133, .ref 134, .int 0, .int 0])), (111, .inl (0, 1260, .inl (upd (fun _ => 0) 0 0)))]) rfl ?_
          refine J_icmp_eq (tgt := 1221) dL_law_721 (by decide) (fun _ => ?_) (fun q => absurd (by decide +kernel) q)
          exact law_tail (Nat.le_of_ble_eq_true rfl) (Nat.le_of_ble_eq_true rfl)
        · rcases i_cut x2.toInt 2 with h_4 | h_4
          · obtain rfl : x1 = 0 := by rw [fa_eq, kc_0]; omega
            obtain rfl : x2 = 1 := by rw [fa_eq, kc_1]; omega
            refine J_hc0 ?_
            refine J_aload_n dL_law_693 rfl rfl ?_
            refine J_sload_n dL_law_694 rfl rfl ?_
            refine J_iload_n dL_law_695 rfl rfl ?_
            refine J_iconst (v := 1) dL_law_696 (by decide) ?_
            refine J_iadd (z := 1) dL_law_697 (by decide +kernel) ?_
            refine L_sld (i2 := 1) (v := 0) dL_law_698 (jin (by decide +kernel)) (by decide +kernel) hx1 ?_
            refine J_sload_n dL_law_699 rfl rfl ?_
            refine J_iload_n dL_law_700 rfl rfl ?_
            refine J_iconst (v := 2) dL_law_701 (by decide) ?_
            refine J_iadd (z := 2) dL_law_702 (by decide +kernel) ?_
            refine L_sld (i2 := 2) (v := 1) dL_law_703 (jin (by decide +kernel)) (by decide +kernel) hx2 ?_
            refine J_callV (st := []) dL_law_704 cv_L_86 (c_X11_read_4 H0_0 H0_51 H0_52) H0_0 rfl rfl (Nat.le_of_ble_eq_true rfl) ⟨(Nat.le_of_ble_eq_true rfl), (Nat.le_of_ble_eq_true rfl)⟩ ⟨(Nat.le_of_ble_eq_true rfl), (Nat.le_of_ble_eq_true rfl)⟩ (fun r h9 hp => ?_)
            obtain ⟨rfl, rfl⟩ := hp
            refine J_nf (nh2 := 135) (ck2 := 135) (sk2 := 415506) (st2 := [.int 0]) rfl rfl rfl rfl ?_
            refine J_aload_n dL_law_707 rfl rfl ?_
            refine J_sload_n dL_law_708 rfl rfl ?_
            refine J_iload_n dL_law_709 rfl rfl ?_
            refine J_iconst (v := 1) dL_law_710 (by decide) ?_
            refine J_iadd (z := 1) dL_law_711 (by decide +kernel) ?_
            refine L_sld (i2 := 1) (v := 0) dL_law_712 (jin (by decide +kernel)) (by decide +kernel) hx1 ?_
            refine J_sload_n dL_law_713 rfl rfl ?_
            refine J_iload_n dL_law_714 rfl rfl ?_
            refine J_iconst (v := 2) dL_law_715 (by decide) ?_
            refine J_iadd (z := 2) dL_law_716 (by decide +kernel) ?_
            refine L_sld (i2 := 2) (v := 1) dL_law_717 (jin (by decide +kernel)) (by decide +kernel) hx2 ?_
            refine J_callV (st := [.int 0]) dL_law_718 cv_L_89 (c_X12_read_4 H0_98 H0_100 H0_111) H0_98 rfl rfl (Nat.le_of_ble_eq_true rfl) ⟨(Nat.le_of_ble_eq_true rfl), (Nat.le_of_ble_eq_true rfl)⟩ ⟨(Nat.le_of_ble_eq_true rfl), (Nat.le_of_ble_eq_true rfl)⟩ (fun r h9 hp => ?_)
            obtain ⟨rfl, rfl⟩ := hp
            refine J_nf (nh2 := 135) (ck2 := 135) (sk2 := 415506) (st2 := [.int 0, .int 0]) rfl rfl rfl rfl ?_
            refine J_app (L3 := [(98, .inr (12, [.int 0, .int 0, .ref 99, .ref 100, .ref 101, .ref 102, .ref 103, .ref 104, .ref 105, .int 0, .int (-1), .ref 106, .ref 107, .ref 108, .int 0, .int 0, .int 0, .int 0, .int 0, .int 0, .int 0, .ref 109, .int 0, .int 0, .ref 110, .ref 111, .ref 112, .ref 113, .ref 114, .ref 115, .ref 116, .ref 117, .int 1, .int 0, .int 0, .int (-1), .ref 118, .ref 119, .ref 120, .ref 121, .ref 122, .ref 123, .ref 124, .ref 125, .ref 126, .ref 127, .ref 128, .ref 129, .int 0, .ref 130, .ref 131, .ref 132, .ref 133, .ref 134, .int 0, .int 0])), (111, .inl (0, 1260, .inl (upd (fun _ => 0) 0 0)))]) rfl ?_
            refine J_icmp_eq (tgt := 1221) dL_law_721 (by decide) (fun _ => ?_) (fun q => absurd (by decide +kernel) q)
            exact law_tail (Nat.le_of_ble_eq_true rfl) (Nat.le_of_ble_eq_true rfl)
          · obtain rfl : x1 = 0 := by rw [fa_eq, kc_0]; omega
            have b2 : 2 ≤ x2.toInt ∧ x2.toInt ≤ 2147483647 := ⟨by omega, by omega⟩
            refine J_hc0 ?_
            refine J_aload_n dL_law_693 rfl rfl ?_
            refine J_sload_n dL_law_694 rfl rfl ?_
            refine J_iload_n dL_law_695 rfl rfl ?_
            refine J_iconst (v := 1) dL_law_696 (by decide) ?_
            refine J_iadd (z := 1) dL_law_697 (by decide +kernel) ?_
            refine L_sld (i2 := 1) (v := 0) dL_law_698 (jin (by decide +kernel)) (by decide +kernel) hx1 ?_
            refine J_sload_n dL_law_699 rfl rfl ?_
            refine J_iload_n dL_law_700 rfl rfl ?_
            refine J_iconst (v := 2) dL_law_701 (by decide) ?_
            refine J_iadd (z := 2) dL_law_702 (by decide +kernel) ?_
            refine L_sld (i2 := 2) (v := x2) dL_law_703 (jin (by decide +kernel)) (by decide +kernel) hx2 ?_
            refine J_callV (st := []) dL_law_704 cv_L_86 (c_X11_read_5 (x2) b2 H0_0 H0_51) H0_0 rfl rfl (Nat.le_of_ble_eq_true rfl) ⟨(Nat.le_of_ble_eq_true rfl), (Nat.le_of_ble_eq_true rfl)⟩ ⟨(Nat.le_of_ble_eq_true rfl), (Nat.le_of_ble_eq_true rfl)⟩ (fun r h9 hp => ?_)
            obtain ⟨rfl, rfl⟩ := hp
            refine J_nf (nh2 := 135) (ck2 := 135) (sk2 := 415506) (st2 := [.int (-1)]) rfl rfl rfl rfl ?_
            refine J_aload_n dL_law_707 rfl rfl ?_
            refine J_sload_n dL_law_708 rfl rfl ?_
            refine J_iload_n dL_law_709 rfl rfl ?_
            refine J_iconst (v := 1) dL_law_710 (by decide) ?_
            refine J_iadd (z := 1) dL_law_711 (by decide +kernel) ?_
            refine L_sld (i2 := 1) (v := 0) dL_law_712 (jin (by decide +kernel)) (by decide +kernel) hx1 ?_
            refine J_sload_n dL_law_713 rfl rfl ?_
            refine J_iload_n dL_law_714 rfl rfl ?_
            refine J_iconst (v := 2) dL_law_715 (by decide) ?_
            refine J_iadd (z := 2) dL_law_716 (by decide +kernel) ?_
            refine L_sld (i2 := 2) (v := x2) dL_law_717 (jin (by decide +kernel)) (by decide +kernel) hx2 ?_
            refine J_callV (st := [.int (-1)]) dL_law_718 cv_L_89 (c_X12_read_5 (x2) b2 H0_98 H0_100 H0_111) H0_98 rfl rfl (Nat.le_of_ble_eq_true rfl) ⟨(Nat.le_of_ble_eq_true rfl), (Nat.le_of_ble_eq_true rfl)⟩ ⟨(Nat.le_of_ble_eq_true rfl), (Nat.le_of_ble_eq_true rfl)⟩ (fun r h9 hp => ?_)
            obtain ⟨rfl, rfl⟩ := hp
            refine J_nf (nh2 := 135) (ck2 := 135) (sk2 := 415506) (st2 := [.int (-1), .int (-1)]) rfl rfl rfl rfl ?_
            refine J_app (L3 := [(98, .inr (12, [.int 0, .int 0, .ref 99, .ref 100, .ref 101, .ref 102, .ref 103, .ref 104, .ref 105, .int 0, .int (-1), .ref 106, .ref 107, .ref 108, .int 0, .int 0, .int 0, .int 0, .int 0, .int 0, .int 0, .ref 109, .int 0, .int 0, .ref 110, .ref 111, .ref 112, .ref 113, .ref 114, .ref 115, .ref 116, .ref 117, .int 1, .int 0, .int 0, .int (-1), .ref 118, .ref 119, .ref 120, .ref 121, .ref 122, .ref 123, .ref 124, .ref 125, .ref 126, .ref 127, .ref 128, .ref 129, .int 0, .ref 130, .ref 131, .ref 132, .ref 133, .ref 134, .int 0, .int 0])), (111, .inl (0, 1260, .inl (upd (fun _ => 0) 0 0)))]) rfl ?_
            refine J_icmp_eq (tgt := 1221) dL_law_721 (by decide) (fun _ => ?_) (fun q => absurd (by decide +kernel) q)
            exact law_tail (Nat.le_of_ble_eq_true rfl) (Nat.le_of_ble_eq_true rfl)
    · have b1 : 1 ≤ x1.toInt ∧ x1.toInt ≤ 2147483647 := ⟨by omega, by omega⟩
      have b2 : (-2147483648) ≤ x2.toInt ∧ x2.toInt ≤ 2147483647 := ⟨by omega, by omega⟩
      refine J_hc0 ?_
      refine J_aload_n dL_law_693 rfl rfl ?_
      refine J_sload_n dL_law_694 rfl rfl ?_
      refine J_iload_n dL_law_695 rfl rfl ?_
      refine J_iconst (v := 1) dL_law_696 (by decide) ?_
      refine J_iadd (z := 1) dL_law_697 (by decide +kernel) ?_
      refine L_sld (i2 := 1) (v := x1) dL_law_698 (jin (by decide +kernel)) (by decide +kernel) hx1 ?_
      refine J_sload_n dL_law_699 rfl rfl ?_
      refine J_iload_n dL_law_700 rfl rfl ?_
      refine J_iconst (v := 2) dL_law_701 (by decide) ?_
      refine J_iadd (z := 2) dL_law_702 (by decide +kernel) ?_
      refine L_sld (i2 := 2) (v := x2) dL_law_703 (jin (by decide +kernel)) (by decide +kernel) hx2 ?_
      refine J_callV (st := []) dL_law_704 cv_L_86 (c_X11_read_6 (x1) b1 (x2) b2 H0_0 H0_51) H0_0 rfl rfl (Nat.le_of_ble_eq_true rfl) ⟨(Nat.le_of_ble_eq_true rfl), (Nat.le_of_ble_eq_true rfl)⟩ ⟨(Nat.le_of_ble_eq_true rfl), (Nat.le_of_ble_eq_true rfl)⟩ (fun r h9 hp => ?_)
      obtain ⟨rfl, rfl⟩ := hp
      refine J_nf (nh2 := 135) (ck2 := 135) (sk2 := 415506) (st2 := [.int (-1)]) rfl rfl rfl rfl ?_
      refine J_aload_n dL_law_707 rfl rfl ?_
      refine J_sload_n dL_law_708 rfl rfl ?_
      refine J_iload_n dL_law_709 rfl rfl ?_
      refine J_iconst (v := 1) dL_law_710 (by decide) ?_
      refine J_iadd (z := 1) dL_law_711 (by decide +kernel) ?_
      refine L_sld (i2 := 1) (v := x1) dL_law_712 (jin (by decide +kernel)) (by decide +kernel) hx1 ?_
      refine J_sload_n dL_law_713 rfl rfl ?_
      refine J_iload_n dL_law_714 rfl rfl ?_
      refine J_iconst (v := 2) dL_law_715 (by decide) ?_
      refine J_iadd (z := 2) dL_law_716 (by decide +kernel) ?_
      refine L_sld (i2 := 2) (v := x2) dL_law_717 (jin (by decide +kernel)) (by decide +kernel) hx2 ?_
      refine J_callV (st := [.int (-1)]) dL_law_718 cv_L_89 (c_X12_read_6 (x1) b1 (x2) b2 H0_98 H0_100 H0_111) H0_98 rfl rfl (Nat.le_of_ble_eq_true rfl) ⟨(Nat.le_of_ble_eq_true rfl), (Nat.le_of_ble_eq_true rfl)⟩ ⟨(Nat.le_of_ble_eq_true rfl), (Nat.le_of_ble_eq_true rfl)⟩ (fun r h9 hp => ?_)
      obtain ⟨rfl, rfl⟩ := hp
      refine J_nf (nh2 := 135) (ck2 := 135) (sk2 := 415506) (st2 := [.int (-1), .int (-1)]) rfl rfl rfl rfl ?_
      refine J_app (L3 := [(98, .inr (12, [.int 0, .int 0, .ref 99, .ref 100, .ref 101, .ref 102, .ref 103, .ref 104, .ref 105, .int 0, .int (-1), .ref 106, .ref 107, .ref 108, .int 0, .int 0, .int 0, .int 0, .int 0, .int 0, .int 0, .ref 109, .int 0, .int 0, .ref 110, .ref 111, .ref 112, .ref 113, .ref 114, .ref 115, .ref 116, .ref 117, .int 1, .int 0, .int 0, .int (-1), .ref 118, .ref 119, .ref 120, .ref 121, .ref 122, .ref 123, .ref 124, .ref 125, .ref 126, .ref 127, .ref 128, .ref 129, .int 0, .ref 130, .ref 131, .ref 132, .ref 133, .ref 134, .int 0, .int 0])), (111, .inl (0, 1260, .inl (upd (fun _ => 0) 0 0)))]) rfl ?_
      refine J_icmp_eq (tgt := 1221) dL_law_721 (by decide) (fun _ => ?_) (fun q => absurd (by decide +kernel) q)
      exact law_tail (Nat.le_of_ble_eq_true rfl) (Nat.le_of_ble_eq_true rfl)
set_option maxHeartbeats 4000000 in
set_option maxRecDepth 100000 in
theorem law_case_18 {l : Launch} {G : jG} {b : Nat} {xs : Nat → Int32} (x1 : Int32) (hx1 : xs 1 = x1) (x2 : Int32) (hx2 : xs 2 = x2) : J l G ML_law room_1 (lE b 6 xs G) lQ (135, H0) 135 415506 726 [some (.retAddr 0), some (.ref 0), some (.ref 98), some (.int 0)] [] := by
  have r1 := i32_rng x1
  have r2 := i32_rng x2
  rcases i_cut x1.toInt 0 with h_0 | h_0
  · have b1 : (-2147483648) ≤ x1.toInt ∧ x1.toInt ≤ (-1) := ⟨by omega, by omega⟩
    have b2 : (-2147483648) ≤ x2.toInt ∧ x2.toInt ≤ 2147483647 := ⟨by omega, by omega⟩
    refine J_hc0 ?_
    refine J_aload_n dL_law_726 rfl rfl ?_
    refine J_sload_n dL_law_727 rfl rfl ?_
    refine J_iload_n dL_law_728 rfl rfl ?_
    refine J_iconst (v := 1) dL_law_729 (by decide) ?_
    refine J_iadd (z := 1) dL_law_730 (by decide +kernel) ?_
    refine L_sld (i2 := 1) (v := x1) dL_law_731 (jin (by decide +kernel)) (by decide +kernel) hx1 ?_
    refine J_sload_n dL_law_732 rfl rfl ?_
    refine J_iload_n dL_law_733 rfl rfl ?_
    refine J_iconst (v := 2) dL_law_734 (by decide) ?_
    refine J_iadd (z := 2) dL_law_735 (by decide +kernel) ?_
    refine L_sld (i2 := 2) (v := x2) dL_law_736 (jin (by decide +kernel)) (by decide +kernel) hx2 ?_
    refine J_callV (st := []) dL_law_737 cv_L_90 (c_X11_parted_1 (x1) b1 (x2) b2 H0_0 H0_51) H0_0 rfl rfl (Nat.le_of_ble_eq_true rfl) ⟨(Nat.le_of_ble_eq_true rfl), (Nat.le_of_ble_eq_true rfl)⟩ ⟨(Nat.le_of_ble_eq_true rfl), (Nat.le_of_ble_eq_true rfl)⟩ (fun r h9 hp => ?_)
    obtain ⟨rfl, rfl⟩ := hp
    refine J_nf (nh2 := 135) (ck2 := 135) (sk2 := 415506) (st2 := [.int (-1)]) rfl rfl rfl rfl ?_
    refine J_aload_n dL_law_740 rfl rfl ?_
    refine J_sload_n dL_law_741 rfl rfl ?_
    refine J_iload_n dL_law_742 rfl rfl ?_
    refine J_iconst (v := 1) dL_law_743 (by decide) ?_
    refine J_iadd (z := 1) dL_law_744 (by decide +kernel) ?_
    refine L_sld (i2 := 1) (v := x1) dL_law_745 (jin (by decide +kernel)) (by decide +kernel) hx1 ?_
    refine J_sload_n dL_law_746 rfl rfl ?_
    refine J_iload_n dL_law_747 rfl rfl ?_
    refine J_iconst (v := 2) dL_law_748 (by decide) ?_
    refine J_iadd (z := 2) dL_law_749 (by decide +kernel) ?_
    refine L_sld (i2 := 2) (v := x2) dL_law_750 (jin (by decide +kernel)) (by decide +kernel) hx2 ?_
    refine J_callV (st := [.int (-1)]) dL_law_751 cv_L_93 (c_X12_parted_1 (x1) b1 (x2) b2 H0_98 H0_100 H0_111) H0_98 rfl rfl (Nat.le_of_ble_eq_true rfl) ⟨(Nat.le_of_ble_eq_true rfl), (Nat.le_of_ble_eq_true rfl)⟩ ⟨(Nat.le_of_ble_eq_true rfl), (Nat.le_of_ble_eq_true rfl)⟩ (fun r h9 hp => ?_)
    obtain ⟨rfl, rfl⟩ := hp
    refine J_nf (nh2 := 135) (ck2 := 135) (sk2 := 415506) (st2 := [.int (-1), .int (-1)]) rfl rfl rfl rfl ?_
    refine J_app (L3 := [(98, .inr (12, [.int 0, .int 0, .ref 99, .ref 100, .ref 101, .ref 102, .ref 103, .ref 104, .ref 105, .int 0, .int (-1), .ref 106, .ref 107, .ref 108, .int 0, .int 0, .int 0, .int 0, .int 0, .int 0, .int 0, .ref 109, .int 0, .int 0, .ref 110, .ref 111, .ref 112, .ref 113, .ref 114, .ref 115, .ref 116, .ref 117, .int 1, .int 0, .int 0, .int (-1), .ref 118, .ref 119, .ref 120, .ref 121, .ref 122, .ref 123, .ref 124, .ref 125, .ref 126, .ref 127, .ref 128, .ref 129, .int 0, .ref 130, .ref 131, .ref 132, .ref 133, .ref 134, .int 0, .int 0])), (111, .inl (0, 1260, .inl (upd (fun _ => 0) 0 0)))]) rfl ?_
    refine J_icmp_eq (tgt := 1221) dL_law_754 (by decide) (fun _ => ?_) (fun q => absurd (by decide +kernel) q)
    exact law_tail (Nat.le_of_ble_eq_true rfl) (Nat.le_of_ble_eq_true rfl)
  · rcases i_cut x1.toInt 1 with h_1 | h_1
    · rcases i_cut x2.toInt 0 with h_2 | h_2
      · obtain rfl : x1 = 0 := by rw [fa_eq, kc_0]; omega
        have b2 : (-2147483648) ≤ x2.toInt ∧ x2.toInt ≤ (-1) := ⟨by omega, by omega⟩
        refine J_hc0 ?_
        refine J_aload_n dL_law_726 rfl rfl ?_
        refine J_sload_n dL_law_727 rfl rfl ?_
        refine J_iload_n dL_law_728 rfl rfl ?_
        refine J_iconst (v := 1) dL_law_729 (by decide) ?_
        refine J_iadd (z := 1) dL_law_730 (by decide +kernel) ?_
        refine L_sld (i2 := 1) (v := 0) dL_law_731 (jin (by decide +kernel)) (by decide +kernel) hx1 ?_
        refine J_sload_n dL_law_732 rfl rfl ?_
        refine J_iload_n dL_law_733 rfl rfl ?_
        refine J_iconst (v := 2) dL_law_734 (by decide) ?_
        refine J_iadd (z := 2) dL_law_735 (by decide +kernel) ?_
        refine L_sld (i2 := 2) (v := x2) dL_law_736 (jin (by decide +kernel)) (by decide +kernel) hx2 ?_
        refine J_callV (st := []) dL_law_737 cv_L_90 (c_X11_parted_2 (x2) b2 H0_0 H0_51) H0_0 rfl rfl (Nat.le_of_ble_eq_true rfl) ⟨(Nat.le_of_ble_eq_true rfl), (Nat.le_of_ble_eq_true rfl)⟩ ⟨(Nat.le_of_ble_eq_true rfl), (Nat.le_of_ble_eq_true rfl)⟩ (fun r h9 hp => ?_)
        obtain ⟨rfl, rfl⟩ := hp
        refine J_nf (nh2 := 135) (ck2 := 135) (sk2 := 415506) (st2 := [.int (-1)]) rfl rfl rfl rfl ?_
        refine J_aload_n dL_law_740 rfl rfl ?_
        refine J_sload_n dL_law_741 rfl rfl ?_
        refine J_iload_n dL_law_742 rfl rfl ?_
        refine J_iconst (v := 1) dL_law_743 (by decide) ?_
        refine J_iadd (z := 1) dL_law_744 (by decide +kernel) ?_
        refine L_sld (i2 := 1) (v := 0) dL_law_745 (jin (by decide +kernel)) (by decide +kernel) hx1 ?_
        refine J_sload_n dL_law_746 rfl rfl ?_
        refine J_iload_n dL_law_747 rfl rfl ?_
        refine J_iconst (v := 2) dL_law_748 (by decide) ?_
        refine J_iadd (z := 2) dL_law_749 (by decide +kernel) ?_
        refine L_sld (i2 := 2) (v := x2) dL_law_750 (jin (by decide +kernel)) (by decide +kernel) hx2 ?_
        refine J_callV (st := [.int (-1)]) dL_law_751 cv_L_93 (c_X12_parted_2 (x2) b2 H0_98 H0_100 H0_111) H0_98 rfl rfl (Nat.le_of_ble_eq_true rfl) ⟨(Nat.le_of_ble_eq_true rfl), (Nat.le_of_ble_eq_true rfl)⟩ ⟨(Nat.le_of_ble_eq_true rfl), (Nat.le_of_ble_eq_true rfl)⟩ (fun r h9 hp => ?_)
        obtain ⟨rfl, rfl⟩ := hp
        refine J_nf (nh2 := 135) (ck2 := 135) (sk2 := 415506) (st2 := [.int (-1), .int (-1)]) rfl rfl rfl rfl ?_
        refine J_app (L3 := [(98, .inr (12, [.int 0, .int 0, .ref 99, .ref 100, .ref 101, .ref 102, .ref 103, .ref 104, .ref 105, .int 0, .int (-1), .ref 106, .ref 107, .ref 108, .int 0, .int 0, .int 0, .int 0, .int 0, .int 0, .int 0, .ref 109, .int 0, .int 0, .ref 110, .ref 111, .ref 112, .ref 113, .ref 114, .ref 115, .ref 116, .ref 117, .int 1, .int 0, .int 0, .int (-1), .ref 118, .ref 119, .ref 120, .ref 121, .ref 122, .ref 123, .ref 124, .ref 125, .ref 126, .ref 127, .ref 128, .ref 129, .int 0, .ref 130, .ref 131, .ref 132, .ref 133, .ref 134, .int 0, .int 0])), (111, .inl (0, 1260, .inl (upd (fun _ => 0) 0 0)))]) rfl ?_
        refine J_icmp_eq (tgt := 1221) dL_law_754 (by decide) (fun _ => ?_) (fun q => absurd (by decide +kernel) q)
        exact law_tail (Nat.le_of_ble_eq_true rfl) (Nat.le_of_ble_eq_true rfl)
      · rcases i_cut x2.toInt 1 with h_3 | h_3
        · obtain rfl : x1 = 0 := by rw [fa_eq, kc_0]; omega
          obtain rfl : x2 = 0 := by rw [fa_eq, kc_0]; omega
          refine J_hc0 ?_
          refine J_aload_n dL_law_726 rfl rfl ?_
          refine J_sload_n dL_law_727 rfl rfl ?_
          refine J_iload_n dL_law_728 rfl rfl ?_
          refine J_iconst (v := 1) dL_law_729 (by decide) ?_
          refine J_iadd (z := 1) dL_law_730 (by decide +kernel) ?_
          refine L_sld (i2 := 1) (v := 0) dL_law_731 (jin (by decide +kernel)) (by decide +kernel) hx1 ?_
          refine J_sload_n dL_law_732 rfl rfl ?_
          refine J_iload_n dL_law_733 rfl rfl ?_
          refine J_iconst (v := 2) dL_law_734 (by decide) ?_
          refine J_iadd (z := 2) dL_law_735 (by decide +kernel) ?_
          refine L_sld (i2 := 2) (v := 0) dL_law_736 (jin (by decide +kernel)) (by decide +kernel) hx2 ?_
          refine J_callV (st := []) dL_law_737 cv_L_90 (c_X11_parted_3 H0_0 H0_51) H0_0 rfl rfl (Nat.le_of_ble_eq_true rfl) ⟨(Nat.le_of_ble_eq_true rfl), (Nat.le_of_ble_eq_true rfl)⟩ ⟨(Nat.le_of_ble_eq_true rfl), (Nat.le_of_ble_eq_true rfl)⟩ (fun r h9 hp => ?_)
          obtain ⟨rfl, rfl⟩ := hp
          refine J_nf (nh2 := 135) (ck2 := 135) (sk2 := 415506) (st2 := [.int (-1)]) rfl rfl rfl rfl ?_
          refine J_aload_n dL_law_740 rfl rfl ?_
          refine J_sload_n dL_law_741 rfl rfl ?_
          refine J_iload_n dL_law_742 rfl rfl ?_
          refine J_iconst (v := 1) dL_law_743 (by decide) ?_
          refine J_iadd (z := 1) dL_law_744 (by decide +kernel) ?_
          refine L_sld (i2 := 1) (v := 0) dL_law_745 (jin (by decide +kernel)) (by decide +kernel) hx1 ?_
          refine J_sload_n dL_law_746 rfl rfl ?_
          refine J_iload_n dL_law_747 rfl rfl ?_
          refine J_iconst (v := 2) dL_law_748 (by decide) ?_
          refine J_iadd (z := 2) dL_law_749 (by decide +kernel) ?_
          refine L_sld (i2 := 2) (v := 0) dL_law_750 (jin (by decide +kernel)) (by decide +kernel) hx2 ?_
          refine J_callV (st := [.int (-1)]) dL_law_751 cv_L_93 (c_X12_parted_3 H0_98 H0_100 H0_111) H0_98 rfl rfl (Nat.le_of_ble_eq_true rfl) ⟨(Nat.le_of_ble_eq_true rfl), (Nat.le_of_ble_eq_true rfl)⟩ ⟨(Nat.le_of_ble_eq_true rfl), (Nat.le_of_ble_eq_true rfl)⟩ (fun r h9 hp => ?_)
          obtain ⟨rfl, rfl⟩ := hp
          refine J_nf (nh2 := 135) (ck2 := 135) (sk2 := 415506) (st2 := [.int (-1), .int (-1)]) rfl rfl rfl rfl ?_
          refine J_app (L3 := [(98, .inr (12, [.int 0, .int 0, .ref 99, .ref 100, .ref 101, .ref 102, .ref 103, .ref 104, .ref 105, .int 0, .int (-1), .ref 106, .ref 107, .ref 108, .int 0, .int 0, .int 0, .int 0, .int 0, .int 0, .int 0, .ref 109, .int 0, .int 0, .ref 110, .ref 111, .ref 112, .ref 113, .ref 114, .ref 115, .ref 116, .ref 117, .int 1, .int 0, .int 0, .int (-1), .ref 118, .ref 119, .ref 120, .ref 121, .ref 122, .ref 123, .ref 124, .ref 125, .ref 126, .ref 127, .ref 128, .ref 129, .int 0, .ref 130, .ref 131, .ref 132, .ref 133, .ref 134, .int 0, .int 0])), (111, .inl (0, 1260, .inl (upd (fun _ => 0) 0 0)))]) rfl ?_
          refine J_icmp_eq (tgt := 1221) dL_law_754 (by decide) (fun _ => ?_) (fun q => absurd (by decide +kernel) q)
          exact law_tail (Nat.le_of_ble_eq_true rfl) (Nat.le_of_ble_eq_true rfl)
        · obtain rfl : x1 = 0 := by rw [fa_eq, kc_0]; omega
          have b2 : 1 ≤ x2.toInt ∧ x2.toInt ≤ 2147483647 := ⟨by omega, by omega⟩
          refine J_hc0 ?_
          refine J_aload_n dL_law_726 rfl rfl ?_
          refine J_sload_n dL_law_727 rfl rfl ?_
          refine J_iload_n dL_law_728 rfl rfl ?_
          refine J_iconst (v := 1) dL_law_729 (by decide) ?_
          refine J_iadd (z := 1) dL_law_730 (by decide +kernel) ?_
          refine L_sld (i2 := 1) (v := 0) dL_law_731 (jin (by decide +kernel)) (by decide +kernel) hx1 ?_
          refine J_sload_n dL_law_732 rfl rfl ?_
          refine J_iload_n dL_law_733 rfl rfl ?_
          refine J_iconst (v := 2) dL_law_734 (by decide) ?_
          refine J_iadd (z := 2) dL_law_735 (by decide +kernel) ?_
          refine L_sld (i2 := 2) (v := x2) dL_law_736 (jin (by decide +kernel)) (by decide +kernel) hx2 ?_
          refine J_callV (st := []) dL_law_737 cv_L_90 (c_X11_parted_4 (x2) b2 H0_0 H0_51) H0_0 rfl rfl (Nat.le_of_ble_eq_true rfl) ⟨(Nat.le_of_ble_eq_true rfl), (Nat.le_of_ble_eq_true rfl)⟩ ⟨(Nat.le_of_ble_eq_true rfl), (Nat.le_of_ble_eq_true rfl)⟩ (fun r h9 hp => ?_)
          obtain ⟨rfl, rfl⟩ := hp
          refine J_nf (nh2 := 135) (ck2 := 135) (sk2 := 415506) (st2 := [.int (-1)]) rfl rfl rfl rfl ?_
          refine J_aload_n dL_law_740 rfl rfl ?_
          refine J_sload_n dL_law_741 rfl rfl ?_
          refine J_iload_n dL_law_742 rfl rfl ?_
          refine J_iconst (v := 1) dL_law_743 (by decide) ?_
          refine J_iadd (z := 1) dL_law_744 (by decide +kernel) ?_
          refine L_sld (i2 := 1) (v := 0) dL_law_745 (jin (by decide +kernel)) (by decide +kernel) hx1 ?_
          refine J_sload_n dL_law_746 rfl rfl ?_
          refine J_iload_n dL_law_747 rfl rfl ?_
          refine J_iconst (v := 2) dL_law_748 (by decide) ?_
          refine J_iadd (z := 2) dL_law_749 (by decide +kernel) ?_
          refine L_sld (i2 := 2) (v := x2) dL_law_750 (jin (by decide +kernel)) (by decide +kernel) hx2 ?_
          refine J_callV (st := [.int (-1)]) dL_law_751 cv_L_93 (c_X12_parted_4 (x2) b2 H0_98 H0_100 H0_111) H0_98 rfl rfl (Nat.le_of_ble_eq_true rfl) ⟨(Nat.le_of_ble_eq_true rfl), (Nat.le_of_ble_eq_true rfl)⟩ ⟨(Nat.le_of_ble_eq_true rfl), (Nat.le_of_ble_eq_true rfl)⟩ (fun r h9 hp => ?_)
          obtain ⟨rfl, rfl⟩ := hp
          refine J_nf (nh2 := 135) (ck2 := 135) (sk2 := 415506) (st2 := [.int (-1), .int (-1)]) rfl rfl rfl rfl ?_
          refine J_app (L3 := [(98, .inr (12, [.int 0, .int 0, .ref 99, .ref 100, .ref 101, .ref 102, .ref 103, .ref 104, .ref 105, .int 0, .int (-1), .ref 106, .ref 107, .ref 108, .int 0, .int 0, .int 0, .int 0, .int 0, .int 0, .int 0, .ref 109, .int 0, .int 0, .ref 110, .ref 111, .ref 112, .ref 113, .ref 114, .ref 115, .ref 116, .ref 117, .int 1, .int 0, .int 0, .int (-1), .ref 118, .ref 119, .ref 120, .ref 121, .ref 122, .ref 123, .ref 124, .ref 125, .ref 126, .ref 127, .ref 128, .ref 129, .int 0, .ref 130, .ref 131, .ref 132, .ref 133, .ref 134, .int 0, .int 0])), (111, .inl (0, 1260, .inl (upd (fun _ => 0) 0 0)))]) rfl ?_
          refine J_icmp_eq (tgt := 1221) dL_law_754 (by decide) (fun _ => ?_) (fun q => absurd (by decide +kernel) q)
          exact law_tail (Nat.le_of_ble_eq_true rfl) (Nat.le_of_ble_eq_true rfl)
    · have b1 : 1 ≤ x1.toInt ∧ x1.toInt ≤ 2147483647 := ⟨by omega, by omega⟩
      have b2 : (-2147483648) ≤ x2.toInt ∧ x2.toInt ≤ 2147483647 := ⟨by omega, by omega⟩
      refine J_hc0 ?_
      refine J_aload_n dL_law_726 rfl rfl ?_
      refine J_sload_n dL_law_727 rfl rfl ?_
      refine J_iload_n dL_law_728 rfl rfl ?_
      refine J_iconst (v := 1) dL_law_729 (by decide) ?_
      refine J_iadd (z := 1) dL_law_730 (by decide +kernel) ?_
      refine L_sld (i2 := 1) (v := x1) dL_law_731 (jin (by decide +kernel)) (by decide +kernel) hx1 ?_
      refine J_sload_n dL_law_732 rfl rfl ?_
      refine J_iload_n dL_law_733 rfl rfl ?_
      refine J_iconst (v := 2) dL_law_734 (by decide) ?_
      refine J_iadd (z := 2) dL_law_735 (by decide +kernel) ?_
      refine L_sld (i2 := 2) (v := x2) dL_law_736 (jin (by decide +kernel)) (by decide +kernel) hx2 ?_
      refine J_callV (st := []) dL_law_737 cv_L_90 (c_X11_parted_5 (x1) b1 (x2) b2 H0_0 H0_51) H0_0 rfl rfl (Nat.le_of_ble_eq_true rfl) ⟨(Nat.le_of_ble_eq_true rfl), (Nat.le_of_ble_eq_true rfl)⟩ ⟨(Nat.le_of_ble_eq_true rfl), (Nat.le_of_ble_eq_true rfl)⟩ (fun r h9 hp => ?_)
      obtain ⟨rfl, rfl⟩ := hp
      refine J_nf (nh2 := 135) (ck2 := 135) (sk2 := 415506) (st2 := [.int (-1)]) rfl rfl rfl rfl ?_
      refine J_aload_n dL_law_740 rfl rfl ?_
      refine J_sload_n dL_law_741 rfl rfl ?_
      refine J_iload_n dL_law_742 rfl rfl ?_
      refine J_iconst (v := 1) dL_law_743 (by decide) ?_
      refine J_iadd (z := 1) dL_law_744 (by decide +kernel) ?_
      refine L_sld (i2 := 1) (v := x1) dL_law_745 (jin (by decide +kernel)) (by decide +kernel) hx1 ?_
      refine J_sload_n dL_law_746 rfl rfl ?_
      refine J_iload_n dL_law_747 rfl rfl ?_
      refine J_iconst (v := 2) dL_law_748 (by decide) ?_
      refine J_iadd (z := 2) dL_law_749 (by decide +kernel) ?_
      refine L_sld (i2 := 2) (v := x2) dL_law_750 (jin (by decide +kernel)) (by decide +kernel) hx2 ?_
      refine J_callV (st := [.int (-1)]) dL_law_751 cv_L_93 (c_X12_parted_5 (x1) b1 (x2) b2 H0_98 H0_100 H0_111) H0_98 rfl rfl (Nat.le_of_ble_eq_true rfl) ⟨(Nat.le_of_ble_eq_true rfl), (Nat.le_of_ble_eq_true rfl)⟩ ⟨(Nat.le_of_ble_eq_true rfl), (Nat.le_of_ble_eq_true rfl)⟩ (fun r h9 hp => ?_)
      obtain ⟨rfl, rfl⟩ := hp
      refine J_nf (nh2 := 135) (ck2 := 135) (sk2 := 415506) (st2 := [.int (-1), .int (-1)]) rfl rfl rfl rfl ?_
      refine J_app (L3 := [(98, .inr (12, [.int 0, .int 0, .ref 99, .ref 100, .ref 101, .ref 102, .ref 103, .ref 104, .ref 105, .int 0, .int (-1), .ref 106, .ref 107, .ref 108, .int 0, .int 0, .int 0, .int 0, .int 0, .int 0, .int 0, .ref 109, .int 0, .int 0, .ref 110, .ref 111, .ref 112, .ref 113, .ref 114, .ref 115, .ref 116, .ref 117, .int 1, .int 0, .int 0, .int (-1), .ref 118, .ref 119, .ref 120, .ref 121, .ref 122, .ref 123, .ref 124, .ref 125, .ref 126, .ref 127, .ref 128, .ref 129, .int 0, .ref 130, .ref 131, .ref 132, .ref 133, .ref 134, .int 0, .int 0])), (111, .inl (0, 1260, .inl (upd (fun _ => 0) 0 0)))]) rfl ?_
      refine J_icmp_eq (tgt := 1221) dL_law_754 (by decide) (fun _ => ?_) (fun q => absurd (by decide +kernel) q)
      exact law_tail (Nat.le_of_ble_eq_true rfl) (Nat.le_of_ble_eq_true rfl)
set_option maxHeartbeats 4000000 in
set_option maxRecDepth 100000 in
theorem law_case_19 {l : Launch} {G : jG} {b : Nat} {xs : Nat → Int32} (x1 : Int32) (hx1 : xs 1 = x1) (x2 : Int32) (hx2 : xs 2 = x2) (x3 : Int32) (hx3 : xs 3 = x3) : J l G ML_law room_1 (lE b 6 xs G) lQ (135, H0) 135 415506 759 [some (.retAddr 0), some (.ref 0), some (.ref 98), some (.int 0)] [] := by
  have r1 := i32_rng x1
  have r2 := i32_rng x2
  have r3 := i32_rng x3
  rcases i_cut x1.toInt 0 with h_0 | h_0
  · have b1 : (-2147483648) ≤ x1.toInt ∧ x1.toInt ≤ (-1) := ⟨by omega, by omega⟩
    have b2 : (-2147483648) ≤ x2.toInt ∧ x2.toInt ≤ 2147483647 := ⟨by omega, by omega⟩
    have b3 : (-2147483648) ≤ x3.toInt ∧ x3.toInt ≤ 2147483647 := ⟨by omega, by omega⟩
    refine J_hc0 ?_
    refine J_aload_n dL_law_759 rfl rfl ?_
    refine J_sload_n dL_law_760 rfl rfl ?_
    refine J_iload_n dL_law_761 rfl rfl ?_
    refine J_iconst (v := 1) dL_law_762 (by decide) ?_
    refine J_iadd (z := 1) dL_law_763 (by decide +kernel) ?_
    refine L_sld (i2 := 1) (v := x1) dL_law_764 (jin (by decide +kernel)) (by decide +kernel) hx1 ?_
    refine J_sload_n dL_law_765 rfl rfl ?_
    refine J_iload_n dL_law_766 rfl rfl ?_
    refine J_iconst (v := 2) dL_law_767 (by decide) ?_
    refine J_iadd (z := 2) dL_law_768 (by decide +kernel) ?_
    refine L_sld (i2 := 2) (v := x2) dL_law_769 (jin (by decide +kernel)) (by decide +kernel) hx2 ?_
    refine J_sload_n dL_law_770 rfl rfl ?_
    refine J_iload_n dL_law_771 rfl rfl ?_
    refine J_iconst (v := 3) dL_law_772 (by decide) ?_
    refine J_iadd (z := 3) dL_law_773 (by decide +kernel) ?_
    refine L_sld (i2 := 3) (v := x3) dL_law_774 (jin (by decide +kernel)) (by decide +kernel) hx3 ?_
    refine J_callV (st := []) dL_law_775 cv_L_94 (c_X11_rows_1 (x1) b1 (x2) b2 (x3) b3 H0_0 H0_51) H0_0 rfl rfl (Nat.le_of_ble_eq_true rfl) ⟨(Nat.le_of_ble_eq_true rfl), (Nat.le_of_ble_eq_true rfl)⟩ ⟨(Nat.le_of_ble_eq_true rfl), (Nat.le_of_ble_eq_true rfl)⟩ (fun r h9 hp => ?_)
    obtain ⟨rfl, rfl⟩ := hp
    refine J_nf (nh2 := 135) (ck2 := 135) (sk2 := 415506) (st2 := [.long (-1)]) rfl rfl rfl rfl ?_
    refine J_aload_n dL_law_778 rfl rfl ?_
    refine J_sload_n dL_law_779 rfl rfl ?_
    refine J_iload_n dL_law_780 rfl rfl ?_
    refine J_iconst (v := 1) dL_law_781 (by decide) ?_
    refine J_iadd (z := 1) dL_law_782 (by decide +kernel) ?_
    refine L_sld (i2 := 1) (v := x1) dL_law_783 (jin (by decide +kernel)) (by decide +kernel) hx1 ?_
    refine J_sload_n dL_law_784 rfl rfl ?_
    refine J_iload_n dL_law_785 rfl rfl ?_
    refine J_iconst (v := 2) dL_law_786 (by decide) ?_
    refine J_iadd (z := 2) dL_law_787 (by decide +kernel) ?_
    refine L_sld (i2 := 2) (v := x2) dL_law_788 (jin (by decide +kernel)) (by decide +kernel) hx2 ?_
    refine J_sload_n dL_law_789 rfl rfl ?_
    refine J_iload_n dL_law_790 rfl rfl ?_
    refine J_iconst (v := 3) dL_law_791 (by decide) ?_
    refine J_iadd (z := 3) dL_law_792 (by decide +kernel) ?_
    refine L_sld (i2 := 3) (v := x3) dL_law_793 (jin (by decide +kernel)) (by decide +kernel) hx3 ?_
    refine J_callV (st := [.long (-1)]) dL_law_794 cv_L_98 (c_X12_rows_1 (x1) b1 (x2) b2 (x3) b3 H0_98 H0_100 H0_111) H0_98 rfl rfl (Nat.le_of_ble_eq_true rfl) ⟨(Nat.le_of_ble_eq_true rfl), (Nat.le_of_ble_eq_true rfl)⟩ ⟨(Nat.le_of_ble_eq_true rfl), (Nat.le_of_ble_eq_true rfl)⟩ (fun r h9 hp => ?_)
    obtain ⟨rfl, rfl⟩ := hp
    refine J_nf (nh2 := 135) (ck2 := 135) (sk2 := 415506) (st2 := [.long (-1), .long (-1)]) rfl rfl rfl rfl ?_
    refine J_app (L3 := [(98, .inr (12, [.int 0, .int 0, .ref 99, .ref 100, .ref 101, .ref 102, .ref 103, .ref 104, .ref 105, .int 0, .int (-1), .ref 106, .ref 107, .ref 108, .int 0, .int 0, .int 0, .int 0, .int 0, .int 0, .int 0, .ref 109, .int 0, .int 0, .ref 110, .ref 111, .ref 112, .ref 113, .ref 114, .ref 115, .ref 116, .ref 117, .int 1, .int 0, .int 0, .int (-1), .ref 118, .ref 119, .ref 120, .ref 121, .ref 122, .ref 123, .ref 124, .ref 125, .ref 126, .ref 127, .ref 128, .ref 129, .int 0, .ref 130, .ref 131, .ref 132, .ref 133, .ref 134, .int 0, .int 0])), (111, .inl (0, 1260, .inl (upd (fun _ => 0) 0 0)))]) rfl ?_
    refine J_lcmp (z := 0) dL_law_797 (by decide +kernel) ?_
    refine J_if_eq (tgt := 1221) dL_law_798 (by decide) (fun _ => ?_) (fun q => absurd (by decide +kernel) q)
    exact law_tail (Nat.le_of_ble_eq_true rfl) (Nat.le_of_ble_eq_true rfl)
  · rcases i_cut x1.toInt 1 with h_1 | h_1
    · rcases i_cut x2.toInt (-1) with h_2 | h_2
      · obtain rfl : x1 = 0 := by rw [fa_eq, kc_0]; omega
        have b2 : (-2147483648) ≤ x2.toInt ∧ x2.toInt ≤ (-2) := ⟨by omega, by omega⟩
        have b3 : (-2147483648) ≤ x3.toInt ∧ x3.toInt ≤ 2147483647 := ⟨by omega, by omega⟩
        refine J_hc0 ?_
        refine J_aload_n dL_law_759 rfl rfl ?_
        refine J_sload_n dL_law_760 rfl rfl ?_
        refine J_iload_n dL_law_761 rfl rfl ?_
        refine J_iconst (v := 1) dL_law_762 (by decide) ?_
        refine J_iadd (z := 1) dL_law_763 (by decide +kernel) ?_
        refine L_sld (i2 := 1) (v := 0) dL_law_764 (jin (by decide +kernel)) (by decide +kernel) hx1 ?_
        refine J_sload_n dL_law_765 rfl rfl ?_
        refine J_iload_n dL_law_766 rfl rfl ?_
        refine J_iconst (v := 2) dL_law_767 (by decide) ?_
        refine J_iadd (z := 2) dL_law_768 (by decide +kernel) ?_
        refine L_sld (i2 := 2) (v := x2) dL_law_769 (jin (by decide +kernel)) (by decide +kernel) hx2 ?_
        refine J_sload_n dL_law_770 rfl rfl ?_
        refine J_iload_n dL_law_771 rfl rfl ?_
        refine J_iconst (v := 3) dL_law_772 (by decide) ?_
        refine J_iadd (z := 3) dL_law_773 (by decide +kernel) ?_
        refine L_sld (i2 := 3) (v := x3) dL_law_774 (jin (by decide +kernel)) (by decide +kernel) hx3 ?_
        refine J_callV (st := []) dL_law_775 cv_L_94 (c_X11_rows_2 (x2) b2 (x3) b3 H0_0 H0_51) H0_0 rfl rfl (Nat.le_of_ble_eq_true rfl) ⟨(Nat.le_of_ble_eq_true rfl), (Nat.le_of_ble_eq_true rfl)⟩ ⟨(Nat.le_of_ble_eq_true rfl), (Nat.le_of_ble_eq_true rfl)⟩ (fun r h9 hp => ?_)
        obtain ⟨rfl, rfl⟩ := hp
        refine J_nf (nh2 := 135) (ck2 := 135) (sk2 := 415506) (st2 := [.long (-1)]) rfl rfl rfl rfl ?_
        refine J_aload_n dL_law_778 rfl rfl ?_
        refine J_sload_n dL_law_779 rfl rfl ?_
        refine J_iload_n dL_law_780 rfl rfl ?_
        refine J_iconst (v := 1) dL_law_781 (by decide) ?_
        refine J_iadd (z := 1) dL_law_782 (by decide +kernel) ?_
        refine L_sld (i2 := 1) (v := 0) dL_law_783 (jin (by decide +kernel)) (by decide +kernel) hx1 ?_
        refine J_sload_n dL_law_784 rfl rfl ?_
        refine J_iload_n dL_law_785 rfl rfl ?_
        refine J_iconst (v := 2) dL_law_786 (by decide) ?_
        refine J_iadd (z := 2) dL_law_787 (by decide +kernel) ?_
        refine L_sld (i2 := 2) (v := x2) dL_law_788 (jin (by decide +kernel)) (by decide +kernel) hx2 ?_
        refine J_sload_n dL_law_789 rfl rfl ?_
        refine J_iload_n dL_law_790 rfl rfl ?_
        refine J_iconst (v := 3) dL_law_791 (by decide) ?_
        refine J_iadd (z := 3) dL_law_792 (by decide +kernel) ?_
        refine L_sld (i2 := 3) (v := x3) dL_law_793 (jin (by decide +kernel)) (by decide +kernel) hx3 ?_
        refine J_callV (st := [.long (-1)]) dL_law_794 cv_L_98 (c_X12_rows_2 (x2) b2 (x3) b3 H0_98 H0_100 H0_111) H0_98 rfl rfl (Nat.le_of_ble_eq_true rfl) ⟨(Nat.le_of_ble_eq_true rfl), (Nat.le_of_ble_eq_true rfl)⟩ ⟨(Nat.le_of_ble_eq_true rfl), (Nat.le_of_ble_eq_true rfl)⟩ (fun r h9 hp => ?_)
        obtain ⟨rfl, rfl⟩ := hp
        refine J_nf (nh2 := 135) (ck2 := 135) (sk2 := 415506) (st2 := [.long (-1), .long (-1)]) rfl rfl rfl rfl ?_
        refine J_app (L3 := [(98, .inr (12, [.int 0, .int 0, .ref 99, .ref 100, .ref 101, .ref 102, .ref 103, .ref 104, .ref 105, .int 0, .int (-1), .ref 106, .ref 107, .ref 108, .int 0, .int 0, .int 0, .int 0, .int 0, .int 0, .int 0, .ref 109, .int 0, .int 0, .ref 110, .ref 111, .ref 112, .ref 113, .ref 114, .ref 115, .ref 116, .ref 117, .int 1, .int 0, .int 0, .int (-1), .ref 118, .ref 119, .ref 120, .ref 121, .ref 122, .ref 123, .ref 124, .ref 125, .ref 126, .ref 127, .ref 128, .ref 129, .int 0, .ref 130, .ref 131, .ref 132, .ref 133, .ref 134, .int 0, .int 0])), (111, .inl (0, 1260, .inl (upd (fun _ => 0) 0 0)))]) rfl ?_
        refine J_lcmp (z := 0) dL_law_797 (by decide +kernel) ?_
        refine J_if_eq (tgt := 1221) dL_law_798 (by decide) (fun _ => ?_) (fun q => absurd (by decide +kernel) q)
        exact law_tail (Nat.le_of_ble_eq_true rfl) (Nat.le_of_ble_eq_true rfl)
      · rcases i_cut x2.toInt 0 with h_3 | h_3
        · rcases i_cut x3.toInt 0 with h_4 | h_4
          · obtain rfl : x1 = 0 := by rw [fa_eq, kc_0]; omega
            obtain rfl : x2 = (-1) := by rw [fa_eq, kc_m1]; omega
            have b3 : (-2147483648) ≤ x3.toInt ∧ x3.toInt ≤ (-1) := ⟨by omega, by omega⟩
            refine J_hc0 ?_
            refine J_aload_n dL_law_759 rfl rfl ?_
            refine J_sload_n dL_law_760 rfl rfl ?_
            refine J_iload_n dL_law_761 rfl rfl ?_
            refine J_iconst (v := 1) dL_law_762 (by decide) ?_
            refine J_iadd (z := 1) dL_law_763 (by decide +kernel) ?_
            refine L_sld (i2 := 1) (v := 0) dL_law_764 (jin (by decide +kernel)) (by decide +kernel) hx1 ?_
            refine J_sload_n dL_law_765 rfl rfl ?_
            refine J_iload_n dL_law_766 rfl rfl ?_
            refine J_iconst (v := 2) dL_law_767 (by decide) ?_
            refine J_iadd (z := 2) dL_law_768 (by decide +kernel) ?_
            refine L_sld (i2 := 2) (v := (-1)) dL_law_769 (jin (by decide +kernel)) (by decide +kernel) hx2 ?_
            refine J_sload_n dL_law_770 rfl rfl ?_
            refine J_iload_n dL_law_771 rfl rfl ?_
            refine J_iconst (v := 3) dL_law_772 (by decide) ?_
            refine J_iadd (z := 3) dL_law_773 (by decide +kernel) ?_
            refine L_sld (i2 := 3) (v := x3) dL_law_774 (jin (by decide +kernel)) (by decide +kernel) hx3 ?_
            refine J_callV (st := []) dL_law_775 cv_L_94 (c_X11_rows_3 (x3) b3 H0_0 H0_51) H0_0 rfl rfl (Nat.le_of_ble_eq_true rfl) ⟨(Nat.le_of_ble_eq_true rfl), (Nat.le_of_ble_eq_true rfl)⟩ ⟨(Nat.le_of_ble_eq_true rfl), (Nat.le_of_ble_eq_true rfl)⟩ (fun r h9 hp => ?_)
            obtain ⟨rfl, rfl⟩ := hp
            refine J_nf (nh2 := 135) (ck2 := 135) (sk2 := 415506) (st2 := [.long (-1)]) rfl rfl rfl rfl ?_
            refine J_aload_n dL_law_778 rfl rfl ?_
            refine J_sload_n dL_law_779 rfl rfl ?_
            refine J_iload_n dL_law_780 rfl rfl ?_
            refine J_iconst (v := 1) dL_law_781 (by decide) ?_
            refine J_iadd (z := 1) dL_law_782 (by decide +kernel) ?_
            refine L_sld (i2 := 1) (v := 0) dL_law_783 (jin (by decide +kernel)) (by decide +kernel) hx1 ?_
            refine J_sload_n dL_law_784 rfl rfl ?_
            refine J_iload_n dL_law_785 rfl rfl ?_
            refine J_iconst (v := 2) dL_law_786 (by decide) ?_
            refine J_iadd (z := 2) dL_law_787 (by decide +kernel) ?_
            refine L_sld (i2 := 2) (v := (-1)) dL_law_788 (jin (by decide +kernel)) (by decide +kernel) hx2 ?_
            refine J_sload_n dL_law_789 rfl rfl ?_
            refine J_iload_n dL_law_790 rfl rfl ?_
            refine J_iconst (v := 3) dL_law_791 (by decide) ?_
            refine J_iadd (z := 3) dL_law_792 (by decide +kernel) ?_
            refine L_sld (i2 := 3) (v := x3) dL_law_793 (jin (by decide +kernel)) (by decide +kernel) hx3 ?_
            refine J_callV (st := [.long (-1)]) dL_law_794 cv_L_98 (c_X12_rows_3 (x3) b3 H0_98 H0_100 H0_111) H0_98 rfl rfl (Nat.le_of_ble_eq_true rfl) ⟨(Nat.le_of_ble_eq_true rfl), (Nat.le_of_ble_eq_true rfl)⟩ ⟨(Nat.le_of_ble_eq_true rfl), (Nat.le_of_ble_eq_true rfl)⟩ (fun r h9 hp => ?_)
            obtain ⟨rfl, rfl⟩ := hp
            refine J_nf (nh2 := 135) (ck2 := 135) (sk2 := 415506) (st2 := [.long (-1), .long (-1)]) rfl rfl rfl rfl ?_
            refine J_app (L3 := [(98, .inr (12, [.int 0, .int 0, .ref 99, .ref 100, .ref 101, .ref 102, .ref 103, .ref 104, .ref 105, .int 0, .int (-1), .ref 106, .ref 107, .ref 108, .int 0, .int 0, .int 0, .int 0, .int 0, .int 0, .int 0, .ref 109, .int 0, .int 0, .ref 110, .ref 111, .ref 112, .ref 113, .ref 114, .ref 115, .ref 116, .ref 117, .int 1, .int 0, .int 0, .int (-1), .ref 118, .ref 119, .ref 120, .ref 121, .ref 122, .ref 123, .ref 124, .ref 125, .ref 126, .ref 127, .ref 128, .ref 129, .int 0, .ref 130, .ref 131, .ref 132, .ref 133, .ref 134, .int 0, .int 0])), (111, .inl (0, 1260, .inl (upd (fun _ => 0) 0 0)))]) rfl ?_
            refine J_lcmp (z := 0) dL_law_797 (by decide +kernel) ?_
            refine J_if_eq (tgt := 1221) dL_law_798 (by decide) (fun _ => ?_) (fun q => absurd (by decide +kernel) q)
            exact law_tail (Nat.le_of_ble_eq_true rfl) (Nat.le_of_ble_eq_true rfl)
          · rcases i_cut x3.toInt 13 with h_5 | h_5
            · rcases i_cut x3.toInt 1 with h_6 | h_6
              · obtain rfl : x1 = 0 := by rw [fa_eq, kc_0]; omega
                obtain rfl : x2 = (-1) := by rw [fa_eq, kc_m1]; omega
                obtain rfl : x3 = 0 := by rw [fa_eq, kc_0]; omega
                refine J_hc0 ?_
                refine J_aload_n dL_law_759 rfl rfl ?_
                refine J_sload_n dL_law_760 rfl rfl ?_
                refine J_iload_n dL_law_761 rfl rfl ?_
                refine J_iconst (v := 1) dL_law_762 (by decide) ?_
                refine J_iadd (z := 1) dL_law_763 (by decide +kernel) ?_
                refine L_sld (i2 := 1) (v := 0) dL_law_764 (jin (by decide +kernel)) (by decide +kernel) hx1 ?_
                refine J_sload_n dL_law_765 rfl rfl ?_
                refine J_iload_n dL_law_766 rfl rfl ?_
                refine J_iconst (v := 2) dL_law_767 (by decide) ?_
                refine J_iadd (z := 2) dL_law_768 (by decide +kernel) ?_
                refine L_sld (i2 := 2) (v := (-1)) dL_law_769 (jin (by decide +kernel)) (by decide +kernel) hx2 ?_
                refine J_sload_n dL_law_770 rfl rfl ?_
                refine J_iload_n dL_law_771 rfl rfl ?_
                refine J_iconst (v := 3) dL_law_772 (by decide) ?_
                refine J_iadd (z := 3) dL_law_773 (by decide +kernel) ?_
                refine L_sld (i2 := 3) (v := 0) dL_law_774 (jin (by decide +kernel)) (by decide +kernel) hx3 ?_
                refine J_callV (st := []) dL_law_775 cv_L_94 (c_X11_rows_4 H0_0 H0_1 H0_3 H0_51 H0_57 H0_58 H0_59 H0_62 H0_63 H0_65 H0_73) H0_0 rfl rfl (Nat.le_of_ble_eq_true rfl) ⟨(Nat.le_of_ble_eq_true rfl), (Nat.le_of_ble_eq_true rfl)⟩ ⟨(Nat.le_of_ble_eq_true rfl), (Nat.le_of_ble_eq_true rfl)⟩ (fun r h9 hp => ?_)
                obtain ⟨rfl, rfl⟩ := hp
                refine J_nf (nh2 := 136) (ck2 := 136) (sk2 := 415528) (st2 := [.long 1]) rfl rfl rfl rfl ?_
                refine J_app (L3 := [(73, .inl (1, 1260, .inr (.inl (vp_updL (vp_updL (fun _ => 0) 0 0) 0 1)))), (57, .inr (9, [.ref 1, .ref 51, .ref 58, .ref 61, .ref 62, .ref 135, .ref 64, .int 0, .int 0, .int 0])), (62, .inl (0, 1260, .inl (upd (fun _ => 0) 0 (-1)))), (135, .inl (0, 22, .inl (fun _ => 0))), (59, .inl (0, 8, .inl (upd (upd (fun _ => 0) 6 0) 7 0)))]) rfl ?_
                refine J_aload_n dL_law_778 rfl rfl ?_
                refine J_sload_n dL_law_779 rfl rfl ?_
                refine J_iload_n dL_law_780 rfl rfl ?_
                refine J_iconst (v := 1) dL_law_781 (by decide) ?_
                refine J_iadd (z := 1) dL_law_782 (by decide +kernel) ?_
                refine L_sld (i2 := 1) (v := 0) dL_law_783 (jin (by decide +kernel)) (by decide +kernel) hx1 ?_
                refine J_sload_n dL_law_784 rfl rfl ?_
                refine J_iload_n dL_law_785 rfl rfl ?_
                refine J_iconst (v := 2) dL_law_786 (by decide) ?_
                refine J_iadd (z := 2) dL_law_787 (by decide +kernel) ?_
                refine L_sld (i2 := 2) (v := (-1)) dL_law_788 (jin (by decide +kernel)) (by decide +kernel) hx2 ?_
                refine J_sload_n dL_law_789 rfl rfl ?_
                refine J_iload_n dL_law_790 rfl rfl ?_
                refine J_iconst (v := 3) dL_law_791 (by decide) ?_
                refine J_iadd (z := 3) dL_law_792 (by decide +kernel) ?_
                refine L_sld (i2 := 3) (v := 0) dL_law_793 (jin (by decide +kernel)) (by decide +kernel) hx3 ?_
                refine J_callV (st := [.long 1]) dL_law_794 cv_L_98 (c_X12_rows_4 H0_98 H0_100 H0_111 H0_114 H0_116 H0_127) H0_98 rfl rfl (Nat.le_of_ble_eq_true rfl) ⟨(Nat.le_of_ble_eq_true rfl), (Nat.le_of_ble_eq_true rfl)⟩ ⟨(Nat.le_of_ble_eq_true rfl), (Nat.le_of_ble_eq_true rfl)⟩ (fun r h9 hp => ?_)
                obtain ⟨rfl, rfl⟩ := hp
                refine J_nf (nh2 := 136) (ck2 := 136) (sk2 := 415528) (st2 := [.long 1, .long 1]) rfl rfl rfl rfl ?_
                refine J_app (L3 := [(127, .inl (1, 1260, .inr (.inl (vp_updL (fun _ => 0) 0 1)))), (114, .inl (0, 1260, .inl (upd (fun _ => 0) 0 0))), (116, .inl (0, 1260, .inl (upd (fun _ => 0) 0 0))), (98, .inr (12, [.int 0, .int 0, .ref 99, .ref 100, .ref 101, .ref 102, .ref 103, .ref 104, .ref 105, .int 0, .int (-1), .ref 106, .ref 107, .ref 108, .int 0, .int 0, .int 0, .int 0, .int 0, .int 0, .int 0, .ref 109, .int 0, .int 0, .ref 110, .ref 111, .ref 112, .ref 113, .ref 114, .ref 115, .ref 116, .ref 117, .int 1, .int 0, .int 0, .int 0, .ref 118, .ref 119, .ref 120, .ref 121, .ref 122, .ref 123, .ref 124, .ref 125, .ref 126, .ref 127, .ref 128, .ref 129, .int 0, .ref 130, .ref 131, .ref 132, .ref 133, .ref 134, .int 0, .int 0])), (111, .inl (0, 1260, .inl (upd (fun _ => 0) 0 0))), (73, .inl (1, 1260, .inr (.inl (vp_updL (vp_updL (fun _ => 0) 0 0) 0 1)))), (57, .inr (9, [.ref 1, .ref 51, .ref 58, .ref 61, .ref 62, .ref 135, .ref 64, .int 0, .int 0, .int 0])), (62, .inl (0, 1260, .inl (upd (fun _ => 0) 0 (-1)))), (135, .inl (0, 22, .inl (fun _ => 0))), (59, .inl (0, 8, .inl (upd (upd (fun _ => 0) 6 0) 7 0)))]) rfl ?_
                refine J_lcmp (z := 0) dL_law_797 (by decide +kernel) ?_
                refine J_if_eq (tgt := 1221) dL_law_798 (by decide) (fun _ => ?_) (fun q => absurd (by decide +kernel) q)
                exact law_tail (Nat.le_of_ble_eq_true rfl) (Nat.le_of_ble_eq_true rfl)
              · rcases i_cut x3.toInt 2 with h_7 | h_7
                · obtain rfl : x1 = 0 := by rw [fa_eq, kc_0]; omega
                  obtain rfl : x2 = (-1) := by rw [fa_eq, kc_m1]; omega
                  obtain rfl : x3 = 1 := by rw [fa_eq, kc_1]; omega
                  refine J_hc0 ?_
                  refine J_aload_n dL_law_759 rfl rfl ?_
                  refine J_sload_n dL_law_760 rfl rfl ?_
                  refine J_iload_n dL_law_761 rfl rfl ?_
                  refine J_iconst (v := 1) dL_law_762 (by decide) ?_
                  refine J_iadd (z := 1) dL_law_763 (by decide +kernel) ?_
                  refine L_sld (i2 := 1) (v := 0) dL_law_764 (jin (by decide +kernel)) (by decide +kernel) hx1 ?_
                  refine J_sload_n dL_law_765 rfl rfl ?_
                  refine J_iload_n dL_law_766 rfl rfl ?_
                  refine J_iconst (v := 2) dL_law_767 (by decide) ?_
                  refine J_iadd (z := 2) dL_law_768 (by decide +kernel) ?_
                  refine L_sld (i2 := 2) (v := (-1)) dL_law_769 (jin (by decide +kernel)) (by decide +kernel) hx2 ?_
                  refine J_sload_n dL_law_770 rfl rfl ?_
                  refine J_iload_n dL_law_771 rfl rfl ?_
                  refine J_iconst (v := 3) dL_law_772 (by decide) ?_
                  refine J_iadd (z := 3) dL_law_773 (by decide +kernel) ?_
                  refine L_sld (i2 := 3) (v := 1) dL_law_774 (jin (by decide +kernel)) (by decide +kernel) hx3 ?_
                  refine J_callV (st := []) dL_law_775 cv_L_94 (c_X11_rows_5 H0_0 H0_1 H0_3 H0_51 H0_52 H0_57 H0_58 H0_59 H0_62 H0_63 H0_65 H0_73 H0_74) H0_0 rfl rfl (Nat.le_of_ble_eq_true rfl) ⟨(Nat.le_of_ble_eq_true rfl), (Nat.le_of_ble_eq_true rfl)⟩ ⟨(Nat.le_of_ble_eq_true rfl), (Nat.le_of_ble_eq_true rfl)⟩ (fun r h9 hp => ?_)
                  obtain ⟨rfl, rfl⟩ := hp
                  refine J_nf (nh2 := 136) (ck2 := 136) (sk2 := 415528) (st2 := [.long 0]) rfl rfl rfl rfl ?_
                  refine J_app (L3 := [(65, .inr (10, [.ref 51, .ref 57, .ref 66, .ref 67, .ref 68, .int 0, .int (-1), .int (-1), .ref 69, .ref 70, .ref 71, .ref 72, .int 0, .int (-1), .int (-1), .ref 74, .ref 73])), (62, .inl (0, 1260, .inl (upd (upd (fun _ => 0) 0 (-1)) 0 0))), (74, .inl (1, 1260, .inr (.inl (vp_updL (fun _ => 0) 0 0)))), (73, .inl (1, 1260, .inr (.inl (vp_updL (vp_updL (fun _ => 0) 0 0) 0 1)))), (57, .inr (9, [.ref 1, .ref 51, .ref 58, .ref 61, .ref 62, .ref 135, .ref 64, .int 0, .int 0, .int 0])), (135, .inl (0, 22, .inl (fun _ => 0))), (59, .inl (0, 8, .inl (upd (upd (fun _ => 0) 6 0) 7 0)))]) rfl ?_
                  refine J_aload_n dL_law_778 rfl rfl ?_
                  refine J_sload_n dL_law_779 rfl rfl ?_
                  refine J_iload_n dL_law_780 rfl rfl ?_
                  refine J_iconst (v := 1) dL_law_781 (by decide) ?_
                  refine J_iadd (z := 1) dL_law_782 (by decide +kernel) ?_
                  refine L_sld (i2 := 1) (v := 0) dL_law_783 (jin (by decide +kernel)) (by decide +kernel) hx1 ?_
                  refine J_sload_n dL_law_784 rfl rfl ?_
                  refine J_iload_n dL_law_785 rfl rfl ?_
                  refine J_iconst (v := 2) dL_law_786 (by decide) ?_
                  refine J_iadd (z := 2) dL_law_787 (by decide +kernel) ?_
                  refine L_sld (i2 := 2) (v := (-1)) dL_law_788 (jin (by decide +kernel)) (by decide +kernel) hx2 ?_
                  refine J_sload_n dL_law_789 rfl rfl ?_
                  refine J_iload_n dL_law_790 rfl rfl ?_
                  refine J_iconst (v := 3) dL_law_791 (by decide) ?_
                  refine J_iadd (z := 3) dL_law_792 (by decide +kernel) ?_
                  refine L_sld (i2 := 3) (v := 1) dL_law_793 (jin (by decide +kernel)) (by decide +kernel) hx3 ?_
                  refine J_callV (st := [.long 0]) dL_law_794 cv_L_98 (c_X12_rows_5 H0_98 H0_100 H0_111 H0_114 H0_116 H0_127 H0_128) H0_98 rfl rfl (Nat.le_of_ble_eq_true rfl) ⟨(Nat.le_of_ble_eq_true rfl), (Nat.le_of_ble_eq_true rfl)⟩ ⟨(Nat.le_of_ble_eq_true rfl), (Nat.le_of_ble_eq_true rfl)⟩ (fun r h9 hp => ?_)
                  obtain ⟨rfl, rfl⟩ := hp
                  refine J_nf (nh2 := 136) (ck2 := 136) (sk2 := 415528) (st2 := [.long 0, .long 0]) rfl rfl rfl rfl ?_
                  refine J_app (L3 := [(127, .inl (1, 1260, .inr (.inl (vp_updL (vp_updL (fun _ => 0) 0 1) 0 0)))), (128, .inl (1, 1260, .inr (.inl (vp_updL (fun _ => 0) 0 0)))), (114, .inl (0, 1260, .inl (upd (fun _ => 0) 0 0))), (116, .inl (0, 1260, .inl (upd (fun _ => 0) 0 0))), (98, .inr (12, [.int 0, .int 0, .ref 99, .ref 100, .ref 101, .ref 102, .ref 103, .ref 104, .ref 105, .int 0, .int (-1), .ref 106, .ref 107, .ref 108, .int 0, .int 0, .int 0, .int 0, .int 0, .int 0, .int 0, .ref 109, .int 0, .int 0, .ref 110, .ref 111, .ref 112, .ref 113, .ref 114, .ref 115, .ref 116, .ref 117, .int 1, .int 0, .int 0, .int 0, .ref 118, .ref 119, .ref 120, .ref 121, .ref 122, .ref 123, .ref 124, .ref 125, .ref 126, .ref 127, .ref 128, .ref 129, .int 0, .ref 130, .ref 131, .ref 132, .ref 133, .ref 134, .int 0, .int 0])), (111, .inl (0, 1260, .inl (upd (fun _ => 0) 0 0))), (65, .inr (10, [.ref 51, .ref 57, .ref 66, .ref 67, .ref 68, .int 0, .int (-1), .int (-1), .ref 69, .ref 70, .ref 71, .ref 72, .int 0, .int (-1), .int (-1), .ref 74, .ref 73])), (62, .inl (0, 1260, .inl (upd (upd (fun _ => 0) 0 (-1)) 0 0))), (74, .inl (1, 1260, .inr (.inl (vp_updL (fun _ => 0) 0 0)))), (73, .inl (1, 1260, .inr (.inl (vp_updL (vp_updL (fun _ => 0) 0 0) 0 1)))), (57, .inr (9, [.ref 1, .ref 51, .ref 58, .ref 61, .ref 62, .ref 135, .ref 64, .int 0, .int 0, .int 0])), (135, .inl (0, 22, .inl (fun _ => 0))), (59, .inl (0, 8, .inl (upd (upd (fun _ => 0) 6 0) 7 0)))]) rfl ?_
                  refine J_lcmp (z := 0) dL_law_797 (by decide +kernel) ?_
                  refine J_if_eq (tgt := 1221) dL_law_798 (by decide) (fun _ => ?_) (fun q => absurd (by decide +kernel) q)
                  exact law_tail (Nat.le_of_ble_eq_true rfl) (Nat.le_of_ble_eq_true rfl)
                · rcases i_cut x3.toInt 3 with h_8 | h_8
                  · obtain rfl : x1 = 0 := by rw [fa_eq, kc_0]; omega
                    obtain rfl : x2 = (-1) := by rw [fa_eq, kc_m1]; omega
                    obtain rfl : x3 = 2 := by rw [fa_eq, kc_2]; omega
                    refine J_hc0 ?_
                    refine J_aload_n dL_law_759 rfl rfl ?_
                    refine J_sload_n dL_law_760 rfl rfl ?_
                    refine J_iload_n dL_law_761 rfl rfl ?_
                    refine J_iconst (v := 1) dL_law_762 (by decide) ?_
                    refine J_iadd (z := 1) dL_law_763 (by decide +kernel) ?_
                    refine L_sld (i2 := 1) (v := 0) dL_law_764 (jin (by decide +kernel)) (by decide +kernel) hx1 ?_
                    refine J_sload_n dL_law_765 rfl rfl ?_
                    refine J_iload_n dL_law_766 rfl rfl ?_
                    refine J_iconst (v := 2) dL_law_767 (by decide) ?_
                    refine J_iadd (z := 2) dL_law_768 (by decide +kernel) ?_
                    refine L_sld (i2 := 2) (v := (-1)) dL_law_769 (jin (by decide +kernel)) (by decide +kernel) hx2 ?_
                    refine J_sload_n dL_law_770 rfl rfl ?_
                    refine J_iload_n dL_law_771 rfl rfl ?_
                    refine J_iconst (v := 3) dL_law_772 (by decide) ?_
                    refine J_iadd (z := 3) dL_law_773 (by decide +kernel) ?_
                    refine L_sld (i2 := 3) (v := 2) dL_law_774 (jin (by decide +kernel)) (by decide +kernel) hx3 ?_
                    refine J_callV (st := []) dL_law_775 cv_L_94 (c_X11_rows_6 H0_0 H0_1 H0_3 H0_51 H0_52 H0_57 H0_58 H0_59 H0_62 H0_63 H0_65 H0_73 H0_74) H0_0 rfl rfl (Nat.le_of_ble_eq_true rfl) ⟨(Nat.le_of_ble_eq_true rfl), (Nat.le_of_ble_eq_true rfl)⟩ ⟨(Nat.le_of_ble_eq_true rfl), (Nat.le_of_ble_eq_true rfl)⟩ (fun r h9 hp => ?_)
                    obtain ⟨rfl, rfl⟩ := hp
                    refine J_nf (nh2 := 136) (ck2 := 136) (sk2 := 415528) (st2 := [.long 0]) rfl rfl rfl rfl ?_
                    refine J_app (L3 := [(65, .inr (10, [.ref 51, .ref 57, .ref 66, .ref 67, .ref 68, .int 0, .int (-1), .int (-1), .ref 69, .ref 70, .ref 71, .ref 72, .int 0, .int (-1), .int (-1), .ref 73, .ref 74])), (73, .inl (1, 1260, .inr (.inl (vp_updL (vp_updL (vp_updL (fun _ => 0) 0 0) 0 1) 0 0)))), (62, .inl (0, 1260, .inl (upd (upd (fun _ => 0) 0 (-1)) 0 0))), (74, .inl (1, 1260, .inr (.inl (vp_updL (fun _ => 0) 0 0)))), (57, .inr (9, [.ref 1, .ref 51, .ref 58, .ref 61, .ref 62, .ref 135, .ref 64, .int 0, .int 0, .int 0])), (135, .inl (0, 22, .inl (fun _ => 0))), (59, .inl (0, 8, .inl (upd (upd (fun _ => 0) 6 0) 7 0)))]) rfl ?_
                    refine J_aload_n dL_law_778 rfl rfl ?_
                    refine J_sload_n dL_law_779 rfl rfl ?_
                    refine J_iload_n dL_law_780 rfl rfl ?_
                    refine J_iconst (v := 1) dL_law_781 (by decide) ?_
                    refine J_iadd (z := 1) dL_law_782 (by decide +kernel) ?_
                    refine L_sld (i2 := 1) (v := 0) dL_law_783 (jin (by decide +kernel)) (by decide +kernel) hx1 ?_
                    refine J_sload_n dL_law_784 rfl rfl ?_
                    refine J_iload_n dL_law_785 rfl rfl ?_
                    refine J_iconst (v := 2) dL_law_786 (by decide) ?_
                    refine J_iadd (z := 2) dL_law_787 (by decide +kernel) ?_
                    refine L_sld (i2 := 2) (v := (-1)) dL_law_788 (jin (by decide +kernel)) (by decide +kernel) hx2 ?_
                    refine J_sload_n dL_law_789 rfl rfl ?_
                    refine J_iload_n dL_law_790 rfl rfl ?_
                    refine J_iconst (v := 3) dL_law_791 (by decide) ?_
                    refine J_iadd (z := 3) dL_law_792 (by decide +kernel) ?_
                    refine L_sld (i2 := 3) (v := 2) dL_law_793 (jin (by decide +kernel)) (by decide +kernel) hx3 ?_
                    refine J_callV (st := [.long 0]) dL_law_794 cv_L_98 (c_X12_rows_6 H0_98 H0_100 H0_111 H0_114 H0_116 H0_127 H0_128) H0_98 rfl rfl (Nat.le_of_ble_eq_true rfl) ⟨(Nat.le_of_ble_eq_true rfl), (Nat.le_of_ble_eq_true rfl)⟩ ⟨(Nat.le_of_ble_eq_true rfl), (Nat.le_of_ble_eq_true rfl)⟩ (fun r h9 hp => ?_)
                    obtain ⟨rfl, rfl⟩ := hp
                    refine J_nf (nh2 := 136) (ck2 := 136) (sk2 := 415528) (st2 := [.long 0, .long 0]) rfl rfl rfl rfl ?_
                    refine J_app (L3 := [(127, .inl (1, 1260, .inr (.inl (vp_updL (vp_updL (vp_updL (fun _ => 0) 0 1) 0 0) 0 0)))), (128, .inl (1, 1260, .inr (.inl (vp_updL (vp_updL (fun _ => 0) 0 0) 0 0)))), (114, .inl (0, 1260, .inl (upd (fun _ => 0) 0 0))), (116, .inl (0, 1260, .inl (upd (fun _ => 0) 0 0))), (98, .inr (12, [.int 0, .int 0, .ref 99, .ref 100, .ref 101, .ref 102, .ref 103, .ref 104, .ref 105, .int 0, .int (-1), .ref 106, .ref 107, .ref 108, .int 0, .int 0, .int 0, .int 0, .int 0, .int 0, .int 0, .ref 109, .int 0, .int 0, .ref 110, .ref 111, .ref 112, .ref 113, .ref 114, .ref 115, .ref 116, .ref 117, .int 1, .int 0, .int 0, .int 0, .ref 118, .ref 119, .ref 120, .ref 121, .ref 122, .ref 123, .ref 124, .ref 125, .ref 126, .ref 127, .ref 128, .ref 129, .int 0, .ref 130, .ref 131, .ref 132, .ref 133, .ref 134, .int 0, .int 0])), (111, .inl (0, 1260, .inl (upd (fun _ => 0) 0 0))), (65, .inr (10, [.ref 51, .ref 57, .ref 66, .ref 67, .ref 68, .int 0, .int (-1), .int (-1), .ref 69, .ref 70, .ref 71, .ref 72, .int 0, .int (-1), .int (-1), .ref 73, .ref 74])), (73, .inl (1, 1260, .inr (.inl (vp_updL (vp_updL (vp_updL (fun _ => 0) 0 0) 0 1) 0 0)))), (62, .inl (0, 1260, .inl (upd (upd (fun _ => 0) 0 (-1)) 0 0))), (74, .inl (1, 1260, .inr (.inl (vp_updL (fun _ => 0) 0 0)))), (57, .inr (9, [.ref 1, .ref 51, .ref 58, .ref 61, .ref 62, .ref 135, .ref 64, .int 0, .int 0, .int 0])), (135, .inl (0, 22, .inl (fun _ => 0))), (59, .inl (0, 8, .inl (upd (upd (fun _ => 0) 6 0) 7 0)))]) rfl ?_
                    refine J_lcmp (z := 0) dL_law_797 (by decide +kernel) ?_
                    refine J_if_eq (tgt := 1221) dL_law_798 (by decide) (fun _ => ?_) (fun q => absurd (by decide +kernel) q)
                    exact law_tail (Nat.le_of_ble_eq_true rfl) (Nat.le_of_ble_eq_true rfl)
                  · rcases i_cut x3.toInt 4 with h_9 | h_9
                    · obtain rfl : x1 = 0 := by rw [fa_eq, kc_0]; omega
                      obtain rfl : x2 = (-1) := by rw [fa_eq, kc_m1]; omega
                      obtain rfl : x3 = 3 := by rw [fa_eq, kc_3]; omega
                      refine J_hc0 ?_
                      refine J_aload_n dL_law_759 rfl rfl ?_
                      refine J_sload_n dL_law_760 rfl rfl ?_
                      refine J_iload_n dL_law_761 rfl rfl ?_
                      refine J_iconst (v := 1) dL_law_762 (by decide) ?_
                      refine J_iadd (z := 1) dL_law_763 (by decide +kernel) ?_
                      refine L_sld (i2 := 1) (v := 0) dL_law_764 (jin (by decide +kernel)) (by decide +kernel) hx1 ?_
                      refine J_sload_n dL_law_765 rfl rfl ?_
                      refine J_iload_n dL_law_766 rfl rfl ?_
                      refine J_iconst (v := 2) dL_law_767 (by decide) ?_
                      refine J_iadd (z := 2) dL_law_768 (by decide +kernel) ?_
                      refine L_sld (i2 := 2) (v := (-1)) dL_law_769 (jin (by decide +kernel)) (by decide +kernel) hx2 ?_
                      refine J_sload_n dL_law_770 rfl rfl ?_
                      refine J_iload_n dL_law_771 rfl rfl ?_
                      refine J_iconst (v := 3) dL_law_772 (by decide) ?_
                      refine J_iadd (z := 3) dL_law_773 (by decide +kernel) ?_
                      refine L_sld (i2 := 3) (v := 3) dL_law_774 (jin (by decide +kernel)) (by decide +kernel) hx3 ?_
                      refine J_callV (st := []) dL_law_775 cv_L_94 (c_X11_rows_7 H0_0 H0_1 H0_3 H0_51 H0_52 H0_57 H0_58 H0_59 H0_62 H0_63 H0_65 H0_73 H0_74) H0_0 rfl rfl (Nat.le_of_ble_eq_true rfl) ⟨(Nat.le_of_ble_eq_true rfl), (Nat.le_of_ble_eq_true rfl)⟩ ⟨(Nat.le_of_ble_eq_true rfl), (Nat.le_of_ble_eq_true rfl)⟩ (fun r h9 hp => ?_)
                      obtain ⟨rfl, rfl⟩ := hp
                      refine J_nf (nh2 := 136) (ck2 := 136) (sk2 := 415528) (st2 := [.long 0]) rfl rfl rfl rfl ?_
                      refine J_app (L3 := [(65, .inr (10, [.ref 51, .ref 57, .ref 66, .ref 67, .ref 68, .int 0, .int (-1), .int (-1), .ref 69, .ref 70, .ref 71, .ref 72, .int 0, .int (-1), .int (-1), .ref 74, .ref 73])), (74, .inl (1, 1260, .inr (.inl (vp_updL (vp_updL (fun _ => 0) 0 0) 0 0)))), (73, .inl (1, 1260, .inr (.inl (vp_updL (vp_updL (vp_updL (fun _ => 0) 0 0) 0 1) 0 0)))), (62, .inl (0, 1260, .inl (upd (upd (fun _ => 0) 0 (-1)) 0 0))), (57, .inr (9, [.ref 1, .ref 51, .ref 58, .ref 61, .ref 62, .ref 135, .ref 64, .int 0, .int 0, .int 0])), (135, .inl (0, 22, .inl (fun _ => 0))), (59, .inl (0, 8, .inl (upd (upd (fun _ => 0) 6 0) 7 0)))]) rfl ?_
                      refine J_aload_n dL_law_778 rfl rfl ?_
                      refine J_sload_n dL_law_779 rfl rfl ?_
                      refine J_iload_n dL_law_780 rfl rfl ?_
                      refine J_iconst (v := 1) dL_law_781 (by decide) ?_
                      refine J_iadd (z := 1) dL_law_782 (by decide +kernel) ?_
                      refine L_sld (i2 := 1) (v := 0) dL_law_783 (jin (by decide +kernel)) (by decide +kernel) hx1 ?_
                      refine J_sload_n dL_law_784 rfl rfl ?_
                      refine J_iload_n dL_law_785 rfl rfl ?_
                      refine J_iconst (v := 2) dL_law_786 (by decide) ?_
                      refine J_iadd (z := 2) dL_law_787 (by decide +kernel) ?_
                      refine L_sld (i2 := 2) (v := (-1)) dL_law_788 (jin (by decide +kernel)) (by decide +kernel) hx2 ?_
                      refine J_sload_n dL_law_789 rfl rfl ?_
                      refine J_iload_n dL_law_790 rfl rfl ?_
                      refine J_iconst (v := 3) dL_law_791 (by decide) ?_
                      refine J_iadd (z := 3) dL_law_792 (by decide +kernel) ?_
                      refine L_sld (i2 := 3) (v := 3) dL_law_793 (jin (by decide +kernel)) (by decide +kernel) hx3 ?_
                      refine J_callV (st := [.long 0]) dL_law_794 cv_L_98 (c_X12_rows_7 H0_98 H0_100 H0_111 H0_114 H0_116 H0_127 H0_128) H0_98 rfl rfl (Nat.le_of_ble_eq_true rfl) ⟨(Nat.le_of_ble_eq_true rfl), (Nat.le_of_ble_eq_true rfl)⟩ ⟨(Nat.le_of_ble_eq_true rfl), (Nat.le_of_ble_eq_true rfl)⟩ (fun r h9 hp => ?_)
                      obtain ⟨rfl, rfl⟩ := hp
                      refine J_nf (nh2 := 136) (ck2 := 136) (sk2 := 415528) (st2 := [.long 0, .long 0]) rfl rfl rfl rfl ?_
                      refine J_app (L3 := [(127, .inl (1, 1260, .inr (.inl (vp_updL (vp_updL (vp_updL (vp_updL (fun _ => 0) 0 1) 0 0) 0 0) 0 0)))), (128, .inl (1, 1260, .inr (.inl (vp_updL (vp_updL (vp_updL (fun _ => 0) 0 0) 0 0) 0 0)))), (114, .inl (0, 1260, .inl (upd (fun _ => 0) 0 0))), (116, .inl (0, 1260, .inl (upd (fun _ => 0) 0 0))), (98, .inr (12, [.int 0, .int 0, .ref 99, .ref 100, .ref 101, .ref 102, .ref 103, .ref 104, .ref 105, .int 0, .int (-1), .ref 106, .ref 107, .ref 108, .int 0, .int 0, .int 0, .int 0, .int 0, .int 0, .int 0, .ref 109, .int 0, .int 0, .ref 110, .ref 111, .ref 112, .ref 113, .ref 114, .ref 115, .ref 116, .ref 117, .int 1, .int 0, .int 0, .int 0, .ref 118, .ref 119, .ref 120, .ref 121, .ref 122, .ref 123, .ref 124, .ref 125, .ref 126, .ref 127, .ref 128, .ref 129, .int 0, .ref 130, .ref 131, .ref 132, .ref 133, .ref 134, .int 0, .int 0])), (111, .inl (0, 1260, .inl (upd (fun _ => 0) 0 0))), (65, .inr (10, [.ref 51, .ref 57, .ref 66, .ref 67, .ref 68, .int 0, .int (-1), .int (-1), .ref 69, .ref 70, .ref 71, .ref 72, .int 0, .int (-1), .int (-1), .ref 74, .ref 73])), (74, .inl (1, 1260, .inr (.inl (vp_updL (vp_updL (fun _ => 0) 0 0) 0 0)))), (73, .inl (1, 1260, .inr (.inl (vp_updL (vp_updL (vp_updL (fun _ => 0) 0 0) 0 1) 0 0)))), (62, .inl (0, 1260, .inl (upd (upd (fun _ => 0) 0 (-1)) 0 0))), (57, .inr (9, [.ref 1, .ref 51, .ref 58, .ref 61, .ref 62, .ref 135, .ref 64, .int 0, .int 0, .int 0])), (135, .inl (0, 22, .inl (fun _ => 0))), (59, .inl (0, 8, .inl (upd (upd (fun _ => 0) 6 0) 7 0)))]) rfl ?_
                      refine J_lcmp (z := 0) dL_law_797 (by decide +kernel) ?_
                      refine J_if_eq (tgt := 1221) dL_law_798 (by decide) (fun _ => ?_) (fun q => absurd (by decide +kernel) q)
                      exact law_tail (Nat.le_of_ble_eq_true rfl) (Nat.le_of_ble_eq_true rfl)
                    · rcases i_cut x3.toInt 5 with h_10 | h_10
                      · obtain rfl : x1 = 0 := by rw [fa_eq, kc_0]; omega
                        obtain rfl : x2 = (-1) := by rw [fa_eq, kc_m1]; omega
                        obtain rfl : x3 = 4 := by rw [fa_eq, kc_4]; omega
                        refine J_hc0 ?_
                        refine J_aload_n dL_law_759 rfl rfl ?_
                        refine J_sload_n dL_law_760 rfl rfl ?_
                        refine J_iload_n dL_law_761 rfl rfl ?_
                        refine J_iconst (v := 1) dL_law_762 (by decide) ?_
                        refine J_iadd (z := 1) dL_law_763 (by decide +kernel) ?_
                        refine L_sld (i2 := 1) (v := 0) dL_law_764 (jin (by decide +kernel)) (by decide +kernel) hx1 ?_
                        refine J_sload_n dL_law_765 rfl rfl ?_
                        refine J_iload_n dL_law_766 rfl rfl ?_
                        refine J_iconst (v := 2) dL_law_767 (by decide) ?_
                        refine J_iadd (z := 2) dL_law_768 (by decide +kernel) ?_
                        refine L_sld (i2 := 2) (v := (-1)) dL_law_769 (jin (by decide +kernel)) (by decide +kernel) hx2 ?_
                        refine J_sload_n dL_law_770 rfl rfl ?_
                        refine J_iload_n dL_law_771 rfl rfl ?_
                        refine J_iconst (v := 3) dL_law_772 (by decide) ?_
                        refine J_iadd (z := 3) dL_law_773 (by decide +kernel) ?_
                        refine L_sld (i2 := 3) (v := 4) dL_law_774 (jin (by decide +kernel)) (by decide +kernel) hx3 ?_
                        refine J_callV (st := []) dL_law_775 cv_L_94 (c_X11_rows_8 H0_0 H0_1 H0_3 H0_51 H0_52 H0_57 H0_58 H0_59 H0_62 H0_63 H0_65 H0_73 H0_74) H0_0 rfl rfl (Nat.le_of_ble_eq_true rfl) ⟨(Nat.le_of_ble_eq_true rfl), (Nat.le_of_ble_eq_true rfl)⟩ ⟨(Nat.le_of_ble_eq_true rfl), (Nat.le_of_ble_eq_true rfl)⟩ (fun r h9 hp => ?_)
                        obtain ⟨rfl, rfl⟩ := hp
                        refine J_nf (nh2 := 136) (ck2 := 136) (sk2 := 415528) (st2 := [.long 0]) rfl rfl rfl rfl ?_
                        refine J_app (L3 := [(65, .inr (10, [.ref 51, .ref 57, .ref 66, .ref 67, .ref 68, .int 0, .int (-1), .int (-1), .ref 69, .ref 70, .ref 71, .ref 72, .int 0, .int (-1), .int (-1), .ref 73, .ref 74])), (73, .inl (1, 1260, .inr (.inl (vp_updL (vp_updL (vp_updL (vp_updL (fun _ => 0) 0 0) 0 1) 0 0) 0 0)))), (74, .inl (1, 1260, .inr (.inl (vp_updL (vp_updL (fun _ => 0) 0 0) 0 0)))), (62, .inl (0, 1260, .inl (upd (upd (fun _ => 0) 0 (-1)) 0 0))), (57, .inr (9, [.ref 1, .ref 51, .ref 58, .ref 61, .ref 62, .ref 135, .ref 64, .int 0, .int 0, .int 0])), (135, .inl (0, 22, .inl (fun _ => 0))), (59, .inl (0, 8, .inl (upd (upd (fun _ => 0) 6 0) 7 0)))]) rfl ?_
                        refine J_aload_n dL_law_778 rfl rfl ?_
                        refine J_sload_n dL_law_779 rfl rfl ?_
                        refine J_iload_n dL_law_780 rfl rfl ?_
                        refine J_iconst (v := 1) dL_law_781 (by decide) ?_
                        refine J_iadd (z := 1) dL_law_782 (by decide +kernel) ?_
                        refine L_sld (i2 := 1) (v := 0) dL_law_783 (jin (by decide +kernel)) (by decide +kernel) hx1 ?_
                        refine J_sload_n dL_law_784 rfl rfl ?_
                        refine J_iload_n dL_law_785 rfl rfl ?_
                        refine J_iconst (v := 2) dL_law_786 (by decide) ?_
                        refine J_iadd (z := 2) dL_law_787 (by decide +kernel) ?_
                        refine L_sld (i2 := 2) (v := (-1)) dL_law_788 (jin (by decide +kernel)) (by decide +kernel) hx2 ?_
                        refine J_sload_n dL_law_789 rfl rfl ?_
                        refine J_iload_n dL_law_790 rfl rfl ?_
                        refine J_iconst (v := 3) dL_law_791 (by decide) ?_
                        refine J_iadd (z := 3) dL_law_792 (by decide +kernel) ?_
                        refine L_sld (i2 := 3) (v := 4) dL_law_793 (jin (by decide +kernel)) (by decide +kernel) hx3 ?_
                        refine J_callV (st := [.long 0]) dL_law_794 cv_L_98 (c_X12_rows_8 H0_98 H0_100 H0_111 H0_114 H0_116 H0_127 H0_128) H0_98 rfl rfl (Nat.le_of_ble_eq_true rfl) ⟨(Nat.le_of_ble_eq_true rfl), (Nat.le_of_ble_eq_true rfl)⟩ ⟨(Nat.le_of_ble_eq_true rfl), (Nat.le_of_ble_eq_true rfl)⟩ (fun r h9 hp => ?_)
                        obtain ⟨rfl, rfl⟩ := hp
                        refine J_nf (nh2 := 136) (ck2 := 136) (sk2 := 415528) (st2 := [.long 0, .long 0]) rfl rfl rfl rfl ?_
                        refine J_app (L3 := [(127, .inl (1, 1260, .inr (.inl (vp_updL (vp_updL (vp_updL (vp_updL (vp_updL (fun _ => 0) 0 1) 0 0) 0 0) 0 0) 0 0)))), (128, .inl (1, 1260, .inr (.inl (vp_updL (vp_updL (vp_updL (vp_updL (fun _ => 0) 0 0) 0 0) 0 0) 0 0)))), (114, .inl (0, 1260, .inl (upd (fun _ => 0) 0 0))), (116, .inl (0, 1260, .inl (upd (fun _ => 0) 0 0))), (98, .inr (12, [.int 0, .int 0, .ref 99, .ref 100, .ref 101, .ref 102, .ref 103, .ref 104, .ref 105, .int 0, .int (-1), .ref 106, .ref 107, .ref 108, .int 0, .int 0, .int 0, .int 0, .int 0, .int 0, .int 0, .ref 109, .int 0, .int 0, .ref 110, .ref 111, .ref 112, .ref 113, .ref 114, .ref 115, .ref 116, .ref 117, .int 1, .int 0, .int 0, .int 0, .ref 118, .ref 119, .ref 120, .ref 121, .ref 122, .ref 123, .ref 124, .ref 125, .ref 126, .ref 127, .ref 128, .ref 129, .int 0, .ref 130, .ref 131, .ref 132, .ref 133, .ref 134, .int 0, .int 0])), (111, .inl (0, 1260, .inl (upd (fun _ => 0) 0 0))), (65, .inr (10, [.ref 51, .ref 57, .ref 66, .ref 67, .ref 68, .int 0, .int (-1), .int (-1), .ref 69, .ref 70, .ref 71, .ref 72, .int 0, .int (-1), .int (-1), .ref 73, .ref 74])), (73, .inl (1, 1260, .inr (.inl (vp_updL (vp_updL (vp_updL (vp_updL (fun _ => 0) 0 0) 0 1) 0 0) 0 0)))), (74, .inl (1, 1260, .inr (.inl (vp_updL (vp_updL (fun _ => 0) 0 0) 0 0)))), (62, .inl (0, 1260, .inl (upd (upd (fun _ => 0) 0 (-1)) 0 0))), (57, .inr (9, [.ref 1, .ref 51, .ref 58, .ref 61, .ref 62, .ref 135, .ref 64, .int 0, .int 0, .int 0])), (135, .inl (0, 22, .inl (fun _ => 0))), (59, .inl (0, 8, .inl (upd (upd (fun _ => 0) 6 0) 7 0)))]) rfl ?_
                        refine J_lcmp (z := 0) dL_law_797 (by decide +kernel) ?_
                        refine J_if_eq (tgt := 1221) dL_law_798 (by decide) (fun _ => ?_) (fun q => absurd (by decide +kernel) q)
                        exact law_tail (Nat.le_of_ble_eq_true rfl) (Nat.le_of_ble_eq_true rfl)
                      · rcases i_cut x3.toInt 6 with h_11 | h_11
                        · obtain rfl : x1 = 0 := by rw [fa_eq, kc_0]; omega
                          obtain rfl : x2 = (-1) := by rw [fa_eq, kc_m1]; omega
                          obtain rfl : x3 = 5 := by rw [fa_eq, kc_5]; omega
                          refine J_hc0 ?_
                          refine J_aload_n dL_law_759 rfl rfl ?_
                          refine J_sload_n dL_law_760 rfl rfl ?_
                          refine J_iload_n dL_law_761 rfl rfl ?_
                          refine J_iconst (v := 1) dL_law_762 (by decide) ?_
                          refine J_iadd (z := 1) dL_law_763 (by decide +kernel) ?_
                          refine L_sld (i2 := 1) (v := 0) dL_law_764 (jin (by decide +kernel)) (by decide +kernel) hx1 ?_
                          refine J_sload_n dL_law_765 rfl rfl ?_
                          refine J_iload_n dL_law_766 rfl rfl ?_
                          refine J_iconst (v := 2) dL_law_767 (by decide) ?_
                          refine J_iadd (z := 2) dL_law_768 (by decide +kernel) ?_
                          refine L_sld (i2 := 2) (v := (-1)) dL_law_769 (jin (by decide +kernel)) (by decide +kernel) hx2 ?_
                          refine J_sload_n dL_law_770 rfl rfl ?_
                          refine J_iload_n dL_law_771 rfl rfl ?_
                          refine J_iconst (v := 3) dL_law_772 (by decide) ?_
                          refine J_iadd (z := 3) dL_law_773 (by decide +kernel) ?_
                          refine L_sld (i2 := 3) (v := 5) dL_law_774 (jin (by decide +kernel)) (by decide +kernel) hx3 ?_
                          refine J_callV (st := []) dL_law_775 cv_L_94 (c_X11_rows_9 H0_0 H0_1 H0_3 H0_51 H0_52 H0_57 H0_58 H0_59 H0_62 H0_63 H0_65 H0_73 H0_74) H0_0 rfl rfl (Nat.le_of_ble_eq_true rfl) ⟨(Nat.le_of_ble_eq_true rfl), (Nat.le_of_ble_eq_true rfl)⟩ ⟨(Nat.le_of_ble_eq_true rfl), (Nat.le_of_ble_eq_true rfl)⟩ (fun r h9 hp => ?_)
                          obtain ⟨rfl, rfl⟩ := hp
                          refine J_nf (nh2 := 136) (ck2 := 136) (sk2 := 415528) (st2 := [.long 0]) rfl rfl rfl rfl ?_
                          refine J_app (L3 := [(65, .inr (10, [.ref 51, .ref 57, .ref 66, .ref 67, .ref 68, .int 0, .int (-1), .int (-1), .ref 69, .ref 70, .ref 71, .ref 72, .int 0, .int (-1), .int (-1), .ref 74, .ref 73])), (74, .inl (1, 1260, .inr (.inl (vp_updL (vp_updL (vp_updL (fun _ => 0) 0 0) 0 0) 0 0)))), (73, .inl (1, 1260, .inr (.inl (vp_updL (vp_updL (vp_updL (vp_updL (fun _ => 0) 0 0) 0 1) 0 0) 0 0)))), (62, .inl (0, 1260, .inl (upd (upd (fun _ => 0) 0 (-1)) 0 0))), (57, .inr (9, [.ref 1, .ref 51, .ref 58, .ref 61, .ref 62, .ref 135, .ref 64, .int 0, .int 0, .int 0])), (135, .inl (0, 22, .inl (fun _ => 0))), (59, .inl (0, 8, .inl (upd (upd (fun _ => 0) 6 0) 7 0)))]) rfl ?_
                          refine J_aload_n dL_law_778 rfl rfl ?_
                          refine J_sload_n dL_law_779 rfl rfl ?_
                          refine J_iload_n dL_law_780 rfl rfl ?_
                          refine J_iconst (v := 1) dL_law_781 (by decide) ?_
                          refine J_iadd (z := 1) dL_law_782 (by decide +kernel) ?_
                          refine L_sld (i2 := 1) (v := 0) dL_law_783 (jin (by decide +kernel)) (by decide +kernel) hx1 ?_
                          refine J_sload_n dL_law_784 rfl rfl ?_
                          refine J_iload_n dL_law_785 rfl rfl ?_
                          refine J_iconst (v := 2) dL_law_786 (by decide) ?_
                          refine J_iadd (z := 2) dL_law_787 (by decide +kernel) ?_
                          refine L_sld (i2 := 2) (v := (-1)) dL_law_788 (jin (by decide +kernel)) (by decide +kernel) hx2 ?_
                          refine J_sload_n dL_law_789 rfl rfl ?_
                          refine J_iload_n dL_law_790 rfl rfl ?_
                          refine J_iconst (v := 3) dL_law_791 (by decide) ?_
                          refine J_iadd (z := 3) dL_law_792 (by decide +kernel) ?_
                          refine L_sld (i2 := 3) (v := 5) dL_law_793 (jin (by decide +kernel)) (by decide +kernel) hx3 ?_
                          refine J_callV (st := [.long 0]) dL_law_794 cv_L_98 (c_X12_rows_9 H0_98 H0_100 H0_111 H0_114 H0_116 H0_127 H0_128) H0_98 rfl rfl (Nat.le_of_ble_eq_true rfl) ⟨(Nat.le_of_ble_eq_true rfl), (Nat.le_of_ble_eq_true rfl)⟩ ⟨(Nat.le_of_ble_eq_true rfl), (Nat.le_of_ble_eq_true rfl)⟩ (fun r h9 hp => ?_)
                          obtain ⟨rfl, rfl⟩ := hp
                          refine J_nf (nh2 := 136) (ck2 := 136) (sk2 := 415528) (st2 := [.long 0, .long 0]) rfl rfl rfl rfl ?_
                          refine J_app (L3 := [(127, .inl (1, 1260, .inr (.inl (vp_updL (vp_updL (vp_updL (vp_updL (vp_updL (vp_updL (fun _ => 0) 0 1) 0 0) 0 0) 0 0) 0 0) 0 0)))), (128, .inl (1, 1260, .inr (.inl (vp_updL (vp_updL (vp_updL (vp_updL (vp_updL (fun _ => 0) 0 0) 0 0) 0 0) 0 0) 0 0)))), (114, .inl (0, 1260, .inl (upd (fun _ => 0) 0 0))), (116, .inl (0, 1260, .inl (upd (fun _ => 0) 0 0))), (98, .inr (12, [.int 0, .int 0, .ref 99, .ref 100, .ref 101, .ref 102, .ref 103, .ref 104, .ref 105, .int 0, .int (-1), .ref 106, .ref 107, .ref 108, .int 0, .int 0, .int 0, .int 0, .int 0, .int 0, .int 0, .ref 109, .int 0, .int 0, .ref 110, .ref 111, .ref 112, .ref 113, .ref 114, .ref 115, .ref 116, .ref 117, .int 1, .int 0, .int 0, .int 0, .ref 118, .ref 119, .ref 120, .ref 121, .ref 122, .ref 123, .ref 124, .ref 125, .ref 126, .ref 127, .ref 128, .ref 129, .int 0, .ref 130, .ref 131, .ref 132, .ref 133, .ref 134, .int 0, .int 0])), (111, .inl (0, 1260, .inl (upd (fun _ => 0) 0 0))), (65, .inr (10, [.ref 51, .ref 57, .ref 66, .ref 67, .ref 68, .int 0, .int (-1), .int (-1), .ref 69, .ref 70, .ref 71, .ref 72, .int 0, .int (-1), .int (-1), .ref 74, .ref 73])), (74, .inl (1, 1260, .inr (.inl (vp_updL (vp_updL (vp_updL (fun _ => 0) 0 0) 0 0) 0 0)))), (73, .inl (1, 1260, .inr (.inl (vp_updL (vp_updL (vp_updL (vp_updL (fun _ => 0) 0 0) 0 1) 0 0) 0 0)))), (62, .inl (0, 1260, .inl (upd (upd (fun _ => 0) 0 (-1)) 0 0))), (57, .inr (9, [.ref 1, .ref 51, .ref 58, .ref 61, .ref 62, .ref 135, .ref 64, .int 0, .int 0, .int 0])), (135, .inl (0, 22, .inl (fun _ => 0))), (59, .inl (0, 8, .inl (upd (upd (fun _ => 0) 6 0) 7 0)))]) rfl ?_
                          refine J_lcmp (z := 0) dL_law_797 (by decide +kernel) ?_
                          refine J_if_eq (tgt := 1221) dL_law_798 (by decide) (fun _ => ?_) (fun q => absurd (by decide +kernel) q)
                          exact law_tail (Nat.le_of_ble_eq_true rfl) (Nat.le_of_ble_eq_true rfl)
                        · rcases i_cut x3.toInt 7 with h_12 | h_12
                          · obtain rfl : x1 = 0 := by rw [fa_eq, kc_0]; omega
                            obtain rfl : x2 = (-1) := by rw [fa_eq, kc_m1]; omega
                            obtain rfl : x3 = 6 := by rw [fa_eq, kc_6]; omega
                            refine J_hc0 ?_
                            refine J_aload_n dL_law_759 rfl rfl ?_
                            refine J_sload_n dL_law_760 rfl rfl ?_
                            refine J_iload_n dL_law_761 rfl rfl ?_
                            refine J_iconst (v := 1) dL_law_762 (by decide) ?_
                            refine J_iadd (z := 1) dL_law_763 (by decide +kernel) ?_
                            refine L_sld (i2 := 1) (v := 0) dL_law_764 (jin (by decide +kernel)) (by decide +kernel) hx1 ?_
                            refine J_sload_n dL_law_765 rfl rfl ?_
                            refine J_iload_n dL_law_766 rfl rfl ?_
                            refine J_iconst (v := 2) dL_law_767 (by decide) ?_
                            refine J_iadd (z := 2) dL_law_768 (by decide +kernel) ?_
                            refine L_sld (i2 := 2) (v := (-1)) dL_law_769 (jin (by decide +kernel)) (by decide +kernel) hx2 ?_
                            refine J_sload_n dL_law_770 rfl rfl ?_
                            refine J_iload_n dL_law_771 rfl rfl ?_
                            refine J_iconst (v := 3) dL_law_772 (by decide) ?_
                            refine J_iadd (z := 3) dL_law_773 (by decide +kernel) ?_
                            refine L_sld (i2 := 3) (v := 6) dL_law_774 (jin (by decide +kernel)) (by decide +kernel) hx3 ?_
                            refine J_callV (st := []) dL_law_775 cv_L_94 (c_X11_rows_10 H0_0 H0_1 H0_3 H0_51 H0_52 H0_57 H0_58 H0_59 H0_62 H0_63 H0_65 H0_73 H0_74) H0_0 rfl rfl (Nat.le_of_ble_eq_true rfl) ⟨(Nat.le_of_ble_eq_true rfl), (Nat.le_of_ble_eq_true rfl)⟩ ⟨(Nat.le_of_ble_eq_true rfl), (Nat.le_of_ble_eq_true rfl)⟩ (fun r h9 hp => ?_)
                            obtain ⟨rfl, rfl⟩ := hp
                            refine J_nf (nh2 := 136) (ck2 := 136) (sk2 := 415528) (st2 := [.long 0]) rfl rfl rfl rfl ?_
                            refine J_app (L3 := [(65, .inr (10, [.ref 51, .ref 57, .ref 66, .ref 67, .ref 68, .int 0, .int (-1), .int (-1), .ref 69, .ref 70, .ref 71, .ref 72, .int 0, .int (-1), .int (-1), .ref 73, .ref 74])), (73, .inl (1, 1260, .inr (.inl (vp_updL (vp_updL (vp_updL (vp_updL (vp_updL (fun _ => 0) 0 0) 0 1) 0 0) 0 0) 0 0)))), (74, .inl (1, 1260, .inr (.inl (vp_updL (vp_updL (vp_updL (fun _ => 0) 0 0) 0 0) 0 0)))), (62, .inl (0, 1260, .inl (upd (upd (fun _ => 0) 0 (-1)) 0 0))), (57, .inr (9, [.ref 1, .ref 51, .ref 58, .ref 61, .ref 62, .ref 135, .ref 64, .int 0, .int 0, .int 0])), (135, .inl (0, 22, .inl (fun _ => 0))), (59, .inl (0, 8, .inl (upd (upd (fun _ => 0) 6 0) 7 0)))]) rfl ?_
                            refine J_aload_n dL_law_778 rfl rfl ?_
                            refine J_sload_n dL_law_779 rfl rfl ?_
                            refine J_iload_n dL_law_780 rfl rfl ?_
                            refine J_iconst (v := 1) dL_law_781 (by decide) ?_
                            refine J_iadd (z := 1) dL_law_782 (by decide +kernel) ?_
                            refine L_sld (i2 := 1) (v := 0) dL_law_783 (jin (by decide +kernel)) (by decide +kernel) hx1 ?_
                            refine J_sload_n dL_law_784 rfl rfl ?_
                            refine J_iload_n dL_law_785 rfl rfl ?_
                            refine J_iconst (v := 2) dL_law_786 (by decide) ?_
                            refine J_iadd (z := 2) dL_law_787 (by decide +kernel) ?_
                            refine L_sld (i2 := 2) (v := (-1)) dL_law_788 (jin (by decide +kernel)) (by decide +kernel) hx2 ?_
                            refine J_sload_n dL_law_789 rfl rfl ?_
                            refine J_iload_n dL_law_790 rfl rfl ?_
                            refine J_iconst (v := 3) dL_law_791 (by decide) ?_
                            refine J_iadd (z := 3) dL_law_792 (by decide +kernel) ?_
                            refine L_sld (i2 := 3) (v := 6) dL_law_793 (jin (by decide +kernel)) (by decide +kernel) hx3 ?_
                            refine J_callV (st := [.long 0]) dL_law_794 cv_L_98 (c_X12_rows_10 H0_98 H0_100 H0_111 H0_114 H0_116 H0_127 H0_128) H0_98 rfl rfl (Nat.le_of_ble_eq_true rfl) ⟨(Nat.le_of_ble_eq_true rfl), (Nat.le_of_ble_eq_true rfl)⟩ ⟨(Nat.le_of_ble_eq_true rfl), (Nat.le_of_ble_eq_true rfl)⟩ (fun r h9 hp => ?_)
                            obtain ⟨rfl, rfl⟩ := hp
                            refine J_nf (nh2 := 136) (ck2 := 136) (sk2 := 415528) (st2 := [.long 0, .long 0]) rfl rfl rfl rfl ?_
                            refine J_app (L3 := [(127, .inl (1, 1260, .inr (.inl (vp_updL (vp_updL (vp_updL (vp_updL (vp_updL (vp_updL (vp_updL (fun _ => 0) 0 1) 0 0) 0 0) 0 0) 0 0) 0 0) 0 0)))), (128, .inl (1, 1260, .inr (.inl (vp_updL (vp_updL (vp_updL (vp_updL (vp_updL (vp_updL (fun _ => 0) 0 0) 0 0) 0 0) 0 0) 0 0) 0 0)))), (114, .inl (0, 1260, .inl (upd (fun _ => 0) 0 0))), (116, .inl (0, 1260, .inl (upd (fun _ => 0) 0 0))), (98, .inr (12, [.int 0, .int 0, .ref 99, .ref 100, .ref 101, .ref 102, .ref 103, .ref 104, .ref 105, .int 0, .int (-1), .ref 106, .ref 107, .ref 108, .int 0, .int 0, .int 0, .int 0, .int 0, .int 0, .int 0, .ref 109, .int 0, .int 0, .ref 110, .ref 111, .ref 112, .ref 113, .ref 114, .ref 115, .ref 116, .ref 117, .int 1, .int 0, .int 0, .int 0, .ref 118, .ref 119, .ref 120, .ref 121, .ref 122, .ref 123, .ref 124, .ref 125, .ref 126, .ref 127, .ref 128, .ref 129, .int 0, .ref 130, .ref 131, .ref 132, .ref 133, .ref 134, .int 0, .int 0])), (111, .inl (0, 1260, .inl (upd (fun _ => 0) 0 0))), (65, .inr (10, [.ref 51, .ref 57, .ref 66, .ref 67, .ref 68, .int 0, .int (-1), .int (-1), .ref 69, .ref 70, .ref 71, .ref 72, .int 0, .int (-1), .int (-1), .ref 73, .ref 74])), (73, .inl (1, 1260, .inr (.inl (vp_updL (vp_updL (vp_updL (vp_updL (vp_updL (fun _ => 0) 0 0) 0 1) 0 0) 0 0) 0 0)))), (74, .inl (1, 1260, .inr (.inl (vp_updL (vp_updL (vp_updL (fun _ => 0) 0 0) 0 0) 0 0)))), (62, .inl (0, 1260, .inl (upd (upd (fun _ => 0) 0 (-1)) 0 0))), (57, .inr (9, [.ref 1, .ref 51, .ref 58, .ref 61, .ref 62, .ref 135, .ref 64, .int 0, .int 0, .int 0])), (135, .inl (0, 22, .inl (fun _ => 0))), (59, .inl (0, 8, .inl (upd (upd (fun _ => 0) 6 0) 7 0)))]) rfl ?_
                            refine J_lcmp (z := 0) dL_law_797 (by decide +kernel) ?_
                            refine J_if_eq (tgt := 1221) dL_law_798 (by decide) (fun _ => ?_) (fun q => absurd (by decide +kernel) q)
                            exact law_tail (Nat.le_of_ble_eq_true rfl) (Nat.le_of_ble_eq_true rfl)
                          · rcases i_cut x3.toInt 8 with h_13 | h_13
                            · obtain rfl : x1 = 0 := by rw [fa_eq, kc_0]; omega
                              obtain rfl : x2 = (-1) := by rw [fa_eq, kc_m1]; omega
                              obtain rfl : x3 = 7 := by rw [fa_eq, kc_7]; omega
                              refine J_hc0 ?_
                              refine J_aload_n dL_law_759 rfl rfl ?_
                              refine J_sload_n dL_law_760 rfl rfl ?_
                              refine J_iload_n dL_law_761 rfl rfl ?_
                              refine J_iconst (v := 1) dL_law_762 (by decide) ?_
                              refine J_iadd (z := 1) dL_law_763 (by decide +kernel) ?_
                              refine L_sld (i2 := 1) (v := 0) dL_law_764 (jin (by decide +kernel)) (by decide +kernel) hx1 ?_
                              refine J_sload_n dL_law_765 rfl rfl ?_
                              refine J_iload_n dL_law_766 rfl rfl ?_
                              refine J_iconst (v := 2) dL_law_767 (by decide) ?_
                              refine J_iadd (z := 2) dL_law_768 (by decide +kernel) ?_
                              refine L_sld (i2 := 2) (v := (-1)) dL_law_769 (jin (by decide +kernel)) (by decide +kernel) hx2 ?_
                              refine J_sload_n dL_law_770 rfl rfl ?_
                              refine J_iload_n dL_law_771 rfl rfl ?_
                              refine J_iconst (v := 3) dL_law_772 (by decide) ?_
                              refine J_iadd (z := 3) dL_law_773 (by decide +kernel) ?_
                              refine L_sld (i2 := 3) (v := 7) dL_law_774 (jin (by decide +kernel)) (by decide +kernel) hx3 ?_
                              refine J_callV (st := []) dL_law_775 cv_L_94 (c_X11_rows_11 H0_0 H0_1 H0_3 H0_51 H0_52 H0_57 H0_58 H0_59 H0_62 H0_63 H0_65 H0_73 H0_74) H0_0 rfl rfl (Nat.le_of_ble_eq_true rfl) ⟨(Nat.le_of_ble_eq_true rfl), (Nat.le_of_ble_eq_true rfl)⟩ ⟨(Nat.le_of_ble_eq_true rfl), (Nat.le_of_ble_eq_true rfl)⟩ (fun r h9 hp => ?_)
                              obtain ⟨rfl, rfl⟩ := hp
                              refine J_nf (nh2 := 136) (ck2 := 136) (sk2 := 415528) (st2 := [.long 0]) rfl rfl rfl rfl ?_
                              refine J_app (L3 := [(65, .inr (10, [.ref 51, .ref 57, .ref 66, .ref 67, .ref 68, .int 0, .int (-1), .int (-1), .ref 69, .ref 70, .ref 71, .ref 72, .int 0, .int (-1), .int (-1), .ref 74, .ref 73])), (74, .inl (1, 1260, .inr (.inl (vp_updL (vp_updL (vp_updL (vp_updL (fun _ => 0) 0 0) 0 0) 0 0) 0 0)))), (73, .inl (1, 1260, .inr (.inl (vp_updL (vp_updL (vp_updL (vp_updL (vp_updL (fun _ => 0) 0 0) 0 1) 0 0) 0 0) 0 0)))), (62, .inl (0, 1260, .inl (upd (upd (fun _ => 0) 0 (-1)) 0 0))), (57, .inr (9, [.ref 1, .ref 51, .ref 58, .ref 61, .ref 62, .ref 135, .ref 64, .int 0, .int 0, .int 0])), (135, .inl (0, 22, .inl (fun _ => 0))), (59, .inl (0, 8, .inl (upd (upd (fun _ => 0) 6 0) 7 0)))]) rfl ?_
                              refine J_aload_n dL_law_778 rfl rfl ?_
                              refine J_sload_n dL_law_779 rfl rfl ?_
                              refine J_iload_n dL_law_780 rfl rfl ?_
                              refine J_iconst (v := 1) dL_law_781 (by decide) ?_
                              refine J_iadd (z := 1) dL_law_782 (by decide +kernel) ?_
                              refine L_sld (i2 := 1) (v := 0) dL_law_783 (jin (by decide +kernel)) (by decide +kernel) hx1 ?_
                              refine J_sload_n dL_law_784 rfl rfl ?_
                              refine J_iload_n dL_law_785 rfl rfl ?_
                              refine J_iconst (v := 2) dL_law_786 (by decide) ?_
                              refine J_iadd (z := 2) dL_law_787 (by decide +kernel) ?_
                              refine L_sld (i2 := 2) (v := (-1)) dL_law_788 (jin (by decide +kernel)) (by decide +kernel) hx2 ?_
                              refine J_sload_n dL_law_789 rfl rfl ?_
                              refine J_iload_n dL_law_790 rfl rfl ?_
                              refine J_iconst (v := 3) dL_law_791 (by decide) ?_
                              refine J_iadd (z := 3) dL_law_792 (by decide +kernel) ?_
                              refine L_sld (i2 := 3) (v := 7) dL_law_793 (jin (by decide +kernel)) (by decide +kernel) hx3 ?_
                              refine J_callV (st := [.long 0]) dL_law_794 cv_L_98 (c_X12_rows_11 H0_98 H0_100 H0_111 H0_114 H0_116 H0_127 H0_128) H0_98 rfl rfl (Nat.le_of_ble_eq_true rfl) ⟨(Nat.le_of_ble_eq_true rfl), (Nat.le_of_ble_eq_true rfl)⟩ ⟨(Nat.le_of_ble_eq_true rfl), (Nat.le_of_ble_eq_true rfl)⟩ (fun r h9 hp => ?_)
                              obtain ⟨rfl, rfl⟩ := hp
                              refine J_nf (nh2 := 136) (ck2 := 136) (sk2 := 415528) (st2 := [.long 0, .long 0]) rfl rfl rfl rfl ?_
                              refine J_app (L3 := [(127, .inl (1, 1260, .inr (.inl (vp_updL (vp_updL (vp_updL (vp_updL (vp_updL (vp_updL (vp_updL (vp_updL (fun _ => 0) 0 1) 0 0) 0 0) 0 0) 0 0) 0 0) 0 0) 0 0)))), (128, .inl (1, 1260, .inr (.inl (vp_updL (vp_updL (vp_updL (vp_updL (vp_updL (vp_updL (vp_updL (fun _ => 0) 0 0) 0 0) 0 0) 0 0) 0 0) 0 0) 0 0)))), (114, .inl (0, 1260, .inl (upd (fun _ => 0) 0 0))), (116, .inl (0, 1260, .inl (upd (fun _ => 0) 0 0))), (98, .inr (12, [.int 0, .int 0, .ref 99, .ref 100, .ref 101, .ref 102, .ref 103, .ref 104, .ref 105, .int 0, .int (-1), .ref 106, .ref 107, .ref 108, .int 0, .int 0, .int 0, .int 0, .int 0, .int 0, .int 0, .ref 109, .int 0, .int 0, .ref 110, .ref 111, .ref 112, .ref 113, .ref 114, .ref 115, .ref 116, .ref 117, .int 1, .int 0, .int 0, .int 0, .ref 118, .ref 119, .ref 120, .ref 121, .ref 122, .ref 123, .ref 124, .ref 125, .ref 126, .ref 127, .ref 128, .ref 129, .int 0, .ref 130, .ref 131, .ref 132, .ref 133, .ref 134, .int 0, .int 0])), (111, .inl (0, 1260, .inl (upd (fun _ => 0) 0 0))), (65, .inr (10, [.ref 51, .ref 57, .ref 66, .ref 67, .ref 68, .int 0, .int (-1), .int (-1), .ref 69, .ref 70, .ref 71, .ref 72, .int 0, .int (-1), .int (-1), .ref 74, .ref 73])), (74, .inl (1, 1260, .inr (.inl (vp_updL (vp_updL (vp_updL (vp_updL (fun _ => 0) 0 0) 0 0) 0 0) 0 0)))), (73, .inl (1, 1260, .inr (.inl (vp_updL (vp_updL (vp_updL (vp_updL (vp_updL (fun _ => 0) 0 0) 0 1) 0 0) 0 0) 0 0)))), (62, .inl (0, 1260, .inl (upd (upd (fun _ => 0) 0 (-1)) 0 0))), (57, .inr (9, [.ref 1, .ref 51, .ref 58, .ref 61, .ref 62, .ref 135, .ref 64, .int 0, .int 0, .int 0])), (135, .inl (0, 22, .inl (fun _ => 0))), (59, .inl (0, 8, .inl (upd (upd (fun _ => 0) 6 0) 7 0)))]) rfl ?_
                              refine J_lcmp (z := 0) dL_law_797 (by decide +kernel) ?_
                              refine J_if_eq (tgt := 1221) dL_law_798 (by decide) (fun _ => ?_) (fun q => absurd (by decide +kernel) q)
                              exact law_tail (Nat.le_of_ble_eq_true rfl) (Nat.le_of_ble_eq_true rfl)
                            · rcases i_cut x3.toInt 9 with h_14 | h_14
                              · obtain rfl : x1 = 0 := by rw [fa_eq, kc_0]; omega
                                obtain rfl : x2 = (-1) := by rw [fa_eq, kc_m1]; omega
                                obtain rfl : x3 = 8 := by rw [fa_eq, kc_8]; omega
                                refine J_hc0 ?_
                                refine J_aload_n dL_law_759 rfl rfl ?_
                                refine J_sload_n dL_law_760 rfl rfl ?_
                                refine J_iload_n dL_law_761 rfl rfl ?_
                                refine J_iconst (v := 1) dL_law_762 (by decide) ?_
                                refine J_iadd (z := 1) dL_law_763 (by decide +kernel) ?_
                                refine L_sld (i2 := 1) (v := 0) dL_law_764 (jin (by decide +kernel)) (by decide +kernel) hx1 ?_
                                refine J_sload_n dL_law_765 rfl rfl ?_
                                refine J_iload_n dL_law_766 rfl rfl ?_
                                refine J_iconst (v := 2) dL_law_767 (by decide) ?_
                                refine J_iadd (z := 2) dL_law_768 (by decide +kernel) ?_
                                refine L_sld (i2 := 2) (v := (-1)) dL_law_769 (jin (by decide +kernel)) (by decide +kernel) hx2 ?_
                                refine J_sload_n dL_law_770 rfl rfl ?_
                                refine J_iload_n dL_law_771 rfl rfl ?_
                                refine J_iconst (v := 3) dL_law_772 (by decide) ?_
                                refine J_iadd (z := 3) dL_law_773 (by decide +kernel) ?_
                                refine L_sld (i2 := 3) (v := 8) dL_law_774 (jin (by decide +kernel)) (by decide +kernel) hx3 ?_
                                refine J_callV (st := []) dL_law_775 cv_L_94 (c_X11_rows_12 H0_0 H0_1 H0_3 H0_51 H0_52 H0_57 H0_58 H0_59 H0_62 H0_63 H0_65 H0_73 H0_74) H0_0 rfl rfl (Nat.le_of_ble_eq_true rfl) ⟨(Nat.le_of_ble_eq_true rfl), (Nat.le_of_ble_eq_true rfl)⟩ ⟨(Nat.le_of_ble_eq_true rfl), (Nat.le_of_ble_eq_true rfl)⟩ (fun r h9 hp => ?_)
                                obtain ⟨rfl, rfl⟩ := hp
                                refine J_nf (nh2 := 136) (ck2 := 136) (sk2 := 415528) (st2 := [.long 0]) rfl rfl rfl rfl ?_
                                refine J_app (L3 := [(65, .inr (10, [.ref 51, .ref 57, .ref 66, .ref 67, .ref 68, .int 0, .int (-1), .int (-1), .ref 69, .ref 70, .ref 71, .ref 72, .int 0, .int (-1), .int (-1), .ref 73, .ref 74])), (73, .inl (1, 1260, .inr (.inl (vp_updL (vp_updL (vp_updL (vp_updL (vp_updL (vp_updL (fun _ => 0) 0 0) 0 1) 0 0) 0 0) 0 0) 0 0)))), (74, .inl (1, 1260, .inr (.inl (vp_updL (vp_updL (vp_updL (vp_updL (fun _ => 0) 0 0) 0 0) 0 0) 0 0)))), (62, .inl (0, 1260, .inl (upd (upd (fun _ => 0) 0 (-1)) 0 0))), (57, .inr (9, [.ref 1, .ref 51, .ref 58, .ref 61, .ref 62, .ref 135, .ref 64, .int 0, .int 0, .int 0])), (135, .inl (0, 22, .inl (fun _ => 0))), (59, .inl (0, 8, .inl (upd (upd (fun _ => 0) 6 0) 7 0)))]) rfl ?_
                                refine J_aload_n dL_law_778 rfl rfl ?_
                                refine J_sload_n dL_law_779 rfl rfl ?_
                                refine J_iload_n dL_law_780 rfl rfl ?_
                                refine J_iconst (v := 1) dL_law_781 (by decide) ?_
                                refine J_iadd (z := 1) dL_law_782 (by decide +kernel) ?_
                                refine L_sld (i2 := 1) (v := 0) dL_law_783 (jin (by decide +kernel)) (by decide +kernel) hx1 ?_
                                refine J_sload_n dL_law_784 rfl rfl ?_
                                refine J_iload_n dL_law_785 rfl rfl ?_
                                refine J_iconst (v := 2) dL_law_786 (by decide) ?_
                                refine J_iadd (z := 2) dL_law_787 (by decide +kernel) ?_
                                refine L_sld (i2 := 2) (v := (-1)) dL_law_788 (jin (by decide +kernel)) (by decide +kernel) hx2 ?_
                                refine J_sload_n dL_law_789 rfl rfl ?_
                                refine J_iload_n dL_law_790 rfl rfl ?_
                                refine J_iconst (v := 3) dL_law_791 (by decide) ?_
                                refine J_iadd (z := 3) dL_law_792 (by decide +kernel) ?_
                                refine L_sld (i2 := 3) (v := 8) dL_law_793 (jin (by decide +kernel)) (by decide +kernel) hx3 ?_
                                refine J_callV (st := [.long 0]) dL_law_794 cv_L_98 (c_X12_rows_12 H0_98 H0_100 H0_111 H0_114 H0_116 H0_127 H0_128) H0_98 rfl rfl (Nat.le_of_ble_eq_true rfl) ⟨(Nat.le_of_ble_eq_true rfl), (Nat.le_of_ble_eq_true rfl)⟩ ⟨(Nat.le_of_ble_eq_true rfl), (Nat.le_of_ble_eq_true rfl)⟩ (fun r h9 hp => ?_)
                                obtain ⟨rfl, rfl⟩ := hp
                                refine J_nf (nh2 := 136) (ck2 := 136) (sk2 := 415528) (st2 := [.long 0, .long 0]) rfl rfl rfl rfl ?_
                                refine J_app (L3 := [(127, .inl (1, 1260, .inr (.inl (vp_updL (vp_updL (vp_updL (vp_updL (vp_updL (vp_updL (vp_updL (vp_updL (vp_updL (fun _ => 0) 0 1) 0 0) 0 0) 0 0) 0 0) 0 0) 0 0) 0 0) 0 0)))), (128, .inl (1, 1260, .inr (.inl (vp_updL (vp_updL (vp_updL (vp_updL (vp_updL (vp_updL (vp_updL (vp_updL (fun _ => 0) 0 0) 0 0) 0 0) 0 0) 0 0) 0 0) 0 0) 0 0)))), (114, .inl (0, 1260, .inl (upd (fun _ => 0) 0 0))), (116, .inl (0, 1260, .inl (upd (fun _ => 0) 0 0))), (98, .inr (12, [.int 0, .int 0, .ref 99, .ref 100, .ref 101, .ref 102, .ref 103, .ref 104, .ref 105, .int 0, .int (-1), .ref 106, .ref 107, .ref 108, .int 0, .int 0, .int 0, .int 0, .int 0, .int 0, .int 0, .ref 109, .int 0, .int 0, .ref 110, .ref 111, .ref 112, .ref 113, .ref 114, .ref 115, .ref 116, .ref 117, .int 1, .int 0, .int 0, .int 0, .ref 118, .ref 119, .ref 120, .ref 121, .ref 122, .ref 123, .ref 124, .ref 125, .ref 126, .ref 127, .ref 128, .ref 129, .int 0, .ref 130, .ref 131, .ref 132, .ref 133, .ref 134, .int 0, .int 0])), (111, .inl (0, 1260, .inl (upd (fun _ => 0) 0 0))), (65, .inr (10, [.ref 51, .ref 57, .ref 66, .ref 67, .ref 68, .int 0, .int (-1), .int (-1), .ref 69, .ref 70, .ref 71, .ref 72, .int 0, .int (-1), .int (-1), .ref 73, .ref 74])), (73, .inl (1, 1260, .inr (.inl (vp_updL (vp_updL (vp_updL (vp_updL (vp_updL (vp_updL (fun _ => 0) 0 0) 0 1) 0 0) 0 0) 0 0) 0 0)))), (74, .inl (1, 1260, .inr (.inl (vp_updL (vp_updL (vp_updL (vp_updL (fun _ => 0) 0 0) 0 0) 0 0) 0 0)))), (62, .inl (0, 1260, .inl (upd (upd (fun _ => 0) 0 (-1)) 0 0))), (57, .inr (9, [.ref 1, .ref 51, .ref 58, .ref 61, .ref 62, .ref 135, .ref 64, .int 0, .int 0, .int 0])), (135, .inl (0, 22, .inl (fun _ => 0))), (59, .inl (0, 8, .inl (upd (upd (fun _ => 0) 6 0) 7 0)))]) rfl ?_
                                refine J_lcmp (z := 0) dL_law_797 (by decide +kernel) ?_
                                refine J_if_eq (tgt := 1221) dL_law_798 (by decide) (fun _ => ?_) (fun q => absurd (by decide +kernel) q)
                                exact law_tail (Nat.le_of_ble_eq_true rfl) (Nat.le_of_ble_eq_true rfl)
                              · rcases i_cut x3.toInt 10 with h_15 | h_15
                                · obtain rfl : x1 = 0 := by rw [fa_eq, kc_0]; omega
                                  obtain rfl : x2 = (-1) := by rw [fa_eq, kc_m1]; omega
                                  obtain rfl : x3 = 9 := by rw [fa_eq, kc_9]; omega
                                  refine J_hc0 ?_
                                  refine J_aload_n dL_law_759 rfl rfl ?_
                                  refine J_sload_n dL_law_760 rfl rfl ?_
                                  refine J_iload_n dL_law_761 rfl rfl ?_
                                  refine J_iconst (v := 1) dL_law_762 (by decide) ?_
                                  refine J_iadd (z := 1) dL_law_763 (by decide +kernel) ?_
                                  refine L_sld (i2 := 1) (v := 0) dL_law_764 (jin (by decide +kernel)) (by decide +kernel) hx1 ?_
                                  refine J_sload_n dL_law_765 rfl rfl ?_
                                  refine J_iload_n dL_law_766 rfl rfl ?_
                                  refine J_iconst (v := 2) dL_law_767 (by decide) ?_
                                  refine J_iadd (z := 2) dL_law_768 (by decide +kernel) ?_
                                  refine L_sld (i2 := 2) (v := (-1)) dL_law_769 (jin (by decide +kernel)) (by decide +kernel) hx2 ?_
                                  refine J_sload_n dL_law_770 rfl rfl ?_
                                  refine J_iload_n dL_law_771 rfl rfl ?_
                                  refine J_iconst (v := 3) dL_law_772 (by decide) ?_
                                  refine J_iadd (z := 3) dL_law_773 (by decide +kernel) ?_
                                  refine L_sld (i2 := 3) (v := 9) dL_law_774 (jin (by decide +kernel)) (by decide +kernel) hx3 ?_
                                  refine J_callV (st := []) dL_law_775 cv_L_94 (c_X11_rows_13 H0_0 H0_1 H0_3 H0_51 H0_52 H0_57 H0_58 H0_59 H0_62 H0_63 H0_65 H0_73 H0_74) H0_0 rfl rfl (Nat.le_of_ble_eq_true rfl) ⟨(Nat.le_of_ble_eq_true rfl), (Nat.le_of_ble_eq_true rfl)⟩ ⟨(Nat.le_of_ble_eq_true rfl), (Nat.le_of_ble_eq_true rfl)⟩ (fun r h9 hp => ?_)
                                  obtain ⟨rfl, rfl⟩ := hp
                                  refine J_nf (nh2 := 136) (ck2 := 136) (sk2 := 415528) (st2 := [.long 0]) rfl rfl rfl rfl ?_
                                  refine J_app (L3 := [(65, .inr (10, [.ref 51, .ref 57, .ref 66, .ref 67, .ref 68, .int 0, .int (-1), .int (-1), .ref 69, .ref 70, .ref 71, .ref 72, .int 0, .int (-1), .int (-1), .ref 74, .ref 73])), (74, .inl (1, 1260, .inr (.inl (vp_updL (vp_updL (vp_updL (vp_updL (vp_updL (fun _ => 0) 0 0) 0 0) 0 0) 0 0) 0 0)))), (73, .inl (1, 1260, .inr (.inl (vp_updL (vp_updL (vp_updL (vp_updL (vp_updL (vp_updL (fun _ => 0) 0 0) 0 1) 0 0) 0 0) 0 0) 0 0)))), (62, .inl (0, 1260, .inl (upd (upd (fun _ => 0) 0 (-1)) 0 0))), (57, .inr (9, [.ref 1, .ref 51, .ref 58, .ref 61, .ref 62, .ref 135, .ref 64, .int 0, .int 0, .int 0])), (135, .inl (0, 22, .inl (fun _ => 0))), (59, .inl (0, 8, .inl (upd (upd (fun _ => 0) 6 0) 7 0)))]) rfl ?_
                                  refine J_aload_n dL_law_778 rfl rfl ?_
                                  refine J_sload_n dL_law_779 rfl rfl ?_
                                  refine J_iload_n dL_law_780 rfl rfl ?_
                                  refine J_iconst (v := 1) dL_law_781 (by decide) ?_
                                  refine J_iadd (z := 1) dL_law_782 (by decide +kernel) ?_
                                  refine L_sld (i2 := 1) (v := 0) dL_law_783 (jin (by decide +kernel)) (by decide +kernel) hx1 ?_
                                  refine J_sload_n dL_law_784 rfl rfl ?_
                                  refine J_iload_n dL_law_785 rfl rfl ?_
                                  refine J_iconst (v := 2) dL_law_786 (by decide) ?_
                                  refine J_iadd (z := 2) dL_law_787 (by decide +kernel) ?_
                                  refine L_sld (i2 := 2) (v := (-1)) dL_law_788 (jin (by decide +kernel)) (by decide +kernel) hx2 ?_
                                  refine J_sload_n dL_law_789 rfl rfl ?_
                                  refine J_iload_n dL_law_790 rfl rfl ?_
                                  refine J_iconst (v := 3) dL_law_791 (by decide) ?_
                                  refine J_iadd (z := 3) dL_law_792 (by decide +kernel) ?_
                                  refine L_sld (i2 := 3) (v := 9) dL_law_793 (jin (by decide +kernel)) (by decide +kernel) hx3 ?_
                                  refine J_callV (st := [.long 0]) dL_law_794 cv_L_98 (c_X12_rows_13 H0_98 H0_100 H0_111 H0_114 H0_116 H0_127 H0_128) H0_98 rfl rfl (Nat.le_of_ble_eq_true rfl) ⟨(Nat.le_of_ble_eq_true rfl), (Nat.le_of_ble_eq_true rfl)⟩ ⟨(Nat.le_of_ble_eq_true rfl), (Nat.le_of_ble_eq_true rfl)⟩ (fun r h9 hp => ?_)
                                  obtain ⟨rfl, rfl⟩ := hp
                                  refine J_nf (nh2 := 136) (ck2 := 136) (sk2 := 415528) (st2 := [.long 0, .long 0]) rfl rfl rfl rfl ?_
                                  refine J_app (L3 := [(127, .inl (1, 1260, .inr (.inl (vp_updL (vp_updL (vp_updL (vp_updL (vp_updL (vp_updL (vp_updL (vp_updL (vp_updL (vp_updL (fun _ => 0) 0 1) 0 0) 0 0) 0 0) 0 0) 0 0) 0 0) 0 0) 0 0) 0 0)))), (128, .inl (1, 1260, .inr (.inl (vp_updL (vp_updL (vp_updL (vp_updL (vp_updL (vp_updL (vp_updL (vp_updL (vp_updL (fun _ => 0) 0 0) 0 0) 0 0) 0 0) 0 0) 0 0) 0 0) 0 0) 0 0)))), (114, .inl (0, 1260, .inl (upd (fun _ => 0) 0 0))), (116, .inl (0, 1260, .inl (upd (fun _ => 0) 0 0))), (98, .inr (12, [.int 0, .int 0, .ref 99, .ref 100, .ref 101, .ref 102, .ref 103, .ref 104, .ref 105, .int 0, .int (-1), .ref 106, .ref 107, .ref 108, .int 0, .int 0, .int 0, .int 0, .int 0, .int 0, .int 0, .ref 109, .int 0, .int 0, .ref 110, .ref 111, .ref 112, .ref 113, .ref 114, .ref 115, .ref 116, .ref 117, .int 1, .int 0, .int 0, .int 0, .ref 118, .ref 119, .ref 120, .ref 121, .ref 122, .ref 123, .ref 124, .ref 125, .ref 126, .ref 127, .ref 128, .ref 129, .int 0, .ref 130, .ref 131, .ref 132, .ref 133, .ref 134, .int 0, .int 0])), (111, .inl (0, 1260, .inl (upd (fun _ => 0) 0 0))), (65, .inr (10, [.ref 51, .ref 57, .ref 66, .ref 67, .ref 68, .int 0, .int (-1), .int (-1), .ref 69, .ref 70, .ref 71, .ref 72, .int 0, .int (-1), .int (-1), .ref 74, .ref 73])), (74, .inl (1, 1260, .inr (.inl (vp_updL (vp_updL (vp_updL (vp_updL (vp_updL (fun _ => 0) 0 0) 0 0) 0 0) 0 0) 0 0)))), (73, .inl (1, 1260, .inr (.inl (vp_updL (vp_updL (vp_updL (vp_updL (vp_updL (vp_updL (fun _ => 0) 0 0) 0 1) 0 0) 0 0) 0 0) 0 0)))), (62, .inl (0, 1260, .inl (upd (upd (fun _ => 0) 0 (-1)) 0 0))), (57, .inr (9, [.ref 1, .ref 51, .ref 58, .ref 61, .ref 62, .ref 135, .ref 64, .int 0, .int 0, .int 0])), (135, .inl (0, 22, .inl (fun _ => 0))), (59, .inl (0, 8, .inl (upd (upd (fun _ => 0) 6 0) 7 0)))]) rfl ?_
                                  refine J_lcmp (z := 0) dL_law_797 (by decide +kernel) ?_
                                  refine J_if_eq (tgt := 1221) dL_law_798 (by decide) (fun _ => ?_) (fun q => absurd (by decide +kernel) q)
                                  exact law_tail (Nat.le_of_ble_eq_true rfl) (Nat.le_of_ble_eq_true rfl)
                                · rcases i_cut x3.toInt 11 with h_16 | h_16
                                  · obtain rfl : x1 = 0 := by rw [fa_eq, kc_0]; omega
                                    obtain rfl : x2 = (-1) := by rw [fa_eq, kc_m1]; omega
                                    obtain rfl : x3 = 10 := by rw [fa_eq, kc_10]; omega
                                    refine J_hc0 ?_
                                    refine J_aload_n dL_law_759 rfl rfl ?_
                                    refine J_sload_n dL_law_760 rfl rfl ?_
                                    refine J_iload_n dL_law_761 rfl rfl ?_
                                    refine J_iconst (v := 1) dL_law_762 (by decide) ?_
                                    refine J_iadd (z := 1) dL_law_763 (by decide +kernel) ?_
                                    refine L_sld (i2 := 1) (v := 0) dL_law_764 (jin (by decide +kernel)) (by decide +kernel) hx1 ?_
                                    refine J_sload_n dL_law_765 rfl rfl ?_
                                    refine J_iload_n dL_law_766 rfl rfl ?_
                                    refine J_iconst (v := 2) dL_law_767 (by decide) ?_
                                    refine J_iadd (z := 2) dL_law_768 (by decide +kernel) ?_
                                    refine L_sld (i2 := 2) (v := (-1)) dL_law_769 (jin (by decide +kernel)) (by decide +kernel) hx2 ?_
                                    refine J_sload_n dL_law_770 rfl rfl ?_
                                    refine J_iload_n dL_law_771 rfl rfl ?_
                                    refine J_iconst (v := 3) dL_law_772 (by decide) ?_
                                    refine J_iadd (z := 3) dL_law_773 (by decide +kernel) ?_
                                    refine L_sld (i2 := 3) (v := 10) dL_law_774 (jin (by decide +kernel)) (by decide +kernel) hx3 ?_
                                    refine J_callV (st := []) dL_law_775 cv_L_94 (c_X11_rows_14 H0_0 H0_1 H0_3 H0_51 H0_52 H0_57 H0_58 H0_59 H0_62 H0_63 H0_65 H0_73 H0_74) H0_0 rfl rfl (Nat.le_of_ble_eq_true rfl) ⟨(Nat.le_of_ble_eq_true rfl), (Nat.le_of_ble_eq_true rfl)⟩ ⟨(Nat.le_of_ble_eq_true rfl), (Nat.le_of_ble_eq_true rfl)⟩ (fun r h9 hp => ?_)
                                    obtain ⟨rfl, rfl⟩ := hp
                                    refine J_nf (nh2 := 136) (ck2 := 136) (sk2 := 415528) (st2 := [.long 0]) rfl rfl rfl rfl ?_
                                    refine J_app (L3 := [(65, .inr (10, [.ref 51, .ref 57, .ref 66, .ref 67, .ref 68, .int 0, .int (-1), .int (-1), .ref 69, .ref 70, .ref 71, .ref 72, .int 0, .int (-1), .int (-1), .ref 73, .ref 74])), (73, .inl (1, 1260, .inr (.inl (vp_updL (vp_updL (vp_updL (vp_updL (vp_updL (vp_updL (vp_updL (fun _ => 0) 0 0) 0 1) 0 0) 0 0) 0 0) 0 0) 0 0)))), (74, .inl (1, 1260, .inr (.inl (vp_updL (vp_updL (vp_updL (vp_updL (vp_updL (fun _ => 0) 0 0) 0 0) 0 0) 0 0) 0 0)))), (62, .inl (0, 1260, .inl (upd (upd (fun _ => 0) 0 (-1)) 0 0))), (57, .inr (9, [.ref 1, .ref 51, .ref 58, .ref 61, .ref 62, .ref 135, .ref 64, .int 0, .int 0, .int 0])), (135, .inl (0, 22, .inl (fun _ => 0))), (59, .inl (0, 8, .inl (upd (upd (fun _ => 0) 6 0) 7 0)))]) rfl ?_
                                    refine J_aload_n dL_law_778 rfl rfl ?_
                                    refine J_sload_n dL_law_779 rfl rfl ?_
                                    refine J_iload_n dL_law_780 rfl rfl ?_
                                    refine J_iconst (v := 1) dL_law_781 (by decide) ?_
                                    refine J_iadd (z := 1) dL_law_782 (by decide +kernel) ?_
                                    refine L_sld (i2 := 1) (v := 0) dL_law_783 (jin (by decide +kernel)) (by decide +kernel) hx1 ?_
                                    refine J_sload_n dL_law_784 rfl rfl ?_
                                    refine J_iload_n dL_law_785 rfl rfl ?_
                                    refine J_iconst (v := 2) dL_law_786 (by decide) ?_
                                    refine J_iadd (z := 2) dL_law_787 (by decide +kernel) ?_
                                    refine L_sld (i2 := 2) (v := (-1)) dL_law_788 (jin (by decide +kernel)) (by decide +kernel) hx2 ?_
                                    refine J_sload_n dL_law_789 rfl rfl ?_
                                    refine J_iload_n dL_law_790 rfl rfl ?_
                                    refine J_iconst (v := 3) dL_law_791 (by decide) ?_
                                    refine J_iadd (z := 3) dL_law_792 (by decide +kernel) ?_
                                    refine L_sld (i2 := 3) (v := 10) dL_law_793 (jin (by decide +kernel)) (by decide +kernel) hx3 ?_
                                    refine J_callV (st := [.long 0]) dL_law_794 cv_L_98 (c_X12_rows_14 H0_98 H0_100 H0_111 H0_114 H0_116 H0_127 H0_128) H0_98 rfl rfl (Nat.le_of_ble_eq_true rfl) ⟨(Nat.le_of_ble_eq_true rfl), (Nat.le_of_ble_eq_true rfl)⟩ ⟨(Nat.le_of_ble_eq_true rfl), (Nat.le_of_ble_eq_true rfl)⟩ (fun r h9 hp => ?_)
                                    obtain ⟨rfl, rfl⟩ := hp
                                    refine J_nf (nh2 := 136) (ck2 := 136) (sk2 := 415528) (st2 := [.long 0, .long 0]) rfl rfl rfl rfl ?_
                                    refine J_app (L3 := [(127, .inl (1, 1260, .inr (.inl (vp_updL (vp_updL (vp_updL (vp_updL (vp_updL (vp_updL (vp_updL (vp_updL (vp_updL (vp_updL (vp_updL (fun _ => 0) 0 1) 0 0) 0 0) 0 0) 0 0) 0 0) 0 0) 0 0) 0 0) 0 0) 0 0)))), (128, .inl (1, 1260, .inr (.inl (vp_updL (vp_updL (vp_updL (vp_updL (vp_updL (vp_updL (vp_updL (vp_updL (vp_updL (vp_updL (fun _ => 0) 0 0) 0 0) 0 0) 0 0) 0 0) 0 0) 0 0) 0 0) 0 0) 0 0)))), (114, .inl (0, 1260, .inl (upd (fun _ => 0) 0 0))), (116, .inl (0, 1260, .inl (upd (fun _ => 0) 0 0))), (98, .inr (12, [.int 0, .int 0, .ref 99, .ref 100, .ref 101, .ref 102, .ref 103, .ref 104, .ref 105, .int 0, .int (-1), .ref 106, .ref 107, .ref 108, .int 0, .int 0, .int 0, .int 0, .int 0, .int 0, .int 0, .ref 109, .int 0, .int 0, .ref 110, .ref 111, .ref 112, .ref 113, .ref 114, .ref 115, .ref 116, .ref 117, .int 1, .int 0, .int 0, .int 0, .ref 118, .ref 119, .ref 120, .ref 121, .ref 122, .ref 123, .ref 124, .ref 125, .ref 126, .ref 127, .ref 128, .ref 129, .int 0, .ref 130, .ref 131, .ref 132, .ref 133, .ref 134, .int 0, .int 0])), (111, .inl (0, 1260, .inl (upd (fun _ => 0) 0 0))), (65, .inr (10, [.ref 51, .ref 57, .ref 66, .ref 67, .ref 68, .int 0, .int (-1), .int (-1), .ref 69, .ref 70, .ref 71, .ref 72, .int 0, .int (-1), .int (-1), .ref 73, .ref 74])), (73, .inl (1, 1260, .inr (.inl (vp_updL (vp_updL (vp_updL (vp_updL (vp_updL (vp_updL (vp_updL (fun _ => 0) 0 0) 0 1) 0 0) 0 0) 0 0) 0 0) 0 0)))), (74, .inl (1, 1260, .inr (.inl (vp_updL (vp_updL (vp_updL (vp_updL (vp_updL (fun _ => 0) 0 0) 0 0) 0 0) 0 0) 0 0)))), (62, .inl (0, 1260, .inl (upd (upd (fun _ => 0) 0 (-1)) 0 0))), (57, .inr (9, [.ref 1, .ref 51, .ref 58, .ref 61, .ref 62, .ref 135, .ref 64, .int 0, .int 0, .int 0])), (135, .inl (0, 22, .inl (fun _ => 0))), (59, .inl (0, 8, .inl (upd (upd (fun _ => 0) 6 0) 7 0)))]) rfl ?_
                                    refine J_lcmp (z := 0) dL_law_797 (by decide +kernel) ?_
                                    refine J_if_eq (tgt := 1221) dL_law_798 (by decide) (fun _ => ?_) (fun q => absurd (by decide +kernel) q)
                                    exact law_tail (Nat.le_of_ble_eq_true rfl) (Nat.le_of_ble_eq_true rfl)
                                  · rcases i_cut x3.toInt 12 with h_17 | h_17
                                    · obtain rfl : x1 = 0 := by rw [fa_eq, kc_0]; omega
                                      obtain rfl : x2 = (-1) := by rw [fa_eq, kc_m1]; omega
                                      obtain rfl : x3 = 11 := by rw [fa_eq, kc_11]; omega
                                      refine J_hc0 ?_
                                      refine J_aload_n dL_law_759 rfl rfl ?_
                                      refine J_sload_n dL_law_760 rfl rfl ?_
                                      refine J_iload_n dL_law_761 rfl rfl ?_
                                      refine J_iconst (v := 1) dL_law_762 (by decide) ?_
                                      refine J_iadd (z := 1) dL_law_763 (by decide +kernel) ?_
                                      refine L_sld (i2 := 1) (v := 0) dL_law_764 (jin (by decide +kernel)) (by decide +kernel) hx1 ?_
                                      refine J_sload_n dL_law_765 rfl rfl ?_
                                      refine J_iload_n dL_law_766 rfl rfl ?_
                                      refine J_iconst (v := 2) dL_law_767 (by decide) ?_
                                      refine J_iadd (z := 2) dL_law_768 (by decide +kernel) ?_
                                      refine L_sld (i2 := 2) (v := (-1)) dL_law_769 (jin (by decide +kernel)) (by decide +kernel) hx2 ?_
                                      refine J_sload_n dL_law_770 rfl rfl ?_
                                      refine J_iload_n dL_law_771 rfl rfl ?_
                                      refine J_iconst (v := 3) dL_law_772 (by decide) ?_
                                      refine J_iadd (z := 3) dL_law_773 (by decide +kernel) ?_
                                      refine L_sld (i2 := 3) (v := 11) dL_law_774 (jin (by decide +kernel)) (by decide +kernel) hx3 ?_
                                      refine J_callV (st := []) dL_law_775 cv_L_94 (c_X11_rows_15 H0_0 H0_1 H0_3 H0_51 H0_52 H0_57 H0_58 H0_59 H0_62 H0_63 H0_65 H0_73 H0_74) H0_0 rfl rfl (Nat.le_of_ble_eq_true rfl) ⟨(Nat.le_of_ble_eq_true rfl), (Nat.le_of_ble_eq_true rfl)⟩ ⟨(Nat.le_of_ble_eq_true rfl), (Nat.le_of_ble_eq_true rfl)⟩ (fun r h9 hp => ?_)
                                      obtain ⟨rfl, rfl⟩ := hp
                                      refine J_nf (nh2 := 136) (ck2 := 136) (sk2 := 415528) (st2 := [.long 0]) rfl rfl rfl rfl ?_
                                      refine J_app (L3 := [(65, .inr (10, [.ref 51, .ref 57, .ref 66, .ref 67, .ref 68, .int 0, .int (-1), .int (-1), .ref 69, .ref 70, .ref 71, .ref 72, .int 0, .int (-1), .int (-1), .ref 74, .ref 73])), (74, .inl (1, 1260, .inr (.inl (vp_updL (vp_updL (vp_updL (vp_updL (vp_updL (vp_updL (fun _ => 0) 0 0) 0 0) 0 0) 0 0) 0 0) 0 0)))), (73, .inl (1, 1260, .inr (.inl (vp_updL (vp_updL (vp_updL (vp_updL (vp_updL (vp_updL (vp_updL (fun _ => 0) 0 0) 0 1) 0 0) 0 0) 0 0) 0 0) 0 0)))), (62, .inl (0, 1260, .inl (upd (upd (fun _ => 0) 0 (-1)) 0 0))), (57, .inr (9, [.ref 1, .ref 51, .ref 58, .ref 61, .ref 62, .ref 135, .ref 64, .int 0, .int 0, .int 0])), (135, .inl (0, 22, .inl (fun _ => 0))), (59, .inl (0, 8, .inl (upd (upd (fun _ => 0) 6 0) 7 0)))]) rfl ?_
                                      refine J_aload_n dL_law_778 rfl rfl ?_
                                      refine J_sload_n dL_law_779 rfl rfl ?_
                                      refine J_iload_n dL_law_780 rfl rfl ?_
                                      refine J_iconst (v := 1) dL_law_781 (by decide) ?_
                                      refine J_iadd (z := 1) dL_law_782 (by decide +kernel) ?_
                                      refine L_sld (i2 := 1) (v := 0) dL_law_783 (jin (by decide +kernel)) (by decide +kernel) hx1 ?_
                                      refine J_sload_n dL_law_784 rfl rfl ?_
                                      refine J_iload_n dL_law_785 rfl rfl ?_
                                      refine J_iconst (v := 2) dL_law_786 (by decide) ?_
                                      refine J_iadd (z := 2) dL_law_787 (by decide +kernel) ?_
                                      refine L_sld (i2 := 2) (v := (-1)) dL_law_788 (jin (by decide +kernel)) (by decide +kernel) hx2 ?_
                                      refine J_sload_n dL_law_789 rfl rfl ?_
                                      refine J_iload_n dL_law_790 rfl rfl ?_
                                      refine J_iconst (v := 3) dL_law_791 (by decide) ?_
                                      refine J_iadd (z := 3) dL_law_792 (by decide +kernel) ?_
                                      refine L_sld (i2 := 3) (v := 11) dL_law_793 (jin (by decide +kernel)) (by decide +kernel) hx3 ?_
                                      refine J_callV (st := [.long 0]) dL_law_794 cv_L_98 (c_X12_rows_15 H0_98 H0_100 H0_111 H0_114 H0_116 H0_127 H0_128) H0_98 rfl rfl (Nat.le_of_ble_eq_true rfl) ⟨(Nat.le_of_ble_eq_true rfl), (Nat.le_of_ble_eq_true rfl)⟩ ⟨(Nat.le_of_ble_eq_true rfl), (Nat.le_of_ble_eq_true rfl)⟩ (fun r h9 hp => ?_)
                                      obtain ⟨rfl, rfl⟩ := hp
                                      refine J_nf (nh2 := 136) (ck2 := 136) (sk2 := 415528) (st2 := [.long 0, .long 0]) rfl rfl rfl rfl ?_
                                      refine J_app (L3 := [(127, .inl (1, 1260, .inr (.inl (vp_updL (vp_updL (vp_updL (vp_updL (vp_updL (vp_updL (vp_updL (vp_updL (vp_updL (vp_updL (vp_updL (vp_updL (fun _ => 0) 0 1) 0 0) 0 0) 0 0) 0 0) 0 0) 0 0) 0 0) 0 0) 0 0) 0 0) 0 0)))), (128, .inl (1, 1260, .inr (.inl (vp_updL (vp_updL (vp_updL (vp_updL (vp_updL (vp_updL (vp_updL (vp_updL (vp_updL (vp_updL (vp_updL (fun _ => 0) 0 0) 0 0) 0 0) 0 0) 0 0) 0 0) 0 0) 0 0) 0 0) 0 0) 0 0)))), (114, .inl (0, 1260, .inl (upd (fun _ => 0) 0 0))), (116, .inl (0, 1260, .inl (upd (fun _ => 0) 0 0))), (98, .inr (12, [.int 0, .int 0, .ref 99, .ref 100, .ref 101, .ref 102, .ref 103, .ref 104, .ref 105, .int 0, .int (-1), .ref 106, .ref 107, .ref 108, .int 0, .int 0, .int 0, .int 0, .int 0, .int 0, .int 0, .ref 109, .int 0, .int 0, .ref 110, .ref 111, .ref 112, .ref 113, .ref 114, .ref 115, .ref 116, .ref 117, .int 1, .int 0, .int 0, .int 0, .ref 118, .ref 119, .ref 120, .ref 121, .ref 122, .ref 123, .ref 124, .ref 125, .ref 126, .ref 127, .ref 128, .ref 129, .int 0, .ref 130, .ref 131, .ref 132, .ref 133, .ref 134, .int 0, .int 0])), (111, .inl (0, 1260, .inl (upd (fun _ => 0) 0 0))), (65, .inr (10, [.ref 51, .ref 57, .ref 66, .ref 67, .ref 68, .int 0, .int (-1), .int (-1), .ref 69, .ref 70, .ref 71, .ref 72, .int 0, .int (-1), .int (-1), .ref 74, .ref 73])), (74, .inl (1, 1260, .inr (.inl (vp_updL (vp_updL (vp_updL (vp_updL (vp_updL (vp_updL (fun _ => 0) 0 0) 0 0) 0 0) 0 0) 0 0) 0 0)))), (73, .inl (1, 1260, .inr (.inl (vp_updL (vp_updL (vp_updL (vp_updL (vp_updL (vp_updL (vp_updL (fun _ => 0) 0 0) 0 1) 0 0) 0 0) 0 0) 0 0) 0 0)))), (62, .inl (0, 1260, .inl (upd (upd (fun _ => 0) 0 (-1)) 0 0))), (57, .inr (9, [.ref 1, .ref 51, .ref 58, .ref 61, .ref 62, .ref 135, .ref 64, .int 0, .int 0, .int 0])), (135, .inl (0, 22, .inl (fun _ => 0))), (59, .inl (0, 8, .inl (upd (upd (fun _ => 0) 6 0) 7 0)))]) rfl ?_
                                      refine J_lcmp (z := 0) dL_law_797 (by decide +kernel) ?_
                                      refine J_if_eq (tgt := 1221) dL_law_798 (by decide) (fun _ => ?_) (fun q => absurd (by decide +kernel) q)
                                      exact law_tail (Nat.le_of_ble_eq_true rfl) (Nat.le_of_ble_eq_true rfl)
                                    · obtain rfl : x1 = 0 := by rw [fa_eq, kc_0]; omega
                                      obtain rfl : x2 = (-1) := by rw [fa_eq, kc_m1]; omega
                                      obtain rfl : x3 = 12 := by rw [fa_eq, kc_12]; omega
                                      refine J_hc0 ?_
                                      refine J_aload_n dL_law_759 rfl rfl ?_
                                      refine J_sload_n dL_law_760 rfl rfl ?_
                                      refine J_iload_n dL_law_761 rfl rfl ?_
                                      refine J_iconst (v := 1) dL_law_762 (by decide) ?_
                                      refine J_iadd (z := 1) dL_law_763 (by decide +kernel) ?_
                                      refine L_sld (i2 := 1) (v := 0) dL_law_764 (jin (by decide +kernel)) (by decide +kernel) hx1 ?_
                                      refine J_sload_n dL_law_765 rfl rfl ?_
                                      refine J_iload_n dL_law_766 rfl rfl ?_
                                      refine J_iconst (v := 2) dL_law_767 (by decide) ?_
                                      refine J_iadd (z := 2) dL_law_768 (by decide +kernel) ?_
                                      refine L_sld (i2 := 2) (v := (-1)) dL_law_769 (jin (by decide +kernel)) (by decide +kernel) hx2 ?_
                                      refine J_sload_n dL_law_770 rfl rfl ?_
                                      refine J_iload_n dL_law_771 rfl rfl ?_
                                      refine J_iconst (v := 3) dL_law_772 (by decide) ?_
                                      refine J_iadd (z := 3) dL_law_773 (by decide +kernel) ?_
                                      refine L_sld (i2 := 3) (v := 12) dL_law_774 (jin (by decide +kernel)) (by decide +kernel) hx3 ?_
                                      refine J_callV (st := []) dL_law_775 cv_L_94 (c_X11_rows_16 H0_0 H0_1 H0_3 H0_51 H0_52 H0_57 H0_58 H0_59 H0_62 H0_63 H0_65 H0_73 H0_74) H0_0 rfl rfl (Nat.le_of_ble_eq_true rfl) ⟨(Nat.le_of_ble_eq_true rfl), (Nat.le_of_ble_eq_true rfl)⟩ ⟨(Nat.le_of_ble_eq_true rfl), (Nat.le_of_ble_eq_true rfl)⟩ (fun r h9 hp => ?_)
                                      obtain ⟨rfl, rfl⟩ := hp
                                      refine J_nf (nh2 := 136) (ck2 := 136) (sk2 := 415528) (st2 := [.long 0]) rfl rfl rfl rfl ?_
                                      refine J_app (L3 := [(65, .inr (10, [.ref 51, .ref 57, .ref 66, .ref 67, .ref 68, .int 0, .int (-1), .int (-1), .ref 69, .ref 70, .ref 71, .ref 72, .int 0, .int (-1), .int (-1), .ref 73, .ref 74])), (73, .inl (1, 1260, .inr (.inl (vp_updL (vp_updL (vp_updL (vp_updL (vp_updL (vp_updL (vp_updL (vp_updL (fun _ => 0) 0 0) 0 1) 0 0) 0 0) 0 0) 0 0) 0 0) 0 0)))), (74, .inl (1, 1260, .inr (.inl (vp_updL (vp_updL (vp_updL (vp_updL (vp_updL (vp_updL (fun _ => 0) 0 0) 0 0) 0 0) 0 0) 0 0) 0 0)))), (62, .inl (0, 1260, .inl (upd (upd (fun _ => 0) 0 (-1)) 0 0))), (57, .inr (9, [.ref 1, .ref 51, .ref 58, .ref 61, .ref 62, .ref 135, .ref 64, .int 0, .int 0, .int 0])), (135, .inl (0, 22, .inl (fun _ => 0))), (59, .inl (0, 8, .inl (upd (upd (fun _ => 0) 6 0) 7 0)))]) rfl ?_
                                      refine J_aload_n dL_law_778 rfl rfl ?_
                                      refine J_sload_n dL_law_779 rfl rfl ?_
                                      refine J_iload_n dL_law_780 rfl rfl ?_
                                      refine J_iconst (v := 1) dL_law_781 (by decide) ?_
                                      refine J_iadd (z := 1) dL_law_782 (by decide +kernel) ?_
                                      refine L_sld (i2 := 1) (v := 0) dL_law_783 (jin (by decide +kernel)) (by decide +kernel) hx1 ?_
                                      refine J_sload_n dL_law_784 rfl rfl ?_
                                      refine J_iload_n dL_law_785 rfl rfl ?_
                                      refine J_iconst (v := 2) dL_law_786 (by decide) ?_
                                      refine J_iadd (z := 2) dL_law_787 (by decide +kernel) ?_
                                      refine L_sld (i2 := 2) (v := (-1)) dL_law_788 (jin (by decide +kernel)) (by decide +kernel) hx2 ?_
                                      refine J_sload_n dL_law_789 rfl rfl ?_
                                      refine J_iload_n dL_law_790 rfl rfl ?_
                                      refine J_iconst (v := 3) dL_law_791 (by decide) ?_
                                      refine J_iadd (z := 3) dL_law_792 (by decide +kernel) ?_
                                      refine L_sld (i2 := 3) (v := 12) dL_law_793 (jin (by decide +kernel)) (by decide +kernel) hx3 ?_
                                      refine J_callV (st := [.long 0]) dL_law_794 cv_L_98 (c_X12_rows_16 H0_98 H0_100 H0_111 H0_114 H0_116 H0_127 H0_128) H0_98 rfl rfl (Nat.le_of_ble_eq_true rfl) ⟨(Nat.le_of_ble_eq_true rfl), (Nat.le_of_ble_eq_true rfl)⟩ ⟨(Nat.le_of_ble_eq_true rfl), (Nat.le_of_ble_eq_true rfl)⟩ (fun r h9 hp => ?_)
                                      obtain ⟨rfl, rfl⟩ := hp
                                      refine J_nf (nh2 := 136) (ck2 := 136) (sk2 := 415528) (st2 := [.long 0, .long 0]) rfl rfl rfl rfl ?_
                                      refine J_app (L3 := [(127, .inl (1, 1260, .inr (.inl (vp_updL (vp_updL (vp_updL (vp_updL (vp_updL (vp_updL (vp_updL (vp_updL (vp_updL (vp_updL (vp_updL (vp_updL (vp_updL (fun _ => 0) 0 1) 0 0) 0 0) 0 0) 0 0) 0 0) 0 0) 0 0) 0 0) 0 0) 0 0) 0 0) 0 0)))), (128, .inl (1, 1260, .inr (.inl (vp_updL (vp_updL (vp_updL (vp_updL (vp_updL (vp_updL (vp_updL (vp_updL (vp_updL (vp_updL (vp_updL (vp_updL (fun _ => 0) 0 0) 0 0) 0 0) 0 0) 0 0) 0 0) 0 0) 0 0) 0 0) 0 0) 0 0) 0 0)))), (114, .inl (0, 1260, .inl (upd (fun _ => 0) 0 0))), (116, .inl (0, 1260, .inl (upd (fun _ => 0) 0 0))), (98, .inr (12, [.int 0, .int 0, .ref 99, .ref 100, .ref 101, .ref 102, .ref 103, .ref 104, .ref 105, .int 0, .int (-1), .ref 106, .ref 107, .ref 108, .int 0, .int 0, .int 0, .int 0, .int 0, .int 0, .int 0, .ref 109, .int 0, .int 0, .ref 110, .ref 111, .ref 112, .ref 113, .ref 114, .ref 115, .ref 116, .ref 117, .int 1, .int 0, .int 0, .int 0, .ref 118, .ref 119, .ref 120, .ref 121, .ref 122, .ref 123, .ref 124, .ref 125, .ref 126, .ref 127, .ref 128, .ref 129, .int 0, .ref 130, .ref 131, .ref 132, .ref 133, .ref 134, .int 0, .int 0])), (111, .inl (0, 1260, .inl (upd (fun _ => 0) 0 0))), (65, .inr (10, [.ref 51, .ref 57, .ref 66, .ref 67, .ref 68, .int 0, .int (-1), .int (-1), .ref 69, .ref 70, .ref 71, .ref 72, .int 0, .int (-1), .int (-1), .ref 73, .ref 74])), (73, .inl (1, 1260, .inr (.inl (vp_updL (vp_updL (vp_updL (vp_updL (vp_updL (vp_updL (vp_updL (vp_updL (fun _ => 0) 0 0) 0 1) 0 0) 0 0) 0 0) 0 0) 0 0) 0 0)))), (74, .inl (1, 1260, .inr (.inl (vp_updL (vp_updL (vp_updL (vp_updL (vp_updL (vp_updL (fun _ => 0) 0 0) 0 0) 0 0) 0 0) 0 0) 0 0)))), (62, .inl (0, 1260, .inl (upd (upd (fun _ => 0) 0 (-1)) 0 0))), (57, .inr (9, [.ref 1, .ref 51, .ref 58, .ref 61, .ref 62, .ref 135, .ref 64, .int 0, .int 0, .int 0])), (135, .inl (0, 22, .inl (fun _ => 0))), (59, .inl (0, 8, .inl (upd (upd (fun _ => 0) 6 0) 7 0)))]) rfl ?_
                                      refine J_lcmp (z := 0) dL_law_797 (by decide +kernel) ?_
                                      refine J_if_eq (tgt := 1221) dL_law_798 (by decide) (fun _ => ?_) (fun q => absurd (by decide +kernel) q)
                                      exact law_tail (Nat.le_of_ble_eq_true rfl) (Nat.le_of_ble_eq_true rfl)
            · obtain rfl : x1 = 0 := by rw [fa_eq, kc_0]; omega
              obtain rfl : x2 = (-1) := by rw [fa_eq, kc_m1]; omega
              have b3 : 13 ≤ x3.toInt ∧ x3.toInt ≤ 2147483647 := ⟨by omega, by omega⟩
              refine J_hc0 ?_
              refine J_aload_n dL_law_759 rfl rfl ?_
              refine J_sload_n dL_law_760 rfl rfl ?_
              refine J_iload_n dL_law_761 rfl rfl ?_
              refine J_iconst (v := 1) dL_law_762 (by decide) ?_
              refine J_iadd (z := 1) dL_law_763 (by decide +kernel) ?_
              refine L_sld (i2 := 1) (v := 0) dL_law_764 (jin (by decide +kernel)) (by decide +kernel) hx1 ?_
              refine J_sload_n dL_law_765 rfl rfl ?_
              refine J_iload_n dL_law_766 rfl rfl ?_
              refine J_iconst (v := 2) dL_law_767 (by decide) ?_
              refine J_iadd (z := 2) dL_law_768 (by decide +kernel) ?_
              refine L_sld (i2 := 2) (v := (-1)) dL_law_769 (jin (by decide +kernel)) (by decide +kernel) hx2 ?_
              refine J_sload_n dL_law_770 rfl rfl ?_
              refine J_iload_n dL_law_771 rfl rfl ?_
              refine J_iconst (v := 3) dL_law_772 (by decide) ?_
              refine J_iadd (z := 3) dL_law_773 (by decide +kernel) ?_
              refine L_sld (i2 := 3) (v := x3) dL_law_774 (jin (by decide +kernel)) (by decide +kernel) hx3 ?_
              refine J_callV (st := []) dL_law_775 cv_L_94 (c_X11_rows_17 (x3) b3 H0_0 H0_51) H0_0 rfl rfl (Nat.le_of_ble_eq_true rfl) ⟨(Nat.le_of_ble_eq_true rfl), (Nat.le_of_ble_eq_true rfl)⟩ ⟨(Nat.le_of_ble_eq_true rfl), (Nat.le_of_ble_eq_true rfl)⟩ (fun r h9 hp => ?_)
              obtain ⟨rfl, rfl⟩ := hp
              refine J_nf (nh2 := 135) (ck2 := 135) (sk2 := 415506) (st2 := [.long (-1)]) rfl rfl rfl rfl ?_
              refine J_aload_n dL_law_778 rfl rfl ?_
              refine J_sload_n dL_law_779 rfl rfl ?_
              refine J_iload_n dL_law_780 rfl rfl ?_
              refine J_iconst (v := 1) dL_law_781 (by decide) ?_
              refine J_iadd (z := 1) dL_law_782 (by decide +kernel) ?_
              refine L_sld (i2 := 1) (v := 0) dL_law_783 (jin (by decide +kernel)) (by decide +kernel) hx1 ?_
              refine J_sload_n dL_law_784 rfl rfl ?_
              refine J_iload_n dL_law_785 rfl rfl ?_
              refine J_iconst (v := 2) dL_law_786 (by decide) ?_
              refine J_iadd (z := 2) dL_law_787 (by decide +kernel) ?_
              refine L_sld (i2 := 2) (v := (-1)) dL_law_788 (jin (by decide +kernel)) (by decide +kernel) hx2 ?_
              refine J_sload_n dL_law_789 rfl rfl ?_
              refine J_iload_n dL_law_790 rfl rfl ?_
              refine J_iconst (v := 3) dL_law_791 (by decide) ?_
              refine J_iadd (z := 3) dL_law_792 (by decide +kernel) ?_
              refine L_sld (i2 := 3) (v := x3) dL_law_793 (jin (by decide +kernel)) (by decide +kernel) hx3 ?_
              refine J_callV (st := [.long (-1)]) dL_law_794 cv_L_98 (c_X12_rows_17 (x3) b3 H0_98 H0_100 H0_111) H0_98 rfl rfl (Nat.le_of_ble_eq_true rfl) ⟨(Nat.le_of_ble_eq_true rfl), (Nat.le_of_ble_eq_true rfl)⟩ ⟨(Nat.le_of_ble_eq_true rfl), (Nat.le_of_ble_eq_true rfl)⟩ (fun r h9 hp => ?_)
              obtain ⟨rfl, rfl⟩ := hp
              refine J_nf (nh2 := 135) (ck2 := 135) (sk2 := 415506) (st2 := [.long (-1), .long (-1)]) rfl rfl rfl rfl ?_
              refine J_app (L3 := [(98, .inr (12, [.int 0, .int 0, .ref 99, .ref 100, .ref 101, .ref 102, .ref 103, .ref 104, .ref 105, .int 0, .int (-1), .ref 106, .ref 107, .ref 108, .int 0, .int 0, .int 0, .int 0, .int 0, .int 0, .int 0, .ref 109, .int 0, .int 0, .ref 110, .ref 111, .ref 112, .ref 113, .ref 114, .ref 115, .ref 116, .ref 117, .int 1, .int 0, .int 0, .int (-1), .ref 118, .ref 119, .ref 120, .ref 121, .ref 122, .ref 123, .ref 124, .ref 125, .ref 126, .ref 127, .ref 128, .ref 129, .int 0, .ref 130, .ref 131, .ref 132, .ref 133, .ref 134, .int 0, .int 0])), (111, .inl (0, 1260, .inl (upd (fun _ => 0) 0 0)))]) rfl ?_
              refine J_lcmp (z := 0) dL_law_797 (by decide +kernel) ?_
              refine J_if_eq (tgt := 1221) dL_law_798 (by decide) (fun _ => ?_) (fun q => absurd (by decide +kernel) q)
              exact law_tail (Nat.le_of_ble_eq_true rfl) (Nat.le_of_ble_eq_true rfl)
        · rcases i_cut x2.toInt 1 with h_4 | h_4
          · rcases i_cut x3.toInt 0 with h_5 | h_5
            · obtain rfl : x1 = 0 := by rw [fa_eq, kc_0]; omega
              obtain rfl : x2 = 0 := by rw [fa_eq, kc_0]; omega
              have b3 : (-2147483648) ≤ x3.toInt ∧ x3.toInt ≤ (-1) := ⟨by omega, by omega⟩
              refine J_hc0 ?_
              refine J_aload_n dL_law_759 rfl rfl ?_
              refine J_sload_n dL_law_760 rfl rfl ?_
              refine J_iload_n dL_law_761 rfl rfl ?_
              refine J_iconst (v := 1) dL_law_762 (by decide) ?_
              refine J_iadd (z := 1) dL_law_763 (by decide +kernel) ?_
              refine L_sld (i2 := 1) (v := 0) dL_law_764 (jin (by decide +kernel)) (by decide +kernel) hx1 ?_
              refine J_sload_n dL_law_765 rfl rfl ?_
              refine J_iload_n dL_law_766 rfl rfl ?_
              refine J_iconst (v := 2) dL_law_767 (by decide) ?_
              refine J_iadd (z := 2) dL_law_768 (by decide +kernel) ?_
              refine L_sld (i2 := 2) (v := 0) dL_law_769 (jin (by decide +kernel)) (by decide +kernel) hx2 ?_
              refine J_sload_n dL_law_770 rfl rfl ?_
              refine J_iload_n dL_law_771 rfl rfl ?_
              refine J_iconst (v := 3) dL_law_772 (by decide) ?_
              refine J_iadd (z := 3) dL_law_773 (by decide +kernel) ?_
              refine L_sld (i2 := 3) (v := x3) dL_law_774 (jin (by decide +kernel)) (by decide +kernel) hx3 ?_
              refine J_callV (st := []) dL_law_775 cv_L_94 (c_X11_rows_18 (x3) b3 H0_0 H0_51) H0_0 rfl rfl (Nat.le_of_ble_eq_true rfl) ⟨(Nat.le_of_ble_eq_true rfl), (Nat.le_of_ble_eq_true rfl)⟩ ⟨(Nat.le_of_ble_eq_true rfl), (Nat.le_of_ble_eq_true rfl)⟩ (fun r h9 hp => ?_)
              obtain ⟨rfl, rfl⟩ := hp
              refine J_nf (nh2 := 135) (ck2 := 135) (sk2 := 415506) (st2 := [.long (-1)]) rfl rfl rfl rfl ?_
              refine J_aload_n dL_law_778 rfl rfl ?_
              refine J_sload_n dL_law_779 rfl rfl ?_
              refine J_iload_n dL_law_780 rfl rfl ?_
              refine J_iconst (v := 1) dL_law_781 (by decide) ?_
              refine J_iadd (z := 1) dL_law_782 (by decide +kernel) ?_
              refine L_sld (i2 := 1) (v := 0) dL_law_783 (jin (by decide +kernel)) (by decide +kernel) hx1 ?_
              refine J_sload_n dL_law_784 rfl rfl ?_
              refine J_iload_n dL_law_785 rfl rfl ?_
              refine J_iconst (v := 2) dL_law_786 (by decide) ?_
              refine J_iadd (z := 2) dL_law_787 (by decide +kernel) ?_
              refine L_sld (i2 := 2) (v := 0) dL_law_788 (jin (by decide +kernel)) (by decide +kernel) hx2 ?_
              refine J_sload_n dL_law_789 rfl rfl ?_
              refine J_iload_n dL_law_790 rfl rfl ?_
              refine J_iconst (v := 3) dL_law_791 (by decide) ?_
              refine J_iadd (z := 3) dL_law_792 (by decide +kernel) ?_
              refine L_sld (i2 := 3) (v := x3) dL_law_793 (jin (by decide +kernel)) (by decide +kernel) hx3 ?_
              refine J_callV (st := [.long (-1)]) dL_law_794 cv_L_98 (c_X12_rows_18 (x3) b3 H0_98 H0_100 H0_111) H0_98 rfl rfl (Nat.le_of_ble_eq_true rfl) ⟨(Nat.le_of_ble_eq_true rfl), (Nat.le_of_ble_eq_true rfl)⟩ ⟨(Nat.le_of_ble_eq_true rfl), (Nat.le_of_ble_eq_true rfl)⟩ (fun r h9 hp => ?_)
              obtain ⟨rfl, rfl⟩ := hp
              refine J_nf (nh2 := 135) (ck2 := 135) (sk2 := 415506) (st2 := [.long (-1), .long (-1)]) rfl rfl rfl rfl ?_
              refine J_app (L3 := [(98, .inr (12, [.int 0, .int 0, .ref 99, .ref 100, .ref 101, .ref 102, .ref 103, .ref 104, .ref 105, .int 0, .int (-1), .ref 106, .ref 107, .ref 108, .int 0, .int 0, .int 0, .int 0, .int 0, .int 0, .int 0, .ref 109, .int 0, .int 0, .ref 110, .ref 111, .ref 112, .ref 113, .ref 114, .ref 115, .ref 116, .ref 117, .int 1, .int 0, .int 0, .int (-1), .ref 118, .ref 119, .ref 120, .ref 121, .ref 122, .ref 123, .ref 124, .ref 125, .ref 126, .ref 127, .ref 128, .ref 129, .int 0, .ref 130, .ref 131, .ref 132, .ref 133, .ref 134, .int 0, .int 0])), (111, .inl (0, 1260, .inl (upd (fun _ => 0) 0 0)))]) rfl ?_
              refine J_lcmp (z := 0) dL_law_797 (by decide +kernel) ?_
              refine J_if_eq (tgt := 1221) dL_law_798 (by decide) (fun _ => ?_) (fun q => absurd (by decide +kernel) q)
              exact law_tail (Nat.le_of_ble_eq_true rfl) (Nat.le_of_ble_eq_true rfl)
            · rcases i_cut x3.toInt 13 with h_6 | h_6
              · rcases i_cut x3.toInt 1 with h_7 | h_7
                · obtain rfl : x1 = 0 := by rw [fa_eq, kc_0]; omega
                  obtain rfl : x2 = 0 := by rw [fa_eq, kc_0]; omega
                  obtain rfl : x3 = 0 := by rw [fa_eq, kc_0]; omega
                  refine J_hc0 ?_
                  refine J_aload_n dL_law_759 rfl rfl ?_
                  refine J_sload_n dL_law_760 rfl rfl ?_
                  refine J_iload_n dL_law_761 rfl rfl ?_
                  refine J_iconst (v := 1) dL_law_762 (by decide) ?_
                  refine J_iadd (z := 1) dL_law_763 (by decide +kernel) ?_
                  refine L_sld (i2 := 1) (v := 0) dL_law_764 (jin (by decide +kernel)) (by decide +kernel) hx1 ?_
                  refine J_sload_n dL_law_765 rfl rfl ?_
                  refine J_iload_n dL_law_766 rfl rfl ?_
                  refine J_iconst (v := 2) dL_law_767 (by decide) ?_
                  refine J_iadd (z := 2) dL_law_768 (by decide +kernel) ?_
                  refine L_sld (i2 := 2) (v := 0) dL_law_769 (jin (by decide +kernel)) (by decide +kernel) hx2 ?_
                  refine J_sload_n dL_law_770 rfl rfl ?_
                  refine J_iload_n dL_law_771 rfl rfl ?_
                  refine J_iconst (v := 3) dL_law_772 (by decide) ?_
                  refine J_iadd (z := 3) dL_law_773 (by decide +kernel) ?_
                  refine L_sld (i2 := 3) (v := 0) dL_law_774 (jin (by decide +kernel)) (by decide +kernel) hx3 ?_
                  refine J_callV (st := []) dL_law_775 cv_L_94 (c_X11_rows_19 H0_0 H0_1 H0_3 H0_51 H0_57 H0_58 H0_59 H0_62 H0_63 H0_65 H0_73) H0_0 rfl rfl (Nat.le_of_ble_eq_true rfl) ⟨(Nat.le_of_ble_eq_true rfl), (Nat.le_of_ble_eq_true rfl)⟩ ⟨(Nat.le_of_ble_eq_true rfl), (Nat.le_of_ble_eq_true rfl)⟩ (fun r h9 hp => ?_)
                  obtain ⟨rfl, rfl⟩ := hp
                  refine J_nf (nh2 := 136) (ck2 := 136) (sk2 := 415528) (st2 := [.long 1]) rfl rfl rfl rfl ?_
                  refine J_app (L3 := [(73, .inl (1, 1260, .inr (.inl (vp_updL (vp_updL (fun _ => 0) 0 0) 0 1)))), (57, .inr (9, [.ref 1, .ref 51, .ref 58, .ref 61, .ref 62, .ref 135, .ref 64, .int 0, .int 0, .int 0])), (62, .inl (0, 1260, .inl (upd (fun _ => 0) 0 (-1)))), (135, .inl (0, 22, .inl (fun _ => 0))), (59, .inl (0, 8, .inl (upd (upd (fun _ => 0) 6 0) 7 0)))]) rfl ?_
                  refine J_aload_n dL_law_778 rfl rfl ?_
                  refine J_sload_n dL_law_779 rfl rfl ?_
                  refine J_iload_n dL_law_780 rfl rfl ?_
                  refine J_iconst (v := 1) dL_law_781 (by decide) ?_
                  refine J_iadd (z := 1) dL_law_782 (by decide +kernel) ?_
                  refine L_sld (i2 := 1) (v := 0) dL_law_783 (jin (by decide +kernel)) (by decide +kernel) hx1 ?_
                  refine J_sload_n dL_law_784 rfl rfl ?_
                  refine J_iload_n dL_law_785 rfl rfl ?_
                  refine J_iconst (v := 2) dL_law_786 (by decide) ?_
                  refine J_iadd (z := 2) dL_law_787 (by decide +kernel) ?_
                  refine L_sld (i2 := 2) (v := 0) dL_law_788 (jin (by decide +kernel)) (by decide +kernel) hx2 ?_
                  refine J_sload_n dL_law_789 rfl rfl ?_
                  refine J_iload_n dL_law_790 rfl rfl ?_
                  refine J_iconst (v := 3) dL_law_791 (by decide) ?_
                  refine J_iadd (z := 3) dL_law_792 (by decide +kernel) ?_
                  refine L_sld (i2 := 3) (v := 0) dL_law_793 (jin (by decide +kernel)) (by decide +kernel) hx3 ?_
                  refine J_callV (st := [.long 1]) dL_law_794 cv_L_98 (c_X12_rows_19 H0_98 H0_100 H0_111 H0_114 H0_116 H0_127) H0_98 rfl rfl (Nat.le_of_ble_eq_true rfl) ⟨(Nat.le_of_ble_eq_true rfl), (Nat.le_of_ble_eq_true rfl)⟩ ⟨(Nat.le_of_ble_eq_true rfl), (Nat.le_of_ble_eq_true rfl)⟩ (fun r h9 hp => ?_)
                  obtain ⟨rfl, rfl⟩ := hp
                  refine J_nf (nh2 := 136) (ck2 := 136) (sk2 := 415528) (st2 := [.long 1, .long 1]) rfl rfl rfl rfl ?_
                  refine J_app (L3 := [(127, .inl (1, 1260, .inr (.inl (vp_updL (fun _ => 0) 0 1)))), (114, .inl (0, 1260, .inl (upd (fun _ => 0) 0 0))), (116, .inl (0, 1260, .inl (upd (fun _ => 0) 0 0))), (98, .inr (12, [.int 0, .int 0, .ref 99, .ref 100, .ref 101, .ref 102, .ref 103, .ref 104, .ref 105, .int 0, .int (-1), .ref 106, .ref 107, .ref 108, .int 0, .int 0, .int 0, .int 0, .int 0, .int 0, .int 0, .ref 109, .int 0, .int 0, .ref 110, .ref 111, .ref 112, .ref 113, .ref 114, .ref 115, .ref 116, .ref 117, .int 1, .int 0, .int 0, .int 0, .ref 118, .ref 119, .ref 120, .ref 121, .ref 122, .ref 123, .ref 124, .ref 125, .ref 126, .ref 127, .ref 128, .ref 129, .int 0, .ref 130, .ref 131, .ref 132, .ref 133, .ref 134, .int 0, .int 0])), (111, .inl (0, 1260, .inl (upd (fun _ => 0) 0 0))), (73, .inl (1, 1260, .inr (.inl (vp_updL (vp_updL (fun _ => 0) 0 0) 0 1)))), (57, .inr (9, [.ref 1, .ref 51, .ref 58, .ref 61, .ref 62, .ref 135, .ref 64, .int 0, .int 0, .int 0])), (62, .inl (0, 1260, .inl (upd (fun _ => 0) 0 (-1)))), (135, .inl (0, 22, .inl (fun _ => 0))), (59, .inl (0, 8, .inl (upd (upd (fun _ => 0) 6 0) 7 0)))]) rfl ?_
                  refine J_lcmp (z := 0) dL_law_797 (by decide +kernel) ?_
                  refine J_if_eq (tgt := 1221) dL_law_798 (by decide) (fun _ => ?_) (fun q => absurd (by decide +kernel) q)
                  exact law_tail (Nat.le_of_ble_eq_true rfl) (Nat.le_of_ble_eq_true rfl)
                · rcases i_cut x3.toInt 2 with h_8 | h_8
                  · obtain rfl : x1 = 0 := by rw [fa_eq, kc_0]; omega
                    obtain rfl : x2 = 0 := by rw [fa_eq, kc_0]; omega
                    obtain rfl : x3 = 1 := by rw [fa_eq, kc_1]; omega
                    refine J_hc0 ?_
                    refine J_aload_n dL_law_759 rfl rfl ?_
                    refine J_sload_n dL_law_760 rfl rfl ?_
                    refine J_iload_n dL_law_761 rfl rfl ?_
                    refine J_iconst (v := 1) dL_law_762 (by decide) ?_
                    refine J_iadd (z := 1) dL_law_763 (by decide +kernel) ?_
                    refine L_sld (i2 := 1) (v := 0) dL_law_764 (jin (by decide +kernel)) (by decide +kernel) hx1 ?_
                    refine J_sload_n dL_law_765 rfl rfl ?_
                    refine J_iload_n dL_law_766 rfl rfl ?_
                    refine J_iconst (v := 2) dL_law_767 (by decide) ?_
                    refine J_iadd (z := 2) dL_law_768 (by decide +kernel) ?_
                    refine L_sld (i2 := 2) (v := 0) dL_law_769 (jin (by decide +kernel)) (by decide +kernel) hx2 ?_
                    refine J_sload_n dL_law_770 rfl rfl ?_
                    refine J_iload_n dL_law_771 rfl rfl ?_
                    refine J_iconst (v := 3) dL_law_772 (by decide) ?_
                    refine J_iadd (z := 3) dL_law_773 (by decide +kernel) ?_
                    refine L_sld (i2 := 3) (v := 1) dL_law_774 (jin (by decide +kernel)) (by decide +kernel) hx3 ?_
                    refine J_callV (st := []) dL_law_775 cv_L_94 (c_X11_rows_20 H0_0 H0_1 H0_3 H0_51 H0_52 H0_57 H0_58 H0_59 H0_62 H0_63 H0_65 H0_73 H0_74) H0_0 rfl rfl (Nat.le_of_ble_eq_true rfl) ⟨(Nat.le_of_ble_eq_true rfl), (Nat.le_of_ble_eq_true rfl)⟩ ⟨(Nat.le_of_ble_eq_true rfl), (Nat.le_of_ble_eq_true rfl)⟩ (fun r h9 hp => ?_)
                    obtain ⟨rfl, rfl⟩ := hp
                    refine J_nf (nh2 := 136) (ck2 := 136) (sk2 := 415528) (st2 := [.long 0]) rfl rfl rfl rfl ?_
                    refine J_app (L3 := [(65, .inr (10, [.ref 51, .ref 57, .ref 66, .ref 67, .ref 68, .int 0, .int (-1), .int (-1), .ref 69, .ref 70, .ref 71, .ref 72, .int 0, .int (-1), .int (-1), .ref 74, .ref 73])), (62, .inl (0, 1260, .inl (upd (upd (fun _ => 0) 0 (-1)) 0 0))), (74, .inl (1, 1260, .inr (.inl (vp_updL (fun _ => 0) 0 0)))), (73, .inl (1, 1260, .inr (.inl (vp_updL (vp_updL (fun _ => 0) 0 0) 0 1)))), (57, .inr (9, [.ref 1, .ref 51, .ref 58, .ref 61, .ref 62, .ref 135, .ref 64, .int 0, .int 0, .int 0])), (135, .inl (0, 22, .inl (fun _ => 0))), (59, .inl (0, 8, .inl (upd (upd (fun _ => 0) 6 0) 7 0)))]) rfl ?_
                    refine J_aload_n dL_law_778 rfl rfl ?_
                    refine J_sload_n dL_law_779 rfl rfl ?_
                    refine J_iload_n dL_law_780 rfl rfl ?_
                    refine J_iconst (v := 1) dL_law_781 (by decide) ?_
                    refine J_iadd (z := 1) dL_law_782 (by decide +kernel) ?_
                    refine L_sld (i2 := 1) (v := 0) dL_law_783 (jin (by decide +kernel)) (by decide +kernel) hx1 ?_
                    refine J_sload_n dL_law_784 rfl rfl ?_
                    refine J_iload_n dL_law_785 rfl rfl ?_
                    refine J_iconst (v := 2) dL_law_786 (by decide) ?_
                    refine J_iadd (z := 2) dL_law_787 (by decide +kernel) ?_
                    refine L_sld (i2 := 2) (v := 0) dL_law_788 (jin (by decide +kernel)) (by decide +kernel) hx2 ?_
                    refine J_sload_n dL_law_789 rfl rfl ?_
                    refine J_iload_n dL_law_790 rfl rfl ?_
                    refine J_iconst (v := 3) dL_law_791 (by decide) ?_
                    refine J_iadd (z := 3) dL_law_792 (by decide +kernel) ?_
                    refine L_sld (i2 := 3) (v := 1) dL_law_793 (jin (by decide +kernel)) (by decide +kernel) hx3 ?_
                    refine J_callV (st := [.long 0]) dL_law_794 cv_L_98 (c_X12_rows_20 H0_98 H0_100 H0_111 H0_114 H0_116 H0_127 H0_128) H0_98 rfl rfl (Nat.le_of_ble_eq_true rfl) ⟨(Nat.le_of_ble_eq_true rfl), (Nat.le_of_ble_eq_true rfl)⟩ ⟨(Nat.le_of_ble_eq_true rfl), (Nat.le_of_ble_eq_true rfl)⟩ (fun r h9 hp => ?_)
                    obtain ⟨rfl, rfl⟩ := hp
                    refine J_nf (nh2 := 136) (ck2 := 136) (sk2 := 415528) (st2 := [.long 0, .long 0]) rfl rfl rfl rfl ?_
                    refine J_app (L3 := [(127, .inl (1, 1260, .inr (.inl (vp_updL (vp_updL (fun _ => 0) 0 1) 0 0)))), (128, .inl (1, 1260, .inr (.inl (vp_updL (fun _ => 0) 0 0)))), (114, .inl (0, 1260, .inl (upd (fun _ => 0) 0 0))), (116, .inl (0, 1260, .inl (upd (fun _ => 0) 0 0))), (98, .inr (12, [.int 0, .int 0, .ref 99, .ref 100, .ref 101, .ref 102, .ref 103, .ref 104, .ref 105, .int 0, .int (-1), .ref 106, .ref 107, .ref 108, .int 0, .int 0, .int 0, .int 0, .int 0, .int 0, .int 0, .ref 109, .int 0, .int 0, .ref 110, .ref 111, .ref 112, .ref 113, .ref 114, .ref 115, .ref 116, .ref 117, .int 1, .int 0, .int 0, .int 0, .ref 118, .ref 119, .ref 120, .ref 121, .ref 122, .ref 123, .ref 124, .ref 125, .ref 126, .ref 127, .ref 128, .ref 129, .int 0, .ref 130, .ref 131, .ref 132, .ref 133, .ref 134, .int 0, .int 0])), (111, .inl (0, 1260, .inl (upd (fun _ => 0) 0 0))), (65, .inr (10, [.ref 51, .ref 57, .ref 66, .ref 67, .ref 68, .int 0, .int (-1), .int (-1), .ref 69, .ref 70, .ref 71, .ref 72, .int 0, .int (-1), .int (-1), .ref 74, .ref 73])), (62, .inl (0, 1260, .inl (upd (upd (fun _ => 0) 0 (-1)) 0 0))), (74, .inl (1, 1260, .inr (.inl (vp_updL (fun _ => 0) 0 0)))), (73, .inl (1, 1260, .inr (.inl (vp_updL (vp_updL (fun _ => 0) 0 0) 0 1)))), (57, .inr (9, [.ref 1, .ref 51, .ref 58, .ref 61, .ref 62, .ref 135, .ref 64, .int 0, .int 0, .int 0])), (135, .inl (0, 22, .inl (fun _ => 0))), (59, .inl (0, 8, .inl (upd (upd (fun _ => 0) 6 0) 7 0)))]) rfl ?_
                    refine J_lcmp (z := 0) dL_law_797 (by decide +kernel) ?_
                    refine J_if_eq (tgt := 1221) dL_law_798 (by decide) (fun _ => ?_) (fun q => absurd (by decide +kernel) q)
                    exact law_tail (Nat.le_of_ble_eq_true rfl) (Nat.le_of_ble_eq_true rfl)
                  · rcases i_cut x3.toInt 3 with h_9 | h_9
                    · obtain rfl : x1 = 0 := by rw [fa_eq, kc_0]; omega
                      obtain rfl : x2 = 0 := by rw [fa_eq, kc_0]; omega
                      obtain rfl : x3 = 2 := by rw [fa_eq, kc_2]; omega
                      refine J_hc0 ?_
                      refine J_aload_n dL_law_759 rfl rfl ?_
                      refine J_sload_n dL_law_760 rfl rfl ?_
                      refine J_iload_n dL_law_761 rfl rfl ?_
                      refine J_iconst (v := 1) dL_law_762 (by decide) ?_
                      refine J_iadd (z := 1) dL_law_763 (by decide +kernel) ?_
                      refine L_sld (i2 := 1) (v := 0) dL_law_764 (jin (by decide +kernel)) (by decide +kernel) hx1 ?_
                      refine J_sload_n dL_law_765 rfl rfl ?_
                      refine J_iload_n dL_law_766 rfl rfl ?_
                      refine J_iconst (v := 2) dL_law_767 (by decide) ?_
                      refine J_iadd (z := 2) dL_law_768 (by decide +kernel) ?_
                      refine L_sld (i2 := 2) (v := 0) dL_law_769 (jin (by decide +kernel)) (by decide +kernel) hx2 ?_
                      refine J_sload_n dL_law_770 rfl rfl ?_
                      refine J_iload_n dL_law_771 rfl rfl ?_
                      refine J_iconst (v := 3) dL_law_772 (by decide) ?_
                      refine J_iadd (z := 3) dL_law_773 (by decide +kernel) ?_
                      refine L_sld (i2 := 3) (v := 2) dL_law_774 (jin (by decide +kernel)) (by decide +kernel) hx3 ?_
                      refine J_callV (st := []) dL_law_775 cv_L_94 (c_X11_rows_21 H0_0 H0_1 H0_3 H0_51 H0_52 H0_57 H0_58 H0_59 H0_62 H0_63 H0_65 H0_73 H0_74) H0_0 rfl rfl (Nat.le_of_ble_eq_true rfl) ⟨(Nat.le_of_ble_eq_true rfl), (Nat.le_of_ble_eq_true rfl)⟩ ⟨(Nat.le_of_ble_eq_true rfl), (Nat.le_of_ble_eq_true rfl)⟩ (fun r h9 hp => ?_)
                      obtain ⟨rfl, rfl⟩ := hp
                      refine J_nf (nh2 := 136) (ck2 := 136) (sk2 := 415528) (st2 := [.long 0]) rfl rfl rfl rfl ?_
                      refine J_app (L3 := [(65, .inr (10, [.ref 51, .ref 57, .ref 66, .ref 67, .ref 68, .int 0, .int (-1), .int (-1), .ref 69, .ref 70, .ref 71, .ref 72, .int 0, .int (-1), .int (-1), .ref 73, .ref 74])), (73, .inl (1, 1260, .inr (.inl (vp_updL (vp_updL (vp_updL (fun _ => 0) 0 0) 0 1) 0 0)))), (62, .inl (0, 1260, .inl (upd (upd (fun _ => 0) 0 (-1)) 0 0))), (74, .inl (1, 1260, .inr (.inl (vp_updL (fun _ => 0) 0 0)))), (57, .inr (9, [.ref 1, .ref 51, .ref 58, .ref 61, .ref 62, .ref 135, .ref 64, .int 0, .int 0, .int 0])), (135, .inl (0, 22, .inl (fun _ => 0))), (59, .inl (0, 8, .inl (upd (upd (fun _ => 0) 6 0) 7 0)))]) rfl ?_
                      refine J_aload_n dL_law_778 rfl rfl ?_
                      refine J_sload_n dL_law_779 rfl rfl ?_
                      refine J_iload_n dL_law_780 rfl rfl ?_
                      refine J_iconst (v := 1) dL_law_781 (by decide) ?_
                      refine J_iadd (z := 1) dL_law_782 (by decide +kernel) ?_
                      refine L_sld (i2 := 1) (v := 0) dL_law_783 (jin (by decide +kernel)) (by decide +kernel) hx1 ?_
                      refine J_sload_n dL_law_784 rfl rfl ?_
                      refine J_iload_n dL_law_785 rfl rfl ?_
                      refine J_iconst (v := 2) dL_law_786 (by decide) ?_
                      refine J_iadd (z := 2) dL_law_787 (by decide +kernel) ?_
                      refine L_sld (i2 := 2) (v := 0) dL_law_788 (jin (by decide +kernel)) (by decide +kernel) hx2 ?_
                      refine J_sload_n dL_law_789 rfl rfl ?_
                      refine J_iload_n dL_law_790 rfl rfl ?_
                      refine J_iconst (v := 3) dL_law_791 (by decide) ?_
                      refine J_iadd (z := 3) dL_law_792 (by decide +kernel) ?_
                      refine L_sld (i2 := 3) (v := 2) dL_law_793 (jin (by decide +kernel)) (by decide +kernel) hx3 ?_
                      refine J_callV (st := [.long 0]) dL_law_794 cv_L_98 (c_X12_rows_21 H0_98 H0_100 H0_111 H0_114 H0_116 H0_127 H0_128) H0_98 rfl rfl (Nat.le_of_ble_eq_true rfl) ⟨(Nat.le_of_ble_eq_true rfl), (Nat.le_of_ble_eq_true rfl)⟩ ⟨(Nat.le_of_ble_eq_true rfl), (Nat.le_of_ble_eq_true rfl)⟩ (fun r h9 hp => ?_)
                      obtain ⟨rfl, rfl⟩ := hp
                      refine J_nf (nh2 := 136) (ck2 := 136) (sk2 := 415528) (st2 := [.long 0, .long 0]) rfl rfl rfl rfl ?_
                      refine J_app (L3 := [(127, .inl (1, 1260, .inr (.inl (vp_updL (vp_updL (vp_updL (fun _ => 0) 0 1) 0 0) 0 0)))), (128, .inl (1, 1260, .inr (.inl (vp_updL (vp_updL (fun _ => 0) 0 0) 0 0)))), (114, .inl (0, 1260, .inl (upd (fun _ => 0) 0 0))), (116, .inl (0, 1260, .inl (upd (fun _ => 0) 0 0))), (98, .inr (12, [.int 0, .int 0, .ref 99, .ref 100, .ref 101, .ref 102, .ref 103, .ref 104, .ref 105, .int 0, .int (-1), .ref 106, .ref 107, .ref 108, .int 0, .int 0, .int 0, .int 0, .int 0, .int 0, .int 0, .ref 109, .int 0, .int 0, .ref 110, .ref 111, .ref 112, .ref 113, .ref 114, .ref 115, .ref 116, .ref 117, .int 1, .int 0, .int 0, .int 0, .ref 118, .ref 119, .ref 120, .ref 121, .ref 122, .ref 123, .ref 124, .ref 125, .ref 126, .ref 127, .ref 128, .ref 129, .int 0, .ref 130, .ref 131, .ref 132, .ref 133, .ref 134, .int 0, .int 0])), (111, .inl (0, 1260, .inl (upd (fun _ => 0) 0 0))), (65, .inr (10, [.ref 51, .ref 57, .ref 66, .ref 67, .ref 68, .int 0, .int (-1), .int (-1), .ref 69, .ref 70, .ref 71, .ref 72, .int 0, .int (-1), .int (-1), .ref 73, .ref 74])), (73, .inl (1, 1260, .inr (.inl (vp_updL (vp_updL (vp_updL (fun _ => 0) 0 0) 0 1) 0 0)))), (62, .inl (0, 1260, .inl (upd (upd (fun _ => 0) 0 (-1)) 0 0))), (74, .inl (1, 1260, .inr (.inl (vp_updL (fun _ => 0) 0 0)))), (57, .inr (9, [.ref 1, .ref 51, .ref 58, .ref 61, .ref 62, .ref 135, .ref 64, .int 0, .int 0, .int 0])), (135, .inl (0, 22, .inl (fun _ => 0))), (59, .inl (0, 8, .inl (upd (upd (fun _ => 0) 6 0) 7 0)))]) rfl ?_
                      refine J_lcmp (z := 0) dL_law_797 (by decide +kernel) ?_
                      refine J_if_eq (tgt := 1221) dL_law_798 (by decide) (fun _ => ?_) (fun q => absurd (by decide +kernel) q)
                      exact law_tail (Nat.le_of_ble_eq_true rfl) (Nat.le_of_ble_eq_true rfl)
                    · rcases i_cut x3.toInt 4 with h_10 | h_10
                      · obtain rfl : x1 = 0 := by rw [fa_eq, kc_0]; omega
                        obtain rfl : x2 = 0 := by rw [fa_eq, kc_0]; omega
                        obtain rfl : x3 = 3 := by rw [fa_eq, kc_3]; omega
                        refine J_hc0 ?_
                        refine J_aload_n dL_law_759 rfl rfl ?_
                        refine J_sload_n dL_law_760 rfl rfl ?_
                        refine J_iload_n dL_law_761 rfl rfl ?_
                        refine J_iconst (v := 1) dL_law_762 (by decide) ?_
                        refine J_iadd (z := 1) dL_law_763 (by decide +kernel) ?_
                        refine L_sld (i2 := 1) (v := 0) dL_law_764 (jin (by decide +kernel)) (by decide +kernel) hx1 ?_
                        refine J_sload_n dL_law_765 rfl rfl ?_
                        refine J_iload_n dL_law_766 rfl rfl ?_
                        refine J_iconst (v := 2) dL_law_767 (by decide) ?_
                        refine J_iadd (z := 2) dL_law_768 (by decide +kernel) ?_
                        refine L_sld (i2 := 2) (v := 0) dL_law_769 (jin (by decide +kernel)) (by decide +kernel) hx2 ?_
                        refine J_sload_n dL_law_770 rfl rfl ?_
                        refine J_iload_n dL_law_771 rfl rfl ?_
                        refine J_iconst (v := 3) dL_law_772 (by decide) ?_
                        refine J_iadd (z := 3) dL_law_773 (by decide +kernel) ?_
                        refine L_sld (i2 := 3) (v := 3) dL_law_774 (jin (by decide +kernel)) (by decide +kernel) hx3 ?_
                        refine J_callV (st := []) dL_law_775 cv_L_94 (c_X11_rows_22 H0_0 H0_1 H0_3 H0_51 H0_52 H0_57 H0_58 H0_59 H0_62 H0_63 H0_65 H0_73 H0_74) H0_0 rfl rfl (Nat.le_of_ble_eq_true rfl) ⟨(Nat.le_of_ble_eq_true rfl), (Nat.le_of_ble_eq_true rfl)⟩ ⟨(Nat.le_of_ble_eq_true rfl), (Nat.le_of_ble_eq_true rfl)⟩ (fun r h9 hp => ?_)
                        obtain ⟨rfl, rfl⟩ := hp
                        refine J_nf (nh2 := 136) (ck2 := 136) (sk2 := 415528) (st2 := [.long 0]) rfl rfl rfl rfl ?_
                        refine J_app (L3 := [(65, .inr (10, [.ref 51, .ref 57, .ref 66, .ref 67, .ref 68, .int 0, .int (-1), .int (-1), .ref 69, .ref 70, .ref 71, .ref 72, .int 0, .int (-1), .int (-1), .ref 74, .ref 73])), (74, .inl (1, 1260, .inr (.inl (vp_updL (vp_updL (fun _ => 0) 0 0) 0 0)))), (73, .inl (1, 1260, .inr (.inl (vp_updL (vp_updL (vp_updL (fun _ => 0) 0 0) 0 1) 0 0)))), (62, .inl (0, 1260, .inl (upd (upd (fun _ => 0) 0 (-1)) 0 0))), (57, .inr (9, [.ref 1, .ref 51, .ref 58, .ref 61, .ref 62, .ref 135, .ref 64, .int 0, .int 0, .int 0])), (135, .inl (0, 22, .inl (fun _ => 0))), (59, .inl (0, 8, .inl (upd (upd (fun _ => 0) 6 0) 7 0)))]) rfl ?_
                        refine J_aload_n dL_law_778 rfl rfl ?_
                        refine J_sload_n dL_law_779 rfl rfl ?_
                        refine J_iload_n dL_law_780 rfl rfl ?_
                        refine J_iconst (v := 1) dL_law_781 (by decide) ?_
                        refine J_iadd (z := 1) dL_law_782 (by decide +kernel) ?_
                        refine L_sld (i2 := 1) (v := 0) dL_law_783 (jin (by decide +kernel)) (by decide +kernel) hx1 ?_
                        refine J_sload_n dL_law_784 rfl rfl ?_
                        refine J_iload_n dL_law_785 rfl rfl ?_
                        refine J_iconst (v := 2) dL_law_786 (by decide) ?_
                        refine J_iadd (z := 2) dL_law_787 (by decide +kernel) ?_
                        refine L_sld (i2 := 2) (v := 0) dL_law_788 (jin (by decide +kernel)) (by decide +kernel) hx2 ?_
                        refine J_sload_n dL_law_789 rfl rfl ?_
                        refine J_iload_n dL_law_790 rfl rfl ?_
                        refine J_iconst (v := 3) dL_law_791 (by decide) ?_
                        refine J_iadd (z := 3) dL_law_792 (by decide +kernel) ?_
                        refine L_sld (i2 := 3) (v := 3) dL_law_793 (jin (by decide +kernel)) (by decide +kernel) hx3 ?_
                        refine J_callV (st := [.long 0]) dL_law_794 cv_L_98 (c_X12_rows_22 H0_98 H0_100 H0_111 H0_114 H0_116 H0_127 H0_128) H0_98 rfl rfl (Nat.le_of_ble_eq_true rfl) ⟨(Nat.le_of_ble_eq_true rfl), (Nat.le_of_ble_eq_true rfl)⟩ ⟨(Nat.le_of_ble_eq_true rfl), (Nat.le_of_ble_eq_true rfl)⟩ (fun r h9 hp => ?_)
                        obtain ⟨rfl, rfl⟩ := hp
                        refine J_nf (nh2 := 136) (ck2 := 136) (sk2 := 415528) (st2 := [.long 0, .long 0]) rfl rfl rfl rfl ?_
                        refine J_app (L3 := [(127, .inl (1, 1260, .inr (.inl (vp_updL (vp_updL (vp_updL (vp_updL (fun _ => 0) 0 1) 0 0) 0 0) 0 0)))), (128, .inl (1, 1260, .inr (.inl (vp_updL (vp_updL (vp_updL (fun _ => 0) 0 0) 0 0) 0 0)))), (114, .inl (0, 1260, .inl (upd (fun _ => 0) 0 0))), (116, .inl (0, 1260, .inl (upd (fun _ => 0) 0 0))), (98, .inr (12, [.int 0, .int 0, .ref 99, .ref 100, .ref 101, .ref 102, .ref 103, .ref 104, .ref 105, .int 0, .int (-1), .ref 106, .ref 107, .ref 108, .int 0, .int 0, .int 0, .int 0, .int 0, .int 0, .int 0, .ref 109, .int 0, .int 0, .ref 110, .ref 111, .ref 112, .ref 113, .ref 114, .ref 115, .ref 116, .ref 117, .int 1, .int 0, .int 0, .int 0, .ref 118, .ref 119, .ref 120, .ref 121, .ref 122, .ref 123, .ref 124, .ref 125, .ref 126, .ref 127, .ref 128, .ref 129, .int 0, .ref 130, .ref 131, .ref 132, .ref 133, .ref 134, .int 0, .int 0])), (111, .inl (0, 1260, .inl (upd (fun _ => 0) 0 0))), (65, .inr (10, [.ref 51, .ref 57, .ref 66, .ref 67, .ref 68, .int 0, .int (-1), .int (-1), .ref 69, .ref 70, .ref 71, .ref 72, .int 0, .int (-1), .int (-1), .ref 74, .ref 73])), (74, .inl (1, 1260, .inr (.inl (vp_updL (vp_updL (fun _ => 0) 0 0) 0 0)))), (73, .inl (1, 1260, .inr (.inl (vp_updL (vp_updL (vp_updL (fun _ => 0) 0 0) 0 1) 0 0)))), (62, .inl (0, 1260, .inl (upd (upd (fun _ => 0) 0 (-1)) 0 0))), (57, .inr (9, [.ref 1, .ref 51, .ref 58, .ref 61, .ref 62, .ref 135, .ref 64, .int 0, .int 0, .int 0])), (135, .inl (0, 22, .inl (fun _ => 0))), (59, .inl (0, 8, .inl (upd (upd (fun _ => 0) 6 0) 7 0)))]) rfl ?_
                        refine J_lcmp (z := 0) dL_law_797 (by decide +kernel) ?_
                        refine J_if_eq (tgt := 1221) dL_law_798 (by decide) (fun _ => ?_) (fun q => absurd (by decide +kernel) q)
                        exact law_tail (Nat.le_of_ble_eq_true rfl) (Nat.le_of_ble_eq_true rfl)
                      · rcases i_cut x3.toInt 5 with h_11 | h_11
                        · obtain rfl : x1 = 0 := by rw [fa_eq, kc_0]; omega
                          obtain rfl : x2 = 0 := by rw [fa_eq, kc_0]; omega
                          obtain rfl : x3 = 4 := by rw [fa_eq, kc_4]; omega
                          refine J_hc0 ?_
                          refine J_aload_n dL_law_759 rfl rfl ?_
                          refine J_sload_n dL_law_760 rfl rfl ?_
                          refine J_iload_n dL_law_761 rfl rfl ?_
                          refine J_iconst (v := 1) dL_law_762 (by decide) ?_
                          refine J_iadd (z := 1) dL_law_763 (by decide +kernel) ?_
                          refine L_sld (i2 := 1) (v := 0) dL_law_764 (jin (by decide +kernel)) (by decide +kernel) hx1 ?_
                          refine J_sload_n dL_law_765 rfl rfl ?_
                          refine J_iload_n dL_law_766 rfl rfl ?_
                          refine J_iconst (v := 2) dL_law_767 (by decide) ?_
                          refine J_iadd (z := 2) dL_law_768 (by decide +kernel) ?_
                          refine L_sld (i2 := 2) (v := 0) dL_law_769 (jin (by decide +kernel)) (by decide +kernel) hx2 ?_
                          refine J_sload_n dL_law_770 rfl rfl ?_
                          refine J_iload_n dL_law_771 rfl rfl ?_
                          refine J_iconst (v := 3) dL_law_772 (by decide) ?_
                          refine J_iadd (z := 3) dL_law_773 (by decide +kernel) ?_
                          refine L_sld (i2 := 3) (v := 4) dL_law_774 (jin (by decide +kernel)) (by decide +kernel) hx3 ?_
                          refine J_callV (st := []) dL_law_775 cv_L_94 (c_X11_rows_23 H0_0 H0_1 H0_3 H0_51 H0_52 H0_57 H0_58 H0_59 H0_62 H0_63 H0_65 H0_73 H0_74) H0_0 rfl rfl (Nat.le_of_ble_eq_true rfl) ⟨(Nat.le_of_ble_eq_true rfl), (Nat.le_of_ble_eq_true rfl)⟩ ⟨(Nat.le_of_ble_eq_true rfl), (Nat.le_of_ble_eq_true rfl)⟩ (fun r h9 hp => ?_)
                          obtain ⟨rfl, rfl⟩ := hp
                          refine J_nf (nh2 := 136) (ck2 := 136) (sk2 := 415528) (st2 := [.long 0]) rfl rfl rfl rfl ?_
                          refine J_app (L3 := [(65, .inr (10, [.ref 51, .ref 57, .ref 66, .ref 67, .ref 68, .int 0, .int (-1), .int (-1), .ref 69, .ref 70, .ref 71, .ref 72, .int 0, .int (-1), .int (-1), .ref 73, .ref 74])), (73, .inl (1, 1260, .inr (.inl (vp_updL (vp_updL (vp_updL (vp_updL (fun _ => 0) 0 0) 0 1) 0 0) 0 0)))), (74, .inl (1, 1260, .inr (.inl (vp_updL (vp_updL (fun _ => 0) 0 0) 0 0)))), (62, .inl (0, 1260, .inl (upd (upd (fun _ => 0) 0 (-1)) 0 0))), (57, .inr (9, [.ref 1, .ref 51, .ref 58, .ref 61, .ref 62, .ref 135, .ref 64, .int 0, .int 0, .int 0])), (135, .inl (0, 22, .inl (fun _ => 0))), (59, .inl (0, 8, .inl (upd (upd (fun _ => 0) 6 0) 7 0)))]) rfl ?_
                          refine J_aload_n dL_law_778 rfl rfl ?_
                          refine J_sload_n dL_law_779 rfl rfl ?_
                          refine J_iload_n dL_law_780 rfl rfl ?_
                          refine J_iconst (v := 1) dL_law_781 (by decide) ?_
                          refine J_iadd (z := 1) dL_law_782 (by decide +kernel) ?_
                          refine L_sld (i2 := 1) (v := 0) dL_law_783 (jin (by decide +kernel)) (by decide +kernel) hx1 ?_
                          refine J_sload_n dL_law_784 rfl rfl ?_
                          refine J_iload_n dL_law_785 rfl rfl ?_
                          refine J_iconst (v := 2) dL_law_786 (by decide) ?_
                          refine J_iadd (z := 2) dL_law_787 (by decide +kernel) ?_
                          refine L_sld (i2 := 2) (v := 0) dL_law_788 (jin (by decide +kernel)) (by decide +kernel) hx2 ?_
                          refine J_sload_n dL_law_789 rfl rfl ?_
                          refine J_iload_n dL_law_790 rfl rfl ?_
                          refine J_iconst (v := 3) dL_law_791 (by decide) ?_
                          refine J_iadd (z := 3) dL_law_792 (by decide +kernel) ?_
                          refine L_sld (i2 := 3) (v := 4) dL_law_793 (jin (by decide +kernel)) (by decide +kernel) hx3 ?_
                          refine J_callV (st := [.long 0]) dL_law_794 cv_L_98 (c_X12_rows_23 H0_98 H0_100 H0_111 H0_114 H0_116 H0_127 H0_128) H0_98 rfl rfl (Nat.le_of_ble_eq_true rfl) ⟨(Nat.le_of_ble_eq_true rfl), (Nat.le_of_ble_eq_true rfl)⟩ ⟨(Nat.le_of_ble_eq_true rfl), (Nat.le_of_ble_eq_true rfl)⟩ (fun r h9 hp => ?_)
                          obtain ⟨rfl, rfl⟩ := hp
                          refine J_nf (nh2 := 136) (ck2 := 136) (sk2 := 415528) (st2 := [.long 0, .long 0]) rfl rfl rfl rfl ?_
                          refine J_app (L3 := [(127, .inl (1, 1260, .inr (.inl (vp_updL (vp_updL (vp_updL (vp_updL (vp_updL (fun _ => 0) 0 1) 0 0) 0 0) 0 0) 0 0)))), (128, .inl (1, 1260, .inr (.inl (vp_updL (vp_updL (vp_updL (vp_updL (fun _ => 0) 0 0) 0 0) 0 0) 0 0)))), (114, .inl (0, 1260, .inl (upd (fun _ => 0) 0 0))), (116, .inl (0, 1260, .inl (upd (fun _ => 0) 0 0))), (98, .inr (12, [.int 0, .int 0, .ref 99, .ref 100, .ref 101, .ref 102, .ref 103, .ref 104, .ref 105, .int 0, .int (-1), .ref 106, .ref 107, .ref 108, .int 0, .int 0, .int 0, .int 0, .int 0, .int 0, .int 0, .ref 109, .int 0, .int 0, .ref 110, .ref 111, .ref 112, .ref 113, .ref 114, .ref 115, .ref 116, .ref 117, .int 1, .int 0, .int 0, .int 0, .ref 118, .ref 119, .ref 120, .ref 121, .ref 122, .ref 123, .ref 124, .ref 125, .ref 126, .ref 127, .ref 128, .ref 129, .int 0, .ref 130, .ref 131, .ref 132, .ref 133, .ref 134, .int 0, .int 0])), (111, .inl (0, 1260, .inl (upd (fun _ => 0) 0 0))), (65, .inr (10, [.ref 51, .ref 57, .ref 66, .ref 67, .ref 68, .int 0, .int (-1), .int (-1), .ref 69, .ref 70, .ref 71, .ref 72, .int 0, .int (-1), .int (-1), .ref 73, .ref 74])), (73, .inl (1, 1260, .inr (.inl (vp_updL (vp_updL (vp_updL (vp_updL (fun _ => 0) 0 0) 0 1) 0 0) 0 0)))), (74, .inl (1, 1260, .inr (.inl (vp_updL (vp_updL (fun _ => 0) 0 0) 0 0)))), (62, .inl (0, 1260, .inl (upd (upd (fun _ => 0) 0 (-1)) 0 0))), (57, .inr (9, [.ref 1, .ref 51, .ref 58, .ref 61, .ref 62, .ref 135, .ref 64, .int 0, .int 0, .int 0])), (135, .inl (0, 22, .inl (fun _ => 0))), (59, .inl (0, 8, .inl (upd (upd (fun _ => 0) 6 0) 7 0)))]) rfl ?_
                          refine J_lcmp (z := 0) dL_law_797 (by decide +kernel) ?_
                          refine J_if_eq (tgt := 1221) dL_law_798 (by decide) (fun _ => ?_) (fun q => absurd (by decide +kernel) q)
                          exact law_tail (Nat.le_of_ble_eq_true rfl) (Nat.le_of_ble_eq_true rfl)
                        · rcases i_cut x3.toInt 6 with h_12 | h_12
                          · obtain rfl : x1 = 0 := by rw [fa_eq, kc_0]; omega
                            obtain rfl : x2 = 0 := by rw [fa_eq, kc_0]; omega
                            obtain rfl : x3 = 5 := by rw [fa_eq, kc_5]; omega
                            refine J_hc0 ?_
                            refine J_aload_n dL_law_759 rfl rfl ?_
                            refine J_sload_n dL_law_760 rfl rfl ?_
                            refine J_iload_n dL_law_761 rfl rfl ?_
                            refine J_iconst (v := 1) dL_law_762 (by decide) ?_
                            refine J_iadd (z := 1) dL_law_763 (by decide +kernel) ?_
                            refine L_sld (i2 := 1) (v := 0) dL_law_764 (jin (by decide +kernel)) (by decide +kernel) hx1 ?_
                            refine J_sload_n dL_law_765 rfl rfl ?_
                            refine J_iload_n dL_law_766 rfl rfl ?_
                            refine J_iconst (v := 2) dL_law_767 (by decide) ?_
                            refine J_iadd (z := 2) dL_law_768 (by decide +kernel) ?_
                            refine L_sld (i2 := 2) (v := 0) dL_law_769 (jin (by decide +kernel)) (by decide +kernel) hx2 ?_
                            refine J_sload_n dL_law_770 rfl rfl ?_
                            refine J_iload_n dL_law_771 rfl rfl ?_
                            refine J_iconst (v := 3) dL_law_772 (by decide) ?_
                            refine J_iadd (z := 3) dL_law_773 (by decide +kernel) ?_
                            refine L_sld (i2 := 3) (v := 5) dL_law_774 (jin (by decide +kernel)) (by decide +kernel) hx3 ?_
                            refine J_callV (st := []) dL_law_775 cv_L_94 (c_X11_rows_24 H0_0 H0_1 H0_3 H0_51 H0_52 H0_57 H0_58 H0_59 H0_62 H0_63 H0_65 H0_73 H0_74) H0_0 rfl rfl (Nat.le_of_ble_eq_true rfl) ⟨(Nat.le_of_ble_eq_true rfl), (Nat.le_of_ble_eq_true rfl)⟩ ⟨(Nat.le_of_ble_eq_true rfl), (Nat.le_of_ble_eq_true rfl)⟩ (fun r h9 hp => ?_)
                            obtain ⟨rfl, rfl⟩ := hp
                            refine J_nf (nh2 := 136) (ck2 := 136) (sk2 := 415528) (st2 := [.long 0]) rfl rfl rfl rfl ?_
                            refine J_app (L3 := [(65, .inr (10, [.ref 51, .ref 57, .ref 66, .ref 67, .ref 68, .int 0, .int (-1), .int (-1), .ref 69, .ref 70, .ref 71, .ref 72, .int 0, .int (-1), .int (-1), .ref 74, .ref 73])), (74, .inl (1, 1260, .inr (.inl (vp_updL (vp_updL (vp_updL (fun _ => 0) 0 0) 0 0) 0 0)))), (73, .inl (1, 1260, .inr (.inl (vp_updL (vp_updL (vp_updL (vp_updL (fun _ => 0) 0 0) 0 1) 0 0) 0 0)))), (62, .inl (0, 1260, .inl (upd (upd (fun _ => 0) 0 (-1)) 0 0))), (57, .inr (9, [.ref 1, .ref 51, .ref 58, .ref 61, .ref 62, .ref 135, .ref 64, .int 0, .int 0, .int 0])), (135, .inl (0, 22, .inl (fun _ => 0))), (59, .inl (0, 8, .inl (upd (upd (fun _ => 0) 6 0) 7 0)))]) rfl ?_
                            refine J_aload_n dL_law_778 rfl rfl ?_
                            refine J_sload_n dL_law_779 rfl rfl ?_
                            refine J_iload_n dL_law_780 rfl rfl ?_
                            refine J_iconst (v := 1) dL_law_781 (by decide) ?_
                            refine J_iadd (z := 1) dL_law_782 (by decide +kernel) ?_
                            refine L_sld (i2 := 1) (v := 0) dL_law_783 (jin (by decide +kernel)) (by decide +kernel) hx1 ?_
                            refine J_sload_n dL_law_784 rfl rfl ?_
                            refine J_iload_n dL_law_785 rfl rfl ?_
                            refine J_iconst (v := 2) dL_law_786 (by decide) ?_
                            refine J_iadd (z := 2) dL_law_787 (by decide +kernel) ?_
                            refine L_sld (i2 := 2) (v := 0) dL_law_788 (jin (by decide +kernel)) (by decide +kernel) hx2 ?_
                            refine J_sload_n dL_law_789 rfl rfl ?_
                            refine J_iload_n dL_law_790 rfl rfl ?_
                            refine J_iconst (v := 3) dL_law_791 (by decide) ?_
                            refine J_iadd (z := 3) dL_law_792 (by decide +kernel) ?_
                            refine L_sld (i2 := 3) (v := 5) dL_law_793 (jin (by decide +kernel)) (by decide +kernel) hx3 ?_
                            refine J_callV (st := [.long 0]) dL_law_794 cv_L_98 (c_X12_rows_24 H0_98 H0_100 H0_111 H0_114 H0_116 H0_127 H0_128) H0_98 rfl rfl (Nat.le_of_ble_eq_true rfl) ⟨(Nat.le_of_ble_eq_true rfl), (Nat.le_of_ble_eq_true rfl)⟩ ⟨(Nat.le_of_ble_eq_true rfl), (Nat.le_of_ble_eq_true rfl)⟩ (fun r h9 hp => ?_)
                            obtain ⟨rfl, rfl⟩ := hp
                            refine J_nf (nh2 := 136) (ck2 := 136) (sk2 := 415528) (st2 := [.long 0, .long 0]) rfl rfl rfl rfl ?_
                            refine J_app (L3 := [(127, .inl (1, 1260, .inr (.inl (vp_updL (vp_updL (vp_updL (vp_updL (vp_updL (vp_updL (fun _ => 0) 0 1) 0 0) 0 0) 0 0) 0 0) 0 0)))), (128, .inl (1, 1260, .inr (.inl (vp_updL (vp_updL (vp_updL (vp_updL (vp_updL (fun _ => 0) 0 0) 0 0) 0 0) 0 0) 0 0)))), (114, .inl (0, 1260, .inl (upd (fun _ => 0) 0 0))), (116, .inl (0, 1260, .inl (upd (fun _ => 0) 0 0))), (98, .inr (12, [.int 0, .int 0, .ref 99, .ref 100, .ref 101, .ref 102, .ref 103, .ref 104, .ref 105, .int 0, .int (-1), .ref 106, .ref 107, .ref 108, .int 0, .int 0, .int 0, .int 0, .int 0, .int 0, .int 0, .ref 109, .int 0, .int 0, .ref 110, .ref 111, .ref 112, .ref 113, .ref 114, .ref 115, .ref 116, .ref 117, .int 1, .int 0, .int 0, .int 0, .ref 118, .ref 119, .ref 120, .ref 121, .ref 122, .ref 123, .ref 124, .ref 125, .ref 126, .ref 127, .ref 128, .ref 129, .int 0, .ref 130, .ref 131, .ref 132, .ref 133, .ref 134, .int 0, .int 0])), (111, .inl (0, 1260, .inl (upd (fun _ => 0) 0 0))), (65, .inr (10, [.ref 51, .ref 57, .ref 66, .ref 67, .ref 68, .int 0, .int (-1), .int (-1), .ref 69, .ref 70, .ref 71, .ref 72, .int 0, .int (-1), .int (-1), .ref 74, .ref 73])), (74, .inl (1, 1260, .inr (.inl (vp_updL (vp_updL (vp_updL (fun _ => 0) 0 0) 0 0) 0 0)))), (73, .inl (1, 1260, .inr (.inl (vp_updL (vp_updL (vp_updL (vp_updL (fun _ => 0) 0 0) 0 1) 0 0) 0 0)))), (62, .inl (0, 1260, .inl (upd (upd (fun _ => 0) 0 (-1)) 0 0))), (57, .inr (9, [.ref 1, .ref 51, .ref 58, .ref 61, .ref 62, .ref 135, .ref 64, .int 0, .int 0, .int 0])), (135, .inl (0, 22, .inl (fun _ => 0))), (59, .inl (0, 8, .inl (upd (upd (fun _ => 0) 6 0) 7 0)))]) rfl ?_
                            refine J_lcmp (z := 0) dL_law_797 (by decide +kernel) ?_
                            refine J_if_eq (tgt := 1221) dL_law_798 (by decide) (fun _ => ?_) (fun q => absurd (by decide +kernel) q)
                            exact law_tail (Nat.le_of_ble_eq_true rfl) (Nat.le_of_ble_eq_true rfl)
                          · rcases i_cut x3.toInt 7 with h_13 | h_13
                            · obtain rfl : x1 = 0 := by rw [fa_eq, kc_0]; omega
                              obtain rfl : x2 = 0 := by rw [fa_eq, kc_0]; omega
                              obtain rfl : x3 = 6 := by rw [fa_eq, kc_6]; omega
                              refine J_hc0 ?_
                              refine J_aload_n dL_law_759 rfl rfl ?_
                              refine J_sload_n dL_law_760 rfl rfl ?_
                              refine J_iload_n dL_law_761 rfl rfl ?_
                              refine J_iconst (v := 1) dL_law_762 (by decide) ?_
                              refine J_iadd (z := 1) dL_law_763 (by decide +kernel) ?_
                              refine L_sld (i2 := 1) (v := 0) dL_law_764 (jin (by decide +kernel)) (by decide +kernel) hx1 ?_
                              refine J_sload_n dL_law_765 rfl rfl ?_
                              refine J_iload_n dL_law_766 rfl rfl ?_
                              refine J_iconst (v := 2) dL_law_767 (by decide) ?_
                              refine J_iadd (z := 2) dL_law_768 (by decide +kernel) ?_
                              refine L_sld (i2 := 2) (v := 0) dL_law_769 (jin (by decide +kernel)) (by decide +kernel) hx2 ?_
                              refine J_sload_n dL_law_770 rfl rfl ?_
                              refine J_iload_n dL_law_771 rfl rfl ?_
                              refine J_iconst (v := 3) dL_law_772 (by decide) ?_
                              refine J_iadd (z := 3) dL_law_773 (by decide +kernel) ?_
                              refine L_sld (i2 := 3) (v := 6) dL_law_774 (jin (by decide +kernel)) (by decide +kernel) hx3 ?_
                              refine J_callV (st := []) dL_law_775 cv_L_94 (c_X11_rows_25 H0_0 H0_1 H0_3 H0_51 H0_52 H0_57 H0_58 H0_59 H0_62 H0_63 H0_65 H0_73 H0_74) H0_0 rfl rfl (Nat.le_of_ble_eq_true rfl) ⟨(Nat.le_of_ble_eq_true rfl), (Nat.le_of_ble_eq_true rfl)⟩ ⟨(Nat.le_of_ble_eq_true rfl), (Nat.le_of_ble_eq_true rfl)⟩ (fun r h9 hp => ?_)
                              obtain ⟨rfl, rfl⟩ := hp
                              refine J_nf (nh2 := 136) (ck2 := 136) (sk2 := 415528) (st2 := [.long 0]) rfl rfl rfl rfl ?_
                              refine J_app (L3 := [(65, .inr (10, [.ref 51, .ref 57, .ref 66, .ref 67, .ref 68, .int 0, .int (-1), .int (-1), .ref 69, .ref 70, .ref 71, .ref 72, .int 0, .int (-1), .int (-1), .ref 73, .ref 74])), (73, .inl (1, 1260, .inr (.inl (vp_updL (vp_updL (vp_updL (vp_updL (vp_updL (fun _ => 0) 0 0) 0 1) 0 0) 0 0) 0 0)))), (74, .inl (1, 1260, .inr (.inl (vp_updL (vp_updL (vp_updL (fun _ => 0) 0 0) 0 0) 0 0)))), (62, .inl (0, 1260, .inl (upd (upd (fun _ => 0) 0 (-1)) 0 0))), (57, .inr (9, [.ref 1, .ref 51, .ref 58, .ref 61, .ref 62, .ref 135, .ref 64, .int 0, .int 0, .int 0])), (135, .inl (0, 22, .inl (fun _ => 0))), (59, .inl (0, 8, .inl (upd (upd (fun _ => 0) 6 0) 7 0)))]) rfl ?_
                              refine J_aload_n dL_law_778 rfl rfl ?_
                              refine J_sload_n dL_law_779 rfl rfl ?_
                              refine J_iload_n dL_law_780 rfl rfl ?_
                              refine J_iconst (v := 1) dL_law_781 (by decide) ?_
                              refine J_iadd (z := 1) dL_law_782 (by decide +kernel) ?_
                              refine L_sld (i2 := 1) (v := 0) dL_law_783 (jin (by decide +kernel)) (by decide +kernel) hx1 ?_
                              refine J_sload_n dL_law_784 rfl rfl ?_
                              refine J_iload_n dL_law_785 rfl rfl ?_
                              refine J_iconst (v := 2) dL_law_786 (by decide) ?_
                              refine J_iadd (z := 2) dL_law_787 (by decide +kernel) ?_
                              refine L_sld (i2 := 2) (v := 0) dL_law_788 (jin (by decide +kernel)) (by decide +kernel) hx2 ?_
                              refine J_sload_n dL_law_789 rfl rfl ?_
                              refine J_iload_n dL_law_790 rfl rfl ?_
                              refine J_iconst (v := 3) dL_law_791 (by decide) ?_
                              refine J_iadd (z := 3) dL_law_792 (by decide +kernel) ?_
                              refine L_sld (i2 := 3) (v := 6) dL_law_793 (jin (by decide +kernel)) (by decide +kernel) hx3 ?_
                              refine J_callV (st := [.long 0]) dL_law_794 cv_L_98 (c_X12_rows_25 H0_98 H0_100 H0_111 H0_114 H0_116 H0_127 H0_128) H0_98 rfl rfl (Nat.le_of_ble_eq_true rfl) ⟨(Nat.le_of_ble_eq_true rfl), (Nat.le_of_ble_eq_true rfl)⟩ ⟨(Nat.le_of_ble_eq_true rfl), (Nat.le_of_ble_eq_true rfl)⟩ (fun r h9 hp => ?_)
                              obtain ⟨rfl, rfl⟩ := hp
                              refine J_nf (nh2 := 136) (ck2 := 136) (sk2 := 415528) (st2 := [.long 0, .long 0]) rfl rfl rfl rfl ?_
                              refine J_app (L3 := [(127, .inl (1, 1260, .inr (.inl (vp_updL (vp_updL (vp_updL (vp_updL (vp_updL (vp_updL (vp_updL (fun _ => 0) 0 1) 0 0) 0 0) 0 0) 0 0) 0 0) 0 0)))), (128, .inl (1, 1260, .inr (.inl (vp_updL (vp_updL (vp_updL (vp_updL (vp_updL (vp_updL (fun _ => 0) 0 0) 0 0) 0 0) 0 0) 0 0) 0 0)))), (114, .inl (0, 1260, .inl (upd (fun _ => 0) 0 0))), (116, .inl (0, 1260, .inl (upd (fun _ => 0) 0 0))), (98, .inr (12, [.int 0, .int 0, .ref 99, .ref 100, .ref 101, .ref 102, .ref 103, .ref 104, .ref 105, .int 0, .int (-1), .ref 106, .ref 107, .ref 108, .int 0, .int 0, .int 0, .int 0, .int 0, .int 0, .int 0, .ref 109, .int 0, .int 0, .ref 110, .ref 111, .ref 112, .ref 113, .ref 114, .ref 115, .ref 116, .ref 117, .int 1, .int 0, .int 0, .int 0, .ref 118, .ref 119, .ref 120, .ref 121, .ref 122, .ref 123, .ref 124, .ref 125, .ref 126, .ref 127, .ref 128, .ref 129, .int 0, .ref 130, .ref 131, .ref 132, .ref 133, .ref 134, .int 0, .int 0])), (111, .inl (0, 1260, .inl (upd (fun _ => 0) 0 0))), (65, .inr (10, [.ref 51, .ref 57, .ref 66, .ref 67, .ref 68, .int 0, .int (-1), .int (-1), .ref 69, .ref 70, .ref 71, .ref 72, .int 0, .int (-1), .int (-1), .ref 73, .ref 74])), (73, .inl (1, 1260, .inr (.inl (vp_updL (vp_updL (vp_updL (vp_updL (vp_updL (fun _ => 0) 0 0) 0 1) 0 0) 0 0) 0 0)))), (74, .inl (1, 1260, .inr (.inl (vp_updL (vp_updL (vp_updL (fun _ => 0) 0 0) 0 0) 0 0)))), (62, .inl (0, 1260, .inl (upd (upd (fun _ => 0) 0 (-1)) 0 0))), (57, .inr (9, [.ref 1, .ref 51, .ref 58, .ref 61, .ref 62, .ref 135, .ref 64, .int 0, .int 0, .int 0])), (135, .inl (0, 22, .inl (fun _ => 0))), (59, .inl (0, 8, .inl (upd (upd (fun _ => 0) 6 0) 7 0)))]) rfl ?_
                              refine J_lcmp (z := 0) dL_law_797 (by decide +kernel) ?_
                              refine J_if_eq (tgt := 1221) dL_law_798 (by decide) (fun _ => ?_) (fun q => absurd (by decide +kernel) q)
                              exact law_tail (Nat.le_of_ble_eq_true rfl) (Nat.le_of_ble_eq_true rfl)
                            · rcases i_cut x3.toInt 8 with h_14 | h_14
                              · obtain rfl : x1 = 0 := by rw [fa_eq, kc_0]; omega
                                obtain rfl : x2 = 0 := by rw [fa_eq, kc_0]; omega
                                obtain rfl : x3 = 7 := by rw [fa_eq, kc_7]; omega
                                refine J_hc0 ?_
                                refine J_aload_n dL_law_759 rfl rfl ?_
                                refine J_sload_n dL_law_760 rfl rfl ?_
                                refine J_iload_n dL_law_761 rfl rfl ?_
                                refine J_iconst (v := 1) dL_law_762 (by decide) ?_
                                refine J_iadd (z := 1) dL_law_763 (by decide +kernel) ?_
                                refine L_sld (i2 := 1) (v := 0) dL_law_764 (jin (by decide +kernel)) (by decide +kernel) hx1 ?_
                                refine J_sload_n dL_law_765 rfl rfl ?_
                                refine J_iload_n dL_law_766 rfl rfl ?_
                                refine J_iconst (v := 2) dL_law_767 (by decide) ?_
                                refine J_iadd (z := 2) dL_law_768 (by decide +kernel) ?_
                                refine L_sld (i2 := 2) (v := 0) dL_law_769 (jin (by decide +kernel)) (by decide +kernel) hx2 ?_
                                refine J_sload_n dL_law_770 rfl rfl ?_
                                refine J_iload_n dL_law_771 rfl rfl ?_
                                refine J_iconst (v := 3) dL_law_772 (by decide) ?_
                                refine J_iadd (z := 3) dL_law_773 (by decide +kernel) ?_
                                refine L_sld (i2 := 3) (v := 7) dL_law_774 (jin (by decide +kernel)) (by decide +kernel) hx3 ?_
                                refine J_callV (st := []) dL_law_775 cv_L_94 (c_X11_rows_26 H0_0 H0_1 H0_3 H0_51 H0_52 H0_57 H0_58 H0_59 H0_62 H0_63 H0_65 H0_73 H0_74) H0_0 rfl rfl (Nat.le_of_ble_eq_true rfl) ⟨(Nat.le_of_ble_eq_true rfl), (Nat.le_of_ble_eq_true rfl)⟩ ⟨(Nat.le_of_ble_eq_true rfl), (Nat.le_of_ble_eq_true rfl)⟩ (fun r h9 hp => ?_)
                                obtain ⟨rfl, rfl⟩ := hp
                                refine J_nf (nh2 := 136) (ck2 := 136) (sk2 := 415528) (st2 := [.long 0]) rfl rfl rfl rfl ?_
                                refine J_app (L3 := [(65, .inr (10, [.ref 51, .ref 57, .ref 66, .ref 67, .ref 68, .int 0, .int (-1), .int (-1), .ref 69, .ref 70, .ref 71, .ref 72, .int 0, .int (-1), .int (-1), .ref 74, .ref 73])), (74, .inl (1, 1260, .inr (.inl (vp_updL (vp_updL (vp_updL (vp_updL (fun _ => 0) 0 0) 0 0) 0 0) 0 0)))), (73, .inl (1, 1260, .inr (.inl (vp_updL (vp_updL (vp_updL (vp_updL (vp_updL (fun _ => 0) 0 0) 0 1) 0 0) 0 0) 0 0)))), (62, .inl (0, 1260, .inl (upd (upd (fun _ => 0) 0 (-1)) 0 0))), (57, .inr (9, [.ref 1, .ref 51, .ref 58, .ref 61, .ref 62, .ref 135, .ref 64, .int 0, .int 0, .int 0])), (135, .inl (0, 22, .inl (fun _ => 0))), (59, .inl (0, 8, .inl (upd (upd (fun _ => 0) 6 0) 7 0)))]) rfl ?_
                                refine J_aload_n dL_law_778 rfl rfl ?_
                                refine J_sload_n dL_law_779 rfl rfl ?_
                                refine J_iload_n dL_law_780 rfl rfl ?_
                                refine J_iconst (v := 1) dL_law_781 (by decide) ?_
                                refine J_iadd (z := 1) dL_law_782 (by decide +kernel) ?_
                                refine L_sld (i2 := 1) (v := 0) dL_law_783 (jin (by decide +kernel)) (by decide +kernel) hx1 ?_
                                refine J_sload_n dL_law_784 rfl rfl ?_
                                refine J_iload_n dL_law_785 rfl rfl ?_
                                refine J_iconst (v := 2) dL_law_786 (by decide) ?_
                                refine J_iadd (z := 2) dL_law_787 (by decide +kernel) ?_
                                refine L_sld (i2 := 2) (v := 0) dL_law_788 (jin (by decide +kernel)) (by decide +kernel) hx2 ?_
                                refine J_sload_n dL_law_789 rfl rfl ?_
                                refine J_iload_n dL_law_790 rfl rfl ?_
                                refine J_iconst (v := 3) dL_law_791 (by decide) ?_
                                refine J_iadd (z := 3) dL_law_792 (by decide +kernel) ?_
                                refine L_sld (i2 := 3) (v := 7) dL_law_793 (jin (by decide +kernel)) (by decide +kernel) hx3 ?_
                                refine J_callV (st := [.long 0]) dL_law_794 cv_L_98 (c_X12_rows_26 H0_98 H0_100 H0_111 H0_114 H0_116 H0_127 H0_128) H0_98 rfl rfl (Nat.le_of_ble_eq_true rfl) ⟨(Nat.le_of_ble_eq_true rfl), (Nat.le_of_ble_eq_true rfl)⟩ ⟨(Nat.le_of_ble_eq_true rfl), (Nat.le_of_ble_eq_true rfl)⟩ (fun r h9 hp => ?_)
                                obtain ⟨rfl, rfl⟩ := hp
                                refine J_nf (nh2 := 136) (ck2 := 136) (sk2 := 415528) (st2 := [.long 0, .long 0]) rfl rfl rfl rfl ?_
                                refine J_app (L3 := [(127, .inl (1, 1260, .inr (.inl (vp_updL (vp_updL (vp_updL (vp_updL (vp_updL (vp_updL (vp_updL (vp_updL (fun _ => 0) 0 1) 0 0) 0 0) 0 0) 0 0) 0 0) 0 0) 0 0)))), (128, .inl (1, 1260, .inr (.inl (vp_updL (vp_updL (vp_updL (vp_updL (vp_updL (vp_updL (vp_updL (fun _ => 0) 0 0) 0 0) 0 0) 0 0) 0 0) 0 0) 0 0)))), (114, .inl (0, 1260, .inl (upd (fun _ => 0) 0 0))), (116, .inl (0, 1260, .inl (upd (fun _ => 0) 0 0))), (98, .inr (12, [.int 0, .int 0, .ref 99, .ref 100, .ref 101, .ref 102, .ref 103, .ref 104, .ref 105, .int 0, .int (-1), .ref 106, .ref 107, .ref 108, .int 0, .int 0, .int 0, .int 0, .int 0, .int 0, .int 0, .ref 109, .int 0, .int 0, .ref 110, .ref 111, .ref 112, .ref 113, .ref 114, .ref 115, .ref 116, .ref 117, .int 1, .int 0, .int 0, .int 0, .ref 118, .ref 119, .ref 120, .ref 121, .ref 122, .ref 123, .ref 124, .ref 125, .ref 126, .ref 127, .ref 128, .ref 129, .int 0, .ref 130, .ref 131, .ref 132, .ref 133, .ref 134, .int 0, .int 0])), (111, .inl (0, 1260, .inl (upd (fun _ => 0) 0 0))), (65, .inr (10, [.ref 51, .ref 57, .ref 66, .ref 67, .ref 68, .int 0, .int (-1), .int (-1), .ref 69, .ref 70, .ref 71, .ref 72, .int 0, .int (-1), .int (-1), .ref 74, .ref 73])), (74, .inl (1, 1260, .inr (.inl (vp_updL (vp_updL (vp_updL (vp_updL (fun _ => 0) 0 0) 0 0) 0 0) 0 0)))), (73, .inl (1, 1260, .inr (.inl (vp_updL (vp_updL (vp_updL (vp_updL (vp_updL (fun _ => 0) 0 0) 0 1) 0 0) 0 0) 0 0)))), (62, .inl (0, 1260, .inl (upd (upd (fun _ => 0) 0 (-1)) 0 0))), (57, .inr (9, [.ref 1, .ref 51, .ref 58, .ref 61, .ref 62, .ref 135, .ref 64, .int 0, .int 0, .int 0])), (135, .inl (0, 22, .inl (fun _ => 0))), (59, .inl (0, 8, .inl (upd (upd (fun _ => 0) 6 0) 7 0)))]) rfl ?_
                                refine J_lcmp (z := 0) dL_law_797 (by decide +kernel) ?_
                                refine J_if_eq (tgt := 1221) dL_law_798 (by decide) (fun _ => ?_) (fun q => absurd (by decide +kernel) q)
                                exact law_tail (Nat.le_of_ble_eq_true rfl) (Nat.le_of_ble_eq_true rfl)
                              · rcases i_cut x3.toInt 9 with h_15 | h_15
                                · obtain rfl : x1 = 0 := by rw [fa_eq, kc_0]; omega
                                  obtain rfl : x2 = 0 := by rw [fa_eq, kc_0]; omega
                                  obtain rfl : x3 = 8 := by rw [fa_eq, kc_8]; omega
                                  refine J_hc0 ?_
                                  refine J_aload_n dL_law_759 rfl rfl ?_
                                  refine J_sload_n dL_law_760 rfl rfl ?_
                                  refine J_iload_n dL_law_761 rfl rfl ?_
                                  refine J_iconst (v := 1) dL_law_762 (by decide) ?_
                                  refine J_iadd (z := 1) dL_law_763 (by decide +kernel) ?_
                                  refine L_sld (i2 := 1) (v := 0) dL_law_764 (jin (by decide +kernel)) (by decide +kernel) hx1 ?_
                                  refine J_sload_n dL_law_765 rfl rfl ?_
                                  refine J_iload_n dL_law_766 rfl rfl ?_
                                  refine J_iconst (v := 2) dL_law_767 (by decide) ?_
                                  refine J_iadd (z := 2) dL_law_768 (by decide +kernel) ?_
                                  refine L_sld (i2 := 2) (v := 0) dL_law_769 (jin (by decide +kernel)) (by decide +kernel) hx2 ?_
                                  refine J_sload_n dL_law_770 rfl rfl ?_
                                  refine J_iload_n dL_law_771 rfl rfl ?_
                                  refine J_iconst (v := 3) dL_law_772 (by decide) ?_
                                  refine J_iadd (z := 3) dL_law_773 (by decide +kernel) ?_
                                  refine L_sld (i2 := 3) (v := 8) dL_law_774 (jin (by decide +kernel)) (by decide +kernel) hx3 ?_
                                  refine J_callV (st := []) dL_law_775 cv_L_94 (c_X11_rows_27 H0_0 H0_1 H0_3 H0_51 H0_52 H0_57 H0_58 H0_59 H0_62 H0_63 H0_65 H0_73 H0_74) H0_0 rfl rfl (Nat.le_of_ble_eq_true rfl) ⟨(Nat.le_of_ble_eq_true rfl), (Nat.le_of_ble_eq_true rfl)⟩ ⟨(Nat.le_of_ble_eq_true rfl), (Nat.le_of_ble_eq_true rfl)⟩ (fun r h9 hp => ?_)
                                  obtain ⟨rfl, rfl⟩ := hp
                                  refine J_nf (nh2 := 136) (ck2 := 136) (sk2 := 415528) (st2 := [.long 0]) rfl rfl rfl rfl ?_
                                  refine J_app (L3 := [(65, .inr (10, [.ref 51, .ref 57, .ref 66, .ref 67, .ref 68, .int 0, .int (-1), .int (-1), .ref 69, .ref 70, .ref 71, .ref 72, .int 0, .int (-1), .int (-1), .ref 73, .ref 74])), (73, .inl (1, 1260, .inr (.inl (vp_updL (vp_updL (vp_updL (vp_updL (vp_updL (vp_updL (fun _ => 0) 0 0) 0 1) 0 0) 0 0) 0 0) 0 0)))), (74, .inl (1, 1260, .inr (.inl (vp_updL (vp_updL (vp_updL (vp_updL (fun _ => 0) 0 0) 0 0) 0 0) 0 0)))), (62, .inl (0, 1260, .inl (upd (upd (fun _ => 0) 0 (-1)) 0 0))), (57, .inr (9, [.ref 1, .ref 51, .ref 58, .ref 61, .ref 62, .ref 135, .ref 64, .int 0, .int 0, .int 0])), (135, .inl (0, 22, .inl (fun _ => 0))), (59, .inl (0, 8, .inl (upd (upd (fun _ => 0) 6 0) 7 0)))]) rfl ?_
                                  refine J_aload_n dL_law_778 rfl rfl ?_
                                  refine J_sload_n dL_law_779 rfl rfl ?_
                                  refine J_iload_n dL_law_780 rfl rfl ?_
                                  refine J_iconst (v := 1) dL_law_781 (by decide) ?_
                                  refine J_iadd (z := 1) dL_law_782 (by decide +kernel) ?_
                                  refine L_sld (i2 := 1) (v := 0) dL_law_783 (jin (by decide +kernel)) (by decide +kernel) hx1 ?_
                                  refine J_sload_n dL_law_784 rfl rfl ?_
                                  refine J_iload_n dL_law_785 rfl rfl ?_
                                  refine J_iconst (v := 2) dL_law_786 (by decide) ?_
                                  refine J_iadd (z := 2) dL_law_787 (by decide +kernel) ?_
                                  refine L_sld (i2 := 2) (v := 0) dL_law_788 (jin (by decide +kernel)) (by decide +kernel) hx2 ?_
                                  refine J_sload_n dL_law_789 rfl rfl ?_
                                  refine J_iload_n dL_law_790 rfl rfl ?_
                                  refine J_iconst (v := 3) dL_law_791 (by decide) ?_
                                  refine J_iadd (z := 3) dL_law_792 (by decide +kernel) ?_
                                  refine L_sld (i2 := 3) (v := 8) dL_law_793 (jin (by decide +kernel)) (by decide +kernel) hx3 ?_
                                  refine J_callV (st := [.long 0]) dL_law_794 cv_L_98 (c_X12_rows_27 H0_98 H0_100 H0_111 H0_114 H0_116 H0_127 H0_128) H0_98 rfl rfl (Nat.le_of_ble_eq_true rfl) ⟨(Nat.le_of_ble_eq_true rfl), (Nat.le_of_ble_eq_true rfl)⟩ ⟨(Nat.le_of_ble_eq_true rfl), (Nat.le_of_ble_eq_true rfl)⟩ (fun r h9 hp => ?_)
                                  obtain ⟨rfl, rfl⟩ := hp
                                  refine J_nf (nh2 := 136) (ck2 := 136) (sk2 := 415528) (st2 := [.long 0, .long 0]) rfl rfl rfl rfl ?_
                                  refine J_app (L3 := [(127, .inl (1, 1260, .inr (.inl (vp_updL (vp_updL (vp_updL (vp_updL (vp_updL (vp_updL (vp_updL (vp_updL (vp_updL (fun _ => 0) 0 1) 0 0) 0 0) 0 0) 0 0) 0 0) 0 0) 0 0) 0 0)))), (128, .inl (1, 1260, .inr (.inl (vp_updL (vp_updL (vp_updL (vp_updL (vp_updL (vp_updL (vp_updL (vp_updL (fun _ => 0) 0 0) 0 0) 0 0) 0 0) 0 0) 0 0) 0 0) 0 0)))), (114, .inl (0, 1260, .inl (upd (fun _ => 0) 0 0))), (116, .inl (0, 1260, .inl (upd (fun _ => 0) 0 0))), (98, .inr (12, [.int 0, .int 0, .ref 99, .ref 100, .ref 101, .ref 102, .ref 103, .ref 104, .ref 105, .int 0, .int (-1), .ref 106, .ref 107, .ref 108, .int 0, .int 0, .int 0, .int 0, .int 0, .int 0, .int 0, .ref 109, .int 0, .int 0, .ref 110, .ref 111, .ref 112, .ref 113, .ref 114, .ref 115, .ref 116, .ref 117, .int 1, .int 0, .int 0, .int 0, .ref 118, .ref 119, .ref 120, .ref 121, .ref 122, .ref 123, .ref 124, .ref 125, .ref 126, .ref 127, .ref 128, .ref 129, .int 0, .ref 130, .ref 131, .ref 132, .ref 133, .ref 134, .int 0, .int 0])), (111, .inl (0, 1260, .inl (upd (fun _ => 0) 0 0))), (65, .inr (10, [.ref 51, .ref 57, .ref 66, .ref 67, .ref 68, .int 0, .int (-1), .int (-1), .ref 69, .ref 70, .ref 71, .ref 72, .int 0, .int (-1), .int (-1), .ref 73, .ref 74])), (73, .inl (1, 1260, .inr (.inl (vp_updL (vp_updL (vp_updL (vp_updL (vp_updL (vp_updL (fun _ => 0) 0 0) 0 1) 0 0) 0 0) 0 0) 0 0)))), (74, .inl (1, 1260, .inr (.inl (vp_updL (vp_updL (vp_updL (vp_updL (fun _ => 0) 0 0) 0 0) 0 0) 0 0)))), (62, .inl (0, 1260, .inl (upd (upd (fun _ => 0) 0 (-1)) 0 0))), (57, .inr (9, [.ref 1, .ref 51, .ref 58, .ref 61, .ref 62, .ref 135, .ref 64, .int 0, .int 0, .int 0])), (135, .inl (0, 22, .inl (fun _ => 0))), (59, .inl (0, 8, .inl (upd (upd (fun _ => 0) 6 0) 7 0)))]) rfl ?_
                                  refine J_lcmp (z := 0) dL_law_797 (by decide +kernel) ?_
                                  refine J_if_eq (tgt := 1221) dL_law_798 (by decide) (fun _ => ?_) (fun q => absurd (by decide +kernel) q)
                                  exact law_tail (Nat.le_of_ble_eq_true rfl) (Nat.le_of_ble_eq_true rfl)
                                · rcases i_cut x3.toInt 10 with h_16 | h_16
                                  · obtain rfl : x1 = 0 := by rw [fa_eq, kc_0]; omega
                                    obtain rfl : x2 = 0 := by rw [fa_eq, kc_0]; omega
                                    obtain rfl : x3 = 9 := by rw [fa_eq, kc_9]; omega
                                    refine J_hc0 ?_
                                    refine J_aload_n dL_law_759 rfl rfl ?_
                                    refine J_sload_n dL_law_760 rfl rfl ?_
                                    refine J_iload_n dL_law_761 rfl rfl ?_
                                    refine J_iconst (v := 1) dL_law_762 (by decide) ?_
                                    refine J_iadd (z := 1) dL_law_763 (by decide +kernel) ?_
                                    refine L_sld (i2 := 1) (v := 0) dL_law_764 (jin (by decide +kernel)) (by decide +kernel) hx1 ?_
                                    refine J_sload_n dL_law_765 rfl rfl ?_
                                    refine J_iload_n dL_law_766 rfl rfl ?_
                                    refine J_iconst (v := 2) dL_law_767 (by decide) ?_
                                    refine J_iadd (z := 2) dL_law_768 (by decide +kernel) ?_
                                    refine L_sld (i2 := 2) (v := 0) dL_law_769 (jin (by decide +kernel)) (by decide +kernel) hx2 ?_
                                    refine J_sload_n dL_law_770 rfl rfl ?_
                                    refine J_iload_n dL_law_771 rfl rfl ?_
                                    refine J_iconst (v := 3) dL_law_772 (by decide) ?_
                                    refine J_iadd (z := 3) dL_law_773 (by decide +kernel) ?_
                                    refine L_sld (i2 := 3) (v := 9) dL_law_774 (jin (by decide +kernel)) (by decide +kernel) hx3 ?_
                                    refine J_callV (st := []) dL_law_775 cv_L_94 (c_X11_rows_28 H0_0 H0_1 H0_3 H0_51 H0_52 H0_57 H0_58 H0_59 H0_62 H0_63 H0_65 H0_73 H0_74) H0_0 rfl rfl (Nat.le_of_ble_eq_true rfl) ⟨(Nat.le_of_ble_eq_true rfl), (Nat.le_of_ble_eq_true rfl)⟩ ⟨(Nat.le_of_ble_eq_true rfl), (Nat.le_of_ble_eq_true rfl)⟩ (fun r h9 hp => ?_)
                                    obtain ⟨rfl, rfl⟩ := hp
                                    refine J_nf (nh2 := 136) (ck2 := 136) (sk2 := 415528) (st2 := [.long 0]) rfl rfl rfl rfl ?_
                                    refine J_app (L3 := [(65, .inr (10, [.ref 51, .ref 57, .ref 66, .ref 67, .ref 68, .int 0, .int (-1), .int (-1), .ref 69, .ref 70, .ref 71, .ref 72, .int 0, .int (-1), .int (-1), .ref 74, .ref 73])), (74, .inl (1, 1260, .inr (.inl (vp_updL (vp_updL (vp_updL (vp_updL (vp_updL (fun _ => 0) 0 0) 0 0) 0 0) 0 0) 0 0)))), (73, .inl (1, 1260, .inr (.inl (vp_updL (vp_updL (vp_updL (vp_updL (vp_updL (vp_updL (fun _ => 0) 0 0) 0 1) 0 0) 0 0) 0 0) 0 0)))), (62, .inl (0, 1260, .inl (upd (upd (fun _ => 0) 0 (-1)) 0 0))), (57, .inr (9, [.ref 1, .ref 51, .ref 58, .ref 61, .ref 62, .ref 135, .ref 64, .int 0, .int 0, .int 0])), (135, .inl (0, 22, .inl (fun _ => 0))), (59, .inl (0, 8, .inl (upd (upd (fun _ => 0) 6 0) 7 0)))]) rfl ?_
                                    refine J_aload_n dL_law_778 rfl rfl ?_
                                    refine J_sload_n dL_law_779 rfl rfl ?_
                                    refine J_iload_n dL_law_780 rfl rfl ?_
                                    refine J_iconst (v := 1) dL_law_781 (by decide) ?_
                                    refine J_iadd (z := 1) dL_law_782 (by decide +kernel) ?_
                                    refine L_sld (i2 := 1) (v := 0) dL_law_783 (jin (by decide +kernel)) (by decide +kernel) hx1 ?_
                                    refine J_sload_n dL_law_784 rfl rfl ?_
                                    refine J_iload_n dL_law_785 rfl rfl ?_
                                    refine J_iconst (v := 2) dL_law_786 (by decide) ?_
                                    refine J_iadd (z := 2) dL_law_787 (by decide +kernel) ?_
                                    refine L_sld (i2 := 2) (v := 0) dL_law_788 (jin (by decide +kernel)) (by decide +kernel) hx2 ?_
                                    refine J_sload_n dL_law_789 rfl rfl ?_
                                    refine J_iload_n dL_law_790 rfl rfl ?_
                                    refine J_iconst (v := 3) dL_law_791 (by decide) ?_
                                    refine J_iadd (z := 3) dL_law_792 (by decide +kernel) ?_
                                    refine L_sld (i2 := 3) (v := 9) dL_law_793 (jin (by decide +kernel)) (by decide +kernel) hx3 ?_
                                    refine J_callV (st := [.long 0]) dL_law_794 cv_L_98 (c_X12_rows_28 H0_98 H0_100 H0_111 H0_114 H0_116 H0_127 H0_128) H0_98 rfl rfl (Nat.le_of_ble_eq_true rfl) ⟨(Nat.le_of_ble_eq_true rfl), (Nat.le_of_ble_eq_true rfl)⟩ ⟨(Nat.le_of_ble_eq_true rfl), (Nat.le_of_ble_eq_true rfl)⟩ (fun r h9 hp => ?_)
                                    obtain ⟨rfl, rfl⟩ := hp
                                    refine J_nf (nh2 := 136) (ck2 := 136) (sk2 := 415528) (st2 := [.long 0, .long 0]) rfl rfl rfl rfl ?_
                                    refine J_app (L3 := [(127, .inl (1, 1260, .inr (.inl (vp_updL (vp_updL (vp_updL (vp_updL (vp_updL (vp_updL (vp_updL (vp_updL (vp_updL (vp_updL (fun _ => 0) 0 1) 0 0) 0 0) 0 0) 0 0) 0 0) 0 0) 0 0) 0 0) 0 0)))), (128, .inl (1, 1260, .inr (.inl (vp_updL (vp_updL (vp_updL (vp_updL (vp_updL (vp_updL (vp_updL (vp_updL (vp_updL (fun _ => 0) 0 0) 0 0) 0 0) 0 0) 0 0) 0 0) 0 0) 0 0) 0 0)))), (114, .inl (0, 1260, .inl (upd (fun _ => 0) 0 0))), (116, .inl (0, 1260, .inl (upd (fun _ => 0) 0 0))), (98, .inr (12, [.int 0, .int 0, .ref 99, .ref 100, .ref 101, .ref 102, .ref 103, .ref 104, .ref 105, .int 0, .int (-1), .ref 106, .ref 107, .ref 108, .int 0, .int 0, .int 0, .int 0, .int 0, .int 0, .int 0, .ref 109, .int 0, .int 0, .ref 110, .ref 111, .ref 112, .ref 113, .ref 114, .ref 115, .ref 116, .ref 117, .int 1, .int 0, .int 0, .int 0, .ref 118, .ref 119, .ref 120, .ref 121, .ref 122, .ref 123, .ref 124, .ref 125, .ref 126, .ref 127, .ref 128, .ref 129, .int 0, .ref 130, .ref 131, .ref 132, .ref 133, .ref 134, .int 0, .int 0])), (111, .inl (0, 1260, .inl (upd (fun _ => 0) 0 0))), (65, .inr (10, [.ref 51, .ref 57, .ref 66, .ref 67, .ref 68, .int 0, .int (-1), .int (-1), .ref 69, .ref 70, .ref 71, .ref 72, .int 0, .int (-1), .int (-1), .ref 74, .ref 73])), (74, .inl (1, 1260, .inr (.inl (vp_updL (vp_updL (vp_updL (vp_updL (vp_updL (fun _ => 0) 0 0) 0 0) 0 0) 0 0) 0 0)))), (73, .inl (1, 1260, .inr (.inl (vp_updL (vp_updL (vp_updL (vp_updL (vp_updL (vp_updL (fun _ => 0) 0 0) 0 1) 0 0) 0 0) 0 0) 0 0)))), (62, .inl (0, 1260, .inl (upd (upd (fun _ => 0) 0 (-1)) 0 0))), (57, .inr (9, [.ref 1, .ref 51, .ref 58, .ref 61, .ref 62, .ref 135, .ref 64, .int 0, .int 0, .int 0])), (135, .inl (0, 22, .inl (fun _ => 0))), (59, .inl (0, 8, .inl (upd (upd (fun _ => 0) 6 0) 7 0)))]) rfl ?_
                                    refine J_lcmp (z := 0) dL_law_797 (by decide +kernel) ?_
                                    refine J_if_eq (tgt := 1221) dL_law_798 (by decide) (fun _ => ?_) (fun q => absurd (by decide +kernel) q)
                                    exact law_tail (Nat.le_of_ble_eq_true rfl) (Nat.le_of_ble_eq_true rfl)
                                  · rcases i_cut x3.toInt 11 with h_17 | h_17
                                    · obtain rfl : x1 = 0 := by rw [fa_eq, kc_0]; omega
                                      obtain rfl : x2 = 0 := by rw [fa_eq, kc_0]; omega
                                      obtain rfl : x3 = 10 := by rw [fa_eq, kc_10]; omega
                                      refine J_hc0 ?_
                                      refine J_aload_n dL_law_759 rfl rfl ?_
                                      refine J_sload_n dL_law_760 rfl rfl ?_
                                      refine J_iload_n dL_law_761 rfl rfl ?_
                                      refine J_iconst (v := 1) dL_law_762 (by decide) ?_
                                      refine J_iadd (z := 1) dL_law_763 (by decide +kernel) ?_
                                      refine L_sld (i2 := 1) (v := 0) dL_law_764 (jin (by decide +kernel)) (by decide +kernel) hx1 ?_
                                      refine J_sload_n dL_law_765 rfl rfl ?_
                                      refine J_iload_n dL_law_766 rfl rfl ?_
                                      refine J_iconst (v := 2) dL_law_767 (by decide) ?_
                                      refine J_iadd (z := 2) dL_law_768 (by decide +kernel) ?_
                                      refine L_sld (i2 := 2) (v := 0) dL_law_769 (jin (by decide +kernel)) (by decide +kernel) hx2 ?_
                                      refine J_sload_n dL_law_770 rfl rfl ?_
                                      refine J_iload_n dL_law_771 rfl rfl ?_
                                      refine J_iconst (v := 3) dL_law_772 (by decide) ?_
                                      refine J_iadd (z := 3) dL_law_773 (by decide +kernel) ?_
                                      refine L_sld (i2 := 3) (v := 10) dL_law_774 (jin (by decide +kernel)) (by decide +kernel) hx3 ?_
                                      refine J_callV (st := []) dL_law_775 cv_L_94 (c_X11_rows_29 H0_0 H0_1 H0_3 H0_51 H0_52 H0_57 H0_58 H0_59 H0_62 H0_63 H0_65 H0_73 H0_74) H0_0 rfl rfl (Nat.le_of_ble_eq_true rfl) ⟨(Nat.le_of_ble_eq_true rfl), (Nat.le_of_ble_eq_true rfl)⟩ ⟨(Nat.le_of_ble_eq_true rfl), (Nat.le_of_ble_eq_true rfl)⟩ (fun r h9 hp => ?_)
                                      obtain ⟨rfl, rfl⟩ := hp
                                      refine J_nf (nh2 := 136) (ck2 := 136) (sk2 := 415528) (st2 := [.long 0]) rfl rfl rfl rfl ?_
                                      refine J_app (L3 := [(65, .inr (10, [.ref 51, .ref 57, .ref 66, .ref 67, .ref 68, .int 0, .int (-1), .int (-1), .ref 69, .ref 70, .ref 71, .ref 72, .int 0, .int (-1), .int (-1), .ref 73, .ref 74])), (73, .inl (1, 1260, .inr (.inl (vp_updL (vp_updL (vp_updL (vp_updL (vp_updL (vp_updL (vp_updL (fun _ => 0) 0 0) 0 1) 0 0) 0 0) 0 0) 0 0) 0 0)))), (74, .inl (1, 1260, .inr (.inl (vp_updL (vp_updL (vp_updL (vp_updL (vp_updL (fun _ => 0) 0 0) 0 0) 0 0) 0 0) 0 0)))), (62, .inl (0, 1260, .inl (upd (upd (fun _ => 0) 0 (-1)) 0 0))), (57, .inr (9, [.ref 1, .ref 51, .ref 58, .ref 61, .ref 62, .ref 135, .ref 64, .int 0, .int 0, .int 0])), (135, .inl (0, 22, .inl (fun _ => 0))), (59, .inl (0, 8, .inl (upd (upd (fun _ => 0) 6 0) 7 0)))]) rfl ?_
                                      refine J_aload_n dL_law_778 rfl rfl ?_
                                      refine J_sload_n dL_law_779 rfl rfl ?_
                                      refine J_iload_n dL_law_780 rfl rfl ?_
                                      refine J_iconst (v := 1) dL_law_781 (by decide) ?_
                                      refine J_iadd (z := 1) dL_law_782 (by decide +kernel) ?_
                                      refine L_sld (i2 := 1) (v := 0) dL_law_783 (jin (by decide +kernel)) (by decide +kernel) hx1 ?_
                                      refine J_sload_n dL_law_784 rfl rfl ?_
                                      refine J_iload_n dL_law_785 rfl rfl ?_
                                      refine J_iconst (v := 2) dL_law_786 (by decide) ?_
                                      refine J_iadd (z := 2) dL_law_787 (by decide +kernel) ?_
                                      refine L_sld (i2 := 2) (v := 0) dL_law_788 (jin (by decide +kernel)) (by decide +kernel) hx2 ?_
                                      refine J_sload_n dL_law_789 rfl rfl ?_
                                      refine J_iload_n dL_law_790 rfl rfl ?_
                                      refine J_iconst (v := 3) dL_law_791 (by decide) ?_
                                      refine J_iadd (z := 3) dL_law_792 (by decide +kernel) ?_
                                      refine L_sld (i2 := 3) (v := 10) dL_law_793 (jin (by decide +kernel)) (by decide +kernel) hx3 ?_
                                      refine J_callV (st := [.long 0]) dL_law_794 cv_L_98 (c_X12_rows_29 H0_98 H0_100 H0_111 H0_114 H0_116 H0_127 H0_128) H0_98 rfl rfl (Nat.le_of_ble_eq_true rfl) ⟨(Nat.le_of_ble_eq_true rfl), (Nat.le_of_ble_eq_true rfl)⟩ ⟨(Nat.le_of_ble_eq_true rfl), (Nat.le_of_ble_eq_true rfl)⟩ (fun r h9 hp => ?_)
                                      obtain ⟨rfl, rfl⟩ := hp
                                      refine J_nf (nh2 := 136) (ck2 := 136) (sk2 := 415528) (st2 := [.long 0, .long 0]) rfl rfl rfl rfl ?_
                                      refine J_app (L3 := [(127, .inl (1, 1260, .inr (.inl (vp_updL (vp_updL (vp_updL (vp_updL (vp_updL (vp_updL (vp_updL (vp_updL (vp_updL (vp_updL (vp_updL (fun _ => 0) 0 1) 0 0) 0 0) 0 0) 0 0) 0 0) 0 0) 0 0) 0 0) 0 0) 0 0)))), (128, .inl (1, 1260, .inr (.inl (vp_updL (vp_updL (vp_updL (vp_updL (vp_updL (vp_updL (vp_updL (vp_updL (vp_updL (vp_updL (fun _ => 0) 0 0) 0 0) 0 0) 0 0) 0 0) 0 0) 0 0) 0 0) 0 0) 0 0)))), (114, .inl (0, 1260, .inl (upd (fun _ => 0) 0 0))), (116, .inl (0, 1260, .inl (upd (fun _ => 0) 0 0))), (98, .inr (12, [.int 0, .int 0, .ref 99, .ref 100, .ref 101, .ref 102, .ref 103, .ref 104, .ref 105, .int 0, .int (-1), .ref 106, .ref 107, .ref 108, .int 0, .int 0, .int 0, .int 0, .int 0, .int 0, .int 0, .ref 109, .int 0, .int 0, .ref 110, .ref 111, .ref 112, .ref 113, .ref 114, .ref 115, .ref 116, .ref 117, .int 1, .int 0, .int 0, .int 0, .ref 118, .ref 119, .ref 120, .ref 121, .ref 122, .ref 123, .ref 124, .ref 125, .ref 126, .ref 127, .ref 128, .ref 129, .int 0, .ref 130, .ref 131, .ref 132, .ref 133, .ref 134, .int 0, .int 0])), (111, .inl (0, 1260, .inl (upd (fun _ => 0) 0 0))), (65, .inr (10, [.ref 51, .ref 57, .ref 66, .ref 67, .ref 68, .int 0, .int (-1), .int (-1), .ref 69, .ref 70, .ref 71, .ref 72, .int 0, .int (-1), .int (-1), .ref 73, .ref 74])), (73, .inl (1, 1260, .inr (.inl (vp_updL (vp_updL (vp_updL (vp_updL (vp_updL (vp_updL (vp_updL (fun _ => 0) 0 0) 0 1) 0 0) 0 0) 0 0) 0 0) 0 0)))), (74, .inl (1, 1260, .inr (.inl (vp_updL (vp_updL (vp_updL (vp_updL (vp_updL (fun _ => 0) 0 0) 0 0) 0 0) 0 0) 0 0)))), (62, .inl (0, 1260, .inl (upd (upd (fun _ => 0) 0 (-1)) 0 0))), (57, .inr (9, [.ref 1, .ref 51, .ref 58, .ref 61, .ref 62, .ref 135, .ref 64, .int 0, .int 0, .int 0])), (135, .inl (0, 22, .inl (fun _ => 0))), (59, .inl (0, 8, .inl (upd (upd (fun _ => 0) 6 0) 7 0)))]) rfl ?_
                                      refine J_lcmp (z := 0) dL_law_797 (by decide +kernel) ?_
                                      refine J_if_eq (tgt := 1221) dL_law_798 (by decide) (fun _ => ?_) (fun q => absurd (by decide +kernel) q)
                                      exact law_tail (Nat.le_of_ble_eq_true rfl) (Nat.le_of_ble_eq_true rfl)
                                    · rcases i_cut x3.toInt 12 with h_18 | h_18
                                      · obtain rfl : x1 = 0 := by rw [fa_eq, kc_0]; omega
                                        obtain rfl : x2 = 0 := by rw [fa_eq, kc_0]; omega
                                        obtain rfl : x3 = 11 := by rw [fa_eq, kc_11]; omega
                                        refine J_hc0 ?_
                                        refine J_aload_n dL_law_759 rfl rfl ?_
                                        refine J_sload_n dL_law_760 rfl rfl ?_
                                        refine J_iload_n dL_law_761 rfl rfl ?_
                                        refine J_iconst (v := 1) dL_law_762 (by decide) ?_
                                        refine J_iadd (z := 1) dL_law_763 (by decide +kernel) ?_
                                        refine L_sld (i2 := 1) (v := 0) dL_law_764 (jin (by decide +kernel)) (by decide +kernel) hx1 ?_
                                        refine J_sload_n dL_law_765 rfl rfl ?_
                                        refine J_iload_n dL_law_766 rfl rfl ?_
                                        refine J_iconst (v := 2) dL_law_767 (by decide) ?_
                                        refine J_iadd (z := 2) dL_law_768 (by decide +kernel) ?_
                                        refine L_sld (i2 := 2) (v := 0) dL_law_769 (jin (by decide +kernel)) (by decide +kernel) hx2 ?_
                                        refine J_sload_n dL_law_770 rfl rfl ?_
                                        refine J_iload_n dL_law_771 rfl rfl ?_
                                        refine J_iconst (v := 3) dL_law_772 (by decide) ?_
                                        refine J_iadd (z := 3) dL_law_773 (by decide +kernel) ?_
                                        refine L_sld (i2 := 3) (v := 11) dL_law_774 (jin (by decide +kernel)) (by decide +kernel) hx3 ?_
                                        refine J_callV (st := []) dL_law_775 cv_L_94 (c_X11_rows_30 H0_0 H0_1 H0_3 H0_51 H0_52 H0_57 H0_58 H0_59 H0_62 H0_63 H0_65 H0_73 H0_74) H0_0 rfl rfl (Nat.le_of_ble_eq_true rfl) ⟨(Nat.le_of_ble_eq_true rfl), (Nat.le_of_ble_eq_true rfl)⟩ ⟨(Nat.le_of_ble_eq_true rfl), (Nat.le_of_ble_eq_true rfl)⟩ (fun r h9 hp => ?_)
                                        obtain ⟨rfl, rfl⟩ := hp
                                        refine J_nf (nh2 := 136) (ck2 := 136) (sk2 := 415528) (st2 := [.long 0]) rfl rfl rfl rfl ?_
                                        refine J_app (L3 := [(65, .inr (10, [.ref 51, .ref 57, .ref 66, .ref 67, .ref 68, .int 0, .int (-1), .int (-1), .ref 69, .ref 70, .ref 71, .ref 72, .int 0, .int (-1), .int (-1), .ref 74, .ref 73])), (74, .inl (1, 1260, .inr (.inl (vp_updL (vp_updL (vp_updL (vp_updL (vp_updL (vp_updL (fun _ => 0) 0 0) 0 0) 0 0) 0 0) 0 0) 0 0)))), (73, .inl (1, 1260, .inr (.inl (vp_updL (vp_updL (vp_updL (vp_updL (vp_updL (vp_updL (vp_updL (fun _ => 0) 0 0) 0 1) 0 0) 0 0) 0 0) 0 0) 0 0)))), (62, .inl (0, 1260, .inl (upd (upd (fun _ => 0) 0 (-1)) 0 0))), (57, .inr (9, [.ref 1, .ref 51, .ref 58, .ref 61, .ref 62, .ref 135, .ref 64, .int 0, .int 0, .int 0])), (135, .inl (0, 22, .inl (fun _ => 0))), (59, .inl (0, 8, .inl (upd (upd (fun _ => 0) 6 0) 7 0)))]) rfl ?_
                                        refine J_aload_n dL_law_778 rfl rfl ?_
                                        refine J_sload_n dL_law_779 rfl rfl ?_
                                        refine J_iload_n dL_law_780 rfl rfl ?_
                                        refine J_iconst (v := 1) dL_law_781 (by decide) ?_
                                        refine J_iadd (z := 1) dL_law_782 (by decide +kernel) ?_
                                        refine L_sld (i2 := 1) (v := 0) dL_law_783 (jin (by decide +kernel)) (by decide +kernel) hx1 ?_
                                        refine J_sload_n dL_law_784 rfl rfl ?_
                                        refine J_iload_n dL_law_785 rfl rfl ?_
                                        refine J_iconst (v := 2) dL_law_786 (by decide) ?_
                                        refine J_iadd (z := 2) dL_law_787 (by decide +kernel) ?_
                                        refine L_sld (i2 := 2) (v := 0) dL_law_788 (jin (by decide +kernel)) (by decide +kernel) hx2 ?_
                                        refine J_sload_n dL_law_789 rfl rfl ?_
                                        refine J_iload_n dL_law_790 rfl rfl ?_
                                        refine J_iconst (v := 3) dL_law_791 (by decide) ?_
                                        refine J_iadd (z := 3) dL_law_792 (by decide +kernel) ?_
                                        refine L_sld (i2 := 3) (v := 11) dL_law_793 (jin (by decide +kernel)) (by decide +kernel) hx3 ?_
                                        refine J_callV (st := [.long 0]) dL_law_794 cv_L_98 (c_X12_rows_30 H0_98 H0_100 H0_111 H0_114 H0_116 H0_127 H0_128) H0_98 rfl rfl (Nat.le_of_ble_eq_true rfl) ⟨(Nat.le_of_ble_eq_true rfl), (Nat.le_of_ble_eq_true rfl)⟩ ⟨(Nat.le_of_ble_eq_true rfl), (Nat.le_of_ble_eq_true rfl)⟩ (fun r h9 hp => ?_)
                                        obtain ⟨rfl, rfl⟩ := hp
                                        refine J_nf (nh2 := 136) (ck2 := 136) (sk2 := 415528) (st2 := [.long 0, .long 0]) rfl rfl rfl rfl ?_
                                        refine J_app (L3 := [(127, .inl (1, 1260, .inr (.inl (vp_updL (vp_updL (vp_updL (vp_updL (vp_updL (vp_updL (vp_updL (vp_updL (vp_updL (vp_updL (vp_updL (vp_updL (fun _ => 0) 0 1) 0 0) 0 0) 0 0) 0 0) 0 0) 0 0) 0 0) 0 0) 0 0) 0 0) 0 0)))), (128, .inl (1, 1260, .inr (.inl (vp_updL (vp_updL (vp_updL (vp_updL (vp_updL (vp_updL (vp_updL (vp_updL (vp_updL (vp_updL (vp_updL (fun _ => 0) 0 0) 0 0) 0 0) 0 0) 0 0) 0 0) 0 0) 0 0) 0 0) 0 0) 0 0)))), (114, .inl (0, 1260, .inl (upd (fun _ => 0) 0 0))), (116, .inl (0, 1260, .inl (upd (fun _ => 0) 0 0))), (98, .inr (12, [.int 0, .int 0, .ref 99, .ref 100, .ref 101, .ref 102, .ref 103, .ref 104, .ref 105, .int 0, .int (-1), .ref 106, .ref 107, .ref 108, .int 0, .int 0, .int 0, .int 0, .int 0, .int 0, .int 0, .ref 109, .int 0, .int 0, .ref 110, .ref 111, .ref 112, .ref 113, .ref 114, .ref 115, .ref 116, .ref 117, .int 1, .int 0, .int 0, .int 0, .ref 118, .ref 119, .ref 120, .ref 121, .ref 122, .ref 123, .ref 124, .ref 125, .ref 126, .ref 127, .ref 128, .ref 129, .int 0, .ref 130, .ref 131, .ref 132, .ref 133, .ref 134, .int 0, .int 0])), (111, .inl (0, 1260, .inl (upd (fun _ => 0) 0 0))), (65, .inr (10, [.ref 51, .ref 57, .ref 66, .ref 67, .ref 68, .int 0, .int (-1), .int (-1), .ref 69, .ref 70, .ref 71, .ref 72, .int 0, .int (-1), .int (-1), .ref 74, .ref 73])), (74, .inl (1, 1260, .inr (.inl (vp_updL (vp_updL (vp_updL (vp_updL (vp_updL (vp_updL (fun _ => 0) 0 0) 0 0) 0 0) 0 0) 0 0) 0 0)))), (73, .inl (1, 1260, .inr (.inl (vp_updL (vp_updL (vp_updL (vp_updL (vp_updL (vp_updL (vp_updL (fun _ => 0) 0 0) 0 1) 0 0) 0 0) 0 0) 0 0) 0 0)))), (62, .inl (0, 1260, .inl (upd (upd (fun _ => 0) 0 (-1)) 0 0))), (57, .inr (9, [.ref 1, .ref 51, .ref 58, .ref 61, .ref 62, .ref 135, .ref 64, .int 0, .int 0, .int 0])), (135, .inl (0, 22, .inl (fun _ => 0))), (59, .inl (0, 8, .inl (upd (upd (fun _ => 0) 6 0) 7 0)))]) rfl ?_
                                        refine J_lcmp (z := 0) dL_law_797 (by decide +kernel) ?_
                                        refine J_if_eq (tgt := 1221) dL_law_798 (by decide) (fun _ => ?_) (fun q => absurd (by decide +kernel) q)
                                        exact law_tail (Nat.le_of_ble_eq_true rfl) (Nat.le_of_ble_eq_true rfl)
                                      · obtain rfl : x1 = 0 := by rw [fa_eq, kc_0]; omega
                                        obtain rfl : x2 = 0 := by rw [fa_eq, kc_0]; omega
                                        obtain rfl : x3 = 12 := by rw [fa_eq, kc_12]; omega
                                        refine J_hc0 ?_
                                        refine J_aload_n dL_law_759 rfl rfl ?_
                                        refine J_sload_n dL_law_760 rfl rfl ?_
                                        refine J_iload_n dL_law_761 rfl rfl ?_
                                        refine J_iconst (v := 1) dL_law_762 (by decide) ?_
                                        refine J_iadd (z := 1) dL_law_763 (by decide +kernel) ?_
                                        refine L_sld (i2 := 1) (v := 0) dL_law_764 (jin (by decide +kernel)) (by decide +kernel) hx1 ?_
                                        refine J_sload_n dL_law_765 rfl rfl ?_
                                        refine J_iload_n dL_law_766 rfl rfl ?_
                                        refine J_iconst (v := 2) dL_law_767 (by decide) ?_
                                        refine J_iadd (z := 2) dL_law_768 (by decide +kernel) ?_
                                        refine L_sld (i2 := 2) (v := 0) dL_law_769 (jin (by decide +kernel)) (by decide +kernel) hx2 ?_
                                        refine J_sload_n dL_law_770 rfl rfl ?_
                                        refine J_iload_n dL_law_771 rfl rfl ?_
                                        refine J_iconst (v := 3) dL_law_772 (by decide) ?_
                                        refine J_iadd (z := 3) dL_law_773 (by decide +kernel) ?_
                                        refine L_sld (i2 := 3) (v := 12) dL_law_774 (jin (by decide +kernel)) (by decide +kernel) hx3 ?_
                                        refine J_callV (st := []) dL_law_775 cv_L_94 (c_X11_rows_31 H0_0 H0_1 H0_3 H0_51 H0_52 H0_57 H0_58 H0_59 H0_62 H0_63 H0_65 H0_73 H0_74) H0_0 rfl rfl (Nat.le_of_ble_eq_true rfl) ⟨(Nat.le_of_ble_eq_true rfl), (Nat.le_of_ble_eq_true rfl)⟩ ⟨(Nat.le_of_ble_eq_true rfl), (Nat.le_of_ble_eq_true rfl)⟩ (fun r h9 hp => ?_)
                                        obtain ⟨rfl, rfl⟩ := hp
                                        refine J_nf (nh2 := 136) (ck2 := 136) (sk2 := 415528) (st2 := [.long 0]) rfl rfl rfl rfl ?_
                                        refine J_app (L3 := [(65, .inr (10, [.ref 51, .ref 57, .ref 66, .ref 67, .ref 68, .int 0, .int (-1), .int (-1), .ref 69, .ref 70, .ref 71, .ref 72, .int 0, .int (-1), .int (-1), .ref 73, .ref 74])), (73, .inl (1, 1260, .inr (.inl (vp_updL (vp_updL (vp_updL (vp_updL (vp_updL (vp_updL (vp_updL (vp_updL (fun _ => 0) 0 0) 0 1) 0 0) 0 0) 0 0) 0 0) 0 0) 0 0)))), (74, .inl (1, 1260, .inr (.inl (vp_updL (vp_updL (vp_updL (vp_updL (vp_updL (vp_updL (fun _ => 0) 0 0) 0 0) 0 0) 0 0) 0 0) 0 0)))), (62, .inl (0, 1260, .inl (upd (upd (fun _ => 0) 0 (-1)) 0 0))), (57, .inr (9, [.ref 1, .ref 51, .ref 58, .ref 61, .ref 62, .ref 135, .ref 64, .int 0, .int 0, .int 0])), (135, .inl (0, 22, .inl (fun _ => 0))), (59, .inl (0, 8, .inl (upd (upd (fun _ => 0) 6 0) 7 0)))]) rfl ?_
                                        refine J_aload_n dL_law_778 rfl rfl ?_
                                        refine J_sload_n dL_law_779 rfl rfl ?_
                                        refine J_iload_n dL_law_780 rfl rfl ?_
                                        refine J_iconst (v := 1) dL_law_781 (by decide) ?_
                                        refine J_iadd (z := 1) dL_law_782 (by decide +kernel) ?_
                                        refine L_sld (i2 := 1) (v := 0) dL_law_783 (jin (by decide +kernel)) (by decide +kernel) hx1 ?_
                                        refine J_sload_n dL_law_784 rfl rfl ?_
                                        refine J_iload_n dL_law_785 rfl rfl ?_
                                        refine J_iconst (v := 2) dL_law_786 (by decide) ?_
                                        refine J_iadd (z := 2) dL_law_787 (by decide +kernel) ?_
                                        refine L_sld (i2 := 2) (v := 0) dL_law_788 (jin (by decide +kernel)) (by decide +kernel) hx2 ?_
                                        refine J_sload_n dL_law_789 rfl rfl ?_
                                        refine J_iload_n dL_law_790 rfl rfl ?_
                                        refine J_iconst (v := 3) dL_law_791 (by decide) ?_
                                        refine J_iadd (z := 3) dL_law_792 (by decide +kernel) ?_
                                        refine L_sld (i2 := 3) (v := 12) dL_law_793 (jin (by decide +kernel)) (by decide +kernel) hx3 ?_
                                        refine J_callV (st := [.long 0]) dL_law_794 cv_L_98 (c_X12_rows_31 H0_98 H0_100 H0_111 H0_114 H0_116 H0_127 H0_128) H0_98 rfl rfl (Nat.le_of_ble_eq_true rfl) ⟨(Nat.le_of_ble_eq_true rfl), (Nat.le_of_ble_eq_true rfl)⟩ ⟨(Nat.le_of_ble_eq_true rfl), (Nat.le_of_ble_eq_true rfl)⟩ (fun r h9 hp => ?_)
                                        obtain ⟨rfl, rfl⟩ := hp
                                        refine J_nf (nh2 := 136) (ck2 := 136) (sk2 := 415528) (st2 := [.long 0, .long 0]) rfl rfl rfl rfl ?_
                                        refine J_app (L3 := [(127, .inl (1, 1260, .inr (.inl (vp_updL (vp_updL (vp_updL (vp_updL (vp_updL (vp_updL (vp_updL (vp_updL (vp_updL (vp_updL (vp_updL (vp_updL (vp_updL (fun _ => 0) 0 1) 0 0) 0 0) 0 0) 0 0) 0 0) 0 0) 0 0) 0 0) 0 0) 0 0) 0 0) 0 0)))), (128, .inl (1, 1260, .inr (.inl (vp_updL (vp_updL (vp_updL (vp_updL (vp_updL (vp_updL (vp_updL (vp_updL (vp_updL (vp_updL (vp_updL (vp_updL (fun _ => 0) 0 0) 0 0) 0 0) 0 0) 0 0) 0 0) 0 0) 0 0) 0 0) 0 0) 0 0) 0 0)))), (114, .inl (0, 1260, .inl (upd (fun _ => 0) 0 0))), (116, .inl (0, 1260, .inl (upd (fun _ => 0) 0 0))), (98, .inr (12, [.int 0, .int 0, .ref 99, .ref 100, .ref 101, .ref 102, .ref 103, .ref 104, .ref 105, .int 0, .int (-1), .ref 106, .ref 107, .ref 108, .int 0, .int 0, .int 0, .int 0, .int 0, .int 0, .int 0, .ref 109, .int 0, .int 0, .ref 110, .ref 111, .ref 112, .ref 113, .ref 114, .ref 115, .ref 116, .ref 117, .int 1, .int 0, .int 0, .int 0, .ref 118, .ref 119, .ref 120, .ref 121, .ref 122, .ref 123, .ref 124, .ref 125, .ref 126, .ref 127, .ref 128, .ref 129, .int 0, .ref 130, .ref 131, .ref 132, .ref 133, .ref 134, .int 0, .int 0])), (111, .inl (0, 1260, .inl (upd (fun _ => 0) 0 0))), (65, .inr (10, [.ref 51, .ref 57, .ref 66, .ref 67, .ref 68, .int 0, .int (-1), .int (-1), .ref 69, .ref 70, .ref 71, .ref 72, .int 0, .int (-1), .int (-1), .ref 73, .ref 74])), (73, .inl (1, 1260, .inr (.inl (vp_updL (vp_updL (vp_updL (vp_updL (vp_updL (vp_updL (vp_updL (vp_updL (fun _ => 0) 0 0) 0 1) 0 0) 0 0) 0 0) 0 0) 0 0) 0 0)))), (74, .inl (1, 1260, .inr (.inl (vp_updL (vp_updL (vp_updL (vp_updL (vp_updL (vp_updL (fun _ => 0) 0 0) 0 0) 0 0) 0 0) 0 0) 0 0)))), (62, .inl (0, 1260, .inl (upd (upd (fun _ => 0) 0 (-1)) 0 0))), (57, .inr (9, [.ref 1, .ref 51, .ref 58, .ref 61, .ref 62, .ref 135, .ref 64, .int 0, .int 0, .int 0])), (135, .inl (0, 22, .inl (fun _ => 0))), (59, .inl (0, 8, .inl (upd (upd (fun _ => 0) 6 0) 7 0)))]) rfl ?_
                                        refine J_lcmp (z := 0) dL_law_797 (by decide +kernel) ?_
                                        refine J_if_eq (tgt := 1221) dL_law_798 (by decide) (fun _ => ?_) (fun q => absurd (by decide +kernel) q)
                                        exact law_tail (Nat.le_of_ble_eq_true rfl) (Nat.le_of_ble_eq_true rfl)
              · obtain rfl : x1 = 0 := by rw [fa_eq, kc_0]; omega
                obtain rfl : x2 = 0 := by rw [fa_eq, kc_0]; omega
                have b3 : 13 ≤ x3.toInt ∧ x3.toInt ≤ 2147483647 := ⟨by omega, by omega⟩
                refine J_hc0 ?_
                refine J_aload_n dL_law_759 rfl rfl ?_
                refine J_sload_n dL_law_760 rfl rfl ?_
                refine J_iload_n dL_law_761 rfl rfl ?_
                refine J_iconst (v := 1) dL_law_762 (by decide) ?_
                refine J_iadd (z := 1) dL_law_763 (by decide +kernel) ?_
                refine L_sld (i2 := 1) (v := 0) dL_law_764 (jin (by decide +kernel)) (by decide +kernel) hx1 ?_
                refine J_sload_n dL_law_765 rfl rfl ?_
                refine J_iload_n dL_law_766 rfl rfl ?_
                refine J_iconst (v := 2) dL_law_767 (by decide) ?_
                refine J_iadd (z := 2) dL_law_768 (by decide +kernel) ?_
                refine L_sld (i2 := 2) (v := 0) dL_law_769 (jin (by decide +kernel)) (by decide +kernel) hx2 ?_
                refine J_sload_n dL_law_770 rfl rfl ?_
                refine J_iload_n dL_law_771 rfl rfl ?_
                refine J_iconst (v := 3) dL_law_772 (by decide) ?_
                refine J_iadd (z := 3) dL_law_773 (by decide +kernel) ?_
                refine L_sld (i2 := 3) (v := x3) dL_law_774 (jin (by decide +kernel)) (by decide +kernel) hx3 ?_
                refine J_callV (st := []) dL_law_775 cv_L_94 (c_X11_rows_32 (x3) b3 H0_0 H0_51) H0_0 rfl rfl (Nat.le_of_ble_eq_true rfl) ⟨(Nat.le_of_ble_eq_true rfl), (Nat.le_of_ble_eq_true rfl)⟩ ⟨(Nat.le_of_ble_eq_true rfl), (Nat.le_of_ble_eq_true rfl)⟩ (fun r h9 hp => ?_)
                obtain ⟨rfl, rfl⟩ := hp
                refine J_nf (nh2 := 135) (ck2 := 135) (sk2 := 415506) (st2 := [.long (-1)]) rfl rfl rfl rfl ?_
                refine J_aload_n dL_law_778 rfl rfl ?_
                refine J_sload_n dL_law_779 rfl rfl ?_
                refine J_iload_n dL_law_780 rfl rfl ?_
                refine J_iconst (v := 1) dL_law_781 (by decide) ?_
                refine J_iadd (z := 1) dL_law_782 (by decide +kernel) ?_
                refine L_sld (i2 := 1) (v := 0) dL_law_783 (jin (by decide +kernel)) (by decide +kernel) hx1 ?_
                refine J_sload_n dL_law_784 rfl rfl ?_
                refine J_iload_n dL_law_785 rfl rfl ?_
                refine J_iconst (v := 2) dL_law_786 (by decide) ?_
                refine J_iadd (z := 2) dL_law_787 (by decide +kernel) ?_
                refine L_sld (i2 := 2) (v := 0) dL_law_788 (jin (by decide +kernel)) (by decide +kernel) hx2 ?_
                refine J_sload_n dL_law_789 rfl rfl ?_
                refine J_iload_n dL_law_790 rfl rfl ?_
                refine J_iconst (v := 3) dL_law_791 (by decide) ?_
                refine J_iadd (z := 3) dL_law_792 (by decide +kernel) ?_
                refine L_sld (i2 := 3) (v := x3) dL_law_793 (jin (by decide +kernel)) (by decide +kernel) hx3 ?_
                refine J_callV (st := [.long (-1)]) dL_law_794 cv_L_98 (c_X12_rows_32 (x3) b3 H0_98 H0_100 H0_111) H0_98 rfl rfl (Nat.le_of_ble_eq_true rfl) ⟨(Nat.le_of_ble_eq_true rfl), (Nat.le_of_ble_eq_true rfl)⟩ ⟨(Nat.le_of_ble_eq_true rfl), (Nat.le_of_ble_eq_true rfl)⟩ (fun r h9 hp => ?_)
                obtain ⟨rfl, rfl⟩ := hp
                refine J_nf (nh2 := 135) (ck2 := 135) (sk2 := 415506) (st2 := [.long (-1), .long (-1)]) rfl rfl rfl rfl ?_
                refine J_app (L3 := [(98, .inr (12, [.int 0, .int 0, .ref 99, .ref 100, .ref 101, .ref 102, .ref 103, .ref 104, .ref 105, .int 0, .int (-1), .ref 106, .ref 107, .ref 108, .int 0, .int 0, .int 0, .int 0, .int 0, .int 0, .int 0, .ref 109, .int 0, .int 0, .ref 110, .ref 111, .ref 112, .ref 113, .ref 114, .ref 115, .ref 116, .ref 117, .int 1, .int 0, .int 0, .int (-1), .ref 118, .ref 119, .ref 120, .ref 121, .ref 122, .ref 123, .ref 124, .ref 125, .ref 126, .ref 127, .ref 128, .ref 129, .int 0, .ref 130, .ref 131, .ref 132, .ref 133, .ref 134, .int 0, .int 0])), (111, .inl (0, 1260, .inl (upd (fun _ => 0) 0 0)))]) rfl ?_
                refine J_lcmp (z := 0) dL_law_797 (by decide +kernel) ?_
                refine J_if_eq (tgt := 1221) dL_law_798 (by decide) (fun _ => ?_) (fun q => absurd (by decide +kernel) q)
                exact law_tail (Nat.le_of_ble_eq_true rfl) (Nat.le_of_ble_eq_true rfl)
          · obtain rfl : x1 = 0 := by rw [fa_eq, kc_0]; omega
            have b2 : 1 ≤ x2.toInt ∧ x2.toInt ≤ 2147483647 := ⟨by omega, by omega⟩
            have b3 : (-2147483648) ≤ x3.toInt ∧ x3.toInt ≤ 2147483647 := ⟨by omega, by omega⟩
            refine J_hc0 ?_
            refine J_aload_n dL_law_759 rfl rfl ?_
            refine J_sload_n dL_law_760 rfl rfl ?_
            refine J_iload_n dL_law_761 rfl rfl ?_
            refine J_iconst (v := 1) dL_law_762 (by decide) ?_
            refine J_iadd (z := 1) dL_law_763 (by decide +kernel) ?_
            refine L_sld (i2 := 1) (v := 0) dL_law_764 (jin (by decide +kernel)) (by decide +kernel) hx1 ?_
            refine J_sload_n dL_law_765 rfl rfl ?_
            refine J_iload_n dL_law_766 rfl rfl ?_
            refine J_iconst (v := 2) dL_law_767 (by decide) ?_
            refine J_iadd (z := 2) dL_law_768 (by decide +kernel) ?_
            refine L_sld (i2 := 2) (v := x2) dL_law_769 (jin (by decide +kernel)) (by decide +kernel) hx2 ?_
            refine J_sload_n dL_law_770 rfl rfl ?_
            refine J_iload_n dL_law_771 rfl rfl ?_
            refine J_iconst (v := 3) dL_law_772 (by decide) ?_
            refine J_iadd (z := 3) dL_law_773 (by decide +kernel) ?_
            refine L_sld (i2 := 3) (v := x3) dL_law_774 (jin (by decide +kernel)) (by decide +kernel) hx3 ?_
            refine J_callV (st := []) dL_law_775 cv_L_94 (c_X11_rows_33 (x2) b2 (x3) b3 H0_0 H0_51) H0_0 rfl rfl (Nat.le_of_ble_eq_true rfl) ⟨(Nat.le_of_ble_eq_true rfl), (Nat.le_of_ble_eq_true rfl)⟩ ⟨(Nat.le_of_ble_eq_true rfl), (Nat.le_of_ble_eq_true rfl)⟩ (fun r h9 hp => ?_)
            obtain ⟨rfl, rfl⟩ := hp
            refine J_nf (nh2 := 135) (ck2 := 135) (sk2 := 415506) (st2 := [.long (-1)]) rfl rfl rfl rfl ?_
            refine J_aload_n dL_law_778 rfl rfl ?_
            refine J_sload_n dL_law_779 rfl rfl ?_
            refine J_iload_n dL_law_780 rfl rfl ?_
            refine J_iconst (v := 1) dL_law_781 (by decide) ?_
            refine J_iadd (z := 1) dL_law_782 (by decide +kernel) ?_
            refine L_sld (i2 := 1) (v := 0) dL_law_783 (jin (by decide +kernel)) (by decide +kernel) hx1 ?_
            refine J_sload_n dL_law_784 rfl rfl ?_
            refine J_iload_n dL_law_785 rfl rfl ?_
            refine J_iconst (v := 2) dL_law_786 (by decide) ?_
            refine J_iadd (z := 2) dL_law_787 (by decide +kernel) ?_
            refine L_sld (i2 := 2) (v := x2) dL_law_788 (jin (by decide +kernel)) (by decide +kernel) hx2 ?_
            refine J_sload_n dL_law_789 rfl rfl ?_
            refine J_iload_n dL_law_790 rfl rfl ?_
            refine J_iconst (v := 3) dL_law_791 (by decide) ?_
            refine J_iadd (z := 3) dL_law_792 (by decide +kernel) ?_
            refine L_sld (i2 := 3) (v := x3) dL_law_793 (jin (by decide +kernel)) (by decide +kernel) hx3 ?_
            refine J_callV (st := [.long (-1)]) dL_law_794 cv_L_98 (c_X12_rows_33 (x2) b2 (x3) b3 H0_98 H0_100 H0_111) H0_98 rfl rfl (Nat.le_of_ble_eq_true rfl) ⟨(Nat.le_of_ble_eq_true rfl), (Nat.le_of_ble_eq_true rfl)⟩ ⟨(Nat.le_of_ble_eq_true rfl), (Nat.le_of_ble_eq_true rfl)⟩ (fun r h9 hp => ?_)
            obtain ⟨rfl, rfl⟩ := hp
            refine J_nf (nh2 := 135) (ck2 := 135) (sk2 := 415506) (st2 := [.long (-1), .long (-1)]) rfl rfl rfl rfl ?_
            refine J_app (L3 := [(98, .inr (12, [.int 0, .int 0, .ref 99, .ref 100, .ref 101, .ref 102, .ref 103, .ref 104, .ref 105, .int 0, .int (-1), .ref 106, .ref 107, .ref 108, .int 0, .int 0, .int 0, .int 0, .int 0, .int 0, .int 0, .ref 109, .int 0, .int 0, .ref 110, .ref 111, .ref 112, .ref 113, .ref 114, .ref 115, .ref 116, .ref 117, .int 1, .int 0, .int 0, .int (-1), .ref 118, .ref 119, .ref 120, .ref 121, .ref 122, .ref 123, .ref 124, .ref 125, .ref 126, .ref 127, .ref 128, .ref 129, .int 0, .ref 130, .ref 131, .ref 132, .ref 133, .ref 134, .int 0, .int 0])), (111, .inl (0, 1260, .inl (upd (fun _ => 0) 0 0)))]) rfl ?_
            refine J_lcmp (z := 0) dL_law_797 (by decide +kernel) ?_
            refine J_if_eq (tgt := 1221) dL_law_798 (by decide) (fun _ => ?_) (fun q => absurd (by decide +kernel) q)
            exact law_tail (Nat.le_of_ble_eq_true rfl) (Nat.le_of_ble_eq_true rfl)
    · have b1 : 1 ≤ x1.toInt ∧ x1.toInt ≤ 2147483647 := ⟨by omega, by omega⟩
      have b2 : (-2147483648) ≤ x2.toInt ∧ x2.toInt ≤ 2147483647 := ⟨by omega, by omega⟩
      have b3 : (-2147483648) ≤ x3.toInt ∧ x3.toInt ≤ 2147483647 := ⟨by omega, by omega⟩
      refine J_hc0 ?_
      refine J_aload_n dL_law_759 rfl rfl ?_
      refine J_sload_n dL_law_760 rfl rfl ?_
      refine J_iload_n dL_law_761 rfl rfl ?_
      refine J_iconst (v := 1) dL_law_762 (by decide) ?_
      refine J_iadd (z := 1) dL_law_763 (by decide +kernel) ?_
      refine L_sld (i2 := 1) (v := x1) dL_law_764 (jin (by decide +kernel)) (by decide +kernel) hx1 ?_
      refine J_sload_n dL_law_765 rfl rfl ?_
      refine J_iload_n dL_law_766 rfl rfl ?_
      refine J_iconst (v := 2) dL_law_767 (by decide) ?_
      refine J_iadd (z := 2) dL_law_768 (by decide +kernel) ?_
      refine L_sld (i2 := 2) (v := x2) dL_law_769 (jin (by decide +kernel)) (by decide +kernel) hx2 ?_
      refine J_sload_n dL_law_770 rfl rfl ?_
      refine J_iload_n dL_law_771 rfl rfl ?_
      refine J_iconst (v := 3) dL_law_772 (by decide) ?_
      refine J_iadd (z := 3) dL_law_773 (by decide +kernel) ?_
      refine L_sld (i2 := 3) (v := x3) dL_law_774 (jin (by decide +kernel)) (by decide +kernel) hx3 ?_
      refine J_callV (st := []) dL_law_775 cv_L_94 (c_X11_rows_34 (x1) b1 (x2) b2 (x3) b3 H0_0 H0_51) H0_0 rfl rfl (Nat.le_of_ble_eq_true rfl) ⟨(Nat.le_of_ble_eq_true rfl), (Nat.le_of_ble_eq_true rfl)⟩ ⟨(Nat.le_of_ble_eq_true rfl), (Nat.le_of_ble_eq_true rfl)⟩ (fun r h9 hp => ?_)
      obtain ⟨rfl, rfl⟩ := hp
      refine J_nf (nh2 := 135) (ck2 := 135) (sk2 := 415506) (st2 := [.long (-1)]) rfl rfl rfl rfl ?_
      refine J_aload_n dL_law_778 rfl rfl ?_
      refine J_sload_n dL_law_779 rfl rfl ?_
      refine J_iload_n dL_law_780 rfl rfl ?_
      refine J_iconst (v := 1) dL_law_781 (by decide) ?_
      refine J_iadd (z := 1) dL_law_782 (by decide +kernel) ?_
      refine L_sld (i2 := 1) (v := x1) dL_law_783 (jin (by decide +kernel)) (by decide +kernel) hx1 ?_
      refine J_sload_n dL_law_784 rfl rfl ?_
      refine J_iload_n dL_law_785 rfl rfl ?_
      refine J_iconst (v := 2) dL_law_786 (by decide) ?_
      refine J_iadd (z := 2) dL_law_787 (by decide +kernel) ?_
      refine L_sld (i2 := 2) (v := x2) dL_law_788 (jin (by decide +kernel)) (by decide +kernel) hx2 ?_
      refine J_sload_n dL_law_789 rfl rfl ?_
      refine J_iload_n dL_law_790 rfl rfl ?_
      refine J_iconst (v := 3) dL_law_791 (by decide) ?_
      refine J_iadd (z := 3) dL_law_792 (by decide +kernel) ?_
      refine L_sld (i2 := 3) (v := x3) dL_law_793 (jin (by decide +kernel)) (by decide +kernel) hx3 ?_
      refine J_callV (st := [.long (-1)]) dL_law_794 cv_L_98 (c_X12_rows_34 (x1) b1 (x2) b2 (x3) b3 H0_98 H0_100 H0_111) H0_98 rfl rfl (Nat.le_of_ble_eq_true rfl) ⟨(Nat.le_of_ble_eq_true rfl), (Nat.le_of_ble_eq_true rfl)⟩ ⟨(Nat.le_of_ble_eq_true rfl), (Nat.le_of_ble_eq_true rfl)⟩ (fun r h9 hp => ?_)
      obtain ⟨rfl, rfl⟩ := hp
      refine J_nf (nh2 := 135) (ck2 := 135) (sk2 := 415506) (st2 := [.long (-1), .long (-1)]) rfl rfl rfl rfl ?_
      refine J_app (L3 := [(98, .inr (12, [.int 0, .int 0, .ref 99, .ref 100, .ref 101, .ref 102, .ref 103, .ref 104, .ref 105, .int 0, .int (-1), .ref 106, .ref 107, .ref 108, .int 0, .int 0, .int 0, .int 0, .int 0, .int 0, .int 0, .ref 109, .int 0, .int 0, .ref 110, .ref 111, .ref 112, .ref 113, .ref 114, .ref 115, .ref 116, .ref 117, .int 1, .int 0, .int 0, .int (-1), .ref 118, .ref 119, .ref 120, .ref 121, .ref 122, .ref 123, .ref 124, .ref 125, .ref 126, .ref 127, .ref 128, .ref 129, .int 0, .ref 130, .ref 131, .ref 132, .ref 133, .ref 134, .int 0, .int 0])), (111, .inl (0, 1260, .inl (upd (fun _ => 0) 0 0)))]) rfl ?_
      refine J_lcmp (z := 0) dL_law_797 (by decide +kernel) ?_
      refine J_if_eq (tgt := 1221) dL_law_798 (by decide) (fun _ => ?_) (fun q => absurd (by decide +kernel) q)
      exact law_tail (Nat.le_of_ble_eq_true rfl) (Nat.le_of_ble_eq_true rfl)
