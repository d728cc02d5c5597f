/-! contracts at a fresh object: written by wip/tools/p1.py -/
set_option maxHeartbeats 4000000 in
set_option maxRecDepth 100000 in
theorem c_X12_lies_1 {l : Launch} {G : jG} {nh : Nat} {fh : Nat → Option va_E}  : JM l G yX12_lies MX12_lies { frames := 0, cells := 0, slots := 0, locals := 0 } [.int 0, .int 0, .int 1] (nh, fh) (fun r h9 => r = some (.int 1) ∧ h9 = (nh, fh)) := by
  refine JM.of (by decide) rfl (fun h => by cases h) (Nat.le_of_ble_eq_true rfl) ⟨0, rfl⟩ ?_
  refine J_hc0 (J_ls (ls2 := [some (.int 0), some (.int 0), some (.int 1)]) rfl ?_)
  refine J_iload_n dX12_lies_0 rfl rfl ?_
  refine J_iload_n dX12_lies_1 rfl rfl ?_
  refine J_icmp_lt (tgt := 14) dX12_lies_2 (by decide) (fun q => absurd q (by decide +kernel)) (fun _ => ?_)
  refine J_iload_n dX12_lies_5 rfl rfl ?_
  refine J_iload_n dX12_lies_6 rfl rfl ?_
  refine J_icmp_gt (tgt := 14) dX12_lies_7 (by decide) (fun q => absurd q (by decide +kernel)) (fun _ => ?_)
  refine J_iconst (v := 1) dX12_lies_10 (by decide) ?_
  refine J_goto (tgt := 15) dX12_lies_11 (by decide) ?_
  exact J_iret dX12_lies_15 rfl (by decide +kernel) (Nat.le_of_ble_eq_true rfl) (Nat.le_of_ble_eq_true rfl) ⟨rfl, rfl⟩
set_option maxHeartbeats 4000000 in
set_option maxRecDepth 100000 in
theorem c_X12_good_1 {l : Launch} {G : jG} {nh : Nat} {fh : Nat → Option va_E} (hk98 : fh 98 = some (.inr (12, [.int 0, .int 0, .ref 99, .ref 100, .ref 101, .ref 102, .ref 103, .ref 104, .ref 105, .int 0, .int (-1), .ref 106, .ref 107, .ref 108, .int 0, .int 0, .int 0, .int 0, .int 0, .int 0, .int 0, .ref 109, .int 0, .int 0, .ref 110, .ref 111, .ref 112, .ref 113, .ref 114, .ref 115, .ref 116, .ref 117, .int 0, .int 0, .int (-1), .int (-1), .ref 118, .ref 119, .ref 120, .ref 121, .ref 122, .ref 123, .ref 124, .ref 125, .ref 126, .ref 127, .ref 128, .ref 129, .int 0, .ref 130, .ref 131, .ref 132, .ref 133, .ref 134, .int 0, .int 0]))) : JM l G yX12_good MX12_good { frames := 0, cells := 0, slots := 0, locals := 0 } [.ref 98, .int 0] (nh, fh) (fun r h9 => r = some (.int 0) ∧ h9 = (nh, hc fh [(98, .inr (12, [.int 0, .int 1, .ref 99, .ref 100, .ref 101, .ref 102, .ref 103, .ref 104, .ref 105, .int 0, .int (-1), .ref 106, .ref 107, .ref 108, .int 0, .int 0, .int 0, .int 0, .int 0, .int 0, .int 0, .ref 109, .int 0, .int 0, .ref 110, .ref 111, .ref 112, .ref 113, .ref 114, .ref 115, .ref 116, .ref 117, .int 0, .int 0, .int (-1), .int (-1), .ref 118, .ref 119, .ref 120, .ref 121, .ref 122, .ref 123, .ref 124, .ref 125, .ref 126, .ref 127, .ref 128, .ref 129, .int 0, .ref 130, .ref 131, .ref 132, .ref 133, .ref 134, .int 0, .int 0]))])) := by
  refine JM.of (by decide) rfl (fun h => by cases h) (Nat.le_of_ble_eq_true rfl) ⟨0, rfl⟩ ?_
  refine J_hc0 (J_ls (ls2 := [some (.ref 98), some (.int 0)]) rfl ?_)
  refine J_aload_n dX12_good_0 rfl rfl ?_
  refine J_iconst (v := 0) dX12_good_1 (by decide) ?_
  refine K_put (fs2 := [.int 0, .int 0, .ref 99, .ref 100, .ref 101, .ref 102, .ref 103, .ref 104, .ref 105, .int 0, .int (-1), .ref 106, .ref 107, .ref 108, .int 0, .int 0, .int 0, .int 0, .int 0, .int 0, .int 0, .ref 109, .int 0, .int 0, .ref 110, .ref 111, .ref 112, .ref 113, .ref 114, .ref 115, .ref 116, .ref 117, .int 0, .int 0, .int (-1), .int (-1), .ref 118, .ref 119, .ref 120, .ref 121, .ref 122, .ref 123, .ref 124, .ref 125, .ref 126, .ref 127, .ref 128, .ref 129, .int 0, .ref 130, .ref 131, .ref 132, .ref 133, .ref 134, .int 0, .int 0]) dX12_good_2 fw_X12_3 hk98 (Nat.le_of_ble_eq_true rfl) (fun _ => ⟨rfl, rfl⟩) rfl ?_
  refine J_aload_n dX12_good_5 rfl rfl ?_
  refine J_dup dX12_good_6 rfl ?_
  refine J_get (v := .int 0) dX12_good_7 fl_X12_11 rfl rfl ?_
  refine J_iconst (v := 1) dX12_good_10 (by decide) ?_
  refine J_iadd (z := 1) dX12_good_11 (by decide +kernel) ?_
  refine K_put (fs2 := [.int 0, .int 1, .ref 99, .ref 100, .ref 101, .ref 102, .ref 103, .ref 104, .ref 105, .int 0, .int (-1), .ref 106, .ref 107, .ref 108, .int 0, .int 0, .int 0, .int 0, .int 0, .int 0, .int 0, .ref 109, .int 0, .int 0, .ref 110, .ref 111, .ref 112, .ref 113, .ref 114, .ref 115, .ref 116, .ref 117, .int 0, .int 0, .int (-1), .int (-1), .ref 118, .ref 119, .ref 120, .ref 121, .ref 122, .ref 123, .ref 124, .ref 125, .ref 126, .ref 127, .ref 128, .ref 129, .int 0, .ref 130, .ref 131, .ref 132, .ref 133, .ref 134, .int 0, .int 0]) dX12_good_12 fw_X12_11 rfl (Nat.le_of_ble_eq_true rfl) (fun _ => ⟨rfl, rfl⟩) rfl ?_
  refine J_iload_n dX12_good_15 rfl rfl ?_
  refine J_mask (L2 := [(98, .inr (12, [.int 0, .int 1, .ref 99, .ref 100, .ref 101, .ref 102, .ref 103, .ref 104, .ref 105, .int 0, .int (-1), .ref 106, .ref 107, .ref 108, .int 0, .int 0, .int 0, .int 0, .int 0, .int 0, .int 0, .ref 109, .int 0, .int 0, .ref 110, .ref 111, .ref 112, .ref 113, .ref 114, .ref 115, .ref 116, .ref 117, .int 0, .int 0, .int (-1), .int (-1), .ref 118, .ref 119, .ref 120, .ref 121, .ref 122, .ref 123, .ref 124, .ref 125, .ref 126, .ref 127, .ref 128, .ref 129, .int 0, .ref 130, .ref 131, .ref 132, .ref 133, .ref 134, .int 0, .int 0]))]) (ks := [98, 98]) [true, false] rfl (by decide +kernel) rfl ?_
  exact J_iret dX12_good_16 rfl rfl (Nat.le_of_ble_eq_true rfl) (Nat.le_of_ble_eq_true rfl) ⟨rfl, rfl⟩
set_option maxHeartbeats 4000000 in
set_option maxRecDepth 100000 in
theorem c_X12_lies_2 {l : Launch} {G : jG} {nh : Nat} {fh : Nat → Option va_E}  : JM l G yX12_lies MX12_lies { frames := 0, cells := 0, slots := 0, locals := 0 } [.int 1, .int 0, .int 1] (nh, fh) (fun r h9 => r = some (.int 1) ∧ h9 = (nh, fh)) := by
  refine JM.of (by decide) rfl (fun h => by cases h) (Nat.le_of_ble_eq_true rfl) ⟨0, rfl⟩ ?_
  refine J_hc0 (J_ls (ls2 := [some (.int 1), some (.int 0), some (.int 1)]) rfl ?_)
  refine J_iload_n dX12_lies_0 rfl rfl ?_
  refine J_iload_n dX12_lies_1 rfl rfl ?_
  refine J_icmp_lt (tgt := 14) dX12_lies_2 (by decide) (fun q => absurd q (by decide +kernel)) (fun _ => ?_)
  refine J_iload_n dX12_lies_5 rfl rfl ?_
  refine J_iload_n dX12_lies_6 rfl rfl ?_
  refine J_icmp_gt (tgt := 14) dX12_lies_7 (by decide) (fun q => absurd q (by decide +kernel)) (fun _ => ?_)
  refine J_iconst (v := 1) dX12_lies_10 (by decide) ?_
  refine J_goto (tgt := 15) dX12_lies_11 (by decide) ?_
  exact J_iret dX12_lies_15 rfl (by decide +kernel) (Nat.le_of_ble_eq_true rfl) (Nat.le_of_ble_eq_true rfl) ⟨rfl, rfl⟩
set_option maxHeartbeats 4000000 in
set_option maxRecDepth 100000 in
theorem c_X12_image_loop0 {l : Launch} {G : jG} {nh : Nat} {fh : Nat → Option va_E} (hk98 : fh 98 = some (.inr (12, [.int 0, .int 0, .ref 99, .ref 100, .ref 101, .ref 102, .ref 103, .ref 104, .ref 105, .int 0, .int (-1), .ref 106, .ref 107, .ref 108, .int 0, .int 0, .int 0, .int 0, .int 0, .int 0, .int 0, .ref 109, .int 0, .int 0, .ref 110, .ref 111, .ref 112, .ref 113, .ref 114, .ref 115, .ref 116, .ref 117, .int 0, .int 0, .int (-1), .int (-1), .ref 118, .ref 119, .ref 120, .ref 121, .ref 122, .ref 123, .ref 124, .ref 125, .ref 126, .ref 127, .ref 128, .ref 129, .int 0, .ref 130, .ref 131, .ref 132, .ref 133, .ref 134, .int 0, .int 0]))) (hk100 : fh 100 = some (.inl (0, 4870, .inl (upd (fun _ => 0) 63 (-1))))) (hk101 : fh 101 = some (.inl (0, 9740, .inl (fun _ => 0)))) (hk102 : fh 102 = some (.inl (2, 2, .inl (fun _ => 0)))) : JM l G yX12_image MX12_image { frames := 1, cells := 0, slots := 0, locals := 22 } [.ref 98, .int 0] (nh, fh) (fun r h9 => r = some (.int 0) ∧ ∃ g : Nat → Int32, h9 = (nh, hc fh [(98, .inr (12, [.int 0, .int 1, .ref 99, .ref 100, .ref 101, .ref 102, .ref 103, .ref 104, .ref 105, .int 0, .int (-1), .ref 106, .ref 107, .ref 108, .int 0, .int 0, .int 0, .int 0, .int 0, .int 0, .int 0, .ref 109, .int 0, .int 0, .ref 110, .ref 111, .ref 112, .ref 113, .ref 114, .ref 115, .ref 116, .ref 117, .int 0, .int 0, .int (-1), .int (-1), .ref 118, .ref 119, .ref 120, .ref 121, .ref 122, .ref 123, .ref 124, .ref 125, .ref 126, .ref 127, .ref 128, .ref 129, .int 0, .ref 130, .ref 131, .ref 132, .ref 133, .ref 134, .int 0, .int 0])), (102, .inl (2, 2, .inl (upd (fun _ => 0) 0 1))), (101, .inl (0, 9740, .inl g))])) := by
  refine JM.of (by decide) rfl (fun h => by cases h) (Nat.le_of_ble_eq_true rfl) ⟨1, rfl⟩ ?_
  refine J_hc0 (J_ls (ls2 := [some (.ref 98), some (.int 0), none]) rfl ?_)
  refine J_iload_n dX12_image_0 rfl rfl ?_
  refine J_iconst (v := 0) dX12_image_1 (by decide) ?_
  refine J_iconst (v := 1) dX12_image_2 (by decide) ?_
  refine J_callS (st := []) dX12_image_3 cs_X12_138 (c_X12_lies_1 ) rfl rfl (Nat.le_of_ble_eq_true rfl) ⟨(Nat.le_of_ble_eq_true rfl), (Nat.le_of_ble_eq_true rfl)⟩ ⟨(Nat.le_of_ble_eq_true rfl), (Nat.le_of_ble_eq_true rfl)⟩ (fun r h9 hp => ?_)
  obtain ⟨rfl, rfl⟩ := hp
  refine J_nf (nh2 := nh) (ck2 := 0) (sk2 := 0) (st2 := [.int 1]) rfl rfl rfl rfl ?_
  refine J_if_ne (tgt := 15) dX12_image_6 (by decide) (fun _ => ?_) (fun q => absurd q (by decide +kernel))
  refine J_iconst (v := 0) dX12_image_15 (by decide) ?_
  refine J_istore_n dX12_image_16 rfl (Nat.le_of_ble_eq_true rfl) rfl ?_
  have loop : ∀ (r j : Nat) (i : Int32) (g : Nat → Int32), j + r = 4870 → i = nI j → J l G MX12_image { frames := 1, cells := 0, slots := 0, locals := 22 } jE (jMQ G { frames := 1, cells := 0, slots := 0, locals := 22 } (fun r h9 => r = some (.int 0) ∧ ∃ g : Nat → Int32, h9 = (nh, hc fh [(98, .inr (12, [.int 0, .int 1, .ref 99, .ref 100, .ref 101, .ref 102, .ref 103, .ref 104, .ref 105, .int 0, .int (-1), .ref 106, .ref 107, .ref 108, .int 0, .int 0, .int 0, .int 0, .int 0, .int 0, .int 0, .ref 109, .int 0, .int 0, .ref 110, .ref 111, .ref 112, .ref 113, .ref 114, .ref 115, .ref 116, .ref 117, .int 0, .int 0, .int (-1), .int (-1), .ref 118, .ref 119, .ref 120, .ref 121, .ref 122, .ref 123, .ref 124, .ref 125, .ref 126, .ref 127, .ref 128, .ref 129, .int 0, .ref 130, .ref 131, .ref 132, .ref 133, .ref 134, .int 0, .int 0])), (102, .inl (2, 2, .inl (upd (fun _ => 0) 0 1))), (101, .inl (0, 9740, .inl g))]))) (nh, hc fh [(101, .inl (0, 9740, .inl g))]) 0 0 17 [some (.ref 98), some (.int 0), some (.int i)] [] := by
    intro r
    induction r with
    | zero =>
      intro j i g hj hi
      refine J_iload_n dX12_image_17 rfl rfl ?_
      refine J_sipush (v := 4870) dX12_image_18 (by decide +kernel) ?_
      refine J_icmp_ge (tgt := 48) dX12_image_21 (by decide) (fun _ => ?_) (fun q => absurd (by rw [hi]; exact nI_le (a := 4870) (by omega) (by omega)) q)
      refine J_aload_n dX12_image_48 rfl rfl ?_
      refine J_get (v := .ref 102) dX12_image_49 fl_X12_26 hk98 rfl ?_
      refine J_iload_n dX12_image_52 rfl rfl ?_
      refine J_iconst (v := 1) dX12_image_53 (by decide) ?_
      refine K_zast (i2 := 0) (y := 1) dX12_image_54 hk102 rfl (jin (by decide +kernel)) (by decide +kernel) (by decide +kernel) ?_
      refine J_aload_n dX12_image_55 rfl rfl ?_
      refine J_iconst (v := 0) dX12_image_56 (by decide) ?_
      refine J_callV (st := []) dX12_image_57 cv_X12_146 (c_X12_good_1 hk98) hk98 rfl rfl (Nat.le_of_ble_eq_true rfl) ⟨(Nat.le_of_ble_eq_true rfl), (Nat.le_of_ble_eq_true rfl)⟩ ⟨(Nat.le_of_ble_eq_true rfl), (Nat.le_of_ble_eq_true rfl)⟩ (fun r h9 hp => ?_)
      obtain ⟨rfl, rfl⟩ := hp
      refine J_nf (nh2 := nh) (ck2 := 0) (sk2 := 0) (st2 := [.int 0]) rfl rfl rfl rfl ?_
      refine J_app (L3 := [(98, .inr (12, [.int 0, .int 1, .ref 99, .ref 100, .ref 101, .ref 102, .ref 103, .ref 104, .ref 105, .int 0, .int (-1), .ref 106, .ref 107, .ref 108, .int 0, .int 0, .int 0, .int 0, .int 0, .int 0, .int 0, .ref 109, .int 0, .int 0, .ref 110, .ref 111, .ref 112, .ref 113, .ref 114, .ref 115, .ref 116, .ref 117, .int 0, .int 0, .int (-1), .int (-1), .ref 118, .ref 119, .ref 120, .ref 121, .ref 122, .ref 123, .ref 124, .ref 125, .ref 126, .ref 127, .ref 128, .ref 129, .int 0, .ref 130, .ref 131, .ref 132, .ref 133, .ref 134, .int 0, .int 0])), (102, .inl (2, 2, .inl (upd (fun _ => 0) 0 1))), (101, .inl (0, 9740, .inl g))]) rfl ?_
      exact J_iret dX12_image_60 rfl rfl (Nat.le_of_ble_eq_true rfl) (Nat.le_of_ble_eq_true rfl) ⟨rfl, g, rfl⟩
    | succ r ih =>
      intro j i g hj hi
      refine J_iload_n dX12_image_17 rfl rfl ?_
      refine J_sipush (v := 4870) dX12_image_18 (by decide +kernel) ?_
      refine J_icmp_ge (tgt := 48) dX12_image_21 (by decide) (fun q => absurd q (by rw [hi]; exact nI_ge (b := 4870) (by omega) (by omega))) (fun _ => ?_)
      refine J_aload_n dX12_image_24 rfl rfl ?_
      refine J_get (v := .ref 101) dX12_image_25 fl_X12_23 hk98 rfl ?_
      refine J_sipush (v := 4870) dX12_image_28 (by decide +kernel) ?_
      refine J_iload_n dX12_image_31 rfl rfl ?_
      refine J_imul (z := 0) dX12_image_32 (by decide +kernel) ?_
      refine J_iload_n dX12_image_33 rfl rfl ?_
      refine J_iadd (z := nI (0 + j)) dX12_image_34 (by rw [hi]; exact nI_add 0 j) ?_
      refine J_aload_n dX12_image_35 rfl rfl ?_
      refine J_get (v := .ref 100) dX12_image_36 fl_X12_20 hk98 rfl ?_
      refine J_iload_n dX12_image_39 rfl rfl ?_
      refine J_iald (i2 := j) (v := (upd (fun _ => 0) 63 (-1)) j) dX12_image_40 hk100 rfl (by rw [hi]; exact vp_in_nI (by omega) (by omega)) (by rw [hi]; exact nI_clamp (by omega)) rfl ?_
      refine K_iast (i2 := 0 + j) dX12_image_41 rfl rfl (vp_in_nI (by omega) (by omega)) (nI_clamp (by omega)) ?_
      refine J_iinc (v := i + 1) dX12_image_42 rfl rfl (Nat.le_of_ble_eq_true rfl) rfl ?_
      refine J_ls (ls2 := [some (.ref 98), some (.int 0), some (.int (i + 1))]) rfl ?_
      refine J_goto (tgt := 17) dX12_image_45 (by decide) ?_
      refine J_mask (L2 := [(101, .inl (0, 9740, .inl (upd g (0 + j) ((upd (fun _ => 0) 63 (-1)) j))))]) (ks := [101, 101]) [true, false] rfl (by decide +kernel) rfl ?_
      exact ih (j + 1) (i + 1) _ (by omega) (by rw [hi]; exact nI_1 j)
  refine J_hp (fh2 := hc fh [(101, .inl (0, 9740, .inl (fun _ => 0)))]) ?_ (loop 4870 0 0 _ (by omega) (by decide +kernel))
  funext x
  show fh x = hu fh 101 _ x
  by_cases hx : x = 101
  · rw [hx, hu_same, hk101]
  · rw [hu_ne hx]
set_option maxHeartbeats 4000000 in
set_option maxRecDepth 100000 in
theorem c_X12_image_loop1 {l : Launch} {G : jG} {nh : Nat} {fh : Nat → Option va_E} (hk98 : fh 98 = some (.inr (12, [.int 0, .int 0, .ref 99, .ref 100, .ref 101, .ref 102, .ref 103, .ref 104, .ref 105, .int 0, .int (-1), .ref 106, .ref 107, .ref 108, .int 0, .int 0, .int 0, .int 0, .int 0, .int 0, .int 0, .ref 109, .int 0, .int 0, .ref 110, .ref 111, .ref 112, .ref 113, .ref 114, .ref 115, .ref 116, .ref 117, .int 0, .int 0, .int (-1), .int (-1), .ref 118, .ref 119, .ref 120, .ref 121, .ref 122, .ref 123, .ref 124, .ref 125, .ref 126, .ref 127, .ref 128, .ref 129, .int 0, .ref 130, .ref 131, .ref 132, .ref 133, .ref 134, .int 0, .int 0]))) (hk100 : fh 100 = some (.inl (0, 4870, .inl (upd (fun _ => 0) 63 (-1))))) (hk101 : fh 101 = some (.inl (0, 9740, .inl (fun _ => 0)))) (hk102 : fh 102 = some (.inl (2, 2, .inl (fun _ => 0)))) : JM l G yX12_image MX12_image { frames := 1, cells := 0, slots := 0, locals := 22 } [.ref 98, .int 1] (nh, fh) (fun r h9 => r = some (.int 0) ∧ ∃ g : Nat → Int32, h9 = (nh, hc fh [(98, .inr (12, [.int 0, .int 1, .ref 99, .ref 100, .ref 101, .ref 102, .ref 103, .ref 104, .ref 105, .int 0, .int (-1), .ref 106, .ref 107, .ref 108, .int 0, .int 0, .int 0, .int 0, .int 0, .int 0, .int 0, .ref 109, .int 0, .int 0, .ref 110, .ref 111, .ref 112, .ref 113, .ref 114, .ref 115, .ref 116, .ref 117, .int 0, .int 0, .int (-1), .int (-1), .ref 118, .ref 119, .ref 120, .ref 121, .ref 122, .ref 123, .ref 124, .ref 125, .ref 126, .ref 127, .ref 128, .ref 129, .int 0, .ref 130, .ref 131, .ref 132, .ref 133, .ref 134, .int 0, .int 0])), (102, .inl (2, 2, .inl (upd (fun _ => 0) 1 1))), (101, .inl (0, 9740, .inl g))])) := by
  refine JM.of (by decide) rfl (fun h => by cases h) (Nat.le_of_ble_eq_true rfl) ⟨1, rfl⟩ ?_
  refine J_hc0 (J_ls (ls2 := [some (.ref 98), some (.int 1), none]) rfl ?_)
  refine J_iload_n dX12_image_0 rfl rfl ?_
  refine J_iconst (v := 0) dX12_image_1 (by decide) ?_
  refine J_iconst (v := 1) dX12_image_2 (by decide) ?_
  refine J_callS (st := []) dX12_image_3 cs_X12_138 (c_X12_lies_2 ) rfl rfl (Nat.le_of_ble_eq_true rfl) ⟨(Nat.le_of_ble_eq_true rfl), (Nat.le_of_ble_eq_true rfl)⟩ ⟨(Nat.le_of_ble_eq_true rfl), (Nat.le_of_ble_eq_true rfl)⟩ (fun r h9 hp => ?_)
  obtain ⟨rfl, rfl⟩ := hp
  refine J_nf (nh2 := nh) (ck2 := 0) (sk2 := 0) (st2 := [.int 1]) rfl rfl rfl rfl ?_
  refine J_if_ne (tgt := 15) dX12_image_6 (by decide) (fun _ => ?_) (fun q => absurd q (by decide +kernel))
  refine J_iconst (v := 0) dX12_image_15 (by decide) ?_
  refine J_istore_n dX12_image_16 rfl (Nat.le_of_ble_eq_true rfl) rfl ?_
  have loop : ∀ (r j : Nat) (i : Int32) (g : Nat → Int32), j + r = 4870 → i = nI j → J l G MX12_image { frames := 1, cells := 0, slots := 0, locals := 22 } jE (jMQ G { frames := 1, cells := 0, slots := 0, locals := 22 } (fun r h9 => r = some (.int 0) ∧ ∃ g : Nat → Int32, h9 = (nh, hc fh [(98, .inr (12, [.int 0, .int 1, .ref 99, .ref 100, .ref 101, .ref 102, .ref 103, .ref 104, .ref 105, .int 0, .int (-1), .ref 106, .ref 107, .ref 108, .int 0, .int 0, .int 0, .int 0, .int 0, .int 0, .int 0, .ref 109, .int 0, .int 0, .ref 110, .ref 111, .ref 112, .ref 113, .ref 114, .ref 115, .ref 116, .ref 117, .int 0, .int 0, .int (-1), .int (-1), .ref 118, .ref 119, .ref 120, .ref 121, .ref 122, .ref 123, .ref 124, .ref 125, .ref 126, .ref 127, .ref 128, .ref 129, .int 0, .ref 130, .ref 131, .ref 132, .ref 133, .ref 134, .int 0, .int 0])), (102, .inl (2, 2, .inl (upd (fun _ => 0) 1 1))), (101, .inl (0, 9740, .inl g))]))) (nh, hc fh [(101, .inl (0, 9740, .inl g))]) 0 0 17 [some (.ref 98), some (.int 1), some (.int i)] [] := by
    intro r
    induction r with
    | zero =>
      intro j i g hj hi
      refine J_iload_n dX12_image_17 rfl rfl ?_
      refine J_sipush (v := 4870) dX12_image_18 (by decide +kernel) ?_
      refine J_icmp_ge (tgt := 48) dX12_image_21 (by decide) (fun _ => ?_) (fun q => absurd (by rw [hi]; exact nI_le (a := 4870) (by omega) (by omega)) q)
      refine J_aload_n dX12_image_48 rfl rfl ?_
      refine J_get (v := .ref 102) dX12_image_49 fl_X12_26 hk98 rfl ?_
      refine J_iload_n dX12_image_52 rfl rfl ?_
      refine J_iconst (v := 1) dX12_image_53 (by decide) ?_
      refine K_zast (i2 := 1) (y := 1) dX12_image_54 hk102 rfl (jin (by decide +kernel)) (by decide +kernel) (by decide +kernel) ?_
      refine J_aload_n dX12_image_55 rfl rfl ?_
      refine J_iconst (v := 0) dX12_image_56 (by decide) ?_
      refine J_callV (st := []) dX12_image_57 cv_X12_146 (c_X12_good_1 hk98) hk98 rfl rfl (Nat.le_of_ble_eq_true rfl) ⟨(Nat.le_of_ble_eq_true rfl), (Nat.le_of_ble_eq_true rfl)⟩ ⟨(Nat.le_of_ble_eq_true rfl), (Nat.le_of_ble_eq_true rfl)⟩ (fun r h9 hp => ?_)
      obtain ⟨rfl, rfl⟩ := hp
      refine J_nf (nh2 := nh) (ck2 := 0) (sk2 := 0) (st2 := [.int 0]) rfl rfl rfl rfl ?_
      refine J_app (L3 := [(98, .inr (12, [.int 0, .int 1, .ref 99, .ref 100, .ref 101, .ref 102, .ref 103, .ref 104, .ref 105, .int 0, .int (-1), .ref 106, .ref 107, .ref 108, .int 0, .int 0, .int 0, .int 0, .int 0, .int 0, .int 0, .ref 109, .int 0, .int 0, .ref 110, .ref 111, .ref 112, .ref 113, .ref 114, .ref 115, .ref 116, .ref 117, .int 0, .int 0, .int (-1), .int (-1), .ref 118, .ref 119, .ref 120, .ref 121, .ref 122, .ref 123, .ref 124, .ref 125, .ref 126, .ref 127, .ref 128, .ref 129, .int 0, .ref 130, .ref 131, .ref 132, .ref 133, .ref 134, .int 0, .int 0])), (102, .inl (2, 2, .inl (upd (fun _ => 0) 1 1))), (101, .inl (0, 9740, .inl g))]) rfl ?_
      exact J_iret dX12_image_60 rfl rfl (Nat.le_of_ble_eq_true rfl) (Nat.le_of_ble_eq_true rfl) ⟨rfl, g, rfl⟩
    | succ r ih =>
      intro j i g hj hi
      refine J_iload_n dX12_image_17 rfl rfl ?_
      refine J_sipush (v := 4870) dX12_image_18 (by decide +kernel) ?_
      refine J_icmp_ge (tgt := 48) dX12_image_21 (by decide) (fun q => absurd q (by rw [hi]; exact nI_ge (b := 4870) (by omega) (by omega))) (fun _ => ?_)
      refine J_aload_n dX12_image_24 rfl rfl ?_
      refine J_get (v := .ref 101) dX12_image_25 fl_X12_23 hk98 rfl ?_
      refine J_sipush (v := 4870) dX12_image_28 (by decide +kernel) ?_
      refine J_iload_n dX12_image_31 rfl rfl ?_
      refine J_imul (z := 4870) dX12_image_32 (by decide +kernel) ?_
      refine J_iload_n dX12_image_33 rfl rfl ?_
      refine J_iadd (z := nI (4870 + j)) dX12_image_34 (by rw [hi]; exact nI_add 4870 j) ?_
      refine J_aload_n dX12_image_35 rfl rfl ?_
      refine J_get (v := .ref 100) dX12_image_36 fl_X12_20 hk98 rfl ?_
      refine J_iload_n dX12_image_39 rfl rfl ?_
      refine J_iald (i2 := j) (v := (upd (fun _ => 0) 63 (-1)) j) dX12_image_40 hk100 rfl (by rw [hi]; exact vp_in_nI (by omega) (by omega)) (by rw [hi]; exact nI_clamp (by omega)) rfl ?_
      refine K_iast (i2 := 4870 + j) dX12_image_41 rfl rfl (vp_in_nI (by omega) (by omega)) (nI_clamp (by omega)) ?_
      refine J_iinc (v := i + 1) dX12_image_42 rfl rfl (Nat.le_of_ble_eq_true rfl) rfl ?_
      refine J_ls (ls2 := [some (.ref 98), some (.int 1), some (.int (i + 1))]) rfl ?_
      refine J_goto (tgt := 17) dX12_image_45 (by decide) ?_
      refine J_mask (L2 := [(101, .inl (0, 9740, .inl (upd g (4870 + j) ((upd (fun _ => 0) 63 (-1)) j))))]) (ks := [101, 101]) [true, false] rfl (by decide +kernel) rfl ?_
      exact ih (j + 1) (i + 1) _ (by omega) (by rw [hi]; exact nI_1 j)
  refine J_hp (fh2 := hc fh [(101, .inl (0, 9740, .inl (fun _ => 0)))]) ?_ (loop 4870 0 0 _ (by omega) (by decide +kernel))
  funext x
  show fh x = hu fh 101 _ x
  by_cases hx : x = 101
  · rw [hx, hu_same, hk101]
  · rw [hu_ne hx]

