/-! contracts at fresh objects: written by wip/tools/law.py -/
set_option maxHeartbeats 4000000 in
set_option maxRecDepth 100000 in
theorem c_X12_drunk_loop {l : Launch} {G : jG} {nh : Nat} {fh : Nat → Option va_E} (a1 : Int32) (b_a1 : 0 ≤ a1.toInt ∧ a1.toInt ≤ 1000000) (a3 : Int32) (b_a3 : 1 ≤ a3.toInt ∧ a3.toInt ≤ 500) (hk98 : fh 98 = some (.inr (12, [.int 0, .int 0, .ref 99, .ref 100, .ref 101, .ref 102, .ref 103, .ref 104, .ref 105, .int 0, .int (-1), .ref 106, .ref 107, .ref 108, .int 0, .int 0, .int 0, .int 0, .int 0, .int 0, .int 0, .ref 109, .int 0, .int 0, .ref 110, .ref 111, .ref 112, .ref 113, .ref 114, .ref 115, .ref 116, .ref 117, .int 0, .int 0, .int (-1), .int (-1), .ref 118, .ref 119, .ref 120, .ref 121, .ref 122, .ref 123, .ref 124, .ref 125, .ref 126, .ref 127, .ref 128, .ref 129, .int 0, .ref 130, .ref 131, .ref 132, .ref 133, .ref 134, .int 0, .int 0]))) (hk100 : fh 100 = some (.inl (0, 4870, .inl (upd (fun _ => 0) 63 (-1))))) (hk111 : fh 111 = some (.inl (0, 1260, .inl (fun _ => 0)))) (hk114 : fh 114 = some (.inl (0, 1260, .inl (fun _ => 0)))) (hk116 : fh 116 = some (.inl (0, 1260, .inl (fun _ => 0)))) (hk134 : fh 134 = some (.inl (0, 1260, .inl (fun _ => 0)))) : JM l G yX12_drunk MX12_drunk { frames := 3, cells := 0, slots := 0, locals := 69 } [.ref 98, .int a1, .int 0, .int a3] (nh, fh) (fun r h9 => r = some (.int 0) ∧ ∃ g : Nat → Int32, h9 = (nh, hc fh [(98, .inr (12, [.int 0, .int 1, .ref 99, .ref 100, .ref 101, .ref 102, .ref 103, .ref 104, .ref 105, .int 0, .int (-1), .ref 106, .ref 107, .ref 108, .int 0, .int 0, .int 0, .int 0, .int 0, .int 0, .int 0, .ref 109, .int 0, .int 0, .ref 110, .ref 111, .ref 112, .ref 113, .ref 114, .ref 115, .ref 116, .ref 117, .int 1, .int 0, .int 0, .int 0, .ref 118, .ref 119, .ref 120, .ref 121, .ref 122, .ref 123, .ref 124, .ref 125, .ref 126, .ref 127, .ref 128, .ref 129, .int 0, .ref 130, .ref 131, .ref 132, .ref 133, .ref 134, .int 1, .int a1])), (134, .inl (0, 1260, .inl g)), (114, .inl (0, 1260, .inl (upd (fun _ => 0) 0 0))), (116, .inl (0, 1260, .inl (upd (fun _ => 0) 0 0))), (111, .inl (0, 1260, .inl (upd (fun _ => 0) 0 0)))])) := by
  refine JM.of (by decide) rfl (fun h => by cases h) (Nat.le_of_ble_eq_true rfl) ⟨2, rfl⟩ ?_
  refine J_hc0 (J_ls (ls2 := [some (.ref 98), some (.int a1), some (.int 0), some (.int a3), none, none]) rfl ?_)
  refine J_iload_n dX12_drunk_0 rfl rfl ?_
  refine J_iconst (v := 0) dX12_drunk_1 (by decide) ?_
  refine J_ldc (v := 1000000) dX12_drunk_2 (jt7 88 rfl rfl) ?_
  refine J_callS (st := []) dX12_drunk_4 cs_X12_138 (c_X12_lies_64 (a1) b_a1) rfl rfl (Nat.le_of_ble_eq_true rfl) ⟨(Nat.le_of_ble_eq_true rfl), (Nat.le_of_ble_eq_true rfl)⟩ ⟨(Nat.le_of_ble_eq_true rfl), (Nat.le_of_ble_eq_true rfl)⟩ (fun r h9 hp => ?_)
  obtain ⟨rfl, rfl⟩ := hp
  refine J_nf (nh2 := nh) (ck2 := 0) (sk2 := 0) (st2 := [.int 1]) rfl rfl rfl rfl ?_
  refine J_if_eq (tgt := 21) dX12_drunk_7 (by decide) (fun q => absurd q (by decide +kernel)) (fun _ => ?_)
  refine J_iload_n dX12_drunk_10 rfl rfl ?_
  refine J_iconst (v := 0) dX12_drunk_11 (by decide) ?_
  refine J_sipush (v := 500) dX12_drunk_12 (by decide +kernel) ?_
  refine J_callS (st := []) dX12_drunk_15 cs_X12_138 (c_X12_lies_68 (a3) b_a3) rfl rfl (Nat.le_of_ble_eq_true rfl) ⟨(Nat.le_of_ble_eq_true rfl), (Nat.le_of_ble_eq_true rfl)⟩ ⟨(Nat.le_of_ble_eq_true rfl), (Nat.le_of_ble_eq_true rfl)⟩ (fun r h9 hp => ?_)
  obtain ⟨rfl, rfl⟩ := hp
  refine J_nf (nh2 := nh) (ck2 := 0) (sk2 := 0) (st2 := [.int 1]) rfl rfl rfl rfl ?_
  refine J_if_ne (tgt := 27) dX12_drunk_18 (by decide) (fun _ => ?_) (fun q => absurd q (by decide +kernel))
  refine J_aload_n dX12_drunk_27 rfl rfl ?_
  refine J_iload_n dX12_drunk_28 rfl rfl ?_
  refine J_callV (st := []) dX12_drunk_29 cv_X12_325 (c_X12_isHouse_2 hk98 hk100 hk111) hk98 rfl rfl (Nat.le_of_ble_eq_true rfl) ⟨(Nat.le_of_ble_eq_true rfl), (Nat.le_of_ble_eq_true rfl)⟩ ⟨(Nat.le_of_ble_eq_true rfl), (Nat.le_of_ble_eq_true rfl)⟩ (fun r h9 hp => ?_)
  obtain ⟨rfl, rfl⟩ := hp
  refine J_nf (nh2 := nh) (ck2 := 0) (sk2 := 0) (st2 := [.int 1]) rfl rfl rfl rfl ?_
  refine J_app (L3 := [(98, .inr (12, [.int 0, .int 0, .ref 99, .ref 100, .ref 101, .ref 102, .ref 103, .ref 104, .ref 105, .int 0, .int (-1), .ref 106, .ref 107, .ref 108, .int 0, .int 0, .int 0, .int 0, .int 0, .int 0, .int 0, .ref 109, .int 0, .int 0, .ref 110, .ref 111, .ref 112, .ref 113, .ref 114, .ref 115, .ref 116, .ref 117, .int 1, .int 0, .int 0, .int (-1), .ref 118, .ref 119, .ref 120, .ref 121, .ref 122, .ref 123, .ref 124, .ref 125, .ref 126, .ref 127, .ref 128, .ref 129, .int 0, .ref 130, .ref 131, .ref 132, .ref 133, .ref 134, .int 0, .int 0])), (111, .inl (0, 1260, .inl (upd (fun _ => 0) 0 0)))]) rfl ?_
  refine J_if_ne (tgt := 42) dX12_drunk_32 (by decide) (fun _ => ?_) (fun q => absurd q (by decide +kernel))
  refine J_aload_n dX12_drunk_42 rfl rfl ?_
  refine J_callV (st := []) dX12_drunk_43 cv_X12_328 (c_X12_looks_1 rfl hk100 hk114 hk116) rfl rfl rfl (Nat.le_of_ble_eq_true rfl) ⟨(Nat.le_of_ble_eq_true rfl), (Nat.le_of_ble_eq_true rfl)⟩ ⟨(Nat.le_of_ble_eq_true rfl), (Nat.le_of_ble_eq_true rfl)⟩ (fun r h9 hp => ?_)
  obtain ⟨rfl, rfl⟩ := hp
  refine J_nf (nh2 := nh) (ck2 := 0) (sk2 := 0) (st2 := []) rfl rfl rfl rfl ?_
  refine J_app (L3 := [(114, .inl (0, 1260, .inl (upd (fun _ => 0) 0 0))), (116, .inl (0, 1260, .inl (upd (fun _ => 0) 0 0))), (98, .inr (12, [.int 0, .int 0, .ref 99, .ref 100, .ref 101, .ref 102, .ref 103, .ref 104, .ref 105, .int 0, .int (-1), .ref 106, .ref 107, .ref 108, .int 0, .int 0, .int 0, .int 0, .int 0, .int 0, .int 0, .ref 109, .int 0, .int 0, .ref 110, .ref 111, .ref 112, .ref 113, .ref 114, .ref 115, .ref 116, .ref 117, .int 1, .int 0, .int 0, .int 0, .ref 118, .ref 119, .ref 120, .ref 121, .ref 122, .ref 123, .ref 124, .ref 125, .ref 126, .ref 127, .ref 128, .ref 129, .int 0, .ref 130, .ref 131, .ref 132, .ref 133, .ref 134, .int 0, .int 0])), (98, .inr (12, [.int 0, .int 0, .ref 99, .ref 100, .ref 101, .ref 102, .ref 103, .ref 104, .ref 105, .int 0, .int (-1), .ref 106, .ref 107, .ref 108, .int 0, .int 0, .int 0, .int 0, .int 0, .int 0, .int 0, .ref 109, .int 0, .int 0, .ref 110, .ref 111, .ref 112, .ref 113, .ref 114, .ref 115, .ref 116, .ref 117, .int 1, .int 0, .int 0, .int (-1), .ref 118, .ref 119, .ref 120, .ref 121, .ref 122, .ref 123, .ref 124, .ref 125, .ref 126, .ref 127, .ref 128, .ref 129, .int 0, .ref 130, .ref 131, .ref 132, .ref 133, .ref 134, .int 0, .int 0])), (111, .inl (0, 1260, .inl (upd (fun _ => 0) 0 0)))]) rfl ?_
  refine J_aload_n dX12_drunk_46 rfl rfl ?_
  refine J_iload_n dX12_drunk_47 rfl rfl ?_
  refine K_put (fs2 := [.int 0, .int 0, .ref 99, .ref 100, .ref 101, .ref 102, .ref 103, .ref 104, .ref 105, .int 0, .int (-1), .ref 106, .ref 107, .ref 108, .int 0, .int 0, .int 0, .int 0, .int 0, .int 0, .int 0, .ref 109, .int 0, .int 0, .ref 110, .ref 111, .ref 112, .ref 113, .ref 114, .ref 115, .ref 116, .ref 117, .int 1, .int 0, .int 0, .int 0, .ref 118, .ref 119, .ref 120, .ref 121, .ref 122, .ref 123, .ref 124, .ref 125, .ref 126, .ref 127, .ref 128, .ref 129, .int 0, .ref 130, .ref 131, .ref 132, .ref 133, .ref 134, .int 0, .int a1]) dX12_drunk_48 fw_X12_368 rfl (Nat.le_of_ble_eq_true rfl) (fun _ => ⟨rfl, rfl⟩) rfl ?_
  refine J_aload_n dX12_drunk_51 rfl rfl ?_
  refine J_aload_n dX12_drunk_52 rfl rfl ?_
  refine J_get (v := .int 1) dX12_drunk_53 fl_X12_298 rfl rfl ?_
  refine K_put (fs2 := [.int 0, .int 0, .ref 99, .ref 100, .ref 101, .ref 102, .ref 103, .ref 104, .ref 105, .int 0, .int (-1), .ref 106, .ref 107, .ref 108, .int 0, .int 0, .int 0, .int 0, .int 0, .int 0, .int 0, .ref 109, .int 0, .int 0, .ref 110, .ref 111, .ref 112, .ref 113, .ref 114, .ref 115, .ref 116, .ref 117, .int 1, .int 0, .int 0, .int 0, .ref 118, .ref 119, .ref 120, .ref 121, .ref 122, .ref 123, .ref 124, .ref 125, .ref 126, .ref 127, .ref 128, .ref 129, .int 0, .ref 130, .ref 131, .ref 132, .ref 133, .ref 134, .int 1, .int a1]) dX12_drunk_56 fw_X12_375 rfl (Nat.le_of_ble_eq_true rfl) (fun _ => ⟨rfl, rfl⟩) rfl ?_
  refine J_iconst (v := 0) dX12_drunk_59 (by decide) ?_
  refine J_istore dX12_drunk_60 (Nat.le_of_ble_eq_true rfl) rfl ?_
  refine J_iload dX12_drunk_62 rfl ?_
  refine J_aload_n dX12_drunk_64 rfl rfl ?_
  refine J_get (v := .int 1) dX12_drunk_65 fl_X12_298 rfl rfl ?_
  refine J_icmp_ge (tgt := 85) dX12_drunk_68 (by decide) (fun q => absurd q (by decide +kernel)) (fun _ => ?_)
  refine J_aload_n dX12_drunk_71 rfl rfl ?_
  refine J_get (v := .ref 134) dX12_drunk_72 fl_X12_135 rfl rfl ?_
  refine J_iload dX12_drunk_75 rfl ?_
  refine J_iconst (v := 0) dX12_drunk_77 (by decide) ?_
  refine K_iast (i2 := 0) dX12_drunk_78 hk134 rfl (jin (by decide +kernel)) (by decide +kernel) ?_
  refine J_iinc (v := 1) dX12_drunk_79 rfl (by decide +kernel) (Nat.le_of_ble_eq_true rfl) rfl ?_
  refine J_ls (ls2 := [some (.ref 98), some (.int a1), some (.int 0), some (.int a3), some (.int 1), none]) rfl ?_
  refine J_goto (tgt := 62) dX12_drunk_82 (by decide) ?_
  refine J_iload dX12_drunk_62 rfl ?_
  refine J_aload_n dX12_drunk_64 rfl rfl ?_
  refine J_get (v := .int 1) dX12_drunk_65 fl_X12_298 rfl rfl ?_
  refine J_icmp_ge (tgt := 85) dX12_drunk_68 (by decide) (fun _ => ?_) (fun q => absurd (by decide +kernel) q)
  refine J_iload_n dX12_drunk_85 rfl rfl ?_
  refine J_istore dX12_drunk_86 (Nat.le_of_ble_eq_true rfl) rfl ?_
  refine J_aload_n dX12_drunk_88 rfl rfl ?_
  refine J_get (v := .ref 134) dX12_drunk_89 fl_X12_135 rfl rfl ?_
  refine J_iload dX12_drunk_92 rfl ?_
  refine J_dup2_11 dX12_drunk_94 rfl rfl ?_
  refine J_iald (i2 := 0) (v := 0) dX12_drunk_95 rfl rfl (jin (by decide +kernel)) (by decide +kernel) rfl ?_
  refine J_iconst (v := 1) dX12_drunk_96 (by decide) ?_
  refine J_iadd (z := 1) dX12_drunk_97 (by decide +kernel) ?_
  refine K_iast (i2 := 0) dX12_drunk_98 rfl rfl (jin (by decide +kernel)) (by decide +kernel) ?_
  refine J_iconst (v := 0) dX12_drunk_99 (by decide) ?_
  refine J_istore dX12_drunk_100 (Nat.le_of_ble_eq_true rfl) rfl ?_
  refine J_iload dX12_drunk_102 rfl ?_
  refine J_iload_n dX12_drunk_104 rfl rfl ?_
  refine J_icmp_ge (tgt := 159) dX12_drunk_105 (by decide) (fun q => absurd q (by have hb0 := b_a3; simp only [fa_lt, fa_le, fa_eq, kc_0]; omega)) (fun _ => ?_)
  refine J_aload_n dX12_drunk_108 rfl rfl ?_
  refine J_get (v := .ref 114) dX12_drunk_109 fl_X12_67 rfl rfl ?_
  refine J_iload dX12_drunk_112 rfl ?_
  refine J_iald (i2 := 0) (v := 0) dX12_drunk_114 rfl rfl (jin (by decide +kernel)) (by decide +kernel) rfl ?_
  refine J_if_le (tgt := 142) dX12_drunk_115 (by decide) (fun _ => ?_) (fun q => absurd (by decide +kernel) q)
  refine J_aload_n dX12_drunk_142 rfl rfl ?_
  refine J_get (v := .ref 134) dX12_drunk_143 fl_X12_135 rfl rfl ?_
  refine J_iload dX12_drunk_146 rfl ?_
  refine J_dup2_11 dX12_drunk_148 rfl rfl ?_
  refine J_iald (i2 := 0) (v := 1) dX12_drunk_149 rfl rfl (jin (by decide +kernel)) (by decide +kernel) rfl ?_
  refine J_iconst (v := 1) dX12_drunk_150 (by decide) ?_
  refine J_iadd (z := 2) dX12_drunk_151 (by decide +kernel) ?_
  refine K_iast (i2 := 0) dX12_drunk_152 rfl rfl (jin (by decide +kernel)) (by decide +kernel) ?_
  refine J_iinc (v := 1) dX12_drunk_153 rfl (by decide +kernel) (Nat.le_of_ble_eq_true rfl) rfl ?_
  refine J_ls (ls2 := [some (.ref 98), some (.int a1), some (.int 0), some (.int a3), some (.int 0), some (.int 1)]) rfl ?_
  refine J_goto (tgt := 102) dX12_drunk_156 (by decide) ?_
  refine J_mask (L2 := [(134, .inl (0, 1260, .inl (upd (upd (upd (fun _ => 0) 0 0) 0 1) 0 2))), (98, .inr (12, [.int 0, .int 0, .ref 99, .ref 100, .ref 101, .ref 102, .ref 103, .ref 104, .ref 105, .int 0, .int (-1), .ref 106, .ref 107, .ref 108, .int 0, .int 0, .int 0, .int 0, .int 0, .int 0, .int 0, .ref 109, .int 0, .int 0, .ref 110, .ref 111, .ref 112, .ref 113, .ref 114, .ref 115, .ref 116, .ref 117, .int 1, .int 0, .int 0, .int 0, .ref 118, .ref 119, .ref 120, .ref 121, .ref 122, .ref 123, .ref 124, .ref 125, .ref 126, .ref 127, .ref 128, .ref 129, .int 0, .ref 130, .ref 131, .ref 132, .ref 133, .ref 134, .int 1, .int a1])), (114, .inl (0, 1260, .inl (upd (fun _ => 0) 0 0))), (116, .inl (0, 1260, .inl (upd (fun _ => 0) 0 0))), (111, .inl (0, 1260, .inl (upd (fun _ => 0) 0 0)))]) (ks := [134, 134, 134, 98, 98, 114, 116, 98, 98, 111]) [true, false, false, true, false, true, true, false, false, true] rfl (by decide +kernel) rfl ?_
  have loop : ∀ (r j : Nat) (i : Int32) (g : Nat → Int32), (j : Int) + r = a3.toInt → i = nI j → J l G MX12_drunk { frames := 3, cells := 0, slots := 0, locals := 69 } jE (jMQ G { frames := 3, cells := 0, slots := 0, locals := 69 } (fun r h9 => r = some (.int 0) ∧ ∃ g : Nat → Int32, h9 = (nh, hc fh [(98, .inr (12, [.int 0, .int 1, .ref 99, .ref 100, .ref 101, .ref 102, .ref 103, .ref 104, .ref 105, .int 0, .int (-1), .ref 106, .ref 107, .ref 108, .int 0, .int 0, .int 0, .int 0, .int 0, .int 0, .int 0, .ref 109, .int 0, .int 0, .ref 110, .ref 111, .ref 112, .ref 113, .ref 114, .ref 115, .ref 116, .ref 117, .int 1, .int 0, .int 0, .int 0, .ref 118, .ref 119, .ref 120, .ref 121, .ref 122, .ref 123, .ref 124, .ref 125, .ref 126, .ref 127, .ref 128, .ref 129, .int 0, .ref 130, .ref 131, .ref 132, .ref 133, .ref 134, .int 1, .int a1])), (134, .inl (0, 1260, .inl g)), (114, .inl (0, 1260, .inl (upd (fun _ => 0) 0 0))), (116, .inl (0, 1260, .inl (upd (fun _ => 0) 0 0))), (111, .inl (0, 1260, .inl (upd (fun _ => 0) 0 0)))]))) (nh, hc fh [(134, .inl (0, 1260, .inl g)), (98, .inr (12, [.int 0, .int 0, .ref 99, .ref 100, .ref 101, .ref 102, .ref 103, .ref 104, .ref 105, .int 0, .int (-1), .ref 106, .ref 107, .ref 108, .int 0, .int 0, .int 0, .int 0, .int 0, .int 0, .int 0, .ref 109, .int 0, .int 0, .ref 110, .ref 111, .ref 112, .ref 113, .ref 114, .ref 115, .ref 116, .ref 117, .int 1, .int 0, .int 0, .int 0, .ref 118, .ref 119, .ref 120, .ref 121, .ref 122, .ref 123, .ref 124, .ref 125, .ref 126, .ref 127, .ref 128, .ref 129, .int 0, .ref 130, .ref 131, .ref 132, .ref 133, .ref 134, .int 1, .int a1])), (114, .inl (0, 1260, .inl (upd (fun _ => 0) 0 0))), (116, .inl (0, 1260, .inl (upd (fun _ => 0) 0 0))), (111, .inl (0, 1260, .inl (upd (fun _ => 0) 0 0)))]) 0 0 102 [some (.ref 98), some (.int a1), some (.int 0), some (.int a3), some (.int 0), some (.int i)] [] := by
    intro r
    induction r with
    | zero =>
      intro j i g hj hi
      refine J_iload dX12_drunk_102 rfl ?_
      refine J_iload_n dX12_drunk_104 rfl rfl ?_
      refine J_icmp_ge (tgt := 159) dX12_drunk_105 (by decide) (fun _ => ?_) (fun q => absurd (by simp only [fa_le]; rw [hi, nI_toInt (by omega)]; omega) q)
      refine J_aload_n dX12_drunk_159 rfl rfl ?_
      refine J_iload dX12_drunk_160 rfl ?_
      refine J_callV (st := []) dX12_drunk_162 cv_X12_146 (c_X12_good_4 (a1) rfl) rfl rfl rfl (Nat.le_of_ble_eq_true rfl) ⟨(Nat.le_of_ble_eq_true rfl), (Nat.le_of_ble_eq_true rfl)⟩ ⟨(Nat.le_of_ble_eq_true rfl), (Nat.le_of_ble_eq_true rfl)⟩ (fun r h9 hp => ?_)
      obtain ⟨rfl, rfl⟩ := hp
      refine J_nf (nh2 := nh) (ck2 := 0) (sk2 := 0) (st2 := [.int 0]) rfl rfl rfl rfl ?_
      refine J_app (L3 := [(98, .inr (12, [.int 0, .int 1, .ref 99, .ref 100, .ref 101, .ref 102, .ref 103, .ref 104, .ref 105, .int 0, .int (-1), .ref 106, .ref 107, .ref 108, .int 0, .int 0, .int 0, .int 0, .int 0, .int 0, .int 0, .ref 109, .int 0, .int 0, .ref 110, .ref 111, .ref 112, .ref 113, .ref 114, .ref 115, .ref 116, .ref 117, .int 1, .int 0, .int 0, .int 0, .ref 118, .ref 119, .ref 120, .ref 121, .ref 122, .ref 123, .ref 124, .ref 125, .ref 126, .ref 127, .ref 128, .ref 129, .int 0, .ref 130, .ref 131, .ref 132, .ref 133, .ref 134, .int 1, .int a1])), (134, .inl (0, 1260, .inl g)), (98, .inr (12, [.int 0, .int 0, .ref 99, .ref 100, .ref 101, .ref 102, .ref 103, .ref 104, .ref 105, .int 0, .int (-1), .ref 106, .ref 107, .ref 108, .int 0, .int 0, .int 0, .int 0, .int 0, .int 0, .int 0, .ref 109, .int 0, .int 0, .ref 110, .ref 111, .ref 112, .ref 113, .ref 114, .ref 115, .ref 116, .ref 117, .int 1, .int 0, .int 0, .int 0, .ref 118, .ref 119, .ref 120, .ref 121, .ref 122, .ref 123, .ref 124, .ref 125, .ref 126, .ref 127, .ref 128, .ref 129, .int 0, .ref 130, .ref 131, .ref 132, .ref 133, .ref 134, .int 1, .int a1])), (114, .inl (0, 1260, .inl (upd (fun _ => 0) 0 0))), (116, .inl (0, 1260, .inl (upd (fun _ => 0) 0 0))), (111, .inl (0, 1260, .inl (upd (fun _ => 0) 0 0)))]) rfl ?_
      refine J_mask (L2 := [(98, .inr (12, [.int 0, .int 1, .ref 99, .ref 100, .ref 101, .ref 102, .ref 103, .ref 104, .ref 105, .int 0, .int (-1), .ref 106, .ref 107, .ref 108, .int 0, .int 0, .int 0, .int 0, .int 0, .int 0, .int 0, .ref 109, .int 0, .int 0, .ref 110, .ref 111, .ref 112, .ref 113, .ref 114, .ref 115, .ref 116, .ref 117, .int 1, .int 0, .int 0, .int 0, .ref 118, .ref 119, .ref 120, .ref 121, .ref 122, .ref 123, .ref 124, .ref 125, .ref 126, .ref 127, .ref 128, .ref 129, .int 0, .ref 130, .ref 131, .ref 132, .ref 133, .ref 134, .int 1, .int a1])), (134, .inl (0, 1260, .inl g)), (114, .inl (0, 1260, .inl (upd (fun _ => 0) 0 0))), (116, .inl (0, 1260, .inl (upd (fun _ => 0) 0 0))), (111, .inl (0, 1260, .inl (upd (fun _ => 0) 0 0)))]) (ks := [98, 134, 98, 114, 116, 111]) [true, true, false, true, true, true] rfl (by decide +kernel) rfl ?_
      exact J_iret dX12_drunk_165 rfl rfl (Nat.le_of_ble_eq_true rfl) (Nat.le_of_ble_eq_true rfl) ⟨rfl, g, rfl⟩
    | succ r ih =>
      intro j i g hj hi
      refine J_iload dX12_drunk_102 rfl ?_
      refine J_iload_n dX12_drunk_104 rfl rfl ?_
      refine J_icmp_ge (tgt := 159) dX12_drunk_105 (by decide) (fun q => absurd q (by simp only [fa_le]; rw [hi, nI_toInt (by omega)]; omega)) (fun _ => ?_)
      refine J_aload_n dX12_drunk_108 rfl rfl ?_
      refine J_get (v := .ref 114) dX12_drunk_109 fl_X12_67 rfl rfl ?_
      refine J_iload dX12_drunk_112 rfl ?_
      refine J_iald (i2 := 0) (v := 0) dX12_drunk_114 rfl rfl (jin (by decide +kernel)) (by decide +kernel) rfl ?_
      refine J_if_le (tgt := 142) dX12_drunk_115 (by decide) (fun _ => ?_) (fun q => absurd (by decide +kernel) q)
      refine J_aload_n dX12_drunk_142 rfl rfl ?_
      refine J_get (v := .ref 134) dX12_drunk_143 fl_X12_135 rfl rfl ?_
      refine J_iload dX12_drunk_146 rfl ?_
      refine J_dup2_11 dX12_drunk_148 rfl rfl ?_
      refine J_iald (i2 := 0) (v := (g 0)) dX12_drunk_149 rfl rfl (jin (by decide +kernel)) (by decide +kernel) rfl ?_
      refine J_iconst (v := 1) dX12_drunk_150 (by decide) ?_
      refine J_iadd (z := ((g 0) + 1)) dX12_drunk_151 rfl ?_
      refine K_iast (i2 := 0) dX12_drunk_152 rfl rfl (jin (by decide +kernel)) (by decide +kernel) ?_
      refine J_iinc (v := (i + 1)) dX12_drunk_153 rfl rfl (Nat.le_of_ble_eq_true rfl) rfl ?_
      refine J_ls (ls2 := [some (.ref 98), some (.int a1), some (.int 0), some (.int a3), some (.int 0), some (.int (i + 1))]) rfl ?_
      refine J_goto (tgt := 102) dX12_drunk_156 (by decide) ?_
      refine J_mask (L2 := [(134, .inl (0, 1260, .inl (upd g 0 ((g 0) + 1)))), (98, .inr (12, [.int 0, .int 0, .ref 99, .ref 100, .ref 101, .ref 102, .ref 103, .ref 104, .ref 105, .int 0, .int (-1), .ref 106, .ref 107, .ref 108, .int 0, .int 0, .int 0, .int 0, .int 0, .int 0, .int 0, .ref 109, .int 0, .int 0, .ref 110, .ref 111, .ref 112, .ref 113, .ref 114, .ref 115, .ref 116, .ref 117, .int 1, .int 0, .int 0, .int 0, .ref 118, .ref 119, .ref 120, .ref 121, .ref 122, .ref 123, .ref 124, .ref 125, .ref 126, .ref 127, .ref 128, .ref 129, .int 0, .ref 130, .ref 131, .ref 132, .ref 133, .ref 134, .int 1, .int a1])), (114, .inl (0, 1260, .inl (upd (fun _ => 0) 0 0))), (116, .inl (0, 1260, .inl (upd (fun _ => 0) 0 0))), (111, .inl (0, 1260, .inl (upd (fun _ => 0) 0 0)))]) (ks := [134, 134, 98, 114, 116, 111]) [true, false, true, true, true, true] rfl (by decide +kernel) rfl ?_
      exact ih (j + 1) (i + 1) (upd g 0 ((g 0) + 1)) (by omega) (by rw [hi]; exact nI_1 j)
  exact loop (a3.toInt - 1).toNat 1 1 (upd (upd (upd (fun _ => 0) 0 0) 0 1) 0 2) (by omega) (by decide +kernel)
set_option maxHeartbeats 4000000 in
set_option maxRecDepth 100000 in
theorem c_X11_drunk_5 {l : Launch} {G : jG} {nh : Nat} {fh : Nat → Option va_E} (a1 : Int32) (b_a1 : 0 ≤ a1.toInt ∧ a1.toInt ≤ 1000000) (a2 : Int32) (b_a2 : 1 ≤ a2.toInt ∧ a2.toInt ≤ 2147483647) (a3 : Int32) (b_a3 : 0 ≤ a3.toInt ∧ a3.toInt ≤ 500) (hk0 : fh 0 = some (.inr (11, [.ref 1, .ref 17, .ref 50, .ref 51, .ref 54, .ref 57, .ref 65, .ref 75, .ref 81, .ref 85, .ref 88, .ref 93, .ref 96, .int 0, .int (-1), .ref 97, .int 0]))) (hk51 : fh 51 = some (.inr (0, [.ref 52, .ref 53, .int 1, .int 0]))) (hk96 : fh 96 = some (.inl (0, 5, .inl (fun _ => 0)))) : JM l G yX11_drunk MX11_drunk { frames := 2, cells := 0, slots := 0, locals := 41 } [.ref 0, .int a1, .int a2, .int a3] (nh, fh) (fun r h9 => r = some (.int (-2)) ∧ h9 = (nh, hc fh [(96, .inl (0, 5, .inl (upd (fun _ => 0) 1 1))), (0, .inr (11, [.ref 1, .ref 17, .ref 50, .ref 51, .ref 54, .ref 57, .ref 65, .ref 75, .ref 81, .ref 85, .ref 88, .ref 93, .ref 96, .int (-2), .int (-1), .ref 97, .int 0]))])) := by
  refine JM.of (by decide) rfl (fun h => by cases h) (Nat.le_of_ble_eq_true rfl) ⟨4, rfl⟩ ?_
  refine J_hc0 (J_ls (ls2 := [some (.ref 0), some (.int a1), some (.int a2), some (.int a3), none, none, none, none]) rfl ?_)
  refine J_iload_n dX11_drunk_0 rfl rfl ?_
  refine J_if_lt (tgt := 22) dX11_drunk_1 (by decide) (fun q => absurd q (by have hb0 := b_a1; simp only [fa_lt, fa_le, fa_eq, kc_0]; omega)) (fun _ => ?_)
  refine J_iload_n dX11_drunk_4 rfl rfl ?_
  refine J_ldcw (v := 1000000) dX11_drunk_5 (jt6 40 rfl rfl) ?_
  refine J_icmp_gt (tgt := 22) dX11_drunk_8 (by decide) (fun q => absurd q (by have hb0 := b_a1; simp only [fa_lt, fa_le, fa_eq, kc_1000000]; omega)) (fun _ => ?_)
  refine J_iload_n dX11_drunk_11 rfl rfl ?_
  refine J_if_lt (tgt := 22) dX11_drunk_12 (by decide) (fun q => absurd q (by have hb0 := b_a3; simp only [fa_lt, fa_le, fa_eq, kc_0]; omega)) (fun _ => ?_)
  refine J_iload_n dX11_drunk_15 rfl rfl ?_
  refine J_sipush (v := 500) dX11_drunk_16 (by decide +kernel) ?_
  refine J_icmp_le (tgt := 28) dX11_drunk_19 (by decide) (fun _ => ?_) (fun q => absurd (by have hb0 := b_a3; simp only [fa_lt, fa_le, fa_eq, kc_500]; omega) q)
  refine J_aload_n dX11_drunk_28 rfl rfl ?_
  refine J_get (v := .ref 51) dX11_drunk_29 fl_X11_27 hk0 rfl ?_
  refine J_iload_n dX11_drunk_32 rfl rfl ?_
  refine J_callV (st := []) dX11_drunk_33 cv_X11_135 (c_X0_has_3 (a2) b_a2 hk51) hk51 rfl rfl (Nat.le_of_ble_eq_true rfl) ⟨(Nat.le_of_ble_eq_true rfl), (Nat.le_of_ble_eq_true rfl)⟩ ⟨(Nat.le_of_ble_eq_true rfl), (Nat.le_of_ble_eq_true rfl)⟩ (fun r h9 hp => ?_)
  obtain ⟨rfl, rfl⟩ := hp
  refine J_nf (nh2 := nh) (ck2 := 0) (sk2 := 0) (st2 := [.int 0]) rfl rfl rfl rfl ?_
  refine J_if_ne (tgt := 46) dX11_drunk_36 (by decide) (fun q => absurd (by decide +kernel) q) (fun _ => ?_)
  refine J_aload_n dX11_drunk_39 rfl rfl ?_
  refine J_bipush (v := (-2)) dX11_drunk_40 (by decide +kernel) ?_
  refine J_callV (st := []) dX11_drunk_42 cv_X11_118 (c_X11_refuse_4 hk0 hk96) hk0 rfl rfl (Nat.le_of_ble_eq_true rfl) ⟨(Nat.le_of_ble_eq_true rfl), (Nat.le_of_ble_eq_true rfl)⟩ ⟨(Nat.le_of_ble_eq_true rfl), (Nat.le_of_ble_eq_true rfl)⟩ (fun r h9 hp => ?_)
  obtain ⟨rfl, rfl⟩ := hp
  refine J_nf (nh2 := nh) (ck2 := 0) (sk2 := 0) (st2 := [.int (-2)]) rfl rfl rfl rfl ?_
  refine J_app (L3 := [(96, .inl (0, 5, .inl (upd (fun _ => 0) 1 1))), (0, .inr (11, [.ref 1, .ref 17, .ref 50, .ref 51, .ref 54, .ref 57, .ref 65, .ref 75, .ref 81, .ref 85, .ref 88, .ref 93, .ref 96, .int (-2), .int (-1), .ref 97, .int 0]))]) rfl ?_
  exact J_iret dX11_drunk_45 rfl rfl (Nat.le_of_ble_eq_true rfl) (Nat.le_of_ble_eq_true rfl) ⟨rfl, rfl⟩
set_option maxHeartbeats 4000000 in
set_option maxRecDepth 100000 in
theorem c_X12_drunk_5 {l : Launch} {G : jG} {nh : Nat} {fh : Nat → Option va_E} (a1 : Int32) (b_a1 : 0 ≤ a1.toInt ∧ a1.toInt ≤ 1000000) (a2 : Int32) (b_a2 : 1 ≤ a2.toInt ∧ a2.toInt ≤ 2147483647) (a3 : Int32) (b_a3 : 0 ≤ a3.toInt ∧ a3.toInt ≤ 500) (hk98 : fh 98 = some (.inr (12, [.int 0, .int 0, .ref 99, .ref 100, .ref 101, .ref 102, .ref 103, .ref 104, .ref 105, .int 0, .int (-1), .ref 106, .ref 107, .ref 108, .int 0, .int 0, .int 0, .int 0, .int 0, .int 0, .int 0, .ref 109, .int 0, .int 0, .ref 110, .ref 111, .ref 112, .ref 113, .ref 114, .ref 115, .ref 116, .ref 117, .int 0, .int 0, .int (-1), .int (-1), .ref 118, .ref 119, .ref 120, .ref 121, .ref 122, .ref 123, .ref 124, .ref 125, .ref 126, .ref 127, .ref 128, .ref 129, .int 0, .ref 130, .ref 131, .ref 132, .ref 133, .ref 134, .int 0, .int 0]))) (hk99 : fh 99 = some (.inl (0, 7, .inl (fun _ => 0)))) (hk100 : fh 100 = some (.inl (0, 4870, .inl (upd (fun _ => 0) 63 (-1))))) (hk111 : fh 111 = some (.inl (0, 1260, .inl (fun _ => 0)))) : JM l G yX12_drunk MX12_drunk { frames := 3, cells := 0, slots := 0, locals := 69 } [.ref 98, .int a1, .int a2, .int a3] (nh, fh) (fun r h9 => r = some (.int (-2)) ∧ h9 = (nh, hc fh [(99, .inl (0, 7, .inl (upd (fun _ => 0) 2 1))), (98, .inr (12, [.int (-2), .int 0, .ref 99, .ref 100, .ref 101, .ref 102, .ref 103, .ref 104, .ref 105, .int 0, .int (-1), .ref 106, .ref 107, .ref 108, .int 0, .int 0, .int 0, .int 0, .int 0, .int 0, .int 0, .ref 109, .int 0, .int 0, .ref 110, .ref 111, .ref 112, .ref 113, .ref 114, .ref 115, .ref 116, .ref 117, .int 1, .int 0, .int 0, .int (-1), .ref 118, .ref 119, .ref 120, .ref 121, .ref 122, .ref 123, .ref 124, .ref 125, .ref 126, .ref 127, .ref 128, .ref 129, .int 0, .ref 130, .ref 131, .ref 132, .ref 133, .ref 134, .int 0, .int 0])), (111, .inl (0, 1260, .inl (upd (fun _ => 0) 0 0)))])) := by
  refine JM.of (by decide) rfl (fun h => by cases h) (Nat.le_of_ble_eq_true rfl) ⟨2, rfl⟩ ?_
  refine J_hc0 (J_ls (ls2 := [some (.ref 98), some (.int a1), some (.int a2), some (.int a3), none, none]) rfl ?_)
  refine J_iload_n dX12_drunk_0 rfl rfl ?_
  refine J_iconst (v := 0) dX12_drunk_1 (by decide) ?_
  refine J_ldc (v := 1000000) dX12_drunk_2 (jt7 88 rfl rfl) ?_
  refine J_callS (st := []) dX12_drunk_4 cs_X12_138 (c_X12_lies_64 (a1) b_a1) rfl rfl (Nat.le_of_ble_eq_true rfl) ⟨(Nat.le_of_ble_eq_true rfl), (Nat.le_of_ble_eq_true rfl)⟩ ⟨(Nat.le_of_ble_eq_true rfl), (Nat.le_of_ble_eq_true rfl)⟩ (fun r h9 hp => ?_)
  obtain ⟨rfl, rfl⟩ := hp
  refine J_nf (nh2 := nh) (ck2 := 0) (sk2 := 0) (st2 := [.int 1]) rfl rfl rfl rfl ?_
  refine J_if_eq (tgt := 21) dX12_drunk_7 (by decide) (fun q => absurd q (by decide +kernel)) (fun _ => ?_)
  refine J_iload_n dX12_drunk_10 rfl rfl ?_
  refine J_iconst (v := 0) dX12_drunk_11 (by decide) ?_
  refine J_sipush (v := 500) dX12_drunk_12 (by decide +kernel) ?_
  refine J_callS (st := []) dX12_drunk_15 cs_X12_138 (c_X12_lies_66 (a3) b_a3) rfl rfl (Nat.le_of_ble_eq_true rfl) ⟨(Nat.le_of_ble_eq_true rfl), (Nat.le_of_ble_eq_true rfl)⟩ ⟨(Nat.le_of_ble_eq_true rfl), (Nat.le_of_ble_eq_true rfl)⟩ (fun r h9 hp => ?_)
  obtain ⟨rfl, rfl⟩ := hp
  refine J_nf (nh2 := nh) (ck2 := 0) (sk2 := 0) (st2 := [.int 1]) rfl rfl rfl rfl ?_
  refine J_if_ne (tgt := 27) dX12_drunk_18 (by decide) (fun _ => ?_) (fun q => absurd q (by decide +kernel))
  refine J_aload_n dX12_drunk_27 rfl rfl ?_
  refine J_iload_n dX12_drunk_28 rfl rfl ?_
  refine J_callV (st := []) dX12_drunk_29 cv_X12_325 (c_X12_isHouse_3 (a2) b_a2 hk98 hk100 hk111) hk98 rfl rfl (Nat.le_of_ble_eq_true rfl) ⟨(Nat.le_of_ble_eq_true rfl), (Nat.le_of_ble_eq_true rfl)⟩ ⟨(Nat.le_of_ble_eq_true rfl), (Nat.le_of_ble_eq_true rfl)⟩ (fun r h9 hp => ?_)
  obtain ⟨rfl, rfl⟩ := hp
  refine J_nf (nh2 := nh) (ck2 := 0) (sk2 := 0) (st2 := [.int 0]) rfl rfl rfl rfl ?_
  refine J_app (L3 := [(98, .inr (12, [.int 0, .int 0, .ref 99, .ref 100, .ref 101, .ref 102, .ref 103, .ref 104, .ref 105, .int 0, .int (-1), .ref 106, .ref 107, .ref 108, .int 0, .int 0, .int 0, .int 0, .int 0, .int 0, .int 0, .ref 109, .int 0, .int 0, .ref 110, .ref 111, .ref 112, .ref 113, .ref 114, .ref 115, .ref 116, .ref 117, .int 1, .int 0, .int 0, .int (-1), .ref 118, .ref 119, .ref 120, .ref 121, .ref 122, .ref 123, .ref 124, .ref 125, .ref 126, .ref 127, .ref 128, .ref 129, .int 0, .ref 130, .ref 131, .ref 132, .ref 133, .ref 134, .int 0, .int 0])), (111, .inl (0, 1260, .inl (upd (fun _ => 0) 0 0)))]) rfl ?_
  refine J_if_ne (tgt := 42) dX12_drunk_32 (by decide) (fun q => absurd (by decide +kernel) q) (fun _ => ?_)
  refine J_aload_n dX12_drunk_35 rfl rfl ?_
  refine J_bipush (v := (-2)) dX12_drunk_36 (by decide +kernel) ?_
  refine J_callV (st := []) dX12_drunk_38 cv_X12_142 (c_X12_refuses_5 rfl hk99) rfl rfl rfl (Nat.le_of_ble_eq_true rfl) ⟨(Nat.le_of_ble_eq_true rfl), (Nat.le_of_ble_eq_true rfl)⟩ ⟨(Nat.le_of_ble_eq_true rfl), (Nat.le_of_ble_eq_true rfl)⟩ (fun r h9 hp => ?_)
  obtain ⟨rfl, rfl⟩ := hp
  refine J_nf (nh2 := nh) (ck2 := 0) (sk2 := 0) (st2 := [.int (-2)]) rfl rfl rfl rfl ?_
  refine J_app (L3 := [(99, .inl (0, 7, .inl (upd (fun _ => 0) 2 1))), (98, .inr (12, [.int (-2), .int 0, .ref 99, .ref 100, .ref 101, .ref 102, .ref 103, .ref 104, .ref 105, .int 0, .int (-1), .ref 106, .ref 107, .ref 108, .int 0, .int 0, .int 0, .int 0, .int 0, .int 0, .int 0, .ref 109, .int 0, .int 0, .ref 110, .ref 111, .ref 112, .ref 113, .ref 114, .ref 115, .ref 116, .ref 117, .int 1, .int 0, .int 0, .int (-1), .ref 118, .ref 119, .ref 120, .ref 121, .ref 122, .ref 123, .ref 124, .ref 125, .ref 126, .ref 127, .ref 128, .ref 129, .int 0, .ref 130, .ref 131, .ref 132, .ref 133, .ref 134, .int 0, .int 0])), (98, .inr (12, [.int 0, .int 0, .ref 99, .ref 100, .ref 101, .ref 102, .ref 103, .ref 104, .ref 105, .int 0, .int (-1), .ref 106, .ref 107, .ref 108, .int 0, .int 0, .int 0, .int 0, .int 0, .int 0, .int 0, .ref 109, .int 0, .int 0, .ref 110, .ref 111, .ref 112, .ref 113, .ref 114, .ref 115, .ref 116, .ref 117, .int 1, .int 0, .int 0, .int (-1), .ref 118, .ref 119, .ref 120, .ref 121, .ref 122, .ref 123, .ref 124, .ref 125, .ref 126, .ref 127, .ref 128, .ref 129, .int 0, .ref 130, .ref 131, .ref 132, .ref 133, .ref 134, .int 0, .int 0])), (111, .inl (0, 1260, .inl (upd (fun _ => 0) 0 0)))]) rfl ?_
  refine J_mask (L2 := [(99, .inl (0, 7, .inl (upd (fun _ => 0) 2 1))), (98, .inr (12, [.int (-2), .int 0, .ref 99, .ref 100, .ref 101, .ref 102, .ref 103, .ref 104, .ref 105, .int 0, .int (-1), .ref 106, .ref 107, .ref 108, .int 0, .int 0, .int 0, .int 0, .int 0, .int 0, .int 0, .ref 109, .int 0, .int 0, .ref 110, .ref 111, .ref 112, .ref 113, .ref 114, .ref 115, .ref 116, .ref 117, .int 1, .int 0, .int 0, .int (-1), .ref 118, .ref 119, .ref 120, .ref 121, .ref 122, .ref 123, .ref 124, .ref 125, .ref 126, .ref 127, .ref 128, .ref 129, .int 0, .ref 130, .ref 131, .ref 132, .ref 133, .ref 134, .int 0, .int 0])), (111, .inl (0, 1260, .inl (upd (fun _ => 0) 0 0)))]) (ks := [99, 98, 98, 111]) [true, true, false, true] rfl (by decide +kernel) rfl ?_
  exact J_iret dX12_drunk_41 rfl rfl (Nat.le_of_ble_eq_true rfl) (Nat.le_of_ble_eq_true rfl) ⟨rfl, rfl⟩
set_option maxHeartbeats 4000000 in
set_option maxRecDepth 100000 in
theorem c_X11_drunk_6 {l : Launch} {G : jG} {nh : Nat} {fh : Nat → Option va_E} (a1 : Int32) (b_a1 : 0 ≤ a1.toInt ∧ a1.toInt ≤ 1000000) (a2 : Int32) (b_a2 : (-2147483648) ≤ a2.toInt ∧ a2.toInt ≤ 2147483647) (a3 : Int32) (b_a3 : 501 ≤ a3.toInt ∧ a3.toInt ≤ 2147483647) (hk0 : fh 0 = some (.inr (11, [.ref 1, .ref 17, .ref 50, .ref 51, .ref 54, .ref 57, .ref 65, .ref 75, .ref 81, .ref 85, .ref 88, .ref 93, .ref 96, .int 0, .int (-1), .ref 97, .int 0]))) (hk96 : fh 96 = some (.inl (0, 5, .inl (fun _ => 0)))) : JM l G yX11_drunk MX11_drunk { frames := 2, cells := 0, slots := 0, locals := 41 } [.ref 0, .int a1, .int a2, .int a3] (nh, fh) (fun r h9 => r = some (.int (-1)) ∧ h9 = (nh, hc fh [(96, .inl (0, 5, .inl (upd (fun _ => 0) 0 1))), (0, .inr (11, [.ref 1, .ref 17, .ref 50, .ref 51, .ref 54, .ref 57, .ref 65, .ref 75, .ref 81, .ref 85, .ref 88, .ref 93, .ref 96, .int (-1), .int (-1), .ref 97, .int 0]))])) := by
  refine JM.of (by decide) rfl (fun h => by cases h) (Nat.le_of_ble_eq_true rfl) ⟨4, rfl⟩ ?_
  refine J_hc0 (J_ls (ls2 := [some (.ref 0), some (.int a1), some (.int a2), some (.int a3), none, none, none, none]) rfl ?_)
  refine J_iload_n dX11_drunk_0 rfl rfl ?_
  refine J_if_lt (tgt := 22) dX11_drunk_1 (by decide) (fun q => absurd q (by have hb0 := b_a1; simp only [fa_lt, fa_le, fa_eq, kc_0]; omega)) (fun _ => ?_)
  refine J_iload_n dX11_drunk_4 rfl rfl ?_
  refine J_ldcw (v := 1000000) dX11_drunk_5 (jt6 40 rfl rfl) ?_
  refine J_icmp_gt (tgt := 22) dX11_drunk_8 (by decide) (fun q => absurd q (by have hb0 := b_a1; simp only [fa_lt, fa_le, fa_eq, kc_1000000]; omega)) (fun _ => ?_)
  refine J_iload_n dX11_drunk_11 rfl rfl ?_
  refine J_if_lt (tgt := 22) dX11_drunk_12 (by decide) (fun q => absurd q (by have hb0 := b_a3; simp only [fa_lt, fa_le, fa_eq, kc_0]; omega)) (fun _ => ?_)
  refine J_iload_n dX11_drunk_15 rfl rfl ?_
  refine J_sipush (v := 500) dX11_drunk_16 (by decide +kernel) ?_
  refine J_icmp_le (tgt := 28) dX11_drunk_19 (by decide) (fun q => absurd q (by have hb0 := b_a3; simp only [fa_lt, fa_le, fa_eq, kc_500]; omega)) (fun _ => ?_)
  refine J_aload_n dX11_drunk_22 rfl rfl ?_
  refine J_iconst (v := (-1)) dX11_drunk_23 (by decide) ?_
  refine J_callV (st := []) dX11_drunk_24 cv_X11_118 (c_X11_refuse_1 hk0 hk96) hk0 rfl rfl (Nat.le_of_ble_eq_true rfl) ⟨(Nat.le_of_ble_eq_true rfl), (Nat.le_of_ble_eq_true rfl)⟩ ⟨(Nat.le_of_ble_eq_true rfl), (Nat.le_of_ble_eq_true rfl)⟩ (fun r h9 hp => ?_)
  obtain ⟨rfl, rfl⟩ := hp
  refine J_nf (nh2 := nh) (ck2 := 0) (sk2 := 0) (st2 := [.int (-1)]) rfl rfl rfl rfl ?_
  refine J_app (L3 := [(96, .inl (0, 5, .inl (upd (fun _ => 0) 0 1))), (0, .inr (11, [.ref 1, .ref 17, .ref 50, .ref 51, .ref 54, .ref 57, .ref 65, .ref 75, .ref 81, .ref 85, .ref 88, .ref 93, .ref 96, .int (-1), .int (-1), .ref 97, .int 0]))]) rfl ?_
  exact J_iret dX11_drunk_27 rfl rfl (Nat.le_of_ble_eq_true rfl) (Nat.le_of_ble_eq_true rfl) ⟨rfl, rfl⟩
set_option maxHeartbeats 4000000 in
set_option maxRecDepth 100000 in
theorem c_X12_lies_69 {l : Launch} {G : jG} {nh : Nat} {fh : Nat → Option va_E} (a0 : Int32) (b_a0 : 501 ≤ a0.toInt ∧ a0.toInt ≤ 2147483647) : JM l G yX12_lies MX12_lies { frames := 0, cells := 0, slots := 0, locals := 0 } [.int a0, .int 0, .int 500] (nh, fh) (fun r h9 => r = some (.int 0) ∧ h9 = (nh, fh)) := by
  refine JM.of (by decide) rfl (fun h => by cases h) (Nat.le_of_ble_eq_true rfl) ⟨0, rfl⟩ ?_
  refine J_hc0 (J_ls (ls2 := [some (.int a0), some (.int 0), some (.int 500)]) rfl ?_)
  refine J_iload_n dX12_lies_0 rfl rfl ?_
  refine J_iload_n dX12_lies_1 rfl rfl ?_
  refine J_icmp_lt (tgt := 14) dX12_lies_2 (by decide) (fun q => absurd q (by have hb0 := b_a0; simp only [fa_lt, fa_le, fa_eq, kc_0]; omega)) (fun _ => ?_)
  refine J_iload_n dX12_lies_5 rfl rfl ?_
  refine J_iload_n dX12_lies_6 rfl rfl ?_
  refine J_icmp_gt (tgt := 14) dX12_lies_7 (by decide) (fun _ => ?_) (fun q => absurd (by have hb0 := b_a0; simp only [fa_lt, fa_le, fa_eq, kc_500]; omega) q)
  refine J_iconst (v := 0) dX12_lies_14 (by decide) ?_
  exact J_iret dX12_lies_15 rfl (by decide +kernel) (Nat.le_of_ble_eq_true rfl) (Nat.le_of_ble_eq_true rfl) ⟨rfl, rfl⟩
set_option maxHeartbeats 4000000 in
set_option maxRecDepth 100000 in
theorem c_X12_drunk_6 {l : Launch} {G : jG} {nh : Nat} {fh : Nat → Option va_E} (a1 : Int32) (b_a1 : 0 ≤ a1.toInt ∧ a1.toInt ≤ 1000000) (a2 : Int32) (b_a2 : (-2147483648) ≤ a2.toInt ∧ a2.toInt ≤ 2147483647) (a3 : Int32) (b_a3 : 501 ≤ a3.toInt ∧ a3.toInt ≤ 2147483647) (hk98 : fh 98 = some (.inr (12, [.int 0, .int 0, .ref 99, .ref 100, .ref 101, .ref 102, .ref 103, .ref 104, .ref 105, .int 0, .int (-1), .ref 106, .ref 107, .ref 108, .int 0, .int 0, .int 0, .int 0, .int 0, .int 0, .int 0, .ref 109, .int 0, .int 0, .ref 110, .ref 111, .ref 112, .ref 113, .ref 114, .ref 115, .ref 116, .ref 117, .int 0, .int 0, .int (-1), .int (-1), .ref 118, .ref 119, .ref 120, .ref 121, .ref 122, .ref 123, .ref 124, .ref 125, .ref 126, .ref 127, .ref 128, .ref 129, .int 0, .ref 130, .ref 131, .ref 132, .ref 133, .ref 134, .int 0, .int 0]))) (hk99 : fh 99 = some (.inl (0, 7, .inl (fun _ => 0)))) : JM l G yX12_drunk MX12_drunk { frames := 1, cells := 0, slots := 0, locals := 22 } [.ref 98, .int a1, .int a2, .int a3] (nh, fh) (fun r h9 => r = some (.int (-1)) ∧ h9 = (nh, hc fh [(99, .inl (0, 7, .inl (upd (fun _ => 0) 1 1))), (98, .inr (12, [.int (-1), .int 0, .ref 99, .ref 100, .ref 101, .ref 102, .ref 103, .ref 104, .ref 105, .int 0, .int (-1), .ref 106, .ref 107, .ref 108, .int 0, .int 0, .int 0, .int 0, .int 0, .int 0, .int 0, .ref 109, .int 0, .int 0, .ref 110, .ref 111, .ref 112, .ref 113, .ref 114, .ref 115, .ref 116, .ref 117, .int 0, .int 0, .int (-1), .int (-1), .ref 118, .ref 119, .ref 120, .ref 121, .ref 122, .ref 123, .ref 124, .ref 125, .ref 126, .ref 127, .ref 128, .ref 129, .int 0, .ref 130, .ref 131, .ref 132, .ref 133, .ref 134, .int 0, .int 0]))])) := by
  refine JM.of (by decide) rfl (fun h => by cases h) (Nat.le_of_ble_eq_true rfl) ⟨2, rfl⟩ ?_
  refine J_hc0 (J_ls (ls2 := [some (.ref 98), some (.int a1), some (.int a2), some (.int a3), none, none]) rfl ?_)
  refine J_iload_n dX12_drunk_0 rfl rfl ?_
  refine J_iconst (v := 0) dX12_drunk_1 (by decide) ?_
  refine J_ldc (v := 1000000) dX12_drunk_2 (jt7 88 rfl rfl) ?_
  refine J_callS (st := []) dX12_drunk_4 cs_X12_138 (c_X12_lies_64 (a1) b_a1) rfl rfl (Nat.le_of_ble_eq_true rfl) ⟨(Nat.le_of_ble_eq_true rfl), (Nat.le_of_ble_eq_true rfl)⟩ ⟨(Nat.le_of_ble_eq_true rfl), (Nat.le_of_ble_eq_true rfl)⟩ (fun r h9 hp => ?_)
  obtain ⟨rfl, rfl⟩ := hp
  refine J_nf (nh2 := nh) (ck2 := 0) (sk2 := 0) (st2 := [.int 1]) rfl rfl rfl rfl ?_
  refine J_if_eq (tgt := 21) dX12_drunk_7 (by decide) (fun q => absurd q (by decide +kernel)) (fun _ => ?_)
  refine J_iload_n dX12_drunk_10 rfl rfl ?_
  refine J_iconst (v := 0) dX12_drunk_11 (by decide) ?_
  refine J_sipush (v := 500) dX12_drunk_12 (by decide +kernel) ?_
  refine J_callS (st := []) dX12_drunk_15 cs_X12_138 (c_X12_lies_69 (a3) b_a3) rfl rfl (Nat.le_of_ble_eq_true rfl) ⟨(Nat.le_of_ble_eq_true rfl), (Nat.le_of_ble_eq_true rfl)⟩ ⟨(Nat.le_of_ble_eq_true rfl), (Nat.le_of_ble_eq_true rfl)⟩ (fun r h9 hp => ?_)
  obtain ⟨rfl, rfl⟩ := hp
  refine J_nf (nh2 := nh) (ck2 := 0) (sk2 := 0) (st2 := [.int 0]) rfl rfl rfl rfl ?_
  refine J_if_ne (tgt := 27) dX12_drunk_18 (by decide) (fun q => absurd (by decide +kernel) q) (fun _ => ?_)
  refine J_aload_n dX12_drunk_21 rfl rfl ?_
  refine J_iconst (v := (-1)) dX12_drunk_22 (by decide) ?_
  refine J_callV (st := []) dX12_drunk_23 cv_X12_142 (c_X12_refuses_1 hk98 hk99) hk98 rfl rfl (Nat.le_of_ble_eq_true rfl) ⟨(Nat.le_of_ble_eq_true rfl), (Nat.le_of_ble_eq_true rfl)⟩ ⟨(Nat.le_of_ble_eq_true rfl), (Nat.le_of_ble_eq_true rfl)⟩ (fun r h9 hp => ?_)
  obtain ⟨rfl, rfl⟩ := hp
  refine J_nf (nh2 := nh) (ck2 := 0) (sk2 := 0) (st2 := [.int (-1)]) rfl rfl rfl rfl ?_
  refine J_app (L3 := [(99, .inl (0, 7, .inl (upd (fun _ => 0) 1 1))), (98, .inr (12, [.int (-1), .int 0, .ref 99, .ref 100, .ref 101, .ref 102, .ref 103, .ref 104, .ref 105, .int 0, .int (-1), .ref 106, .ref 107, .ref 108, .int 0, .int 0, .int 0, .int 0, .int 0, .int 0, .int 0, .ref 109, .int 0, .int 0, .ref 110, .ref 111, .ref 112, .ref 113, .ref 114, .ref 115, .ref 116, .ref 117, .int 0, .int 0, .int (-1), .int (-1), .ref 118, .ref 119, .ref 120, .ref 121, .ref 122, .ref 123, .ref 124, .ref 125, .ref 126, .ref 127, .ref 128, .ref 129, .int 0, .ref 130, .ref 131, .ref 132, .ref 133, .ref 134, .int 0, .int 0]))]) rfl ?_
  exact J_iret dX12_drunk_26 rfl rfl (Nat.le_of_ble_eq_true rfl) (Nat.le_of_ble_eq_true rfl) ⟨rfl, rfl⟩
set_option maxHeartbeats 4000000 in
set_option maxRecDepth 100000 in
theorem c_X11_drunk_7 {l : Launch} {G : jG} {nh : Nat} {fh : Nat → Option va_E} (a1 : Int32) (b_a1 : 1000001 ≤ a1.toInt ∧ a1.toInt ≤ 2147483647) (a2 : Int32) (b_a2 : (-2147483648) ≤ a2.toInt ∧ a2.toInt ≤ 2147483647) (a3 : Int32) (b_a3 : (-2147483648) ≤ a3.toInt ∧ a3.toInt ≤ 2147483647) (hk0 : fh 0 = some (.inr (11, [.ref 1, .ref 17, .ref 50, .ref 51, .ref 54, .ref 57, .ref 65, .ref 75, .ref 81, .ref 85, .ref 88, .ref 93, .ref 96, .int 0, .int (-1), .ref 97, .int 0]))) (hk96 : fh 96 = some (.inl (0, 5, .inl (fun _ => 0)))) : JM l G yX11_drunk MX11_drunk { frames := 2, cells := 0, slots := 0, locals := 41 } [.ref 0, .int a1, .int a2, .int a3] (nh, fh) (fun r h9 => r = some (.int (-1)) ∧ h9 = (nh, hc fh [(96, .inl (0, 5, .inl (upd (fun _ => 0) 0 1))), (0, .inr (11, [.ref 1, .ref 17, .ref 50, .ref 51, .ref 54, .ref 57, .ref 65, .ref 75, .ref 81, .ref 85, .ref 88, .ref 93, .ref 96, .int (-1), .int (-1), .ref 97, .int 0]))])) := by
  refine JM.of (by decide) rfl (fun h => by cases h) (Nat.le_of_ble_eq_true rfl) ⟨4, rfl⟩ ?_
  refine J_hc0 (J_ls (ls2 := [some (.ref 0), some (.int a1), some (.int a2), some (.int a3), none, none, none, none]) rfl ?_)
  refine J_iload_n dX11_drunk_0 rfl rfl ?_
  refine J_if_lt (tgt := 22) dX11_drunk_1 (by decide) (fun q => absurd q (by have hb0 := b_a1; simp only [fa_lt, fa_le, fa_eq, kc_0]; omega)) (fun _ => ?_)
  refine J_iload_n dX11_drunk_4 rfl rfl ?_
  refine J_ldcw (v := 1000000) dX11_drunk_5 (jt6 40 rfl rfl) ?_
  refine J_icmp_gt (tgt := 22) dX11_drunk_8 (by decide) (fun _ => ?_) (fun q => absurd (by have hb0 := b_a1; simp only [fa_lt, fa_le, fa_eq, kc_1000000]; omega) q)
  refine J_aload_n dX11_drunk_22 rfl rfl ?_
  refine J_iconst (v := (-1)) dX11_drunk_23 (by decide) ?_
  refine J_callV (st := []) dX11_drunk_24 cv_X11_118 (c_X11_refuse_1 hk0 hk96) hk0 rfl rfl (Nat.le_of_ble_eq_true rfl) ⟨(Nat.le_of_ble_eq_true rfl), (Nat.le_of_ble_eq_true rfl)⟩ ⟨(Nat.le_of_ble_eq_true rfl), (Nat.le_of_ble_eq_true rfl)⟩ (fun r h9 hp => ?_)
  obtain ⟨rfl, rfl⟩ := hp
  refine J_nf (nh2 := nh) (ck2 := 0) (sk2 := 0) (st2 := [.int (-1)]) rfl rfl rfl rfl ?_
  refine J_app (L3 := [(96, .inl (0, 5, .inl (upd (fun _ => 0) 0 1))), (0, .inr (11, [.ref 1, .ref 17, .ref 50, .ref 51, .ref 54, .ref 57, .ref 65, .ref 75, .ref 81, .ref 85, .ref 88, .ref 93, .ref 96, .int (-1), .int (-1), .ref 97, .int 0]))]) rfl ?_
  exact J_iret dX11_drunk_27 rfl rfl (Nat.le_of_ble_eq_true rfl) (Nat.le_of_ble_eq_true rfl) ⟨rfl, rfl⟩
set_option maxHeartbeats 4000000 in
set_option maxRecDepth 100000 in
theorem c_X12_lies_70 {l : Launch} {G : jG} {nh : Nat} {fh : Nat → Option va_E} (a0 : Int32) (b_a0 : 1000001 ≤ a0.toInt ∧ a0.toInt ≤ 2147483647) : JM l G yX12_lies MX12_lies { frames := 0, cells := 0, slots := 0, locals := 0 } [.int a0, .int 0, .int 1000000] (nh, fh) (fun r h9 => r = some (.int 0) ∧ h9 = (nh, fh)) := by
  refine JM.of (by decide) rfl (fun h => by cases h) (Nat.le_of_ble_eq_true rfl) ⟨0, rfl⟩ ?_
  refine J_hc0 (J_ls (ls2 := [some (.int a0), some (.int 0), some (.int 1000000)]) rfl ?_)
  refine J_iload_n dX12_lies_0 rfl rfl ?_
  refine J_iload_n dX12_lies_1 rfl rfl ?_
  refine J_icmp_lt (tgt := 14) dX12_lies_2 (by decide) (fun q => absurd q (by have hb0 := b_a0; simp only [fa_lt, fa_le, fa_eq, kc_0]; omega)) (fun _ => ?_)
  refine J_iload_n dX12_lies_5 rfl rfl ?_
  refine J_iload_n dX12_lies_6 rfl rfl ?_
  refine J_icmp_gt (tgt := 14) dX12_lies_7 (by decide) (fun _ => ?_) (fun q => absurd (by have hb0 := b_a0; simp only [fa_lt, fa_le, fa_eq, kc_1000000]; omega) q)
  refine J_iconst (v := 0) dX12_lies_14 (by decide) ?_
  exact J_iret dX12_lies_15 rfl (by decide +kernel) (Nat.le_of_ble_eq_true rfl) (Nat.le_of_ble_eq_true rfl) ⟨rfl, rfl⟩
set_option maxHeartbeats 4000000 in
set_option maxRecDepth 100000 in
theorem c_X12_drunk_7 {l : Launch} {G : jG} {nh : Nat} {fh : Nat → Option va_E} (a1 : Int32) (b_a1 : 1000001 ≤ a1.toInt ∧ a1.toInt ≤ 2147483647) (a2 : Int32) (b_a2 : (-2147483648) ≤ a2.toInt ∧ a2.toInt ≤ 2147483647) (a3 : Int32) (b_a3 : (-2147483648) ≤ a3.toInt ∧ a3.toInt ≤ 2147483647) (hk98 : fh 98 = some (.inr (12, [.int 0, .int 0, .ref 99, .ref 100, .ref 101, .ref 102, .ref 103, .ref 104, .ref 105, .int 0, .int (-1), .ref 106, .ref 107, .ref 108, .int 0, .int 0, .int 0, .int 0, .int 0, .int 0, .int 0, .ref 109, .int 0, .int 0, .ref 110, .ref 111, .ref 112, .ref 113, .ref 114, .ref 115, .ref 116, .ref 117, .int 0, .int 0, .int (-1), .int (-1), .ref 118, .ref 119, .ref 120, .ref 121, .ref 122, .ref 123, .ref 124, .ref 125, .ref 126, .ref 127, .ref 128, .ref 129, .int 0, .ref 130, .ref 131, .ref 132, .ref 133, .ref 134, .int 0, .int 0]))) (hk99 : fh 99 = some (.inl (0, 7, .inl (fun _ => 0)))) : JM l G yX12_drunk MX12_drunk { frames := 1, cells := 0, slots := 0, locals := 22 } [.ref 98, .int a1, .int a2, .int a3] (nh, fh) (fun r h9 => r = some (.int (-1)) ∧ h9 = (nh, hc fh [(99, .inl (0, 7, .inl (upd (fun _ => 0) 1 1))), (98, .inr (12, [.int (-1), .int 0, .ref 99, .ref 100, .ref 101, .ref 102, .ref 103, .ref 104, .ref 105, .int 0, .int (-1), .ref 106, .ref 107, .ref 108, .int 0, .int 0, .int 0, .int 0, .int 0, .int 0, .int 0, .ref 109, .int 0, .int 0, .ref 110, .ref 111, .ref 112, .ref 113, .ref 114, .ref 115, .ref 116, .ref 117, .int 0, .int 0, .int (-1), .int (-1), .ref 118, .ref 119, .ref 120, .ref 121, .ref 122, .ref 123, .ref 124, .ref 125, .ref 126, .ref 127, .ref 128, .ref 129, .int 0, .ref 130, .ref 131, .ref 132, .ref 133, .ref 134, .int 0, .int 0]))])) := by
  refine JM.of (by decide) rfl (fun h => by cases h) (Nat.le_of_ble_eq_true rfl) ⟨2, rfl⟩ ?_
  refine J_hc0 (J_ls (ls2 := [some (.ref 98), some (.int a1), some (.int a2), some (.int a3), none, none]) rfl ?_)
  refine J_iload_n dX12_drunk_0 rfl rfl ?_
  refine J_iconst (v := 0) dX12_drunk_1 (by decide) ?_
  refine J_ldc (v := 1000000) dX12_drunk_2 (jt7 88 rfl rfl) ?_
  refine J_callS (st := []) dX12_drunk_4 cs_X12_138 (c_X12_lies_70 (a1) b_a1) rfl rfl (Nat.le_of_ble_eq_true rfl) ⟨(Nat.le_of_ble_eq_true rfl), (Nat.le_of_ble_eq_true rfl)⟩ ⟨(Nat.le_of_ble_eq_true rfl), (Nat.le_of_ble_eq_true rfl)⟩ (fun r h9 hp => ?_)
  obtain ⟨rfl, rfl⟩ := hp
  refine J_nf (nh2 := nh) (ck2 := 0) (sk2 := 0) (st2 := [.int 0]) rfl rfl rfl rfl ?_
  refine J_if_eq (tgt := 21) dX12_drunk_7 (by decide) (fun _ => ?_) (fun q => absurd (by decide +kernel) q)
  refine J_aload_n dX12_drunk_21 rfl rfl ?_
  refine J_iconst (v := (-1)) dX12_drunk_22 (by decide) ?_
  refine J_callV (st := []) dX12_drunk_23 cv_X12_142 (c_X12_refuses_1 hk98 hk99) hk98 rfl rfl (Nat.le_of_ble_eq_true rfl) ⟨(Nat.le_of_ble_eq_true rfl), (Nat.le_of_ble_eq_true rfl)⟩ ⟨(Nat.le_of_ble_eq_true rfl), (Nat.le_of_ble_eq_true rfl)⟩ (fun r h9 hp => ?_)
  obtain ⟨rfl, rfl⟩ := hp
  refine J_nf (nh2 := nh) (ck2 := 0) (sk2 := 0) (st2 := [.int (-1)]) rfl rfl rfl rfl ?_
  refine J_app (L3 := [(99, .inl (0, 7, .inl (upd (fun _ => 0) 1 1))), (98, .inr (12, [.int (-1), .int 0, .ref 99, .ref 100, .ref 101, .ref 102, .ref 103, .ref 104, .ref 105, .int 0, .int (-1), .ref 106, .ref 107, .ref 108, .int 0, .int 0, .int 0, .int 0, .int 0, .int 0, .int 0, .ref 109, .int 0, .int 0, .ref 110, .ref 111, .ref 112, .ref 113, .ref 114, .ref 115, .ref 116, .ref 117, .int 0, .int 0, .int (-1), .int (-1), .ref 118, .ref 119, .ref 120, .ref 121, .ref 122, .ref 123, .ref 124, .ref 125, .ref 126, .ref 127, .ref 128, .ref 129, .int 0, .ref 130, .ref 131, .ref 132, .ref 133, .ref 134, .int 0, .int 0]))]) rfl ?_
  exact J_iret dX12_drunk_26 rfl rfl (Nat.le_of_ble_eq_true rfl) (Nat.le_of_ble_eq_true rfl) ⟨rfl, rfl⟩
set_option maxHeartbeats 4000000 in
set_option maxRecDepth 100000 in
theorem c_X11_drawn_1 {l : Launch} {G : jG} {nh : Nat} {fh : Nat → Option va_E} (a1 : Int32) (b_a1 : (-2147483648) ≤ a1.toInt ∧ a1.toInt ≤ 2147483647) (hk0 : fh 0 = some (.inr (11, [.ref 1, .ref 17, .ref 50, .ref 51, .ref 54, .ref 57, .ref 65, .ref 75, .ref 81, .ref 85, .ref 88, .ref 93, .ref 96, .int 0, .int (-1), .ref 97, .int 0]))) : JM l G yX11_drawn MX11_drawn { frames := 0, cells := 0, slots := 0, locals := 0 } [.ref 0, .int a1] (nh, fh) (fun r h9 => r = some (.int (-1)) ∧ h9 = (nh, fh)) := by
  refine JM.of (by decide) rfl (fun h => by cases h) (Nat.le_of_ble_eq_true rfl) ⟨0, rfl⟩ ?_
  refine J_hc0 (J_ls (ls2 := [some (.ref 0), some (.int a1)]) rfl ?_)
  refine J_aload_n dX11_drawn_0 rfl rfl ?_
  refine J_get (v := .int 0) dX11_drawn_1 fl_X11_107 hk0 rfl ?_
  refine J_if_eq (tgt := 27) dX11_drawn_4 (by decide) (fun _ => ?_) (fun q => absurd (by decide +kernel) q)
  refine J_iconst (v := (-1)) dX11_drawn_27 (by decide) ?_
  exact J_iret dX11_drawn_28 rfl rfl (Nat.le_of_ble_eq_true rfl) (Nat.le_of_ble_eq_true rfl) ⟨rfl, rfl⟩
set_option maxHeartbeats 4000000 in
set_option maxRecDepth 100000 in
theorem c_X11_drawn_2 {l : Launch} {G : jG} {nh : Nat} {fh : Nat → Option va_E} (a1 : Int32) (b_a1 : (-2147483648) ≤ a1.toInt ∧ a1.toInt ≤ (-1)) (hk0 : fh 0 = some (.inr (11, [.ref 1, .ref 17, .ref 50, .ref 51, .ref 54, .ref 57, .ref 65, .ref 75, .ref 81, .ref 85, .ref 88, .ref 93, .ref 96, .int 0, .int (-1), .ref 97, .int 0]))) : JM l G yX11_drawn MX11_drawn { frames := 0, cells := 0, slots := 0, locals := 0 } [.ref 0, .int a1] (nh, fh) (fun r h9 => r = some (.int (-1)) ∧ h9 = (nh, fh)) := by
  refine JM.of (by decide) rfl (fun h => by cases h) (Nat.le_of_ble_eq_true rfl) ⟨0, rfl⟩ ?_
  refine J_hc0 (J_ls (ls2 := [some (.ref 0), some (.int a1)]) rfl ?_)
  refine J_aload_n dX11_drawn_0 rfl rfl ?_
  refine J_get (v := .int 0) dX11_drawn_1 fl_X11_107 hk0 rfl ?_
  refine J_if_eq (tgt := 27) dX11_drawn_4 (by decide) (fun _ => ?_) (fun q => absurd (by decide +kernel) q)
  refine J_iconst (v := (-1)) dX11_drawn_27 (by decide) ?_
  exact J_iret dX11_drawn_28 rfl rfl (Nat.le_of_ble_eq_true rfl) (Nat.le_of_ble_eq_true rfl) ⟨rfl, rfl⟩
set_option maxHeartbeats 4000000 in
set_option maxRecDepth 100000 in
theorem c_X12_lies_71 {l : Launch} {G : jG} {nh : Nat} {fh : Nat → Option va_E} (a0 : Int32) (b_a0 : (-2147483648) ≤ a0.toInt ∧ a0.toInt ≤ (-1)) : JM l G yX12_lies MX12_lies { frames := 0, cells := 0, slots := 0, locals := 0 } [.int a0, .int 0, .int (-1)] (nh, fh) (fun r h9 => r = some (.int 0) ∧ h9 = (nh, fh)) := by
  refine JM.of (by decide) rfl (fun h => by cases h) (Nat.le_of_ble_eq_true rfl) ⟨0, rfl⟩ ?_
  refine J_hc0 (J_ls (ls2 := [some (.int a0), some (.int 0), some (.int (-1))]) rfl ?_)
  refine J_iload_n dX12_lies_0 rfl rfl ?_
  refine J_iload_n dX12_lies_1 rfl rfl ?_
  refine J_icmp_lt (tgt := 14) dX12_lies_2 (by decide) (fun _ => ?_) (fun q => absurd (by have hb0 := b_a0; simp only [fa_lt, fa_le, fa_eq, kc_0]; omega) q)
  refine J_iconst (v := 0) dX12_lies_14 (by decide) ?_
  exact J_iret dX12_lies_15 rfl (by decide +kernel) (Nat.le_of_ble_eq_true rfl) (Nat.le_of_ble_eq_true rfl) ⟨rfl, rfl⟩
set_option maxHeartbeats 4000000 in
set_option maxRecDepth 100000 in
theorem c_X12_drawn_1 {l : Launch} {G : jG} {nh : Nat} {fh : Nat → Option va_E} (a1 : Int32) (b_a1 : (-2147483648) ≤ a1.toInt ∧ a1.toInt ≤ (-1)) (hk98 : fh 98 = some (.inr (12, [.int 0, .int 0, .ref 99, .ref 100, .ref 101, .ref 102, .ref 103, .ref 104, .ref 105, .int 0, .int (-1), .ref 106, .ref 107, .ref 108, .int 0, .int 0, .int 0, .int 0, .int 0, .int 0, .int 0, .ref 109, .int 0, .int 0, .ref 110, .ref 111, .ref 112, .ref 113, .ref 114, .ref 115, .ref 116, .ref 117, .int 0, .int 0, .int (-1), .int (-1), .ref 118, .ref 119, .ref 120, .ref 121, .ref 122, .ref 123, .ref 124, .ref 125, .ref 126, .ref 127, .ref 128, .ref 129, .int 0, .ref 130, .ref 131, .ref 132, .ref 133, .ref 134, .int 0, .int 0]))) : JM l G yX12_drawn MX12_drawn { frames := 1, cells := 0, slots := 0, locals := 22 } [.ref 98, .int a1] (nh, fh) (fun r h9 => r = some (.int (-1)) ∧ h9 = (nh, fh)) := by
  refine JM.of (by decide) rfl (fun h => by cases h) (Nat.le_of_ble_eq_true rfl) ⟨0, rfl⟩ ?_
  refine J_hc0 (J_ls (ls2 := [some (.ref 98), some (.int a1)]) rfl ?_)
  refine J_iload_n dX12_drawn_0 rfl rfl ?_
  refine J_iconst (v := 0) dX12_drawn_1 (by decide) ?_
  refine J_aload_n dX12_drawn_2 rfl rfl ?_
  refine J_get (v := .int 0) dX12_drawn_3 fl_X12_375 hk98 rfl ?_
  refine J_iconst (v := 1) dX12_drawn_6 (by decide) ?_
  refine J_isub (z := (-1)) dX12_drawn_7 (by decide +kernel) ?_
  refine J_callS (st := []) dX12_drawn_8 cs_X12_138 (c_X12_lies_71 (a1) b_a1) rfl rfl (Nat.le_of_ble_eq_true rfl) ⟨(Nat.le_of_ble_eq_true rfl), (Nat.le_of_ble_eq_true rfl)⟩ ⟨(Nat.le_of_ble_eq_true rfl), (Nat.le_of_ble_eq_true rfl)⟩ (fun r h9 hp => ?_)
  obtain ⟨rfl, rfl⟩ := hp
  refine J_nf (nh2 := nh) (ck2 := 0) (sk2 := 0) (st2 := [.int 0]) rfl rfl rfl rfl ?_
  refine J_if_eq (tgt := 23) dX12_drawn_11 (by decide) (fun _ => ?_) (fun q => absurd (by decide +kernel) q)
  refine J_iconst (v := (-1)) dX12_drawn_23 (by decide) ?_
  exact J_iret dX12_drawn_24 rfl rfl (Nat.le_of_ble_eq_true rfl) (Nat.le_of_ble_eq_true rfl) ⟨rfl, rfl⟩
set_option maxHeartbeats 4000000 in
set_option maxRecDepth 100000 in
theorem c_X11_drawn_3 {l : Launch} {G : jG} {nh : Nat} {fh : Nat → Option va_E} (a1 : Int32) (b_a1 : 0 ≤ a1.toInt ∧ a1.toInt ≤ 2147483647) (hk0 : fh 0 = some (.inr (11, [.ref 1, .ref 17, .ref 50, .ref 51, .ref 54, .ref 57, .ref 65, .ref 75, .ref 81, .ref 85, .ref 88, .ref 93, .ref 96, .int 0, .int (-1), .ref 97, .int 0]))) : JM l G yX11_drawn MX11_drawn { frames := 0, cells := 0, slots := 0, locals := 0 } [.ref 0, .int a1] (nh, fh) (fun r h9 => r = some (.int (-1)) ∧ h9 = (nh, fh)) := by
  refine JM.of (by decide) rfl (fun h => by cases h) (Nat.le_of_ble_eq_true rfl) ⟨0, rfl⟩ ?_
  refine J_hc0 (J_ls (ls2 := [some (.ref 0), some (.int a1)]) rfl ?_)
  refine J_aload_n dX11_drawn_0 rfl rfl ?_
  refine J_get (v := .int 0) dX11_drawn_1 fl_X11_107 hk0 rfl ?_
  refine J_if_eq (tgt := 27) dX11_drawn_4 (by decide) (fun _ => ?_) (fun q => absurd (by decide +kernel) q)
  refine J_iconst (v := (-1)) dX11_drawn_27 (by decide) ?_
  exact J_iret dX11_drawn_28 rfl rfl (Nat.le_of_ble_eq_true rfl) (Nat.le_of_ble_eq_true rfl) ⟨rfl, rfl⟩
set_option maxHeartbeats 4000000 in
set_option maxRecDepth 100000 in
theorem c_X12_drawn_2 {l : Launch} {G : jG} {nh : Nat} {fh : Nat → Option va_E} (a1 : Int32) (b_a1 : 0 ≤ a1.toInt ∧ a1.toInt ≤ 2147483647) (hk98 : fh 98 = some (.inr (12, [.int 0, .int 0, .ref 99, .ref 100, .ref 101, .ref 102, .ref 103, .ref 104, .ref 105, .int 0, .int (-1), .ref 106, .ref 107, .ref 108, .int 0, .int 0, .int 0, .int 0, .int 0, .int 0, .int 0, .ref 109, .int 0, .int 0, .ref 110, .ref 111, .ref 112, .ref 113, .ref 114, .ref 115, .ref 116, .ref 117, .int 0, .int 0, .int (-1), .int (-1), .ref 118, .ref 119, .ref 120, .ref 121, .ref 122, .ref 123, .ref 124, .ref 125, .ref 126, .ref 127, .ref 128, .ref 129, .int 0, .ref 130, .ref 131, .ref 132, .ref 133, .ref 134, .int 0, .int 0]))) : JM l G yX12_drawn MX12_drawn { frames := 1, cells := 0, slots := 0, locals := 22 } [.ref 98, .int a1] (nh, fh) (fun r h9 => r = some (.int (-1)) ∧ h9 = (nh, fh)) := by
  refine JM.of (by decide) rfl (fun h => by cases h) (Nat.le_of_ble_eq_true rfl) ⟨0, rfl⟩ ?_
  refine J_hc0 (J_ls (ls2 := [some (.ref 98), some (.int a1)]) rfl ?_)
  refine J_iload_n dX12_drawn_0 rfl rfl ?_
  refine J_iconst (v := 0) dX12_drawn_1 (by decide) ?_
  refine J_aload_n dX12_drawn_2 rfl rfl ?_
  refine J_get (v := .int 0) dX12_drawn_3 fl_X12_375 hk98 rfl ?_
  refine J_iconst (v := 1) dX12_drawn_6 (by decide) ?_
  refine J_isub (z := (-1)) dX12_drawn_7 (by decide +kernel) ?_
  refine J_callS (st := []) dX12_drawn_8 cs_X12_138 (c_X12_lies_35 (a1) b_a1) rfl rfl (Nat.le_of_ble_eq_true rfl) ⟨(Nat.le_of_ble_eq_true rfl), (Nat.le_of_ble_eq_true rfl)⟩ ⟨(Nat.le_of_ble_eq_true rfl), (Nat.le_of_ble_eq_true rfl)⟩ (fun r h9 hp => ?_)
  obtain ⟨rfl, rfl⟩ := hp
  refine J_nf (nh2 := nh) (ck2 := 0) (sk2 := 0) (st2 := [.int 0]) rfl rfl rfl rfl ?_
  refine J_if_eq (tgt := 23) dX12_drawn_11 (by decide) (fun _ => ?_) (fun q => absurd (by decide +kernel) q)
  refine J_iconst (v := (-1)) dX12_drawn_23 (by decide) ?_
  exact J_iret dX12_drawn_24 rfl rfl (Nat.le_of_ble_eq_true rfl) (Nat.le_of_ble_eq_true rfl) ⟨rfl, rfl⟩
set_option maxHeartbeats 4000000 in
set_option maxRecDepth 100000 in
theorem c_X11_image_1 {l : Launch} {G : jG} {nh : Nat} {fh : Nat → Option va_E} (a1 : Int32) (b_a1 : (-2147483648) ≤ a1.toInt ∧ a1.toInt ≤ (-1)) (hk0 : fh 0 = some (.inr (11, [.ref 1, .ref 17, .ref 50, .ref 51, .ref 54, .ref 57, .ref 65, .ref 75, .ref 81, .ref 85, .ref 88, .ref 93, .ref 96, .int 0, .int (-1), .ref 97, .int 0]))) (hk96 : fh 96 = some (.inl (0, 5, .inl (fun _ => 0)))) : JM l G yX11_image MX11_image { frames := 2, cells := 0, slots := 0, locals := 41 } [.ref 0, .int a1] (nh, fh) (fun r h9 => r = some (.int (-1)) ∧ h9 = (nh, hc fh [(96, .inl (0, 5, .inl (upd (fun _ => 0) 0 1))), (0, .inr (11, [.ref 1, .ref 17, .ref 50, .ref 51, .ref 54, .ref 57, .ref 65, .ref 75, .ref 81, .ref 85, .ref 88, .ref 93, .ref 96, .int (-1), .int (-1), .ref 97, .int 0]))])) := by
  refine JM.of (by decide) rfl (fun h => by cases h) (Nat.le_of_ble_eq_true rfl) ⟨0, rfl⟩ ?_
  refine J_hc0 (J_ls (ls2 := [some (.ref 0), some (.int a1)]) rfl ?_)
  refine J_iload_n dX11_image_0 rfl rfl ?_
  refine J_if_lt (tgt := 9) dX11_image_1 (by decide) (fun _ => ?_) (fun q => absurd (by have hb0 := b_a1; simp only [fa_lt, fa_le, fa_eq, kc_0]; omega) q)
  refine J_aload_n dX11_image_9 rfl rfl ?_
  refine J_iconst (v := (-1)) dX11_image_10 (by decide) ?_
  refine J_callV (st := []) dX11_image_11 cv_X11_118 (c_X11_refuse_1 hk0 hk96) hk0 rfl rfl (Nat.le_of_ble_eq_true rfl) ⟨(Nat.le_of_ble_eq_true rfl), (Nat.le_of_ble_eq_true rfl)⟩ ⟨(Nat.le_of_ble_eq_true rfl), (Nat.le_of_ble_eq_true rfl)⟩ (fun r h9 hp => ?_)
  obtain ⟨rfl, rfl⟩ := hp
  refine J_nf (nh2 := nh) (ck2 := 0) (sk2 := 0) (st2 := [.int (-1)]) rfl rfl rfl rfl ?_
  refine J_app (L3 := [(96, .inl (0, 5, .inl (upd (fun _ => 0) 0 1))), (0, .inr (11, [.ref 1, .ref 17, .ref 50, .ref 51, .ref 54, .ref 57, .ref 65, .ref 75, .ref 81, .ref 85, .ref 88, .ref 93, .ref 96, .int (-1), .int (-1), .ref 97, .int 0]))]) rfl ?_
  exact J_iret dX11_image_14 rfl rfl (Nat.le_of_ble_eq_true rfl) (Nat.le_of_ble_eq_true rfl) ⟨rfl, rfl⟩
set_option maxHeartbeats 4000000 in
set_option maxRecDepth 100000 in
theorem c_X12_image_1 {l : Launch} {G : jG} {nh : Nat} {fh : Nat → Option va_E} (a1 : Int32) (b_a1 : (-2147483648) ≤ a1.toInt ∧ a1.toInt ≤ (-1)) (hk98 : fh 98 = some (.inr (12, [.int 0, .int 0, .ref 99, .ref 100, .ref 101, .ref 102, .ref 103, .ref 104, .ref 105, .int 0, .int (-1), .ref 106, .ref 107, .ref 108, .int 0, .int 0, .int 0, .int 0, .int 0, .int 0, .int 0, .ref 109, .int 0, .int 0, .ref 110, .ref 111, .ref 112, .ref 113, .ref 114, .ref 115, .ref 116, .ref 117, .int 0, .int 0, .int (-1), .int (-1), .ref 118, .ref 119, .ref 120, .ref 121, .ref 122, .ref 123, .ref 124, .ref 125, .ref 126, .ref 127, .ref 128, .ref 129, .int 0, .ref 130, .ref 131, .ref 132, .ref 133, .ref 134, .int 0, .int 0]))) (hk99 : fh 99 = some (.inl (0, 7, .inl (fun _ => 0)))) : JM l G yX12_image MX12_image { frames := 1, cells := 0, slots := 0, locals := 22 } [.ref 98, .int a1] (nh, fh) (fun r h9 => r = some (.int (-1)) ∧ h9 = (nh, hc fh [(99, .inl (0, 7, .inl (upd (fun _ => 0) 1 1))), (98, .inr (12, [.int (-1), .int 0, .ref 99, .ref 100, .ref 101, .ref 102, .ref 103, .ref 104, .ref 105, .int 0, .int (-1), .ref 106, .ref 107, .ref 108, .int 0, .int 0, .int 0, .int 0, .int 0, .int 0, .int 0, .ref 109, .int 0, .int 0, .ref 110, .ref 111, .ref 112, .ref 113, .ref 114, .ref 115, .ref 116, .ref 117, .int 0, .int 0, .int (-1), .int (-1), .ref 118, .ref 119, .ref 120, .ref 121, .ref 122, .ref 123, .ref 124, .ref 125, .ref 126, .ref 127, .ref 128, .ref 129, .int 0, .ref 130, .ref 131, .ref 132, .ref 133, .ref 134, .int 0, .int 0]))])) := by
  refine JM.of (by decide) rfl (fun h => by cases h) (Nat.le_of_ble_eq_true rfl) ⟨1, rfl⟩ ?_
  refine J_hc0 (J_ls (ls2 := [some (.ref 98), some (.int a1), none]) rfl ?_)
  refine J_iload_n dX12_image_0 rfl rfl ?_
  refine J_iconst (v := 0) dX12_image_1 (by decide) ?_
  refine J_iconst (v := 1) dX12_image_2 (by decide) ?_
  refine J_callS (st := []) dX12_image_3 cs_X12_138 (c_X12_lies_22 (a1) b_a1) rfl rfl (Nat.le_of_ble_eq_true rfl) ⟨(Nat.le_of_ble_eq_true rfl), (Nat.le_of_ble_eq_true rfl)⟩ ⟨(Nat.le_of_ble_eq_true rfl), (Nat.le_of_ble_eq_true rfl)⟩ (fun r h9 hp => ?_)
  obtain ⟨rfl, rfl⟩ := hp
  refine J_nf (nh2 := nh) (ck2 := 0) (sk2 := 0) (st2 := [.int 0]) rfl rfl rfl rfl ?_
  refine J_if_ne (tgt := 15) dX12_image_6 (by decide) (fun q => absurd (by decide +kernel) q) (fun _ => ?_)
  refine J_aload_n dX12_image_9 rfl rfl ?_
  refine J_iconst (v := (-1)) dX12_image_10 (by decide) ?_
  refine J_callV (st := []) dX12_image_11 cv_X12_142 (c_X12_refuses_1 hk98 hk99) hk98 rfl rfl (Nat.le_of_ble_eq_true rfl) ⟨(Nat.le_of_ble_eq_true rfl), (Nat.le_of_ble_eq_true rfl)⟩ ⟨(Nat.le_of_ble_eq_true rfl), (Nat.le_of_ble_eq_true rfl)⟩ (fun r h9 hp => ?_)
  obtain ⟨rfl, rfl⟩ := hp
  refine J_nf (nh2 := nh) (ck2 := 0) (sk2 := 0) (st2 := [.int (-1)]) rfl rfl rfl rfl ?_
  refine J_app (L3 := [(99, .inl (0, 7, .inl (upd (fun _ => 0) 1 1))), (98, .inr (12, [.int (-1), .int 0, .ref 99, .ref 100, .ref 101, .ref 102, .ref 103, .ref 104, .ref 105, .int 0, .int (-1), .ref 106, .ref 107, .ref 108, .int 0, .int 0, .int 0, .int 0, .int 0, .int 0, .int 0, .ref 109, .int 0, .int 0, .ref 110, .ref 111, .ref 112, .ref 113, .ref 114, .ref 115, .ref 116, .ref 117, .int 0, .int 0, .int (-1), .int (-1), .ref 118, .ref 119, .ref 120, .ref 121, .ref 122, .ref 123, .ref 124, .ref 125, .ref 126, .ref 127, .ref 128, .ref 129, .int 0, .ref 130, .ref 131, .ref 132, .ref 133, .ref 134, .int 0, .int 0]))]) rfl ?_
  exact J_iret dX12_image_14 rfl rfl (Nat.le_of_ble_eq_true rfl) (Nat.le_of_ble_eq_true rfl) ⟨rfl, rfl⟩
set_option maxHeartbeats 4000000 in
set_option maxRecDepth 100000 in
theorem c_X8_copyFrom_1 {l : Launch} {G : jG} {nh : Nat} {fh : Nat → Option va_E} (hk1 : fh 1 = some (.inr (8, [.ref 2, .ref 3, .ref 4, .int 0, .int (-1), .ref 11, .ref 12, .int 0, .ref 13, .ref 14, .int 0, .ref 15, .ref 16, .int 0]))) (hk2 : fh 2 = some (.inl (0, 5, .inl (fun _ => 0)))) (hk3 : fh 3 = some (.inl (0, 2, .inl (fun _ => 0)))) (hk4 : fh 4 = some (.inl (5, 6, .inr (.inr (.inr (.inr (fun i => if i < 6 then some (4 + 1 + i) else none))))))) (hk5 : fh 5 = some (.inl (0, 0, .inl (fun _ => 0)))) (hk6 : fh 6 = some (.inl (0, 0, .inl (fun _ => 0)))) (hk7 : fh 7 = some (.inl (0, 0, .inl (fun _ => 0)))) (hk8 : fh 8 = some (.inl (0, 0, .inl (fun _ => 0)))) (hk9 : fh 9 = some (.inl (0, 0, .inl (fun _ => 0)))) (hk10 : fh 10 = some (.inl (0, 0, .inl (fun _ => 0)))) (hk11 : fh 11 = some (.inl (0, 8, .inl (fun _ => 0)))) (hk12 : fh 12 = some (.inl (0, 8, .inl (fun _ => 0)))) (hk13 : fh 13 = some (.inl (0, 6, .inl (fun _ => 0)))) (hk14 : fh 14 = some (.inl (0, 6, .inl (fun _ => 0)))) (hk15 : fh 15 = some (.inl (0, 12, .inl (fun _ => 0)))) (hk16 : fh 16 = some (.inl (0, 12, .inl (fun _ => 0)))) (hk18 : fh 18 = some (.inr (8, [.ref 19, .ref 20, .ref 21, .int 0, .int (-1), .ref 28, .ref 29, .int 0, .ref 30, .ref 31, .int 0, .ref 32, .ref 33, .int 0]))) (hk19 : fh 19 = some (.inl (0, 5, .inl (fun _ => 0)))) (hk20 : fh 20 = some (.inl (0, 2, .inl (fun _ => 0)))) (hk21 : fh 21 = some (.inl (5, 6, .inr (.inr (.inr (.inr (fun i => if i < 6 then some (21 + 1 + i) else none))))))) (hk28 : fh 28 = some (.inl (0, 8, .inl (fun _ => 0)))) (hk29 : fh 29 = some (.inl (0, 8, .inl (fun _ => 0)))) (hk30 : fh 30 = some (.inl (0, 6, .inl (fun _ => 0)))) (hk31 : fh 31 = some (.inl (0, 6, .inl (fun _ => 0)))) (hk32 : fh 32 = some (.inl (0, 12, .inl (fun _ => 0)))) (hk33 : fh 33 = some (.inl (0, 12, .inl (fun _ => 0)))) : JM l G yX8_copyFrom MX8_copyFrom { frames := 1, cells := 0, slots := 0, locals := 60 } [.ref 18, .ref 1] (nh, fh) (fun r h9 => r = none ∧ h9 = (nh, hc fh [(18, .inr (8, [.ref 19, .ref 20, .ref 21, .int 0, .int (-1), .ref 28, .ref 29, .int 0, .ref 30, .ref 31, .int 0, .ref 32, .ref 33, .int 0])), (33, .inl (0, 12, .inl (va_cpy (fun _ => 0) (fun _ => 0) 0 0 12))), (32, .inl (0, 12, .inl (va_cpy (fun _ => 0) (fun _ => 0) 0 0 12))), (31, .inl (0, 6, .inl (va_cpy (fun _ => 0) (fun _ => 0) 0 0 6))), (30, .inl (0, 6, .inl (va_cpy (fun _ => 0) (fun _ => 0) 0 0 6))), (29, .inl (0, 8, .inl (va_cpy (fun _ => 0) (fun _ => 0) 0 0 8))), (28, .inl (0, 8, .inl (va_cpy (fun _ => 0) (fun _ => 0) 0 0 8))), (21, .inl (5, 6, .inr (.inr (.inr (.inr (va_up (va_up (va_up (va_up (va_up (va_up (fun i => if i < 6 then some (21 + 1 + i) else none) 0 (some 5)) 1 (some 6)) 2 (some 7)) 3 (some 8)) 4 (some 9)) 5 (some 10))))))), (20, .inl (0, 2, .inl (va_cpy (fun _ => 0) (fun _ => 0) 0 0 2))), (19, .inl (0, 5, .inl (va_cpy (fun _ => 0) (fun _ => 0) 0 0 5)))])) := by
  refine JM.of (by decide) rfl (fun h => by cases h) (Nat.le_of_ble_eq_true rfl) ⟨1, rfl⟩ ?_
  refine J_hc0 (J_ls (ls2 := [some (.ref 18), some (.ref 1), none]) rfl ?_)
  refine J_aload_n dX8_copyFrom_0 rfl rfl ?_
  refine J_get (v := .ref 2) dX8_copyFrom_1 fl_X8_9 hk1 rfl ?_
  refine J_iconst (v := 0) dX8_copyFrom_4 (by decide) ?_
  refine J_aload_n dX8_copyFrom_5 rfl rfl ?_
  refine J_get (v := .ref 19) dX8_copyFrom_6 fl_X8_9 hk18 rfl ?_
  refine J_iconst (v := 0) dX8_copyFrom_9 (by decide) ?_
  refine J_iconst (v := 5) dX8_copyFrom_10 (by decide) ?_
  refine K_copy (sp' := 0) (dp' := 0) (n' := 5) dX8_copyFrom_11 (jt6 54 rfl rfl) (jt4 53 rfl rfl) (jt4 52 rfl rfl) (jt1 20 rfl rfl) hk2 hk19 (by decide +kernel) (by decide +kernel) (by decide +kernel) (by decide +kernel) (by decide +kernel) (by decide +kernel) (Nat.le_of_ble_eq_true rfl) (Nat.le_of_ble_eq_true rfl) (Nat.le_of_ble_eq_true rfl) (by decide +kernel) ?_
  refine J_aload_n dX8_copyFrom_14 rfl rfl ?_
  refine J_get (v := .ref 3) dX8_copyFrom_15 fl_X8_15 hk1 rfl ?_
  refine J_iconst (v := 0) dX8_copyFrom_18 (by decide) ?_
  refine J_aload_n dX8_copyFrom_19 rfl rfl ?_
  refine J_get (v := .ref 20) dX8_copyFrom_20 fl_X8_15 hk18 rfl ?_
  refine J_iconst (v := 0) dX8_copyFrom_23 (by decide) ?_
  refine J_iconst (v := 2) dX8_copyFrom_24 (by decide) ?_
  refine K_copy (sp' := 0) (dp' := 0) (n' := 2) dX8_copyFrom_25 (jt6 54 rfl rfl) (jt4 53 rfl rfl) (jt4 52 rfl rfl) (jt1 20 rfl rfl) hk3 hk20 (by decide +kernel) (by decide +kernel) (by decide +kernel) (by decide +kernel) (by decide +kernel) (by decide +kernel) (Nat.le_of_ble_eq_true rfl) (Nat.le_of_ble_eq_true rfl) (Nat.le_of_ble_eq_true rfl) (by decide +kernel) ?_
  refine J_iconst (v := 0) dX8_copyFrom_28 (by decide) ?_
  refine J_istore_n dX8_copyFrom_29 rfl (Nat.le_of_ble_eq_true rfl) rfl ?_
  refine J_iload_n dX8_copyFrom_30 rfl rfl ?_
  refine J_bipush (v := 6) dX8_copyFrom_31 (by decide +kernel) ?_
  refine J_icmp_ge (tgt := 54) dX8_copyFrom_33 (by decide) (fun q => absurd q (by decide +kernel)) (fun _ => ?_)
  refine J_aload_n dX8_copyFrom_36 rfl rfl ?_
  refine J_get (v := .ref 21) dX8_copyFrom_37 fl_X8_20 hk18 rfl ?_
  refine J_iload_n dX8_copyFrom_40 rfl rfl ?_
  refine J_aload_n dX8_copyFrom_41 rfl rfl ?_
  refine J_get (v := .ref 4) dX8_copyFrom_42 fl_X8_20 hk1 rfl ?_
  refine J_iload_n dX8_copyFrom_45 rfl rfl ?_
  refine J_aald (i2 := 0) (r := 5) dX8_copyFrom_46 hk4 rfl rfl (jin (by decide +kernel)) (by decide +kernel) rfl ?_
  refine K_aastA (i2 := 0) dX8_copyFrom_47 hk21 hk5 (jin (by decide +kernel)) (by decide +kernel) ?_
  refine J_iinc (v := 1) dX8_copyFrom_48 rfl (by decide +kernel) (Nat.le_of_ble_eq_true rfl) rfl ?_
  refine J_ls (ls2 := [some (.ref 18), some (.ref 1), some (.int 1)]) rfl ?_
  refine J_goto (tgt := 30) dX8_copyFrom_51 (by decide) ?_
  refine J_iload_n dX8_copyFrom_30 rfl rfl ?_
  refine J_bipush (v := 6) dX8_copyFrom_31 (by decide +kernel) ?_
  refine J_icmp_ge (tgt := 54) dX8_copyFrom_33 (by decide) (fun q => absurd q (by decide +kernel)) (fun _ => ?_)
  refine J_aload_n dX8_copyFrom_36 rfl rfl ?_
  refine J_get (v := .ref 21) dX8_copyFrom_37 fl_X8_20 hk18 rfl ?_
  refine J_iload_n dX8_copyFrom_40 rfl rfl ?_
  refine J_aload_n dX8_copyFrom_41 rfl rfl ?_
  refine J_get (v := .ref 4) dX8_copyFrom_42 fl_X8_20 hk1 rfl ?_
  refine J_iload_n dX8_copyFrom_45 rfl rfl ?_
  refine J_aald (i2 := 1) (r := 6) dX8_copyFrom_46 hk4 rfl rfl (jin (by decide +kernel)) (by decide +kernel) rfl ?_
  refine K_aastA (i2 := 1) dX8_copyFrom_47 rfl hk6 (jin (by decide +kernel)) (by decide +kernel) ?_
  refine J_iinc (v := 2) dX8_copyFrom_48 rfl (by decide +kernel) (Nat.le_of_ble_eq_true rfl) rfl ?_
  refine J_ls (ls2 := [some (.ref 18), some (.ref 1), some (.int 2)]) rfl ?_
  refine J_goto (tgt := 30) dX8_copyFrom_51 (by decide) ?_
  refine J_iload_n dX8_copyFrom_30 rfl rfl ?_
  refine J_bipush (v := 6) dX8_copyFrom_31 (by decide +kernel) ?_
  refine J_icmp_ge (tgt := 54) dX8_copyFrom_33 (by decide) (fun q => absurd q (by decide +kernel)) (fun _ => ?_)
  refine J_aload_n dX8_copyFrom_36 rfl rfl ?_
  refine J_get (v := .ref 21) dX8_copyFrom_37 fl_X8_20 hk18 rfl ?_
  refine J_iload_n dX8_copyFrom_40 rfl rfl ?_
  refine J_aload_n dX8_copyFrom_41 rfl rfl ?_
  refine J_get (v := .ref 4) dX8_copyFrom_42 fl_X8_20 hk1 rfl ?_
  refine J_iload_n dX8_copyFrom_45 rfl rfl ?_
  refine J_aald (i2 := 2) (r := 7) dX8_copyFrom_46 hk4 rfl rfl (jin (by decide +kernel)) (by decide +kernel) rfl ?_
  refine K_aastA (i2 := 2) dX8_copyFrom_47 rfl hk7 (jin (by decide +kernel)) (by decide +kernel) ?_
  refine J_iinc (v := 3) dX8_copyFrom_48 rfl (by decide +kernel) (Nat.le_of_ble_eq_true rfl) rfl ?_
  refine J_ls (ls2 := [some (.ref 18), some (.ref 1), some (.int 3)]) rfl ?_
  refine J_goto (tgt := 30) dX8_copyFrom_51 (by decide) ?_
  refine J_iload_n dX8_copyFrom_30 rfl rfl ?_
  refine J_bipush (v := 6) dX8_copyFrom_31 (by decide +kernel) ?_
  refine J_icmp_ge (tgt := 54) dX8_copyFrom_33 (by decide) (fun q => absurd q (by decide +kernel)) (fun _ => ?_)
  refine J_aload_n dX8_copyFrom_36 rfl rfl ?_
  refine J_get (v := .ref 21) dX8_copyFrom_37 fl_X8_20 hk18 rfl ?_
  refine J_iload_n dX8_copyFrom_40 rfl rfl ?_
  refine J_aload_n dX8_copyFrom_41 rfl rfl ?_
  refine J_get (v := .ref 4) dX8_copyFrom_42 fl_X8_20 hk1 rfl ?_
  refine J_iload_n dX8_copyFrom_45 rfl rfl ?_
  refine J_aald (i2 := 3) (r := 8) dX8_copyFrom_46 hk4 rfl rfl (jin (by decide +kernel)) (by decide +kernel) rfl ?_
  refine K_aastA (i2 := 3) dX8_copyFrom_47 rfl hk8 (jin (by decide +kernel)) (by decide +kernel) ?_
  refine J_iinc (v := 4) dX8_copyFrom_48 rfl (by decide +kernel) (Nat.le_of_ble_eq_true rfl) rfl ?_
  refine J_ls (ls2 := [some (.ref 18), some (.ref 1), some (.int 4)]) rfl ?_
  refine J_goto (tgt := 30) dX8_copyFrom_51 (by decide) ?_
  refine J_iload_n dX8_copyFrom_30 rfl rfl ?_
  refine J_bipush (v := 6) dX8_copyFrom_31 (by decide +kernel) ?_
  refine J_icmp_ge (tgt := 54) dX8_copyFrom_33 (by decide) (fun q => absurd q (by decide +kernel)) (fun _ => ?_)
  refine J_aload_n dX8_copyFrom_36 rfl rfl ?_
  refine J_get (v := .ref 21) dX8_copyFrom_37 fl_X8_20 hk18 rfl ?_
  refine J_iload_n dX8_copyFrom_40 rfl rfl ?_
  refine J_aload_n dX8_copyFrom_41 rfl rfl ?_
  refine J_get (v := .ref 4) dX8_copyFrom_42 fl_X8_20 hk1 rfl ?_
  refine J_iload_n dX8_copyFrom_45 rfl rfl ?_
  refine J_aald (i2 := 4) (r := 9) dX8_copyFrom_46 hk4 rfl rfl (jin (by decide +kernel)) (by decide +kernel) rfl ?_
  refine K_aastA (i2 := 4) dX8_copyFrom_47 rfl hk9 (jin (by decide +kernel)) (by decide +kernel) ?_
  refine J_iinc (v := 5) dX8_copyFrom_48 rfl (by decide +kernel) (Nat.le_of_ble_eq_true rfl) rfl ?_
  refine J_ls (ls2 := [some (.ref 18), some (.ref 1), some (.int 5)]) rfl ?_
  refine J_goto (tgt := 30) dX8_copyFrom_51 (by decide) ?_
  refine J_iload_n dX8_copyFrom_30 rfl rfl ?_
  refine J_bipush (v := 6) dX8_copyFrom_31 (by decide +kernel) ?_
  refine J_icmp_ge (tgt := 54) dX8_copyFrom_33 (by decide) (fun q => absurd q (by decide +kernel)) (fun _ => ?_)
  refine J_aload_n dX8_copyFrom_36 rfl rfl ?_
  refine J_get (v := .ref 21) dX8_copyFrom_37 fl_X8_20 hk18 rfl ?_
  refine J_iload_n dX8_copyFrom_40 rfl rfl ?_
  refine J_aload_n dX8_copyFrom_41 rfl rfl ?_
  refine J_get (v := .ref 4) dX8_copyFrom_42 fl_X8_20 hk1 rfl ?_
  refine J_iload_n dX8_copyFrom_45 rfl rfl ?_
  refine J_aald (i2 := 5) (r := 10) dX8_copyFrom_46 hk4 rfl rfl (jin (by decide +kernel)) (by decide +kernel) rfl ?_
  refine K_aastA (i2 := 5) dX8_copyFrom_47 rfl hk10 (jin (by decide +kernel)) (by decide +kernel) ?_
  refine J_iinc (v := 6) dX8_copyFrom_48 rfl (by decide +kernel) (Nat.le_of_ble_eq_true rfl) rfl ?_
  refine J_ls (ls2 := [some (.ref 18), some (.ref 1), some (.int 6)]) rfl ?_
  refine J_goto (tgt := 30) dX8_copyFrom_51 (by decide) ?_
  refine J_iload_n dX8_copyFrom_30 rfl rfl ?_
  refine J_bipush (v := 6) dX8_copyFrom_31 (by decide +kernel) ?_
  refine J_icmp_ge (tgt := 54) dX8_copyFrom_33 (by decide) (fun _ => ?_) (fun q => absurd (by decide +kernel) q)
  refine J_aload_n dX8_copyFrom_54 rfl rfl ?_
  refine J_aload_n dX8_copyFrom_55 rfl rfl ?_
  refine J_get (v := .int 0) dX8_copyFrom_56 fl_X8_23 hk1 rfl ?_
  refine K_put (fs2 := [.ref 19, .ref 20, .ref 21, .int 0, .int (-1), .ref 28, .ref 29, .int 0, .ref 30, .ref 31, .int 0, .ref 32, .ref 33, .int 0]) dX8_copyFrom_59 fw_X8_23 hk18 (Nat.le_of_ble_eq_true rfl) (fun _ => ⟨rfl, rfl⟩) rfl ?_
  refine J_aload_n dX8_copyFrom_62 rfl rfl ?_
  refine J_aload_n dX8_copyFrom_63 rfl rfl ?_
  refine J_get (v := .int (-1)) dX8_copyFrom_64 fl_X8_27 hk1 rfl ?_
  refine K_put (fs2 := [.ref 19, .ref 20, .ref 21, .int 0, .int (-1), .ref 28, .ref 29, .int 0, .ref 30, .ref 31, .int 0, .ref 32, .ref 33, .int 0]) dX8_copyFrom_67 fw_X8_27 rfl (Nat.le_of_ble_eq_true rfl) (fun _ => ⟨rfl, rfl⟩) rfl ?_
  refine J_aload_n dX8_copyFrom_70 rfl rfl ?_
  refine J_get (v := .ref 11) dX8_copyFrom_71 fl_X8_30 hk1 rfl ?_
  refine J_iconst (v := 0) dX8_copyFrom_74 (by decide) ?_
  refine J_aload_n dX8_copyFrom_75 rfl rfl ?_
  refine J_get (v := .ref 28) dX8_copyFrom_76 fl_X8_30 rfl rfl ?_
  refine J_iconst (v := 0) dX8_copyFrom_79 (by decide) ?_
  refine J_bipush (v := 8) dX8_copyFrom_80 (by decide +kernel) ?_
  refine K_copy (sp' := 0) (dp' := 0) (n' := 8) dX8_copyFrom_82 (jt6 54 rfl rfl) (jt4 53 rfl rfl) (jt4 52 rfl rfl) (jt1 20 rfl rfl) hk11 hk28 (by decide +kernel) (by decide +kernel) (by decide +kernel) (by decide +kernel) (by decide +kernel) (by decide +kernel) (Nat.le_of_ble_eq_true rfl) (Nat.le_of_ble_eq_true rfl) (Nat.le_of_ble_eq_true rfl) (by decide +kernel) ?_
  refine J_aload_n dX8_copyFrom_85 rfl rfl ?_
  refine J_get (v := .ref 12) dX8_copyFrom_86 fl_X8_33 hk1 rfl ?_
  refine J_iconst (v := 0) dX8_copyFrom_89 (by decide) ?_
  refine J_aload_n dX8_copyFrom_90 rfl rfl ?_
  refine J_get (v := .ref 29) dX8_copyFrom_91 fl_X8_33 rfl rfl ?_
  refine J_iconst (v := 0) dX8_copyFrom_94 (by decide) ?_
  refine J_bipush (v := 8) dX8_copyFrom_95 (by decide +kernel) ?_
  refine K_copy (sp' := 0) (dp' := 0) (n' := 8) dX8_copyFrom_97 (jt6 54 rfl rfl) (jt4 53 rfl rfl) (jt4 52 rfl rfl) (jt1 20 rfl rfl) hk12 hk29 (by decide +kernel) (by decide +kernel) (by decide +kernel) (by decide +kernel) (by decide +kernel) (by decide +kernel) (Nat.le_of_ble_eq_true rfl) (Nat.le_of_ble_eq_true rfl) (Nat.le_of_ble_eq_true rfl) (by decide +kernel) ?_
  refine J_aload_n dX8_copyFrom_100 rfl rfl ?_
  refine J_aload_n dX8_copyFrom_101 rfl rfl ?_
  refine J_get (v := .int 0) dX8_copyFrom_102 fl_X8_36 hk1 rfl ?_
  refine K_put (fs2 := [.ref 19, .ref 20, .ref 21, .int 0, .int (-1), .ref 28, .ref 29, .int 0, .ref 30, .ref 31, .int 0, .ref 32, .ref 33, .int 0]) dX8_copyFrom_105 fw_X8_36 rfl (Nat.le_of_ble_eq_true rfl) (fun _ => ⟨rfl, rfl⟩) rfl ?_
  refine J_aload_n dX8_copyFrom_108 rfl rfl ?_
  refine J_get (v := .ref 13) dX8_copyFrom_109 fl_X8_39 hk1 rfl ?_
  refine J_iconst (v := 0) dX8_copyFrom_112 (by decide) ?_
  refine J_aload_n dX8_copyFrom_113 rfl rfl ?_
  refine J_get (v := .ref 30) dX8_copyFrom_114 fl_X8_39 rfl rfl ?_
  refine J_iconst (v := 0) dX8_copyFrom_117 (by decide) ?_
  refine J_bipush (v := 6) dX8_copyFrom_118 (by decide +kernel) ?_
  refine K_copy (sp' := 0) (dp' := 0) (n' := 6) dX8_copyFrom_120 (jt6 54 rfl rfl) (jt4 53 rfl rfl) (jt4 52 rfl rfl) (jt1 20 rfl rfl) hk13 hk30 (by decide +kernel) (by decide +kernel) (by decide +kernel) (by decide +kernel) (by decide +kernel) (by decide +kernel) (Nat.le_of_ble_eq_true rfl) (Nat.le_of_ble_eq_true rfl) (Nat.le_of_ble_eq_true rfl) (by decide +kernel) ?_
  refine J_aload_n dX8_copyFrom_123 rfl rfl ?_
  refine J_get (v := .ref 14) dX8_copyFrom_124 fl_X8_42 hk1 rfl ?_
  refine J_iconst (v := 0) dX8_copyFrom_127 (by decide) ?_
  refine J_aload_n dX8_copyFrom_128 rfl rfl ?_
  refine J_get (v := .ref 31) dX8_copyFrom_129 fl_X8_42 rfl rfl ?_
  refine J_iconst (v := 0) dX8_copyFrom_132 (by decide) ?_
  refine J_bipush (v := 6) dX8_copyFrom_133 (by decide +kernel) ?_
  refine K_copy (sp' := 0) (dp' := 0) (n' := 6) dX8_copyFrom_135 (jt6 54 rfl rfl) (jt4 53 rfl rfl) (jt4 52 rfl rfl) (jt1 20 rfl rfl) hk14 hk31 (by decide +kernel) (by decide +kernel) (by decide +kernel) (by decide +kernel) (by decide +kernel) (by decide +kernel) (Nat.le_of_ble_eq_true rfl) (Nat.le_of_ble_eq_true rfl) (Nat.le_of_ble_eq_true rfl) (by decide +kernel) ?_
  refine J_aload_n dX8_copyFrom_138 rfl rfl ?_
  refine J_aload_n dX8_copyFrom_139 rfl rfl ?_
  refine J_get (v := .int 0) dX8_copyFrom_140 fl_X8_45 hk1 rfl ?_
  refine K_put (fs2 := [.ref 19, .ref 20, .ref 21, .int 0, .int (-1), .ref 28, .ref 29, .int 0, .ref 30, .ref 31, .int 0, .ref 32, .ref 33, .int 0]) dX8_copyFrom_143 fw_X8_45 rfl (Nat.le_of_ble_eq_true rfl) (fun _ => ⟨rfl, rfl⟩) rfl ?_
  refine J_aload_n dX8_copyFrom_146 rfl rfl ?_
  refine J_get (v := .ref 15) dX8_copyFrom_147 fl_X8_48 hk1 rfl ?_
  refine J_iconst (v := 0) dX8_copyFrom_150 (by decide) ?_
  refine J_aload_n dX8_copyFrom_151 rfl rfl ?_
  refine J_get (v := .ref 32) dX8_copyFrom_152 fl_X8_48 rfl rfl ?_
  refine J_iconst (v := 0) dX8_copyFrom_155 (by decide) ?_
  refine J_bipush (v := 12) dX8_copyFrom_156 (by decide +kernel) ?_
  refine K_copy (sp' := 0) (dp' := 0) (n' := 12) dX8_copyFrom_158 (jt6 54 rfl rfl) (jt4 53 rfl rfl) (jt4 52 rfl rfl) (jt1 20 rfl rfl) hk15 hk32 (by decide +kernel) (by decide +kernel) (by decide +kernel) (by decide +kernel) (by decide +kernel) (by decide +kernel) (Nat.le_of_ble_eq_true rfl) (Nat.le_of_ble_eq_true rfl) (Nat.le_of_ble_eq_true rfl) (by decide +kernel) ?_
  refine J_aload_n dX8_copyFrom_161 rfl rfl ?_
  refine J_get (v := .ref 16) dX8_copyFrom_162 fl_X8_51 hk1 rfl ?_
  refine J_iconst (v := 0) dX8_copyFrom_165 (by decide) ?_
  refine J_aload_n dX8_copyFrom_166 rfl rfl ?_
  refine J_get (v := .ref 33) dX8_copyFrom_167 fl_X8_51 rfl rfl ?_
  refine J_iconst (v := 0) dX8_copyFrom_170 (by decide) ?_
  refine J_bipush (v := 12) dX8_copyFrom_171 (by decide +kernel) ?_
  refine K_copy (sp' := 0) (dp' := 0) (n' := 12) dX8_copyFrom_173 (jt6 54 rfl rfl) (jt4 53 rfl rfl) (jt4 52 rfl rfl) (jt1 20 rfl rfl) hk16 hk33 (by decide +kernel) (by decide +kernel) (by decide +kernel) (by decide +kernel) (by decide +kernel) (by decide +kernel) (Nat.le_of_ble_eq_true rfl) (Nat.le_of_ble_eq_true rfl) (Nat.le_of_ble_eq_true rfl) (by decide +kernel) ?_
  refine J_aload_n dX8_copyFrom_176 rfl rfl ?_
  refine J_aload_n dX8_copyFrom_177 rfl rfl ?_
  refine J_get (v := .int 0) dX8_copyFrom_178 fl_X8_54 hk1 rfl ?_
  refine K_put (fs2 := [.ref 19, .ref 20, .ref 21, .int 0, .int (-1), .ref 28, .ref 29, .int 0, .ref 30, .ref 31, .int 0, .ref 32, .ref 33, .int 0]) dX8_copyFrom_181 fw_X8_54 rfl (Nat.le_of_ble_eq_true rfl) (fun _ => ⟨rfl, rfl⟩) rfl ?_
  refine J_mask (L2 := [(18, .inr (8, [.ref 19, .ref 20, .ref 21, .int 0, .int (-1), .ref 28, .ref 29, .int 0, .ref 30, .ref 31, .int 0, .ref 32, .ref 33, .int 0])), (33, .inl (0, 12, .inl (va_cpy (fun _ => 0) (fun _ => 0) 0 0 12))), (32, .inl (0, 12, .inl (va_cpy (fun _ => 0) (fun _ => 0) 0 0 12))), (31, .inl (0, 6, .inl (va_cpy (fun _ => 0) (fun _ => 0) 0 0 6))), (30, .inl (0, 6, .inl (va_cpy (fun _ => 0) (fun _ => 0) 0 0 6))), (29, .inl (0, 8, .inl (va_cpy (fun _ => 0) (fun _ => 0) 0 0 8))), (28, .inl (0, 8, .inl (va_cpy (fun _ => 0) (fun _ => 0) 0 0 8))), (21, .inl (5, 6, .inr (.inr (.inr (.inr (va_up (va_up (va_up (va_up (va_up (va_up (fun i => if i < 6 then some (21 + 1 + i) else none) 0 (some 5)) 1 (some 6)) 2 (some 7)) 3 (some 8)) 4 (some 9)) 5 (some 10))))))), (20, .inl (0, 2, .inl (va_cpy (fun _ => 0) (fun _ => 0) 0 0 2))), (19, .inl (0, 5, .inl (va_cpy (fun _ => 0) (fun _ => 0) 0 0 5)))]) (ks := [18, 33, 32, 18, 31, 30, 18, 29, 28, 18, 18, 21, 21, 21, 21, 21, 21, 20, 19]) [true, true, true, false, true, true, false, true, true, false, false, true, false, false, false, false, false, true, true] rfl (by decide +kernel) rfl ?_
  exact J_vret dX8_copyFrom_184 rfl (Nat.le_of_ble_eq_true rfl) (Nat.le_of_ble_eq_true rfl) ⟨rfl, rfl⟩
set_option maxHeartbeats 4000000 in
set_option maxRecDepth 100000 in
theorem c_X11_image_2 {l : Launch} {G : jG} {nh : Nat} {fh : Nat → Option va_E} (hk0 : fh 0 = some (.inr (11, [.ref 1, .ref 17, .ref 50, .ref 51, .ref 54, .ref 57, .ref 65, .ref 75, .ref 81, .ref 85, .ref 88, .ref 93, .ref 96, .int 0, .int (-1), .ref 97, .int 0]))) (hk1 : fh 1 = some (.inr (8, [.ref 2, .ref 3, .ref 4, .int 0, .int (-1), .ref 11, .ref 12, .int 0, .ref 13, .ref 14, .int 0, .ref 15, .ref 16, .int 0]))) (hk2 : fh 2 = some (.inl (0, 5, .inl (fun _ => 0)))) (hk3 : fh 3 = some (.inl (0, 2, .inl (fun _ => 0)))) (hk4 : fh 4 = some (.inl (5, 6, .inr (.inr (.inr (.inr (fun i => if i < 6 then some (4 + 1 + i) else none))))))) (hk5 : fh 5 = some (.inl (0, 0, .inl (fun _ => 0)))) (hk6 : fh 6 = some (.inl (0, 0, .inl (fun _ => 0)))) (hk7 : fh 7 = some (.inl (0, 0, .inl (fun _ => 0)))) (hk8 : fh 8 = some (.inl (0, 0, .inl (fun _ => 0)))) (hk9 : fh 9 = some (.inl (0, 0, .inl (fun _ => 0)))) (hk10 : fh 10 = some (.inl (0, 0, .inl (fun _ => 0)))) (hk11 : fh 11 = some (.inl (0, 8, .inl (fun _ => 0)))) (hk12 : fh 12 = some (.inl (0, 8, .inl (fun _ => 0)))) (hk13 : fh 13 = some (.inl (0, 6, .inl (fun _ => 0)))) (hk14 : fh 14 = some (.inl (0, 6, .inl (fun _ => 0)))) (hk15 : fh 15 = some (.inl (0, 12, .inl (fun _ => 0)))) (hk16 : fh 16 = some (.inl (0, 12, .inl (fun _ => 0)))) (hk17 : fh 17 = some (.inl (4, 2, .inr (.inr (.inr (.inr (va_up (va_up (fun _ => none) 0 (some 18)) 1 (some 34)))))))) (hk18 : fh 18 = some (.inr (8, [.ref 19, .ref 20, .ref 21, .int 0, .int (-1), .ref 28, .ref 29, .int 0, .ref 30, .ref 31, .int 0, .ref 32, .ref 33, .int 0]))) (hk19 : fh 19 = some (.inl (0, 5, .inl (fun _ => 0)))) (hk20 : fh 20 = some (.inl (0, 2, .inl (fun _ => 0)))) (hk21 : fh 21 = some (.inl (5, 6, .inr (.inr (.inr (.inr (fun i => if i < 6 then some (21 + 1 + i) else none))))))) (hk28 : fh 28 = some (.inl (0, 8, .inl (fun _ => 0)))) (hk29 : fh 29 = some (.inl (0, 8, .inl (fun _ => 0)))) (hk30 : fh 30 = some (.inl (0, 6, .inl (fun _ => 0)))) (hk31 : fh 31 = some (.inl (0, 6, .inl (fun _ => 0)))) (hk32 : fh 32 = some (.inl (0, 12, .inl (fun _ => 0)))) (hk33 : fh 33 = some (.inl (0, 12, .inl (fun _ => 0)))) (hk50 : fh 50 = some (.inl (2, 2, .inl (fun _ => 0)))) : JM l G yX11_image MX11_image { frames := 2, cells := 0, slots := 0, locals := 82 } [.ref 0, .int 0] (nh, fh) (fun r h9 => r = some (.int 0) ∧ h9 = (nh, hc fh [(0, .inr (11, [.ref 1, .ref 17, .ref 50, .ref 51, .ref 54, .ref 57, .ref 65, .ref 75, .ref 81, .ref 85, .ref 88, .ref 93, .ref 96, .int 0, .int (-1), .ref 97, .int 0])), (50, .inl (2, 2, .inl (upd (fun _ => 0) 0 1))), (18, .inr (8, [.ref 19, .ref 20, .ref 21, .int 0, .int (-1), .ref 28, .ref 29, .int 0, .ref 30, .ref 31, .int 0, .ref 32, .ref 33, .int 0])), (33, .inl (0, 12, .inl (va_cpy (fun _ => 0) (fun _ => 0) 0 0 12))), (32, .inl (0, 12, .inl (va_cpy (fun _ => 0) (fun _ => 0) 0 0 12))), (31, .inl (0, 6, .inl (va_cpy (fun _ => 0) (fun _ => 0) 0 0 6))), (30, .inl (0, 6, .inl (va_cpy (fun _ => 0) (fun _ => 0) 0 0 6))), (29, .inl (0, 8, .inl (va_cpy (fun _ => 0) (fun _ => 0) 0 0 8))), (28, .inl (0, 8, .inl (va_cpy (fun _ => 0) (fun _ => 0) 0 0 8))), (21, .inl (5, 6, .inr (.inr (.inr (.inr (va_up (va_up (va_up (va_up (va_up (va_up (fun i => if i < 6 then some (21 + 1 + i) else none) 0 (some 5)) 1 (some 6)) 2 (some 7)) 3 (some 8)) 4 (some 9)) 5 (some 10))))))), (20, .inl (0, 2, .inl (va_cpy (fun _ => 0) (fun _ => 0) 0 0 2))), (19, .inl (0, 5, .inl (va_cpy (fun _ => 0) (fun _ => 0) 0 0 5)))])) := by
  refine JM.of (by decide) rfl (fun h => by cases h) (Nat.le_of_ble_eq_true rfl) ⟨0, rfl⟩ ?_
  refine J_hc0 (J_ls (ls2 := [some (.ref 0), some (.int 0)]) rfl ?_)
  refine J_iload_n dX11_image_0 rfl rfl ?_
  refine J_if_lt (tgt := 9) dX11_image_1 (by decide) (fun q => absurd q (by decide +kernel)) (fun _ => ?_)
  refine J_iload_n dX11_image_4 rfl rfl ?_
  refine J_iconst (v := 2) dX11_image_5 (by decide) ?_
  refine J_icmp_lt (tgt := 15) dX11_image_6 (by decide) (fun _ => ?_) (fun q => absurd (by decide +kernel) q)
  refine J_aload_n dX11_image_15 rfl rfl ?_
  refine J_get (v := .ref 17) dX11_image_16 fl_X11_16 hk0 rfl ?_
  refine J_iload_n dX11_image_19 rfl rfl ?_
  refine J_aald (i2 := 0) (r := 18) dX11_image_20 hk17 rfl rfl (jin (by decide +kernel)) (by decide +kernel) rfl ?_
  refine J_aload_n dX11_image_21 rfl rfl ?_
  refine J_get (v := .ref 1) dX11_image_22 fl_X11_10 hk0 rfl ?_
  refine J_callV (st := []) dX11_image_25 cv_X11_314 (c_X8_copyFrom_1 hk1 hk2 hk3 hk4 hk5 hk6 hk7 hk8 hk9 hk10 hk11 hk12 hk13 hk14 hk15 hk16 hk18 hk19 hk20 hk21 hk28 hk29 hk30 hk31 hk32 hk33) hk18 rfl rfl (Nat.le_of_ble_eq_true rfl) ⟨(Nat.le_of_ble_eq_true rfl), (Nat.le_of_ble_eq_true rfl)⟩ ⟨(Nat.le_of_ble_eq_true rfl), (Nat.le_of_ble_eq_true rfl)⟩ (fun r h9 hp => ?_)
  obtain ⟨rfl, rfl⟩ := hp
  refine J_nf (nh2 := nh) (ck2 := 0) (sk2 := 0) (st2 := []) rfl rfl rfl rfl ?_
  refine J_app (L3 := [(18, .inr (8, [.ref 19, .ref 20, .ref 21, .int 0, .int (-1), .ref 28, .ref 29, .int 0, .ref 30, .ref 31, .int 0, .ref 32, .ref 33, .int 0])), (33, .inl (0, 12, .inl (va_cpy (fun _ => 0) (fun _ => 0) 0 0 12))), (32, .inl (0, 12, .inl (va_cpy (fun _ => 0) (fun _ => 0) 0 0 12))), (31, .inl (0, 6, .inl (va_cpy (fun _ => 0) (fun _ => 0) 0 0 6))), (30, .inl (0, 6, .inl (va_cpy (fun _ => 0) (fun _ => 0) 0 0 6))), (29, .inl (0, 8, .inl (va_cpy (fun _ => 0) (fun _ => 0) 0 0 8))), (28, .inl (0, 8, .inl (va_cpy (fun _ => 0) (fun _ => 0) 0 0 8))), (21, .inl (5, 6, .inr (.inr (.inr (.inr (va_up (va_up (va_up (va_up (va_up (va_up (fun i => if i < 6 then some (21 + 1 + i) else none) 0 (some 5)) 1 (some 6)) 2 (some 7)) 3 (some 8)) 4 (some 9)) 5 (some 10))))))), (20, .inl (0, 2, .inl (va_cpy (fun _ => 0) (fun _ => 0) 0 0 2))), (19, .inl (0, 5, .inl (va_cpy (fun _ => 0) (fun _ => 0) 0 0 5)))]) rfl ?_
  refine J_aload_n dX11_image_28 rfl rfl ?_
  refine J_get (v := .ref 50) dX11_image_29 fl_X11_20 hk0 rfl ?_
  refine J_iload_n dX11_image_32 rfl rfl ?_
  refine J_iconst (v := 1) dX11_image_33 (by decide) ?_
  refine K_zast (i2 := 0) (y := 1) dX11_image_34 hk50 rfl (jin (by decide +kernel)) (by decide +kernel) (by decide +kernel) ?_
  refine J_aload_n dX11_image_35 rfl rfl ?_
  refine J_iconst (v := 0) dX11_image_36 (by decide) ?_
  refine J_callV (st := []) dX11_image_37 cv_X11_129 (c_X11_accept_1 hk0) hk0 rfl rfl (Nat.le_of_ble_eq_true rfl) ⟨(Nat.le_of_ble_eq_true rfl), (Nat.le_of_ble_eq_true rfl)⟩ ⟨(Nat.le_of_ble_eq_true rfl), (Nat.le_of_ble_eq_true rfl)⟩ (fun r h9 hp => ?_)
  obtain ⟨rfl, rfl⟩ := hp
  refine J_nf (nh2 := nh) (ck2 := 0) (sk2 := 0) (st2 := [.int 0]) rfl rfl rfl rfl ?_
  refine J_app (L3 := [(0, .inr (11, [.ref 1, .ref 17, .ref 50, .ref 51, .ref 54, .ref 57, .ref 65, .ref 75, .ref 81, .ref 85, .ref 88, .ref 93, .ref 96, .int 0, .int (-1), .ref 97, .int 0])), (50, .inl (2, 2, .inl (upd (fun _ => 0) 0 1))), (18, .inr (8, [.ref 19, .ref 20, .ref 21, .int 0, .int (-1), .ref 28, .ref 29, .int 0, .ref 30, .ref 31, .int 0, .ref 32, .ref 33, .int 0])), (33, .inl (0, 12, .inl (va_cpy (fun _ => 0) (fun _ => 0) 0 0 12))), (32, .inl (0, 12, .inl (va_cpy (fun _ => 0) (fun _ => 0) 0 0 12))), (31, .inl (0, 6, .inl (va_cpy (fun _ => 0) (fun _ => 0) 0 0 6))), (30, .inl (0, 6, .inl (va_cpy (fun _ => 0) (fun _ => 0) 0 0 6))), (29, .inl (0, 8, .inl (va_cpy (fun _ => 0) (fun _ => 0) 0 0 8))), (28, .inl (0, 8, .inl (va_cpy (fun _ => 0) (fun _ => 0) 0 0 8))), (21, .inl (5, 6, .inr (.inr (.inr (.inr (va_up (va_up (va_up (va_up (va_up (va_up (fun i => if i < 6 then some (21 + 1 + i) else none) 0 (some 5)) 1 (some 6)) 2 (some 7)) 3 (some 8)) 4 (some 9)) 5 (some 10))))))), (20, .inl (0, 2, .inl (va_cpy (fun _ => 0) (fun _ => 0) 0 0 2))), (19, .inl (0, 5, .inl (va_cpy (fun _ => 0) (fun _ => 0) 0 0 5)))]) rfl ?_
  exact J_iret dX11_image_40 rfl rfl (Nat.le_of_ble_eq_true rfl) (Nat.le_of_ble_eq_true rfl) ⟨rfl, rfl⟩
set_option maxHeartbeats 4000000 in
set_option maxRecDepth 100000 in
theorem c_X12_image_loop0 {l : Launch} {G : jG} {nh : Nat} {fh : Nat → Option va_E} (hk98 : fh 98 = some (.inr (12, [.int 0, .int 0, .ref 99, .ref 100, .ref 101, .ref 102, .ref 103, .ref 104, .ref 105, .int 0, .int (-1), .ref 106, .ref 107, .ref 108, .int 0, .int 0, .int 0, .int 0, .int 0, .int 0, .int 0, .ref 109, .int 0, .int 0, .ref 110, .ref 111, .ref 112, .ref 113, .ref 114, .ref 115, .ref 116, .ref 117, .int 0, .int 0, .int (-1), .int (-1), .ref 118, .ref 119, .ref 120, .ref 121, .ref 122, .ref 123, .ref 124, .ref 125, .ref 126, .ref 127, .ref 128, .ref 129, .int 0, .ref 130, .ref 131, .ref 132, .ref 133, .ref 134, .int 0, .int 0]))) (hk100 : fh 100 = some (.inl (0, 4870, .inl (upd (fun _ => 0) 63 (-1))))) (hk101 : fh 101 = some (.inl (0, 9740, .inl (fun _ => 0)))) (hk102 : fh 102 = some (.inl (2, 2, .inl (fun _ => 0)))) : JM l G yX12_image MX12_image { frames := 1, cells := 0, slots := 0, locals := 22 } [.ref 98, .int 0] (nh, fh) (fun r h9 => r = some (.int 0) ∧ ∃ g : Nat → Int32, h9 = (nh, hc fh [(98, .inr (12, [.int 0, .int 1, .ref 99, .ref 100, .ref 101, .ref 102, .ref 103, .ref 104, .ref 105, .int 0, .int (-1), .ref 106, .ref 107, .ref 108, .int 0, .int 0, .int 0, .int 0, .int 0, .int 0, .int 0, .ref 109, .int 0, .int 0, .ref 110, .ref 111, .ref 112, .ref 113, .ref 114, .ref 115, .ref 116, .ref 117, .int 0, .int 0, .int (-1), .int (-1), .ref 118, .ref 119, .ref 120, .ref 121, .ref 122, .ref 123, .ref 124, .ref 125, .ref 126, .ref 127, .ref 128, .ref 129, .int 0, .ref 130, .ref 131, .ref 132, .ref 133, .ref 134, .int 0, .int 0])), (102, .inl (2, 2, .inl (upd (fun _ => 0) 0 1))), (101, .inl (0, 9740, .inl g))])) := by
  refine JM.of (by decide) rfl (fun h => by cases h) (Nat.le_of_ble_eq_true rfl) ⟨1, rfl⟩ ?_
  refine J_hc0 (J_ls (ls2 := [some (.ref 98), some (.int 0), none]) rfl ?_)
  refine J_iload_n dX12_image_0 rfl rfl ?_
  refine J_iconst (v := 0) dX12_image_1 (by decide) ?_
  refine J_iconst (v := 1) dX12_image_2 (by decide) ?_
  refine J_callS (st := []) dX12_image_3 cs_X12_138 (c_X12_lies_23 ) rfl rfl (Nat.le_of_ble_eq_true rfl) ⟨(Nat.le_of_ble_eq_true rfl), (Nat.le_of_ble_eq_true rfl)⟩ ⟨(Nat.le_of_ble_eq_true rfl), (Nat.le_of_ble_eq_true rfl)⟩ (fun r h9 hp => ?_)
  obtain ⟨rfl, rfl⟩ := hp
  refine J_nf (nh2 := nh) (ck2 := 0) (sk2 := 0) (st2 := [.int 1]) rfl rfl rfl rfl ?_
  refine J_if_ne (tgt := 15) dX12_image_6 (by decide) (fun _ => ?_) (fun q => absurd q (by decide +kernel))
  refine J_iconst (v := 0) dX12_image_15 (by decide) ?_
  refine J_istore_n dX12_image_16 rfl (Nat.le_of_ble_eq_true rfl) rfl ?_
  have loop : ∀ (r j : Nat) (i : Int32) (g : Nat → Int32), j + r = 4870 → i = nI j → J l G MX12_image { frames := 1, cells := 0, slots := 0, locals := 22 } jE (jMQ G { frames := 1, cells := 0, slots := 0, locals := 22 } (fun r h9 => r = some (.int 0) ∧ ∃ g : Nat → Int32, h9 = (nh, hc fh [(98, .inr (12, [.int 0, .int 1, .ref 99, .ref 100, .ref 101, .ref 102, .ref 103, .ref 104, .ref 105, .int 0, .int (-1), .ref 106, .ref 107, .ref 108, .int 0, .int 0, .int 0, .int 0, .int 0, .int 0, .int 0, .ref 109, .int 0, .int 0, .ref 110, .ref 111, .ref 112, .ref 113, .ref 114, .ref 115, .ref 116, .ref 117, .int 0, .int 0, .int (-1), .int (-1), .ref 118, .ref 119, .ref 120, .ref 121, .ref 122, .ref 123, .ref 124, .ref 125, .ref 126, .ref 127, .ref 128, .ref 129, .int 0, .ref 130, .ref 131, .ref 132, .ref 133, .ref 134, .int 0, .int 0])), (102, .inl (2, 2, .inl (upd (fun _ => 0) 0 1))), (101, .inl (0, 9740, .inl g))]))) (nh, hc fh [(101, .inl (0, 9740, .inl g))]) 0 0 17 [some (.ref 98), some (.int 0), some (.int i)] [] := by
    intro r
    induction r with
    | zero =>
      intro j i g hj hi
      refine J_iload_n dX12_image_17 rfl rfl ?_
      refine J_sipush (v := 4870) dX12_image_18 (by decide +kernel) ?_
      refine J_icmp_ge (tgt := 48) dX12_image_21 (by decide) (fun _ => ?_) (fun q => absurd (by rw [hi]; exact nI_le (a := 4870) (by omega) (by omega)) q)
      refine J_aload_n dX12_image_48 rfl rfl ?_
      refine J_get (v := .ref 102) dX12_image_49 fl_X12_26 hk98 rfl ?_
      refine J_iload_n dX12_image_52 rfl rfl ?_
      refine J_iconst (v := 1) dX12_image_53 (by decide) ?_
      refine K_zast (i2 := 0) (y := 1) dX12_image_54 hk102 rfl (jin (by decide +kernel)) (by decide +kernel) (by decide +kernel) ?_
      refine J_aload_n dX12_image_55 rfl rfl ?_
      refine J_iconst (v := 0) dX12_image_56 (by decide) ?_
      refine J_callV (st := []) dX12_image_57 cv_X12_146 (c_X12_good_1 hk98) hk98 rfl rfl (Nat.le_of_ble_eq_true rfl) ⟨(Nat.le_of_ble_eq_true rfl), (Nat.le_of_ble_eq_true rfl)⟩ ⟨(Nat.le_of_ble_eq_true rfl), (Nat.le_of_ble_eq_true rfl)⟩ (fun r h9 hp => ?_)
      obtain ⟨rfl, rfl⟩ := hp
      refine J_nf (nh2 := nh) (ck2 := 0) (sk2 := 0) (st2 := [.int 0]) rfl rfl rfl rfl ?_
      refine J_app (L3 := [(98, .inr (12, [.int 0, .int 1, .ref 99, .ref 100, .ref 101, .ref 102, .ref 103, .ref 104, .ref 105, .int 0, .int (-1), .ref 106, .ref 107, .ref 108, .int 0, .int 0, .int 0, .int 0, .int 0, .int 0, .int 0, .ref 109, .int 0, .int 0, .ref 110, .ref 111, .ref 112, .ref 113, .ref 114, .ref 115, .ref 116, .ref 117, .int 0, .int 0, .int (-1), .int (-1), .ref 118, .ref 119, .ref 120, .ref 121, .ref 122, .ref 123, .ref 124, .ref 125, .ref 126, .ref 127, .ref 128, .ref 129, .int 0, .ref 130, .ref 131, .ref 132, .ref 133, .ref 134, .int 0, .int 0])), (102, .inl (2, 2, .inl (upd (fun _ => 0) 0 1))), (101, .inl (0, 9740, .inl g))]) rfl ?_
      exact J_iret dX12_image_60 rfl rfl (Nat.le_of_ble_eq_true rfl) (Nat.le_of_ble_eq_true rfl) ⟨rfl, g, rfl⟩
    | succ r ih =>
      intro j i g hj hi
      refine J_iload_n dX12_image_17 rfl rfl ?_
      refine J_sipush (v := 4870) dX12_image_18 (by decide +kernel) ?_
      refine J_icmp_ge (tgt := 48) dX12_image_21 (by decide) (fun q => absurd q (by rw [hi]; exact nI_ge (b := 4870) (by omega) (by omega))) (fun _ => ?_)
      refine J_aload_n dX12_image_24 rfl rfl ?_
      refine J_get (v := .ref 101) dX12_image_25 fl_X12_23 hk98 rfl ?_
      refine J_sipush (v := 4870) dX12_image_28 (by decide +kernel) ?_
      refine J_iload_n dX12_image_31 rfl rfl ?_
      refine J_imul (z := 0) dX12_image_32 (by decide +kernel) ?_
      refine J_iload_n dX12_image_33 rfl rfl ?_
      refine J_iadd (z := nI (0 + j)) dX12_image_34 (by rw [hi]; exact nI_add 0 j) ?_
      refine J_aload_n dX12_image_35 rfl rfl ?_
      refine J_get (v := .ref 100) dX12_image_36 fl_X12_20 hk98 rfl ?_
      refine J_iload_n dX12_image_39 rfl rfl ?_
      refine J_iald (i2 := j) (v := (upd (fun _ => 0) 63 (-1)) j) dX12_image_40 hk100 rfl (by rw [hi]; exact vp_in_nI (by omega) (by omega)) (by rw [hi]; exact nI_clamp (by omega)) rfl ?_
      refine K_iast (i2 := 0 + j) dX12_image_41 rfl rfl (vp_in_nI (by omega) (by omega)) (nI_clamp (by omega)) ?_
      refine J_iinc (v := i + 1) dX12_image_42 rfl rfl (Nat.le_of_ble_eq_true rfl) rfl ?_
      refine J_ls (ls2 := [some (.ref 98), some (.int 0), some (.int (i + 1))]) rfl ?_
      refine J_goto (tgt := 17) dX12_image_45 (by decide) ?_
      refine J_mask (L2 := [(101, .inl (0, 9740, .inl (upd g (0 + j) ((upd (fun _ => 0) 63 (-1)) j))))]) (ks := [101, 101]) [true, false] rfl (by decide +kernel) rfl ?_
      exact ih (j + 1) (i + 1) _ (by omega) (by rw [hi]; exact nI_1 j)
  refine J_hp (fh2 := hc fh [(101, .inl (0, 9740, .inl (fun _ => 0)))]) ?_ (loop 4870 0 0 _ (by omega) (by decide +kernel))
  funext x
  show fh x = hu fh 101 _ x
  by_cases hx : x = 101
  · rw [hx, hu_same, hk101]
  · rw [hu_ne hx]
set_option maxHeartbeats 4000000 in
set_option maxRecDepth 100000 in
theorem c_X8_copyFrom_2 {l : Launch} {G : jG} {nh : Nat} {fh : Nat → Option va_E} (hk1 : fh 1 = some (.inr (8, [.ref 2, .ref 3, .ref 4, .int 0, .int (-1), .ref 11, .ref 12, .int 0, .ref 13, .ref 14, .int 0, .ref 15, .ref 16, .int 0]))) (hk2 : fh 2 = some (.inl (0, 5, .inl (fun _ => 0)))) (hk3 : fh 3 = some (.inl (0, 2, .inl (fun _ => 0)))) (hk4 : fh 4 = some (.inl (5, 6, .inr (.inr (.inr (.inr (fun i => if i < 6 then some (4 + 1 + i) else none))))))) (hk5 : fh 5 = some (.inl (0, 0, .inl (fun _ => 0)))) (hk6 : fh 6 = some (.inl (0, 0, .inl (fun _ => 0)))) (hk7 : fh 7 = some (.inl (0, 0, .inl (fun _ => 0)))) (hk8 : fh 8 = some (.inl (0, 0, .inl (fun _ => 0)))) (hk9 : fh 9 = some (.inl (0, 0, .inl (fun _ => 0)))) (hk10 : fh 10 = some (.inl (0, 0, .inl (fun _ => 0)))) (hk11 : fh 11 = some (.inl (0, 8, .inl (fun _ => 0)))) (hk12 : fh 12 = some (.inl (0, 8, .inl (fun _ => 0)))) (hk13 : fh 13 = some (.inl (0, 6, .inl (fun _ => 0)))) (hk14 : fh 14 = some (.inl (0, 6, .inl (fun _ => 0)))) (hk15 : fh 15 = some (.inl (0, 12, .inl (fun _ => 0)))) (hk16 : fh 16 = some (.inl (0, 12, .inl (fun _ => 0)))) (hk34 : fh 34 = some (.inr (8, [.ref 35, .ref 36, .ref 37, .int 0, .int (-1), .ref 44, .ref 45, .int 0, .ref 46, .ref 47, .int 0, .ref 48, .ref 49, .int 0]))) (hk35 : fh 35 = some (.inl (0, 5, .inl (fun _ => 0)))) (hk36 : fh 36 = some (.inl (0, 2, .inl (fun _ => 0)))) (hk37 : fh 37 = some (.inl (5, 6, .inr (.inr (.inr (.inr (fun i => if i < 6 then some (37 + 1 + i) else none))))))) (hk44 : fh 44 = some (.inl (0, 8, .inl (fun _ => 0)))) (hk45 : fh 45 = some (.inl (0, 8, .inl (fun _ => 0)))) (hk46 : fh 46 = some (.inl (0, 6, .inl (fun _ => 0)))) (hk47 : fh 47 = some (.inl (0, 6, .inl (fun _ => 0)))) (hk48 : fh 48 = some (.inl (0, 12, .inl (fun _ => 0)))) (hk49 : fh 49 = some (.inl (0, 12, .inl (fun _ => 0)))) : JM l G yX8_copyFrom MX8_copyFrom { frames := 1, cells := 0, slots := 0, locals := 60 } [.ref 34, .ref 1] (nh, fh) (fun r h9 => r = none ∧ h9 = (nh, hc fh [(34, .inr (8, [.ref 35, .ref 36, .ref 37, .int 0, .int (-1), .ref 44, .ref 45, .int 0, .ref 46, .ref 47, .int 0, .ref 48, .ref 49, .int 0])), (49, .inl (0, 12, .inl (va_cpy (fun _ => 0) (fun _ => 0) 0 0 12))), (48, .inl (0, 12, .inl (va_cpy (fun _ => 0) (fun _ => 0) 0 0 12))), (47, .inl (0, 6, .inl (va_cpy (fun _ => 0) (fun _ => 0) 0 0 6))), (46, .inl (0, 6, .inl (va_cpy (fun _ => 0) (fun _ => 0) 0 0 6))), (45, .inl (0, 8, .inl (va_cpy (fun _ => 0) (fun _ => 0) 0 0 8))), (44, .inl (0, 8, .inl (va_cpy (fun _ => 0) (fun _ => 0) 0 0 8))), (37, .inl (5, 6, .inr (.inr (.inr (.inr (va_up (va_up (va_up (va_up (va_up (va_up (fun i => if i < 6 then some (37 + 1 + i) else none) 0 (some 5)) 1 (some 6)) 2 (some 7)) 3 (some 8)) 4 (some 9)) 5 (some 10))))))), (36, .inl (0, 2, .inl (va_cpy (fun _ => 0) (fun _ => 0) 0 0 2))), (35, .inl (0, 5, .inl (va_cpy (fun _ => 0) (fun _ => 0) 0 0 5)))])) := by
  refine JM.of (by decide) rfl (fun h => by cases h) (Nat.le_of_ble_eq_true rfl) ⟨1, rfl⟩ ?_
  refine J_hc0 (J_ls (ls2 := [some (.ref 34), some (.ref 1), none]) rfl ?_)
  refine J_aload_n dX8_copyFrom_0 rfl rfl ?_
  refine J_get (v := .ref 2) dX8_copyFrom_1 fl_X8_9 hk1 rfl ?_
  refine J_iconst (v := 0) dX8_copyFrom_4 (by decide) ?_
  refine J_aload_n dX8_copyFrom_5 rfl rfl ?_
  refine J_get (v := .ref 35) dX8_copyFrom_6 fl_X8_9 hk34 rfl ?_
  refine J_iconst (v := 0) dX8_copyFrom_9 (by decide) ?_
  refine J_iconst (v := 5) dX8_copyFrom_10 (by decide) ?_
  refine K_copy (sp' := 0) (dp' := 0) (n' := 5) dX8_copyFrom_11 (jt6 54 rfl rfl) (jt4 53 rfl rfl) (jt4 52 rfl rfl) (jt1 20 rfl rfl) hk2 hk35 (by decide +kernel) (by decide +kernel) (by decide +kernel) (by decide +kernel) (by decide +kernel) (by decide +kernel) (Nat.le_of_ble_eq_true rfl) (Nat.le_of_ble_eq_true rfl) (Nat.le_of_ble_eq_true rfl) (by decide +kernel) ?_
  refine J_aload_n dX8_copyFrom_14 rfl rfl ?_
  refine J_get (v := .ref 3) dX8_copyFrom_15 fl_X8_15 hk1 rfl ?_
  refine J_iconst (v := 0) dX8_copyFrom_18 (by decide) ?_
  refine J_aload_n dX8_copyFrom_19 rfl rfl ?_
  refine J_get (v := .ref 36) dX8_copyFrom_20 fl_X8_15 hk34 rfl ?_
  refine J_iconst (v := 0) dX8_copyFrom_23 (by decide) ?_
  refine J_iconst (v := 2) dX8_copyFrom_24 (by decide) ?_
  refine K_copy (sp' := 0) (dp' := 0) (n' := 2) dX8_copyFrom_25 (jt6 54 rfl rfl) (jt4 53 rfl rfl) (jt4 52 rfl rfl) (jt1 20 rfl rfl) hk3 hk36 (by decide +kernel) (by decide +kernel) (by decide +kernel) (by decide +kernel) (by decide +kernel) (by decide +kernel) (Nat.le_of_ble_eq_true rfl) (Nat.le_of_ble_eq_true rfl) (Nat.le_of_ble_eq_true rfl) (by decide +kernel) ?_
  refine J_iconst (v := 0) dX8_copyFrom_28 (by decide) ?_
  refine J_istore_n dX8_copyFrom_29 rfl (Nat.le_of_ble_eq_true rfl) rfl ?_
  refine J_iload_n dX8_copyFrom_30 rfl rfl ?_
  refine J_bipush (v := 6) dX8_copyFrom_31 (by decide +kernel) ?_
  refine J_icmp_ge (tgt := 54) dX8_copyFrom_33 (by decide) (fun q => absurd q (by decide +kernel)) (fun _ => ?_)
  refine J_aload_n dX8_copyFrom_36 rfl rfl ?_
  refine J_get (v := .ref 37) dX8_copyFrom_37 fl_X8_20 hk34 rfl ?_
  refine J_iload_n dX8_copyFrom_40 rfl rfl ?_
  refine J_aload_n dX8_copyFrom_41 rfl rfl ?_
  refine J_get (v := .ref 4) dX8_copyFrom_42 fl_X8_20 hk1 rfl ?_
  refine J_iload_n dX8_copyFrom_45 rfl rfl ?_
  refine J_aald (i2 := 0) (r := 5) dX8_copyFrom_46 hk4 rfl rfl (jin (by decide +kernel)) (by decide +kernel) rfl ?_
  refine K_aastA (i2 := 0) dX8_copyFrom_47 hk37 hk5 (jin (by decide +kernel)) (by decide +kernel) ?_
  refine J_iinc (v := 1) dX8_copyFrom_48 rfl (by decide +kernel) (Nat.le_of_ble_eq_true rfl) rfl ?_
  refine J_ls (ls2 := [some (.ref 34), some (.ref 1), some (.int 1)]) rfl ?_
  refine J_goto (tgt := 30) dX8_copyFrom_51 (by decide) ?_
  refine J_iload_n dX8_copyFrom_30 rfl rfl ?_
  refine J_bipush (v := 6) dX8_copyFrom_31 (by decide +kernel) ?_
  refine J_icmp_ge (tgt := 54) dX8_copyFrom_33 (by decide) (fun q => absurd q (by decide +kernel)) (fun _ => ?_)
  refine J_aload_n dX8_copyFrom_36 rfl rfl ?_
  refine J_get (v := .ref 37) dX8_copyFrom_37 fl_X8_20 hk34 rfl ?_
  refine J_iload_n dX8_copyFrom_40 rfl rfl ?_
  refine J_aload_n dX8_copyFrom_41 rfl rfl ?_
  refine J_get (v := .ref 4) dX8_copyFrom_42 fl_X8_20 hk1 rfl ?_
  refine J_iload_n dX8_copyFrom_45 rfl rfl ?_
  refine J_aald (i2 := 1) (r := 6) dX8_copyFrom_46 hk4 rfl rfl (jin (by decide +kernel)) (by decide +kernel) rfl ?_
  refine K_aastA (i2 := 1) dX8_copyFrom_47 rfl hk6 (jin (by decide +kernel)) (by decide +kernel) ?_
  refine J_iinc (v := 2) dX8_copyFrom_48 rfl (by decide +kernel) (Nat.le_of_ble_eq_true rfl) rfl ?_
  refine J_ls (ls2 := [some (.ref 34), some (.ref 1), some (.int 2)]) rfl ?_
  refine J_goto (tgt := 30) dX8_copyFrom_51 (by decide) ?_
  refine J_iload_n dX8_copyFrom_30 rfl rfl ?_
  refine J_bipush (v := 6) dX8_copyFrom_31 (by decide +kernel) ?_
  refine J_icmp_ge (tgt := 54) dX8_copyFrom_33 (by decide) (fun q => absurd q (by decide +kernel)) (fun _ => ?_)
  refine J_aload_n dX8_copyFrom_36 rfl rfl ?_
  refine J_get (v := .ref 37) dX8_copyFrom_37 fl_X8_20 hk34 rfl ?_
  refine J_iload_n dX8_copyFrom_40 rfl rfl ?_
  refine J_aload_n dX8_copyFrom_41 rfl rfl ?_
  refine J_get (v := .ref 4) dX8_copyFrom_42 fl_X8_20 hk1 rfl ?_
  refine J_iload_n dX8_copyFrom_45 rfl rfl ?_
  refine J_aald (i2 := 2) (r := 7) dX8_copyFrom_46 hk4 rfl rfl (jin (by decide +kernel)) (by decide +kernel) rfl ?_
  refine K_aastA (i2 := 2) dX8_copyFrom_47 rfl hk7 (jin (by decide +kernel)) (by decide +kernel) ?_
  refine J_iinc (v := 3) dX8_copyFrom_48 rfl (by decide +kernel) (Nat.le_of_ble_eq_true rfl) rfl ?_
  refine J_ls (ls2 := [some (.ref 34), some (.ref 1), some (.int 3)]) rfl ?_
  refine J_goto (tgt := 30) dX8_copyFrom_51 (by decide) ?_
  refine J_iload_n dX8_copyFrom_30 rfl rfl ?_
  refine J_bipush (v := 6) dX8_copyFrom_31 (by decide +kernel) ?_
  refine J_icmp_ge (tgt := 54) dX8_copyFrom_33 (by decide) (fun q => absurd q (by decide +kernel)) (fun _ => ?_)
  refine J_aload_n dX8_copyFrom_36 rfl rfl ?_
  refine J_get (v := .ref 37) dX8_copyFrom_37 fl_X8_20 hk34 rfl ?_
  refine J_iload_n dX8_copyFrom_40 rfl rfl ?_
  refine J_aload_n dX8_copyFrom_41 rfl rfl ?_
  refine J_get (v := .ref 4) dX8_copyFrom_42 fl_X8_20 hk1 rfl ?_
  refine J_iload_n dX8_copyFrom_45 rfl rfl ?_
  refine J_aald (i2 := 3) (r := 8) dX8_copyFrom_46 hk4 rfl rfl (jin (by decide +kernel)) (by decide +kernel) rfl ?_
  refine K_aastA (i2 := 3) dX8_copyFrom_47 rfl hk8 (jin (by decide +kernel)) (by decide +kernel) ?_
  refine J_iinc (v := 4) dX8_copyFrom_48 rfl (by decide +kernel) (Nat.le_of_ble_eq_true rfl) rfl ?_
  refine J_ls (ls2 := [some (.ref 34), some (.ref 1), some (.int 4)]) rfl ?_
  refine J_goto (tgt := 30) dX8_copyFrom_51 (by decide) ?_
  refine J_iload_n dX8_copyFrom_30 rfl rfl ?_
  refine J_bipush (v := 6) dX8_copyFrom_31 (by decide +kernel) ?_
  refine J_icmp_ge (tgt := 54) dX8_copyFrom_33 (by decide) (fun q => absurd q (by decide +kernel)) (fun _ => ?_)
  refine J_aload_n dX8_copyFrom_36 rfl rfl ?_
  refine J_get (v := .ref 37) dX8_copyFrom_37 fl_X8_20 hk34 rfl ?_
  refine J_iload_n dX8_copyFrom_40 rfl rfl ?_
  refine J_aload_n dX8_copyFrom_41 rfl rfl ?_
  refine J_get (v := .ref 4) dX8_copyFrom_42 fl_X8_20 hk1 rfl ?_
  refine J_iload_n dX8_copyFrom_45 rfl rfl ?_
  refine J_aald (i2 := 4) (r := 9) dX8_copyFrom_46 hk4 rfl rfl (jin (by decide +kernel)) (by decide +kernel) rfl ?_
  refine K_aastA (i2 := 4) dX8_copyFrom_47 rfl hk9 (jin (by decide +kernel)) (by decide +kernel) ?_
  refine J_iinc (v := 5) dX8_copyFrom_48 rfl (by decide +kernel) (Nat.le_of_ble_eq_true rfl) rfl ?_
  refine J_ls (ls2 := [some (.ref 34), some (.ref 1), some (.int 5)]) rfl ?_
  refine J_goto (tgt := 30) dX8_copyFrom_51 (by decide) ?_
  refine J_iload_n dX8_copyFrom_30 rfl rfl ?_
  refine J_bipush (v := 6) dX8_copyFrom_31 (by decide +kernel) ?_
  refine J_icmp_ge (tgt := 54) dX8_copyFrom_33 (by decide) (fun q => absurd q (by decide +kernel)) (fun _ => ?_)
  refine J_aload_n dX8_copyFrom_36 rfl rfl ?_
  refine J_get (v := .ref 37) dX8_copyFrom_37 fl_X8_20 hk34 rfl ?_
  refine J_iload_n dX8_copyFrom_40 rfl rfl ?_
  refine J_aload_n dX8_copyFrom_41 rfl rfl ?_
  refine J_get (v := .ref 4) dX8_copyFrom_42 fl_X8_20 hk1 rfl ?_
  refine J_iload_n dX8_copyFrom_45 rfl rfl ?_
  refine J_aald (i2 := 5) (r := 10) dX8_copyFrom_46 hk4 rfl rfl (jin (by decide +kernel)) (by decide +kernel) rfl ?_
  refine K_aastA (i2 := 5) dX8_copyFrom_47 rfl hk10 (jin (by decide +kernel)) (by decide +kernel) ?_
  refine J_iinc (v := 6) dX8_copyFrom_48 rfl (by decide +kernel) (Nat.le_of_ble_eq_true rfl) rfl ?_
  refine J_ls (ls2 := [some (.ref 34), some (.ref 1), some (.int 6)]) rfl ?_
  refine J_goto (tgt := 30) dX8_copyFrom_51 (by decide) ?_
  refine J_iload_n dX8_copyFrom_30 rfl rfl ?_
  refine J_bipush (v := 6) dX8_copyFrom_31 (by decide +kernel) ?_
  refine J_icmp_ge (tgt := 54) dX8_copyFrom_33 (by decide) (fun _ => ?_) (fun q => absurd (by decide +kernel) q)
  refine J_aload_n dX8_copyFrom_54 rfl rfl ?_
  refine J_aload_n dX8_copyFrom_55 rfl rfl ?_
  refine J_get (v := .int 0) dX8_copyFrom_56 fl_X8_23 hk1 rfl ?_
  refine K_put (fs2 := [.ref 35, .ref 36, .ref 37, .int 0, .int (-1), .ref 44, .ref 45, .int 0, .ref 46, .ref 47, .int 0, .ref 48, .ref 49, .int 0]) dX8_copyFrom_59 fw_X8_23 hk34 (Nat.le_of_ble_eq_true rfl) (fun _ => ⟨rfl, rfl⟩) rfl ?_
  refine J_aload_n dX8_copyFrom_62 rfl rfl ?_
  refine J_aload_n dX8_copyFrom_63 rfl rfl ?_
  refine J_get (v := .int (-1)) dX8_copyFrom_64 fl_X8_27 hk1 rfl ?_
  refine K_put (fs2 := [.ref 35, .ref 36, .ref 37, .int 0, .int (-1), .ref 44, .ref 45, .int 0, .ref 46, .ref 47, .int 0, .ref 48, .ref 49, .int 0]) dX8_copyFrom_67 fw_X8_27 rfl (Nat.le_of_ble_eq_true rfl) (fun _ => ⟨rfl, rfl⟩) rfl ?_
  refine J_aload_n dX8_copyFrom_70 rfl rfl ?_
  refine J_get (v := .ref 11) dX8_copyFrom_71 fl_X8_30 hk1 rfl ?_
  refine J_iconst (v := 0) dX8_copyFrom_74 (by decide) ?_
  refine J_aload_n dX8_copyFrom_75 rfl rfl ?_
  refine J_get (v := .ref 44) dX8_copyFrom_76 fl_X8_30 rfl rfl ?_
  refine J_iconst (v := 0) dX8_copyFrom_79 (by decide) ?_
  refine J_bipush (v := 8) dX8_copyFrom_80 (by decide +kernel) ?_
  refine K_copy (sp' := 0) (dp' := 0) (n' := 8) dX8_copyFrom_82 (jt6 54 rfl rfl) (jt4 53 rfl rfl) (jt4 52 rfl rfl) (jt1 20 rfl rfl) hk11 hk44 (by decide +kernel) (by decide +kernel) (by decide +kernel) (by decide +kernel) (by decide +kernel) (by decide +kernel) (Nat.le_of_ble_eq_true rfl) (Nat.le_of_ble_eq_true rfl) (Nat.le_of_ble_eq_true rfl) (by decide +kernel) ?_
  refine J_aload_n dX8_copyFrom_85 rfl rfl ?_
  refine J_get (v := .ref 12) dX8_copyFrom_86 fl_X8_33 hk1 rfl ?_
  refine J_iconst (v := 0) dX8_copyFrom_89 (by decide) ?_
  refine J_aload_n dX8_copyFrom_90 rfl rfl ?_
  refine J_get (v := .ref 45) dX8_copyFrom_91 fl_X8_33 rfl rfl ?_
  refine J_iconst (v := 0) dX8_copyFrom_94 (by decide) ?_
  refine J_bipush (v := 8) dX8_copyFrom_95 (by decide +kernel) ?_
  refine K_copy (sp' := 0) (dp' := 0) (n' := 8) dX8_copyFrom_97 (jt6 54 rfl rfl) (jt4 53 rfl rfl) (jt4 52 rfl rfl) (jt1 20 rfl rfl) hk12 hk45 (by decide +kernel) (by decide +kernel) (by decide +kernel) (by decide +kernel) (by decide +kernel) (by decide +kernel) (Nat.le_of_ble_eq_true rfl) (Nat.le_of_ble_eq_true rfl) (Nat.le_of_ble_eq_true rfl) (by decide +kernel) ?_
  refine J_aload_n dX8_copyFrom_100 rfl rfl ?_
  refine J_aload_n dX8_copyFrom_101 rfl rfl ?_
  refine J_get (v := .int 0) dX8_copyFrom_102 fl_X8_36 hk1 rfl ?_
  refine K_put (fs2 := [.ref 35, .ref 36, .ref 37, .int 0, .int (-1), .ref 44, .ref 45, .int 0, .ref 46, .ref 47, .int 0, .ref 48, .ref 49, .int 0]) dX8_copyFrom_105 fw_X8_36 rfl (Nat.le_of_ble_eq_true rfl) (fun _ => ⟨rfl, rfl⟩) rfl ?_
  refine J_aload_n dX8_copyFrom_108 rfl rfl ?_
  refine J_get (v := .ref 13) dX8_copyFrom_109 fl_X8_39 hk1 rfl ?_
  refine J_iconst (v := 0) dX8_copyFrom_112 (by decide) ?_
  refine J_aload_n dX8_copyFrom_113 rfl rfl ?_
  refine J_get (v := .ref 46) dX8_copyFrom_114 fl_X8_39 rfl rfl ?_
  refine J_iconst (v := 0) dX8_copyFrom_117 (by decide) ?_
  refine J_bipush (v := 6) dX8_copyFrom_118 (by decide +kernel) ?_
  refine K_copy (sp' := 0) (dp' := 0) (n' := 6) dX8_copyFrom_120 (jt6 54 rfl rfl) (jt4 53 rfl rfl) (jt4 52 rfl rfl) (jt1 20 rfl rfl) hk13 hk46 (by decide +kernel) (by decide +kernel) (by decide +kernel) (by decide +kernel) (by decide +kernel) (by decide +kernel) (Nat.le_of_ble_eq_true rfl) (Nat.le_of_ble_eq_true rfl) (Nat.le_of_ble_eq_true rfl) (by decide +kernel) ?_
  refine J_aload_n dX8_copyFrom_123 rfl rfl ?_
  refine J_get (v := .ref 14) dX8_copyFrom_124 fl_X8_42 hk1 rfl ?_
  refine J_iconst (v := 0) dX8_copyFrom_127 (by decide) ?_
  refine J_aload_n dX8_copyFrom_128 rfl rfl ?_
  refine J_get (v := .ref 47) dX8_copyFrom_129 fl_X8_42 rfl rfl ?_
  refine J_iconst (v := 0) dX8_copyFrom_132 (by decide) ?_
  refine J_bipush (v := 6) dX8_copyFrom_133 (by decide +kernel) ?_
  refine K_copy (sp' := 0) (dp' := 0) (n' := 6) dX8_copyFrom_135 (jt6 54 rfl rfl) (jt4 53 rfl rfl) (jt4 52 rfl rfl) (jt1 20 rfl rfl) hk14 hk47 (by decide +kernel) (by decide +kernel) (by decide +kernel) (by decide +kernel) (by decide +kernel) (by decide +kernel) (Nat.le_of_ble_eq_true rfl) (Nat.le_of_ble_eq_true rfl) (Nat.le_of_ble_eq_true rfl) (by decide +kernel) ?_
  refine J_aload_n dX8_copyFrom_138 rfl rfl ?_
  refine J_aload_n dX8_copyFrom_139 rfl rfl ?_
  refine J_get (v := .int 0) dX8_copyFrom_140 fl_X8_45 hk1 rfl ?_
  refine K_put (fs2 := [.ref 35, .ref 36, .ref 37, .int 0, .int (-1), .ref 44, .ref 45, .int 0, .ref 46, .ref 47, .int 0, .ref 48, .ref 49, .int 0]) dX8_copyFrom_143 fw_X8_45 rfl (Nat.le_of_ble_eq_true rfl) (fun _ => ⟨rfl, rfl⟩) rfl ?_
  refine J_aload_n dX8_copyFrom_146 rfl rfl ?_
  refine J_get (v := .ref 15) dX8_copyFrom_147 fl_X8_48 hk1 rfl ?_
  refine J_iconst (v := 0) dX8_copyFrom_150 (by decide) ?_
  refine J_aload_n dX8_copyFrom_151 rfl rfl ?_
  refine J_get (v := .ref 48) dX8_copyFrom_152 fl_X8_48 rfl rfl ?_
  refine J_iconst (v := 0) dX8_copyFrom_155 (by decide) ?_
  refine J_bipush (v := 12) dX8_copyFrom_156 (by decide +kernel) ?_
  refine K_copy (sp' := 0) (dp' := 0) (n' := 12) dX8_copyFrom_158 (jt6 54 rfl rfl) (jt4 53 rfl rfl) (jt4 52 rfl rfl) (jt1 20 rfl rfl) hk15 hk48 (by decide +kernel) (by decide +kernel) (by decide +kernel) (by decide +kernel) (by decide +kernel) (by decide +kernel) (Nat.le_of_ble_eq_true rfl) (Nat.le_of_ble_eq_true rfl) (Nat.le_of_ble_eq_true rfl) (by decide +kernel) ?_
  refine J_aload_n dX8_copyFrom_161 rfl rfl ?_
  refine J_get (v := .ref 16) dX8_copyFrom_162 fl_X8_51 hk1 rfl ?_
  refine J_iconst (v := 0) dX8_copyFrom_165 (by decide) ?_
  refine J_aload_n dX8_copyFrom_166 rfl rfl ?_
  refine J_get (v := .ref 49) dX8_copyFrom_167 fl_X8_51 rfl rfl ?_
  refine J_iconst (v := 0) dX8_copyFrom_170 (by decide) ?_
  refine J_bipush (v := 12) dX8_copyFrom_171 (by decide +kernel) ?_
  refine K_copy (sp' := 0) (dp' := 0) (n' := 12) dX8_copyFrom_173 (jt6 54 rfl rfl) (jt4 53 rfl rfl) (jt4 52 rfl rfl) (jt1 20 rfl rfl) hk16 hk49 (by decide +kernel) (by decide +kernel) (by decide +kernel) (by decide +kernel) (by decide +kernel) (by decide +kernel) (Nat.le_of_ble_eq_true rfl) (Nat.le_of_ble_eq_true rfl) (Nat.le_of_ble_eq_true rfl) (by decide +kernel) ?_
  refine J_aload_n dX8_copyFrom_176 rfl rfl ?_
  refine J_aload_n dX8_copyFrom_177 rfl rfl ?_
  refine J_get (v := .int 0) dX8_copyFrom_178 fl_X8_54 hk1 rfl ?_
  refine K_put (fs2 := [.ref 35, .ref 36, .ref 37, .int 0, .int (-1), .ref 44, .ref 45, .int 0, .ref 46, .ref 47, .int 0, .ref 48, .ref 49, .int 0]) dX8_copyFrom_181 fw_X8_54 rfl (Nat.le_of_ble_eq_true rfl) (fun _ => ⟨rfl, rfl⟩) rfl ?_
  refine J_mask (L2 := [(34, .inr (8, [.ref 35, .ref 36, .ref 37, .int 0, .int (-1), .ref 44, .ref 45, .int 0, .ref 46, .ref 47, .int 0, .ref 48, .ref 49, .int 0])), (49, .inl (0, 12, .inl (va_cpy (fun _ => 0) (fun _ => 0) 0 0 12))), (48, .inl (0, 12, .inl (va_cpy (fun _ => 0) (fun _ => 0) 0 0 12))), (47, .inl (0, 6, .inl (va_cpy (fun _ => 0) (fun _ => 0) 0 0 6))), (46, .inl (0, 6, .inl (va_cpy (fun _ => 0) (fun _ => 0) 0 0 6))), (45, .inl (0, 8, .inl (va_cpy (fun _ => 0) (fun _ => 0) 0 0 8))), (44, .inl (0, 8, .inl (va_cpy (fun _ => 0) (fun _ => 0) 0 0 8))), (37, .inl (5, 6, .inr (.inr (.inr (.inr (va_up (va_up (va_up (va_up (va_up (va_up (fun i => if i < 6 then some (37 + 1 + i) else none) 0 (some 5)) 1 (some 6)) 2 (some 7)) 3 (some 8)) 4 (some 9)) 5 (some 10))))))), (36, .inl (0, 2, .inl (va_cpy (fun _ => 0) (fun _ => 0) 0 0 2))), (35, .inl (0, 5, .inl (va_cpy (fun _ => 0) (fun _ => 0) 0 0 5)))]) (ks := [34, 49, 48, 34, 47, 46, 34, 45, 44, 34, 34, 37, 37, 37, 37, 37, 37, 36, 35]) [true, true, true, false, true, true, false, true, true, false, false, true, false, false, false, false, false, true, true] rfl (by decide +kernel) rfl ?_
  exact J_vret dX8_copyFrom_184 rfl (Nat.le_of_ble_eq_true rfl) (Nat.le_of_ble_eq_true rfl) ⟨rfl, rfl⟩
set_option maxHeartbeats 4000000 in
set_option maxRecDepth 100000 in
theorem c_X11_image_3 {l : Launch} {G : jG} {nh : Nat} {fh : Nat → Option va_E} (hk0 : fh 0 = some (.inr (11, [.ref 1, .ref 17, .ref 50, .ref 51, .ref 54, .ref 57, .ref 65, .ref 75, .ref 81, .ref 85, .ref 88, .ref 93, .ref 96, .int 0, .int (-1), .ref 97, .int 0]))) (hk1 : fh 1 = some (.inr (8, [.ref 2, .ref 3, .ref 4, .int 0, .int (-1), .ref 11, .ref 12, .int 0, .ref 13, .ref 14, .int 0, .ref 15, .ref 16, .int 0]))) (hk2 : fh 2 = some (.inl (0, 5, .inl (fun _ => 0)))) (hk3 : fh 3 = some (.inl (0, 2, .inl (fun _ => 0)))) (hk4 : fh 4 = some (.inl (5, 6, .inr (.inr (.inr (.inr (fun i => if i < 6 then some (4 + 1 + i) else none))))))) (hk5 : fh 5 = some (.inl (0, 0, .inl (fun _ => 0)))) (hk6 : fh 6 = some (.inl (0, 0, .inl (fun _ => 0)))) (hk7 : fh 7 = some (.inl (0, 0, .inl (fun _ => 0)))) (hk8 : fh 8 = some (.inl (0, 0, .inl (fun _ => 0)))) (hk9 : fh 9 = some (.inl (0, 0, .inl (fun _ => 0)))) (hk10 : fh 10 = some (.inl (0, 0, .inl (fun _ => 0)))) (hk11 : fh 11 = some (.inl (0, 8, .inl (fun _ => 0)))) (hk12 : fh 12 = some (.inl (0, 8, .inl (fun _ => 0)))) (hk13 : fh 13 = some (.inl (0, 6, .inl (fun _ => 0)))) (hk14 : fh 14 = some (.inl (0, 6, .inl (fun _ => 0)))) (hk15 : fh 15 = some (.inl (0, 12, .inl (fun _ => 0)))) (hk16 : fh 16 = some (.inl (0, 12, .inl (fun _ => 0)))) (hk17 : fh 17 = some (.inl (4, 2, .inr (.inr (.inr (.inr (va_up (va_up (fun _ => none) 0 (some 18)) 1 (some 34)))))))) (hk34 : fh 34 = some (.inr (8, [.ref 35, .ref 36, .ref 37, .int 0, .int (-1), .ref 44, .ref 45, .int 0, .ref 46, .ref 47, .int 0, .ref 48, .ref 49, .int 0]))) (hk35 : fh 35 = some (.inl (0, 5, .inl (fun _ => 0)))) (hk36 : fh 36 = some (.inl (0, 2, .inl (fun _ => 0)))) (hk37 : fh 37 = some (.inl (5, 6, .inr (.inr (.inr (.inr (fun i => if i < 6 then some (37 + 1 + i) else none))))))) (hk44 : fh 44 = some (.inl (0, 8, .inl (fun _ => 0)))) (hk45 : fh 45 = some (.inl (0, 8, .inl (fun _ => 0)))) (hk46 : fh 46 = some (.inl (0, 6, .inl (fun _ => 0)))) (hk47 : fh 47 = some (.inl (0, 6, .inl (fun _ => 0)))) (hk48 : fh 48 = some (.inl (0, 12, .inl (fun _ => 0)))) (hk49 : fh 49 = some (.inl (0, 12, .inl (fun _ => 0)))) (hk50 : fh 50 = some (.inl (2, 2, .inl (fun _ => 0)))) : JM l G yX11_image MX11_image { frames := 2, cells := 0, slots := 0, locals := 82 } [.ref 0, .int 1] (nh, fh) (fun r h9 => r = some (.int 0) ∧ h9 = (nh, hc fh [(0, .inr (11, [.ref 1, .ref 17, .ref 50, .ref 51, .ref 54, .ref 57, .ref 65, .ref 75, .ref 81, .ref 85, .ref 88, .ref 93, .ref 96, .int 0, .int (-1), .ref 97, .int 0])), (50, .inl (2, 2, .inl (upd (fun _ => 0) 1 1))), (34, .inr (8, [.ref 35, .ref 36, .ref 37, .int 0, .int (-1), .ref 44, .ref 45, .int 0, .ref 46, .ref 47, .int 0, .ref 48, .ref 49, .int 0])), (49, .inl (0, 12, .inl (va_cpy (fun _ => 0) (fun _ => 0) 0 0 12))), (48, .inl (0, 12, .inl (va_cpy (fun _ => 0) (fun _ => 0) 0 0 12))), (47, .inl (0, 6, .inl (va_cpy (fun _ => 0) (fun _ => 0) 0 0 6))), (46, .inl (0, 6, .inl (va_cpy (fun _ => 0) (fun _ => 0) 0 0 6))), (45, .inl (0, 8, .inl (va_cpy (fun _ => 0) (fun _ => 0) 0 0 8))), (44, .inl (0, 8, .inl (va_cpy (fun _ => 0) (fun _ => 0) 0 0 8))), (37, .inl (5, 6, .inr (.inr (.inr (.inr (va_up (va_up (va_up (va_up (va_up (va_up (fun i => if i < 6 then some (37 + 1 + i) else none) 0 (some 5)) 1 (some 6)) 2 (some 7)) 3 (some 8)) 4 (some 9)) 5 (some 10))))))), (36, .inl (0, 2, .inl (va_cpy (fun _ => 0) (fun _ => 0) 0 0 2))), (35, .inl (0, 5, .inl (va_cpy (fun _ => 0) (fun _ => 0) 0 0 5)))])) := by
  refine JM.of (by decide) rfl (fun h => by cases h) (Nat.le_of_ble_eq_true rfl) ⟨0, rfl⟩ ?_
  refine J_hc0 (J_ls (ls2 := [some (.ref 0), some (.int 1)]) rfl ?_)
  refine J_iload_n dX11_image_0 rfl rfl ?_
  refine J_if_lt (tgt := 9) dX11_image_1 (by decide) (fun q => absurd q (by decide +kernel)) (fun _ => ?_)
  refine J_iload_n dX11_image_4 rfl rfl ?_
  refine J_iconst (v := 2) dX11_image_5 (by decide) ?_
  refine J_icmp_lt (tgt := 15) dX11_image_6 (by decide) (fun _ => ?_) (fun q => absurd (by decide +kernel) q)
  refine J_aload_n dX11_image_15 rfl rfl ?_
  refine J_get (v := .ref 17) dX11_image_16 fl_X11_16 hk0 rfl ?_
  refine J_iload_n dX11_image_19 rfl rfl ?_
  refine J_aald (i2 := 1) (r := 34) dX11_image_20 hk17 rfl rfl (jin (by decide +kernel)) (by decide +kernel) rfl ?_
  refine J_aload_n dX11_image_21 rfl rfl ?_
  refine J_get (v := .ref 1) dX11_image_22 fl_X11_10 hk0 rfl ?_
  refine J_callV (st := []) dX11_image_25 cv_X11_314 (c_X8_copyFrom_2 hk1 hk2 hk3 hk4 hk5 hk6 hk7 hk8 hk9 hk10 hk11 hk12 hk13 hk14 hk15 hk16 hk34 hk35 hk36 hk37 hk44 hk45 hk46 hk47 hk48 hk49) hk34 rfl rfl (Nat.le_of_ble_eq_true rfl) ⟨(Nat.le_of_ble_eq_true rfl), (Nat.le_of_ble_eq_true rfl)⟩ ⟨(Nat.le_of_ble_eq_true rfl), (Nat.le_of_ble_eq_true rfl)⟩ (fun r h9 hp => ?_)
  obtain ⟨rfl, rfl⟩ := hp
  refine J_nf (nh2 := nh) (ck2 := 0) (sk2 := 0) (st2 := []) rfl rfl rfl rfl ?_
  refine J_app (L3 := [(34, .inr (8, [.ref 35, .ref 36, .ref 37, .int 0, .int (-1), .ref 44, .ref 45, .int 0, .ref 46, .ref 47, .int 0, .ref 48, .ref 49, .int 0])), (49, .inl (0, 12, .inl (va_cpy (fun _ => 0) (fun _ => 0) 0 0 12))), (48, .inl (0, 12, .inl (va_cpy (fun _ => 0) (fun _ => 0) 0 0 12))), (47, .inl (0, 6, .inl (va_cpy (fun _ => 0) (fun _ => 0) 0 0 6))), (46, .inl (0, 6, .inl (va_cpy (fun _ => 0) (fun _ => 0) 0 0 6))), (45, .inl (0, 8, .inl (va_cpy (fun _ => 0) (fun _ => 0) 0 0 8))), (44, .inl (0, 8, .inl (va_cpy (fun _ => 0) (fun _ => 0) 0 0 8))), (37, .inl (5, 6, .inr (.inr (.inr (.inr (va_up (va_up (va_up (va_up (va_up (va_up (fun i => if i < 6 then some (37 + 1 + i) else none) 0 (some 5)) 1 (some 6)) 2 (some 7)) 3 (some 8)) 4 (some 9)) 5 (some 10))))))), (36, .inl (0, 2, .inl (va_cpy (fun _ => 0) (fun _ => 0) 0 0 2))), (35, .inl (0, 5, .inl (va_cpy (fun _ => 0) (fun _ => 0) 0 0 5)))]) rfl ?_
  refine J_aload_n dX11_image_28 rfl rfl ?_
  refine J_get (v := .ref 50) dX11_image_29 fl_X11_20 hk0 rfl ?_
  refine J_iload_n dX11_image_32 rfl rfl ?_
  refine J_iconst (v := 1) dX11_image_33 (by decide) ?_
  refine K_zast (i2 := 1) (y := 1) dX11_image_34 hk50 rfl (jin (by decide +kernel)) (by decide +kernel) (by decide +kernel) ?_
  refine J_aload_n dX11_image_35 rfl rfl ?_
  refine J_iconst (v := 0) dX11_image_36 (by decide) ?_
  refine J_callV (st := []) dX11_image_37 cv_X11_129 (c_X11_accept_1 hk0) hk0 rfl rfl (Nat.le_of_ble_eq_true rfl) ⟨(Nat.le_of_ble_eq_true rfl), (Nat.le_of_ble_eq_true rfl)⟩ ⟨(Nat.le_of_ble_eq_true rfl), (Nat.le_of_ble_eq_true rfl)⟩ (fun r h9 hp => ?_)
  obtain ⟨rfl, rfl⟩ := hp
  refine J_nf (nh2 := nh) (ck2 := 0) (sk2 := 0) (st2 := [.int 0]) rfl rfl rfl rfl ?_
  refine J_app (L3 := [(0, .inr (11, [.ref 1, .ref 17, .ref 50, .ref 51, .ref 54, .ref 57, .ref 65, .ref 75, .ref 81, .ref 85, .ref 88, .ref 93, .ref 96, .int 0, .int (-1), .ref 97, .int 0])), (50, .inl (2, 2, .inl (upd (fun _ => 0) 1 1))), (34, .inr (8, [.ref 35, .ref 36, .ref 37, .int 0, .int (-1), .ref 44, .ref 45, .int 0, .ref 46, .ref 47, .int 0, .ref 48, .ref 49, .int 0])), (49, .inl (0, 12, .inl (va_cpy (fun _ => 0) (fun _ => 0) 0 0 12))), (48, .inl (0, 12, .inl (va_cpy (fun _ => 0) (fun _ => 0) 0 0 12))), (47, .inl (0, 6, .inl (va_cpy (fun _ => 0) (fun _ => 0) 0 0 6))), (46, .inl (0, 6, .inl (va_cpy (fun _ => 0) (fun _ => 0) 0 0 6))), (45, .inl (0, 8, .inl (va_cpy (fun _ => 0) (fun _ => 0) 0 0 8))), (44, .inl (0, 8, .inl (va_cpy (fun _ => 0) (fun _ => 0) 0 0 8))), (37, .inl (5, 6, .inr (.inr (.inr (.inr (va_up (va_up (va_up (va_up (va_up (va_up (fun i => if i < 6 then some (37 + 1 + i) else none) 0 (some 5)) 1 (some 6)) 2 (some 7)) 3 (some 8)) 4 (some 9)) 5 (some 10))))))), (36, .inl (0, 2, .inl (va_cpy (fun _ => 0) (fun _ => 0) 0 0 2))), (35, .inl (0, 5, .inl (va_cpy (fun _ => 0) (fun _ => 0) 0 0 5)))]) rfl ?_
  exact J_iret dX11_image_40 rfl rfl (Nat.le_of_ble_eq_true rfl) (Nat.le_of_ble_eq_true rfl) ⟨rfl, rfl⟩
set_option maxHeartbeats 4000000 in
set_option maxRecDepth 100000 in
theorem c_X12_image_loop1 {l : Launch} {G : jG} {nh : Nat} {fh : Nat → Option va_E} (hk98 : fh 98 = some (.inr (12, [.int 0, .int 0, .ref 99, .ref 100, .ref 101, .ref 102, .ref 103, .ref 104, .ref 105, .int 0, .int (-1), .ref 106, .ref 107, .ref 108, .int 0, .int 0, .int 0, .int 0, .int 0, .int 0, .int 0, .ref 109, .int 0, .int 0, .ref 110, .ref 111, .ref 112, .ref 113, .ref 114, .ref 115, .ref 116, .ref 117, .int 0, .int 0, .int (-1), .int (-1), .ref 118, .ref 119, .ref 120, .ref 121, .ref 122, .ref 123, .ref 124, .ref 125, .ref 126, .ref 127, .ref 128, .ref 129, .int 0, .ref 130, .ref 131, .ref 132, .ref 133, .ref 134, .int 0, .int 0]))) (hk100 : fh 100 = some (.inl (0, 4870, .inl (upd (fun _ => 0) 63 (-1))))) (hk101 : fh 101 = some (.inl (0, 9740, .inl (fun _ => 0)))) (hk102 : fh 102 = some (.inl (2, 2, .inl (fun _ => 0)))) : JM l G yX12_image MX12_image { frames := 1, cells := 0, slots := 0, locals := 22 } [.ref 98, .int 1] (nh, fh) (fun r h9 => r = some (.int 0) ∧ ∃ g : Nat → Int32, h9 = (nh, hc fh [(98, .inr (12, [.int 0, .int 1, .ref 99, .ref 100, .ref 101, .ref 102, .ref 103, .ref 104, .ref 105, .int 0, .int (-1), .ref 106, .ref 107, .ref 108, .int 0, .int 0, .int 0, .int 0, .int 0, .int 0, .int 0, .ref 109, .int 0, .int 0, .ref 110, .ref 111, .ref 112, .ref 113, .ref 114, .ref 115, .ref 116, .ref 117, .int 0, .int 0, .int (-1), .int (-1), .ref 118, .ref 119, .ref 120, .ref 121, .ref 122, .ref 123, .ref 124, .ref 125, .ref 126, .ref 127, .ref 128, .ref 129, .int 0, .ref 130, .ref 131, .ref 132, .ref 133, .ref 134, .int 0, .int 0])), (102, .inl (2, 2, .inl (upd (fun _ => 0) 1 1))), (101, .inl (0, 9740, .inl g))])) := by
  refine JM.of (by decide) rfl (fun h => by cases h) (Nat.le_of_ble_eq_true rfl) ⟨1, rfl⟩ ?_
  refine J_hc0 (J_ls (ls2 := [some (.ref 98), some (.int 1), none]) rfl ?_)
  refine J_iload_n dX12_image_0 rfl rfl ?_
  refine J_iconst (v := 0) dX12_image_1 (by decide) ?_
  refine J_iconst (v := 1) dX12_image_2 (by decide) ?_
  refine J_callS (st := []) dX12_image_3 cs_X12_138 (c_X12_lies_26 ) rfl rfl (Nat.le_of_ble_eq_true rfl) ⟨(Nat.le_of_ble_eq_true rfl), (Nat.le_of_ble_eq_true rfl)⟩ ⟨(Nat.le_of_ble_eq_true rfl), (Nat.le_of_ble_eq_true rfl)⟩ (fun r h9 hp => ?_)
  obtain ⟨rfl, rfl⟩ := hp
  refine J_nf (nh2 := nh) (ck2 := 0) (sk2 := 0) (st2 := [.int 1]) rfl rfl rfl rfl ?_
  refine J_if_ne (tgt := 15) dX12_image_6 (by decide) (fun _ => ?_) (fun q => absurd q (by decide +kernel))
  refine J_iconst (v := 0) dX12_image_15 (by decide) ?_
  refine J_istore_n dX12_image_16 rfl (Nat.le_of_ble_eq_true rfl) rfl ?_
  have loop : ∀ (r j : Nat) (i : Int32) (g : Nat → Int32), j + r = 4870 → i = nI j → J l G MX12_image { frames := 1, cells := 0, slots := 0, locals := 22 } jE (jMQ G { frames := 1, cells := 0, slots := 0, locals := 22 } (fun r h9 => r = some (.int 0) ∧ ∃ g : Nat → Int32, h9 = (nh, hc fh [(98, .inr (12, [.int 0, .int 1, .ref 99, .ref 100, .ref 101, .ref 102, .ref 103, .ref 104, .ref 105, .int 0, .int (-1), .ref 106, .ref 107, .ref 108, .int 0, .int 0, .int 0, .int 0, .int 0, .int 0, .int 0, .ref 109, .int 0, .int 0, .ref 110, .ref 111, .ref 112, .ref 113, .ref 114, .ref 115, .ref 116, .ref 117, .int 0, .int 0, .int (-1), .int (-1), .ref 118, .ref 119, .ref 120, .ref 121, .ref 122, .ref 123, .ref 124, .ref 125, .ref 126, .ref 127, .ref 128, .ref 129, .int 0, .ref 130, .ref 131, .ref 132, .ref 133, .ref 134, .int 0, .int 0])), (102, .inl (2, 2, .inl (upd (fun _ => 0) 1 1))), (101, .inl (0, 9740, .inl g))]))) (nh, hc fh [(101, .inl (0, 9740, .inl g))]) 0 0 17 [some (.ref 98), some (.int 1), some (.int i)] [] := by
    intro r
    induction r with
    | zero =>
      intro j i g hj hi
      refine J_iload_n dX12_image_17 rfl rfl ?_
      refine J_sipush (v := 4870) dX12_image_18 (by decide +kernel) ?_
      refine J_icmp_ge (tgt := 48) dX12_image_21 (by decide) (fun _ => ?_) (fun q => absurd (by rw [hi]; exact nI_le (a := 4870) (by omega) (by omega)) q)
      refine J_aload_n dX12_image_48 rfl rfl ?_
      refine J_get (v := .ref 102) dX12_image_49 fl_X12_26 hk98 rfl ?_
      refine J_iload_n dX12_image_52 rfl rfl ?_
      refine J_iconst (v := 1) dX12_image_53 (by decide) ?_
      refine K_zast (i2 := 1) (y := 1) dX12_image_54 hk102 rfl (jin (by decide +kernel)) (by decide +kernel) (by decide +kernel) ?_
      refine J_aload_n dX12_image_55 rfl rfl ?_
      refine J_iconst (v := 0) dX12_image_56 (by decide) ?_
      refine J_callV (st := []) dX12_image_57 cv_X12_146 (c_X12_good_1 hk98) hk98 rfl rfl (Nat.le_of_ble_eq_true rfl) ⟨(Nat.le_of_ble_eq_true rfl), (Nat.le_of_ble_eq_true rfl)⟩ ⟨(Nat.le_of_ble_eq_true rfl), (Nat.le_of_ble_eq_true rfl)⟩ (fun r h9 hp => ?_)
      obtain ⟨rfl, rfl⟩ := hp
      refine J_nf (nh2 := nh) (ck2 := 0) (sk2 := 0) (st2 := [.int 0]) rfl rfl rfl rfl ?_
      refine J_app (L3 := [(98, .inr (12, [.int 0, .int 1, .ref 99, .ref 100, .ref 101, .ref 102, .ref 103, .ref 104, .ref 105, .int 0, .int (-1), .ref 106, .ref 107, .ref 108, .int 0, .int 0, .int 0, .int 0, .int 0, .int 0, .int 0, .ref 109, .int 0, .int 0, .ref 110, .ref 111, .ref 112, .ref 113, .ref 114, .ref 115, .ref 116, .ref 117, .int 0, .int 0, .int (-1), .int (-1), .ref 118, .ref 119, .ref 120, .ref 121, .ref 122, .ref 123, .ref 124, .ref 125, .ref 126, .ref 127, .ref 128, .ref 129, .int 0, .ref 130, .ref 131, .ref 132, .ref 133, .ref 134, .int 0, .int 0])), (102, .inl (2, 2, .inl (upd (fun _ => 0) 1 1))), (101, .inl (0, 9740, .inl g))]) rfl ?_
      exact J_iret dX12_image_60 rfl rfl (Nat.le_of_ble_eq_true rfl) (Nat.le_of_ble_eq_true rfl) ⟨rfl, g, rfl⟩
    | succ r ih =>
      intro j i g hj hi
      refine J_iload_n dX12_image_17 rfl rfl ?_
      refine J_sipush (v := 4870) dX12_image_18 (by decide +kernel) ?_
      refine J_icmp_ge (tgt := 48) dX12_image_21 (by decide) (fun q => absurd q (by rw [hi]; exact nI_ge (b := 4870) (by omega) (by omega))) (fun _ => ?_)
      refine J_aload_n dX12_image_24 rfl rfl ?_
      refine J_get (v := .ref 101) dX12_image_25 fl_X12_23 hk98 rfl ?_
      refine J_sipush (v := 4870) dX12_image_28 (by decide +kernel) ?_
      refine J_iload_n dX12_image_31 rfl rfl ?_
      refine J_imul (z := 4870) dX12_image_32 (by decide +kernel) ?_
      refine J_iload_n dX12_image_33 rfl rfl ?_
      refine J_iadd (z := nI (4870 + j)) dX12_image_34 (by rw [hi]; exact nI_add 4870 j) ?_
      refine J_aload_n dX12_image_35 rfl rfl ?_
      refine J_get (v := .ref 100) dX12_image_36 fl_X12_20 hk98 rfl ?_
      refine J_iload_n dX12_image_39 rfl rfl ?_
      refine J_iald (i2 := j) (v := (upd (fun _ => 0) 63 (-1)) j) dX12_image_40 hk100 rfl (by rw [hi]; exact vp_in_nI (by omega) (by omega)) (by rw [hi]; exact nI_clamp (by omega)) rfl ?_
      refine K_iast (i2 := 4870 + j) dX12_image_41 rfl rfl (vp_in_nI (by omega) (by omega)) (nI_clamp (by omega)) ?_
      refine J_iinc (v := i + 1) dX12_image_42 rfl rfl (Nat.le_of_ble_eq_true rfl) rfl ?_
      refine J_ls (ls2 := [some (.ref 98), some (.int 1), some (.int (i + 1))]) rfl ?_
      refine J_goto (tgt := 17) dX12_image_45 (by decide) ?_
      refine J_mask (L2 := [(101, .inl (0, 9740, .inl (upd g (4870 + j) ((upd (fun _ => 0) 63 (-1)) j))))]) (ks := [101, 101]) [true, false] rfl (by decide +kernel) rfl ?_
      exact ih (j + 1) (i + 1) _ (by omega) (by rw [hi]; exact nI_1 j)
  refine J_hp (fh2 := hc fh [(101, .inl (0, 9740, .inl (fun _ => 0)))]) ?_ (loop 4870 0 0 _ (by omega) (by decide +kernel))
  funext x
  show fh x = hu fh 101 _ x
  by_cases hx : x = 101
  · rw [hx, hu_same, hk101]
  · rw [hu_ne hx]
set_option maxHeartbeats 4000000 in
set_option maxRecDepth 100000 in
theorem c_X11_image_4 {l : Launch} {G : jG} {nh : Nat} {fh : Nat → Option va_E} (a1 : Int32) (b_a1 : 2 ≤ a1.toInt ∧ a1.toInt ≤ 2147483647) (hk0 : fh 0 = some (.inr (11, [.ref 1, .ref 17, .ref 50, .ref 51, .ref 54, .ref 57, .ref 65, .ref 75, .ref 81, .ref 85, .ref 88, .ref 93, .ref 96, .int 0, .int (-1), .ref 97, .int 0]))) (hk96 : fh 96 = some (.inl (0, 5, .inl (fun _ => 0)))) : JM l G yX11_image MX11_image { frames := 2, cells := 0, slots := 0, locals := 41 } [.ref 0, .int a1] (nh, fh) (fun r h9 => r = some (.int (-1)) ∧ h9 = (nh, hc fh [(96, .inl (0, 5, .inl (upd (fun _ => 0) 0 1))), (0, .inr (11, [.ref 1, .ref 17, .ref 50, .ref 51, .ref 54, .ref 57, .ref 65, .ref 75, .ref 81, .ref 85, .ref 88, .ref 93, .ref 96, .int (-1), .int (-1), .ref 97, .int 0]))])) := by
  refine JM.of (by decide) rfl (fun h => by cases h) (Nat.le_of_ble_eq_true rfl) ⟨0, rfl⟩ ?_
  refine J_hc0 (J_ls (ls2 := [some (.ref 0), some (.int a1)]) rfl ?_)
  refine J_iload_n dX11_image_0 rfl rfl ?_
  refine J_if_lt (tgt := 9) dX11_image_1 (by decide) (fun q => absurd q (by have hb0 := b_a1; simp only [fa_lt, fa_le, fa_eq, kc_0]; omega)) (fun _ => ?_)
  refine J_iload_n dX11_image_4 rfl rfl ?_
  refine J_iconst (v := 2) dX11_image_5 (by decide) ?_
  refine J_icmp_lt (tgt := 15) dX11_image_6 (by decide) (fun q => absurd q (by have hb0 := b_a1; simp only [fa_lt, fa_le, fa_eq, kc_2]; omega)) (fun _ => ?_)
  refine J_aload_n dX11_image_9 rfl rfl ?_
  refine J_iconst (v := (-1)) dX11_image_10 (by decide) ?_
  refine J_callV (st := []) dX11_image_11 cv_X11_118 (c_X11_refuse_1 hk0 hk96) hk0 rfl rfl (Nat.le_of_ble_eq_true rfl) ⟨(Nat.le_of_ble_eq_true rfl), (Nat.le_of_ble_eq_true rfl)⟩ ⟨(Nat.le_of_ble_eq_true rfl), (Nat.le_of_ble_eq_true rfl)⟩ (fun r h9 hp => ?_)
  obtain ⟨rfl, rfl⟩ := hp
  refine J_nf (nh2 := nh) (ck2 := 0) (sk2 := 0) (st2 := [.int (-1)]) rfl rfl rfl rfl ?_
  refine J_app (L3 := [(96, .inl (0, 5, .inl (upd (fun _ => 0) 0 1))), (0, .inr (11, [.ref 1, .ref 17, .ref 50, .ref 51, .ref 54, .ref 57, .ref 65, .ref 75, .ref 81, .ref 85, .ref 88, .ref 93, .ref 96, .int (-1), .int (-1), .ref 97, .int 0]))]) rfl ?_
  exact J_iret dX11_image_14 rfl rfl (Nat.le_of_ble_eq_true rfl) (Nat.le_of_ble_eq_true rfl) ⟨rfl, rfl⟩
set_option maxHeartbeats 4000000 in
set_option maxRecDepth 100000 in
theorem c_X12_image_2 {l : Launch} {G : jG} {nh : Nat} {fh : Nat → Option va_E} (a1 : Int32) (b_a1 : 2 ≤ a1.toInt ∧ a1.toInt ≤ 2147483647) (hk98 : fh 98 = some (.inr (12, [.int 0, .int 0, .ref 99, .ref 100, .ref 101, .ref 102, .ref 103, .ref 104, .ref 105, .int 0, .int (-1), .ref 106, .ref 107, .ref 108, .int 0, .int 0, .int 0, .int 0, .int 0, .int 0, .int 0, .ref 109, .int 0, .int 0, .ref 110, .ref 111, .ref 112, .ref 113, .ref 114, .ref 115, .ref 116, .ref 117, .int 0, .int 0, .int (-1), .int (-1), .ref 118, .ref 119, .ref 120, .ref 121, .ref 122, .ref 123, .ref 124, .ref 125, .ref 126, .ref 127, .ref 128, .ref 129, .int 0, .ref 130, .ref 131, .ref 132, .ref 133, .ref 134, .int 0, .int 0]))) (hk99 : fh 99 = some (.inl (0, 7, .inl (fun _ => 0)))) : JM l G yX12_image MX12_image { frames := 1, cells := 0, slots := 0, locals := 22 } [.ref 98, .int a1] (nh, fh) (fun r h9 => r = some (.int (-1)) ∧ h9 = (nh, hc fh [(99, .inl (0, 7, .inl (upd (fun _ => 0) 1 1))), (98, .inr (12, [.int (-1), .int 0, .ref 99, .ref 100, .ref 101, .ref 102, .ref 103, .ref 104, .ref 105, .int 0, .int (-1), .ref 106, .ref 107, .ref 108, .int 0, .int 0, .int 0, .int 0, .int 0, .int 0, .int 0, .ref 109, .int 0, .int 0, .ref 110, .ref 111, .ref 112, .ref 113, .ref 114, .ref 115, .ref 116, .ref 117, .int 0, .int 0, .int (-1), .int (-1), .ref 118, .ref 119, .ref 120, .ref 121, .ref 122, .ref 123, .ref 124, .ref 125, .ref 126, .ref 127, .ref 128, .ref 129, .int 0, .ref 130, .ref 131, .ref 132, .ref 133, .ref 134, .int 0, .int 0]))])) := by
  refine JM.of (by decide) rfl (fun h => by cases h) (Nat.le_of_ble_eq_true rfl) ⟨1, rfl⟩ ?_
  refine J_hc0 (J_ls (ls2 := [some (.ref 98), some (.int a1), none]) rfl ?_)
  refine J_iload_n dX12_image_0 rfl rfl ?_
  refine J_iconst (v := 0) dX12_image_1 (by decide) ?_
  refine J_iconst (v := 1) dX12_image_2 (by decide) ?_
  refine J_callS (st := []) dX12_image_3 cs_X12_138 (c_X12_lies_25 (a1) b_a1) rfl rfl (Nat.le_of_ble_eq_true rfl) ⟨(Nat.le_of_ble_eq_true rfl), (Nat.le_of_ble_eq_true rfl)⟩ ⟨(Nat.le_of_ble_eq_true rfl), (Nat.le_of_ble_eq_true rfl)⟩ (fun r h9 hp => ?_)
  obtain ⟨rfl, rfl⟩ := hp
  refine J_nf (nh2 := nh) (ck2 := 0) (sk2 := 0) (st2 := [.int 0]) rfl rfl rfl rfl ?_
  refine J_if_ne (tgt := 15) dX12_image_6 (by decide) (fun q => absurd (by decide +kernel) q) (fun _ => ?_)
  refine J_aload_n dX12_image_9 rfl rfl ?_
  refine J_iconst (v := (-1)) dX12_image_10 (by decide) ?_
  refine J_callV (st := []) dX12_image_11 cv_X12_142 (c_X12_refuses_1 hk98 hk99) hk98 rfl rfl (Nat.le_of_ble_eq_true rfl) ⟨(Nat.le_of_ble_eq_true rfl), (Nat.le_of_ble_eq_true rfl)⟩ ⟨(Nat.le_of_ble_eq_true rfl), (Nat.le_of_ble_eq_true rfl)⟩ (fun r h9 hp => ?_)
  obtain ⟨rfl, rfl⟩ := hp
  refine J_nf (nh2 := nh) (ck2 := 0) (sk2 := 0) (st2 := [.int (-1)]) rfl rfl rfl rfl ?_
  refine J_app (L3 := [(99, .inl (0, 7, .inl (upd (fun _ => 0) 1 1))), (98, .inr (12, [.int (-1), .int 0, .ref 99, .ref 100, .ref 101, .ref 102, .ref 103, .ref 104, .ref 105, .int 0, .int (-1), .ref 106, .ref 107, .ref 108, .int 0, .int 0, .int 0, .int 0, .int 0, .int 0, .int 0, .ref 109, .int 0, .int 0, .ref 110, .ref 111, .ref 112, .ref 113, .ref 114, .ref 115, .ref 116, .ref 117, .int 0, .int 0, .int (-1), .int (-1), .ref 118, .ref 119, .ref 120, .ref 121, .ref 122, .ref 123, .ref 124, .ref 125, .ref 126, .ref 127, .ref 128, .ref 129, .int 0, .ref 130, .ref 131, .ref 132, .ref 133, .ref 134, .int 0, .int 0]))]) rfl ?_
  exact J_iret dX12_image_14 rfl rfl (Nat.le_of_ble_eq_true rfl) (Nat.le_of_ble_eq_true rfl) ⟨rfl, rfl⟩
set_option maxHeartbeats 4000000 in
set_option maxRecDepth 100000 in
theorem c_X11_back_1 {l : Launch} {G : jG} {nh : Nat} {fh : Nat → Option va_E} (a1 : Int32) (b_a1 : (-2147483648) ≤ a1.toInt ∧ a1.toInt ≤ (-1)) (hk0 : fh 0 = some (.inr (11, [.ref 1, .ref 17, .ref 50, .ref 51, .ref 54, .ref 57, .ref 65, .ref 75, .ref 81, .ref 85, .ref 88, .ref 93, .ref 96, .int 0, .int (-1), .ref 97, .int 0]))) (hk96 : fh 96 = some (.inl (0, 5, .inl (fun _ => 0)))) : JM l G yX11_back MX11_back { frames := 2, cells := 0, slots := 0, locals := 41 } [.ref 0, .int a1] (nh, fh) (fun r h9 => r = some (.int (-1)) ∧ h9 = (nh, hc fh [(96, .inl (0, 5, .inl (upd (fun _ => 0) 0 1))), (0, .inr (11, [.ref 1, .ref 17, .ref 50, .ref 51, .ref 54, .ref 57, .ref 65, .ref 75, .ref 81, .ref 85, .ref 88, .ref 93, .ref 96, .int (-1), .int (-1), .ref 97, .int 0]))])) := by
  refine JM.of (by decide) rfl (fun h => by cases h) (Nat.le_of_ble_eq_true rfl) ⟨0, rfl⟩ ?_
  refine J_hc0 (J_ls (ls2 := [some (.ref 0), some (.int a1)]) rfl ?_)
  refine J_iload_n dX11_back_0 rfl rfl ?_
  refine J_if_lt (tgt := 9) dX11_back_1 (by decide) (fun _ => ?_) (fun q => absurd (by have hb0 := b_a1; simp only [fa_lt, fa_le, fa_eq, kc_0]; omega) q)
  refine J_aload_n dX11_back_9 rfl rfl ?_
  refine J_iconst (v := (-1)) dX11_back_10 (by decide) ?_
  refine J_callV (st := []) dX11_back_11 cv_X11_118 (c_X11_refuse_1 hk0 hk96) hk0 rfl rfl (Nat.le_of_ble_eq_true rfl) ⟨(Nat.le_of_ble_eq_true rfl), (Nat.le_of_ble_eq_true rfl)⟩ ⟨(Nat.le_of_ble_eq_true rfl), (Nat.le_of_ble_eq_true rfl)⟩ (fun r h9 hp => ?_)
  obtain ⟨rfl, rfl⟩ := hp
  refine J_nf (nh2 := nh) (ck2 := 0) (sk2 := 0) (st2 := [.int (-1)]) rfl rfl rfl rfl ?_
  refine J_app (L3 := [(96, .inl (0, 5, .inl (upd (fun _ => 0) 0 1))), (0, .inr (11, [.ref 1, .ref 17, .ref 50, .ref 51, .ref 54, .ref 57, .ref 65, .ref 75, .ref 81, .ref 85, .ref 88, .ref 93, .ref 96, .int (-1), .int (-1), .ref 97, .int 0]))]) rfl ?_
  exact J_iret dX11_back_14 rfl rfl (Nat.le_of_ble_eq_true rfl) (Nat.le_of_ble_eq_true rfl) ⟨rfl, rfl⟩
set_option maxHeartbeats 4000000 in
set_option maxRecDepth 100000 in
theorem c_X12_back_1 {l : Launch} {G : jG} {nh : Nat} {fh : Nat → Option va_E} (a1 : Int32) (b_a1 : (-2147483648) ≤ a1.toInt ∧ a1.toInt ≤ (-1)) (hk98 : fh 98 = some (.inr (12, [.int 0, .int 0, .ref 99, .ref 100, .ref 101, .ref 102, .ref 103, .ref 104, .ref 105, .int 0, .int (-1), .ref 106, .ref 107, .ref 108, .int 0, .int 0, .int 0, .int 0, .int 0, .int 0, .int 0, .ref 109, .int 0, .int 0, .ref 110, .ref 111, .ref 112, .ref 113, .ref 114, .ref 115, .ref 116, .ref 117, .int 0, .int 0, .int (-1), .int (-1), .ref 118, .ref 119, .ref 120, .ref 121, .ref 122, .ref 123, .ref 124, .ref 125, .ref 126, .ref 127, .ref 128, .ref 129, .int 0, .ref 130, .ref 131, .ref 132, .ref 133, .ref 134, .int 0, .int 0]))) (hk99 : fh 99 = some (.inl (0, 7, .inl (fun _ => 0)))) : JM l G yX12_back MX12_back { frames := 1, cells := 0, slots := 0, locals := 22 } [.ref 98, .int a1] (nh, fh) (fun r h9 => r = some (.int (-1)) ∧ h9 = (nh, hc fh [(99, .inl (0, 7, .inl (upd (fun _ => 0) 1 1))), (98, .inr (12, [.int (-1), .int 0, .ref 99, .ref 100, .ref 101, .ref 102, .ref 103, .ref 104, .ref 105, .int 0, .int (-1), .ref 106, .ref 107, .ref 108, .int 0, .int 0, .int 0, .int 0, .int 0, .int 0, .int 0, .ref 109, .int 0, .int 0, .ref 110, .ref 111, .ref 112, .ref 113, .ref 114, .ref 115, .ref 116, .ref 117, .int 0, .int 0, .int (-1), .int (-1), .ref 118, .ref 119, .ref 120, .ref 121, .ref 122, .ref 123, .ref 124, .ref 125, .ref 126, .ref 127, .ref 128, .ref 129, .int 0, .ref 130, .ref 131, .ref 132, .ref 133, .ref 134, .int 0, .int 0]))])) := by
  refine JM.of (by decide) rfl (fun h => by cases h) (Nat.le_of_ble_eq_true rfl) ⟨1, rfl⟩ ?_
  refine J_hc0 (J_ls (ls2 := [some (.ref 98), some (.int a1), none]) rfl ?_)
  refine J_iload_n dX12_back_0 rfl rfl ?_
  refine J_iconst (v := 0) dX12_back_1 (by decide) ?_
  refine J_iconst (v := 1) dX12_back_2 (by decide) ?_
  refine J_callS (st := []) dX12_back_3 cs_X12_138 (c_X12_lies_22 (a1) b_a1) rfl rfl (Nat.le_of_ble_eq_true rfl) ⟨(Nat.le_of_ble_eq_true rfl), (Nat.le_of_ble_eq_true rfl)⟩ ⟨(Nat.le_of_ble_eq_true rfl), (Nat.le_of_ble_eq_true rfl)⟩ (fun r h9 hp => ?_)
  obtain ⟨rfl, rfl⟩ := hp
  refine J_nf (nh2 := nh) (ck2 := 0) (sk2 := 0) (st2 := [.int 0]) rfl rfl rfl rfl ?_
  refine J_if_ne (tgt := 15) dX12_back_6 (by decide) (fun q => absurd (by decide +kernel) q) (fun _ => ?_)
  refine J_aload_n dX12_back_9 rfl rfl ?_
  refine J_iconst (v := (-1)) dX12_back_10 (by decide) ?_
  refine J_callV (st := []) dX12_back_11 cv_X12_142 (c_X12_refuses_1 hk98 hk99) hk98 rfl rfl (Nat.le_of_ble_eq_true rfl) ⟨(Nat.le_of_ble_eq_true rfl), (Nat.le_of_ble_eq_true rfl)⟩ ⟨(Nat.le_of_ble_eq_true rfl), (Nat.le_of_ble_eq_true rfl)⟩ (fun r h9 hp => ?_)
  obtain ⟨rfl, rfl⟩ := hp
  refine J_nf (nh2 := nh) (ck2 := 0) (sk2 := 0) (st2 := [.int (-1)]) rfl rfl rfl rfl ?_
  refine J_app (L3 := [(99, .inl (0, 7, .inl (upd (fun _ => 0) 1 1))), (98, .inr (12, [.int (-1), .int 0, .ref 99, .ref 100, .ref 101, .ref 102, .ref 103, .ref 104, .ref 105, .int 0, .int (-1), .ref 106, .ref 107, .ref 108, .int 0, .int 0, .int 0, .int 0, .int 0, .int 0, .int 0, .ref 109, .int 0, .int 0, .ref 110, .ref 111, .ref 112, .ref 113, .ref 114, .ref 115, .ref 116, .ref 117, .int 0, .int 0, .int (-1), .int (-1), .ref 118, .ref 119, .ref 120, .ref 121, .ref 122, .ref 123, .ref 124, .ref 125, .ref 126, .ref 127, .ref 128, .ref 129, .int 0, .ref 130, .ref 131, .ref 132, .ref 133, .ref 134, .int 0, .int 0]))]) rfl ?_
  exact J_iret dX12_back_14 rfl rfl (Nat.le_of_ble_eq_true rfl) (Nat.le_of_ble_eq_true rfl) ⟨rfl, rfl⟩
set_option maxHeartbeats 4000000 in
set_option maxRecDepth 100000 in
theorem c_X11_back_2 {l : Launch} {G : jG} {nh : Nat} {fh : Nat → Option va_E} (hk0 : fh 0 = some (.inr (11, [.ref 1, .ref 17, .ref 50, .ref 51, .ref 54, .ref 57, .ref 65, .ref 75, .ref 81, .ref 85, .ref 88, .ref 93, .ref 96, .int 0, .int (-1), .ref 97, .int 0]))) (hk50 : fh 50 = some (.inl (2, 2, .inl (fun _ => 0)))) (hk96 : fh 96 = some (.inl (0, 5, .inl (fun _ => 0)))) : JM l G yX11_back MX11_back { frames := 2, cells := 0, slots := 0, locals := 41 } [.ref 0, .int 0] (nh, fh) (fun r h9 => r = some (.int (-2)) ∧ h9 = (nh, hc fh [(96, .inl (0, 5, .inl (upd (fun _ => 0) 1 1))), (0, .inr (11, [.ref 1, .ref 17, .ref 50, .ref 51, .ref 54, .ref 57, .ref 65, .ref 75, .ref 81, .ref 85, .ref 88, .ref 93, .ref 96, .int (-2), .int (-1), .ref 97, .int 0]))])) := by
  refine JM.of (by decide) rfl (fun h => by cases h) (Nat.le_of_ble_eq_true rfl) ⟨0, rfl⟩ ?_
  refine J_hc0 (J_ls (ls2 := [some (.ref 0), some (.int 0)]) rfl ?_)
  refine J_iload_n dX11_back_0 rfl rfl ?_
  refine J_if_lt (tgt := 9) dX11_back_1 (by decide) (fun q => absurd q (by decide +kernel)) (fun _ => ?_)
  refine J_iload_n dX11_back_4 rfl rfl ?_
  refine J_iconst (v := 2) dX11_back_5 (by decide) ?_
  refine J_icmp_lt (tgt := 15) dX11_back_6 (by decide) (fun _ => ?_) (fun q => absurd (by decide +kernel) q)
  refine J_aload_n dX11_back_15 rfl rfl ?_
  refine J_get (v := .ref 50) dX11_back_16 fl_X11_20 hk0 rfl ?_
  refine J_iload_n dX11_back_19 rfl rfl ?_
  refine J_zald (i2 := 0) (v := 0) dX11_back_20 hk50 rfl (jin (by decide +kernel)) (by decide +kernel) rfl ?_
  refine J_if_ne (tgt := 31) dX11_back_21 (by decide) (fun q => absurd (by decide +kernel) q) (fun _ => ?_)
  refine J_aload_n dX11_back_24 rfl rfl ?_
  refine J_bipush (v := (-2)) dX11_back_25 (by decide +kernel) ?_
  refine J_callV (st := []) dX11_back_27 cv_X11_118 (c_X11_refuse_4 hk0 hk96) hk0 rfl rfl (Nat.le_of_ble_eq_true rfl) ⟨(Nat.le_of_ble_eq_true rfl), (Nat.le_of_ble_eq_true rfl)⟩ ⟨(Nat.le_of_ble_eq_true rfl), (Nat.le_of_ble_eq_true rfl)⟩ (fun r h9 hp => ?_)
  obtain ⟨rfl, rfl⟩ := hp
  refine J_nf (nh2 := nh) (ck2 := 0) (sk2 := 0) (st2 := [.int (-2)]) rfl rfl rfl rfl ?_
  refine J_app (L3 := [(96, .inl (0, 5, .inl (upd (fun _ => 0) 1 1))), (0, .inr (11, [.ref 1, .ref 17, .ref 50, .ref 51, .ref 54, .ref 57, .ref 65, .ref 75, .ref 81, .ref 85, .ref 88, .ref 93, .ref 96, .int (-2), .int (-1), .ref 97, .int 0]))]) rfl ?_
  exact J_iret dX11_back_30 rfl rfl (Nat.le_of_ble_eq_true rfl) (Nat.le_of_ble_eq_true rfl) ⟨rfl, rfl⟩
set_option maxHeartbeats 4000000 in
set_option maxRecDepth 100000 in
theorem c_X12_back_2 {l : Launch} {G : jG} {nh : Nat} {fh : Nat → Option va_E} (hk98 : fh 98 = some (.inr (12, [.int 0, .int 0, .ref 99, .ref 100, .ref 101, .ref 102, .ref 103, .ref 104, .ref 105, .int 0, .int (-1), .ref 106, .ref 107, .ref 108, .int 0, .int 0, .int 0, .int 0, .int 0, .int 0, .int 0, .ref 109, .int 0, .int 0, .ref 110, .ref 111, .ref 112, .ref 113, .ref 114, .ref 115, .ref 116, .ref 117, .int 0, .int 0, .int (-1), .int (-1), .ref 118, .ref 119, .ref 120, .ref 121, .ref 122, .ref 123, .ref 124, .ref 125, .ref 126, .ref 127, .ref 128, .ref 129, .int 0, .ref 130, .ref 131, .ref 132, .ref 133, .ref 134, .int 0, .int 0]))) (hk99 : fh 99 = some (.inl (0, 7, .inl (fun _ => 0)))) (hk102 : fh 102 = some (.inl (2, 2, .inl (fun _ => 0)))) : JM l G yX12_back MX12_back { frames := 1, cells := 0, slots := 0, locals := 22 } [.ref 98, .int 0] (nh, fh) (fun r h9 => r = some (.int (-2)) ∧ h9 = (nh, hc fh [(99, .inl (0, 7, .inl (upd (fun _ => 0) 2 1))), (98, .inr (12, [.int (-2), .int 0, .ref 99, .ref 100, .ref 101, .ref 102, .ref 103, .ref 104, .ref 105, .int 0, .int (-1), .ref 106, .ref 107, .ref 108, .int 0, .int 0, .int 0, .int 0, .int 0, .int 0, .int 0, .ref 109, .int 0, .int 0, .ref 110, .ref 111, .ref 112, .ref 113, .ref 114, .ref 115, .ref 116, .ref 117, .int 0, .int 0, .int (-1), .int (-1), .ref 118, .ref 119, .ref 120, .ref 121, .ref 122, .ref 123, .ref 124, .ref 125, .ref 126, .ref 127, .ref 128, .ref 129, .int 0, .ref 130, .ref 131, .ref 132, .ref 133, .ref 134, .int 0, .int 0]))])) := by
  refine JM.of (by decide) rfl (fun h => by cases h) (Nat.le_of_ble_eq_true rfl) ⟨1, rfl⟩ ?_
  refine J_hc0 (J_ls (ls2 := [some (.ref 98), some (.int 0), none]) rfl ?_)
  refine J_iload_n dX12_back_0 rfl rfl ?_
  refine J_iconst (v := 0) dX12_back_1 (by decide) ?_
  refine J_iconst (v := 1) dX12_back_2 (by decide) ?_
  refine J_callS (st := []) dX12_back_3 cs_X12_138 (c_X12_lies_23 ) rfl rfl (Nat.le_of_ble_eq_true rfl) ⟨(Nat.le_of_ble_eq_true rfl), (Nat.le_of_ble_eq_true rfl)⟩ ⟨(Nat.le_of_ble_eq_true rfl), (Nat.le_of_ble_eq_true rfl)⟩ (fun r h9 hp => ?_)
  obtain ⟨rfl, rfl⟩ := hp
  refine J_nf (nh2 := nh) (ck2 := 0) (sk2 := 0) (st2 := [.int 1]) rfl rfl rfl rfl ?_
  refine J_if_ne (tgt := 15) dX12_back_6 (by decide) (fun _ => ?_) (fun q => absurd q (by decide +kernel))
  refine J_aload_n dX12_back_15 rfl rfl ?_
  refine J_get (v := .ref 102) dX12_back_16 fl_X12_26 hk98 rfl ?_
  refine J_iload_n dX12_back_19 rfl rfl ?_
  refine J_zald (i2 := 0) (v := 0) dX12_back_20 hk102 rfl (jin (by decide +kernel)) (by decide +kernel) rfl ?_
  refine J_if_ne (tgt := 31) dX12_back_21 (by decide) (fun q => absurd (by decide +kernel) q) (fun _ => ?_)
  refine J_aload_n dX12_back_24 rfl rfl ?_
  refine J_bipush (v := (-2)) dX12_back_25 (by decide +kernel) ?_
  refine J_callV (st := []) dX12_back_27 cv_X12_142 (c_X12_refuses_4 hk98 hk99) hk98 rfl rfl (Nat.le_of_ble_eq_true rfl) ⟨(Nat.le_of_ble_eq_true rfl), (Nat.le_of_ble_eq_true rfl)⟩ ⟨(Nat.le_of_ble_eq_true rfl), (Nat.le_of_ble_eq_true rfl)⟩ (fun r h9 hp => ?_)
  obtain ⟨rfl, rfl⟩ := hp
  refine J_nf (nh2 := nh) (ck2 := 0) (sk2 := 0) (st2 := [.int (-2)]) rfl rfl rfl rfl ?_
  refine J_app (L3 := [(99, .inl (0, 7, .inl (upd (fun _ => 0) 2 1))), (98, .inr (12, [.int (-2), .int 0, .ref 99, .ref 100, .ref 101, .ref 102, .ref 103, .ref 104, .ref 105, .int 0, .int (-1), .ref 106, .ref 107, .ref 108, .int 0, .int 0, .int 0, .int 0, .int 0, .int 0, .int 0, .ref 109, .int 0, .int 0, .ref 110, .ref 111, .ref 112, .ref 113, .ref 114, .ref 115, .ref 116, .ref 117, .int 0, .int 0, .int (-1), .int (-1), .ref 118, .ref 119, .ref 120, .ref 121, .ref 122, .ref 123, .ref 124, .ref 125, .ref 126, .ref 127, .ref 128, .ref 129, .int 0, .ref 130, .ref 131, .ref 132, .ref 133, .ref 134, .int 0, .int 0]))]) rfl ?_
  exact J_iret dX12_back_30 rfl rfl (Nat.le_of_ble_eq_true rfl) (Nat.le_of_ble_eq_true rfl) ⟨rfl, rfl⟩
set_option maxHeartbeats 4000000 in
set_option maxRecDepth 100000 in
theorem c_X11_back_3 {l : Launch} {G : jG} {nh : Nat} {fh : Nat → Option va_E} (hk0 : fh 0 = some (.inr (11, [.ref 1, .ref 17, .ref 50, .ref 51, .ref 54, .ref 57, .ref 65, .ref 75, .ref 81, .ref 85, .ref 88, .ref 93, .ref 96, .int 0, .int (-1), .ref 97, .int 0]))) (hk50 : fh 50 = some (.inl (2, 2, .inl (fun _ => 0)))) (hk96 : fh 96 = some (.inl (0, 5, .inl (fun _ => 0)))) : JM l G yX11_back MX11_back { frames := 2, cells := 0, slots := 0, locals := 41 } [.ref 0, .int 1] (nh, fh) (fun r h9 => r = some (.int (-2)) ∧ h9 = (nh, hc fh [(96, .inl (0, 5, .inl (upd (fun _ => 0) 1 1))), (0, .inr (11, [.ref 1, .ref 17, .ref 50, .ref 51, .ref 54, .ref 57, .ref 65, .ref 75, .ref 81, .ref 85, .ref 88, .ref 93, .ref 96, .int (-2), .int (-1), .ref 97, .int 0]))])) := by
  refine JM.of (by decide) rfl (fun h => by cases h) (Nat.le_of_ble_eq_true rfl) ⟨0, rfl⟩ ?_
  refine J_hc0 (J_ls (ls2 := [some (.ref 0), some (.int 1)]) rfl ?_)
  refine J_iload_n dX11_back_0 rfl rfl ?_
  refine J_if_lt (tgt := 9) dX11_back_1 (by decide) (fun q => absurd q (by decide +kernel)) (fun _ => ?_)
  refine J_iload_n dX11_back_4 rfl rfl ?_
  refine J_iconst (v := 2) dX11_back_5 (by decide) ?_
  refine J_icmp_lt (tgt := 15) dX11_back_6 (by decide) (fun _ => ?_) (fun q => absurd (by decide +kernel) q)
  refine J_aload_n dX11_back_15 rfl rfl ?_
  refine J_get (v := .ref 50) dX11_back_16 fl_X11_20 hk0 rfl ?_
  refine J_iload_n dX11_back_19 rfl rfl ?_
  refine J_zald (i2 := 1) (v := 0) dX11_back_20 hk50 rfl (jin (by decide +kernel)) (by decide +kernel) rfl ?_
  refine J_if_ne (tgt := 31) dX11_back_21 (by decide) (fun q => absurd (by decide +kernel) q) (fun _ => ?_)
  refine J_aload_n dX11_back_24 rfl rfl ?_
  refine J_bipush (v := (-2)) dX11_back_25 (by decide +kernel) ?_
  refine J_callV (st := []) dX11_back_27 cv_X11_118 (c_X11_refuse_4 hk0 hk96) hk0 rfl rfl (Nat.le_of_ble_eq_true rfl) ⟨(Nat.le_of_ble_eq_true rfl), (Nat.le_of_ble_eq_true rfl)⟩ ⟨(Nat.le_of_ble_eq_true rfl), (Nat.le_of_ble_eq_true rfl)⟩ (fun r h9 hp => ?_)
  obtain ⟨rfl, rfl⟩ := hp
  refine J_nf (nh2 := nh) (ck2 := 0) (sk2 := 0) (st2 := [.int (-2)]) rfl rfl rfl rfl ?_
  refine J_app (L3 := [(96, .inl (0, 5, .inl (upd (fun _ => 0) 1 1))), (0, .inr (11, [.ref 1, .ref 17, .ref 50, .ref 51, .ref 54, .ref 57, .ref 65, .ref 75, .ref 81, .ref 85, .ref 88, .ref 93, .ref 96, .int (-2), .int (-1), .ref 97, .int 0]))]) rfl ?_
  exact J_iret dX11_back_30 rfl rfl (Nat.le_of_ble_eq_true rfl) (Nat.le_of_ble_eq_true rfl) ⟨rfl, rfl⟩
set_option maxHeartbeats 4000000 in
set_option maxRecDepth 100000 in
theorem c_X12_back_3 {l : Launch} {G : jG} {nh : Nat} {fh : Nat → Option va_E} (hk98 : fh 98 = some (.inr (12, [.int 0, .int 0, .ref 99, .ref 100, .ref 101, .ref 102, .ref 103, .ref 104, .ref 105, .int 0, .int (-1), .ref 106, .ref 107, .ref 108, .int 0, .int 0, .int 0, .int 0, .int 0, .int 0, .int 0, .ref 109, .int 0, .int 0, .ref 110, .ref 111, .ref 112, .ref 113, .ref 114, .ref 115, .ref 116, .ref 117, .int 0, .int 0, .int (-1), .int (-1), .ref 118, .ref 119, .ref 120, .ref 121, .ref 122, .ref 123, .ref 124, .ref 125, .ref 126, .ref 127, .ref 128, .ref 129, .int 0, .ref 130, .ref 131, .ref 132, .ref 133, .ref 134, .int 0, .int 0]))) (hk99 : fh 99 = some (.inl (0, 7, .inl (fun _ => 0)))) (hk102 : fh 102 = some (.inl (2, 2, .inl (fun _ => 0)))) : JM l G yX12_back MX12_back { frames := 1, cells := 0, slots := 0, locals := 22 } [.ref 98, .int 1] (nh, fh) (fun r h9 => r = some (.int (-2)) ∧ h9 = (nh, hc fh [(99, .inl (0, 7, .inl (upd (fun _ => 0) 2 1))), (98, .inr (12, [.int (-2), .int 0, .ref 99, .ref 100, .ref 101, .ref 102, .ref 103, .ref 104, .ref 105, .int 0, .int (-1), .ref 106, .ref 107, .ref 108, .int 0, .int 0, .int 0, .int 0, .int 0, .int 0, .int 0, .ref 109, .int 0, .int 0, .ref 110, .ref 111, .ref 112, .ref 113, .ref 114, .ref 115, .ref 116, .ref 117, .int 0, .int 0, .int (-1), .int (-1), .ref 118, .ref 119, .ref 120, .ref 121, .ref 122, .ref 123, .ref 124, .ref 125, .ref 126, .ref 127, .ref 128, .ref 129, .int 0, .ref 130, .ref 131, .ref 132, .ref 133, .ref 134, .int 0, .int 0]))])) := by
  refine JM.of (by decide) rfl (fun h => by cases h) (Nat.le_of_ble_eq_true rfl) ⟨1, rfl⟩ ?_
  refine J_hc0 (J_ls (ls2 := [some (.ref 98), some (.int 1), none]) rfl ?_)
  refine J_iload_n dX12_back_0 rfl rfl ?_
  refine J_iconst (v := 0) dX12_back_1 (by decide) ?_
  refine J_iconst (v := 1) dX12_back_2 (by decide) ?_
  refine J_callS (st := []) dX12_back_3 cs_X12_138 (c_X12_lies_26 ) rfl rfl (Nat.le_of_ble_eq_true rfl) ⟨(Nat.le_of_ble_eq_true rfl), (Nat.le_of_ble_eq_true rfl)⟩ ⟨(Nat.le_of_ble_eq_true rfl), (Nat.le_of_ble_eq_true rfl)⟩ (fun r h9 hp => ?_)
  obtain ⟨rfl, rfl⟩ := hp
  refine J_nf (nh2 := nh) (ck2 := 0) (sk2 := 0) (st2 := [.int 1]) rfl rfl rfl rfl ?_
  refine J_if_ne (tgt := 15) dX12_back_6 (by decide) (fun _ => ?_) (fun q => absurd q (by decide +kernel))
  refine J_aload_n dX12_back_15 rfl rfl ?_
  refine J_get (v := .ref 102) dX12_back_16 fl_X12_26 hk98 rfl ?_
  refine J_iload_n dX12_back_19 rfl rfl ?_
  refine J_zald (i2 := 1) (v := 0) dX12_back_20 hk102 rfl (jin (by decide +kernel)) (by decide +kernel) rfl ?_
  refine J_if_ne (tgt := 31) dX12_back_21 (by decide) (fun q => absurd (by decide +kernel) q) (fun _ => ?_)
  refine J_aload_n dX12_back_24 rfl rfl ?_
  refine J_bipush (v := (-2)) dX12_back_25 (by decide +kernel) ?_
  refine J_callV (st := []) dX12_back_27 cv_X12_142 (c_X12_refuses_4 hk98 hk99) hk98 rfl rfl (Nat.le_of_ble_eq_true rfl) ⟨(Nat.le_of_ble_eq_true rfl), (Nat.le_of_ble_eq_true rfl)⟩ ⟨(Nat.le_of_ble_eq_true rfl), (Nat.le_of_ble_eq_true rfl)⟩ (fun r h9 hp => ?_)
  obtain ⟨rfl, rfl⟩ := hp
  refine J_nf (nh2 := nh) (ck2 := 0) (sk2 := 0) (st2 := [.int (-2)]) rfl rfl rfl rfl ?_
  refine J_app (L3 := [(99, .inl (0, 7, .inl (upd (fun _ => 0) 2 1))), (98, .inr (12, [.int (-2), .int 0, .ref 99, .ref 100, .ref 101, .ref 102, .ref 103, .ref 104, .ref 105, .int 0, .int (-1), .ref 106, .ref 107, .ref 108, .int 0, .int 0, .int 0, .int 0, .int 0, .int 0, .int 0, .ref 109, .int 0, .int 0, .ref 110, .ref 111, .ref 112, .ref 113, .ref 114, .ref 115, .ref 116, .ref 117, .int 0, .int 0, .int (-1), .int (-1), .ref 118, .ref 119, .ref 120, .ref 121, .ref 122, .ref 123, .ref 124, .ref 125, .ref 126, .ref 127, .ref 128, .ref 129, .int 0, .ref 130, .ref 131, .ref 132, .ref 133, .ref 134, .int 0, .int 0]))]) rfl ?_
  exact J_iret dX12_back_30 rfl rfl (Nat.le_of_ble_eq_true rfl) (Nat.le_of_ble_eq_true rfl) ⟨rfl, rfl⟩
set_option maxHeartbeats 4000000 in
set_option maxRecDepth 100000 in
theorem c_X11_back_4 {l : Launch} {G : jG} {nh : Nat} {fh : Nat → Option va_E} (a1 : Int32) (b_a1 : 2 ≤ a1.toInt ∧ a1.toInt ≤ 2147483647) (hk0 : fh 0 = some (.inr (11, [.ref 1, .ref 17, .ref 50, .ref 51, .ref 54, .ref 57, .ref 65, .ref 75, .ref 81, .ref 85, .ref 88, .ref 93, .ref 96, .int 0, .int (-1), .ref 97, .int 0]))) (hk96 : fh 96 = some (.inl (0, 5, .inl (fun _ => 0)))) : JM l G yX11_back MX11_back { frames := 2, cells := 0, slots := 0, locals := 41 } [.ref 0, .int a1] (nh, fh) (fun r h9 => r = some (.int (-1)) ∧ h9 = (nh, hc fh [(96, .inl (0, 5, .inl (upd (fun _ => 0) 0 1))), (0, .inr (11, [.ref 1, .ref 17, .ref 50, .ref 51, .ref 54, .ref 57, .ref 65, .ref 75, .ref 81, .ref 85, .ref 88, .ref 93, .ref 96, .int (-1), .int (-1), .ref 97, .int 0]))])) := by
  refine JM.of (by decide) rfl (fun h => by cases h) (Nat.le_of_ble_eq_true rfl) ⟨0, rfl⟩ ?_
  refine J_hc0 (J_ls (ls2 := [some (.ref 0), some (.int a1)]) rfl ?_)
  refine J_iload_n dX11_back_0 rfl rfl ?_
  refine J_if_lt (tgt := 9) dX11_back_1 (by decide) (fun q => absurd q (by have hb0 := b_a1; simp only [fa_lt, fa_le, fa_eq, kc_0]; omega)) (fun _ => ?_)
  refine J_iload_n dX11_back_4 rfl rfl ?_
  refine J_iconst (v := 2) dX11_back_5 (by decide) ?_
  refine J_icmp_lt (tgt := 15) dX11_back_6 (by decide) (fun q => absurd q (by have hb0 := b_a1; simp only [fa_lt, fa_le, fa_eq, kc_2]; omega)) (fun _ => ?_)
  refine J_aload_n dX11_back_9 rfl rfl ?_
  refine J_iconst (v := (-1)) dX11_back_10 (by decide) ?_
  refine J_callV (st := []) dX11_back_11 cv_X11_118 (c_X11_refuse_1 hk0 hk96) hk0 rfl rfl (Nat.le_of_ble_eq_true rfl) ⟨(Nat.le_of_ble_eq_true rfl), (Nat.le_of_ble_eq_true rfl)⟩ ⟨(Nat.le_of_ble_eq_true rfl), (Nat.le_of_ble_eq_true rfl)⟩ (fun r h9 hp => ?_)
  obtain ⟨rfl, rfl⟩ := hp
  refine J_nf (nh2 := nh) (ck2 := 0) (sk2 := 0) (st2 := [.int (-1)]) rfl rfl rfl rfl ?_
  refine J_app (L3 := [(96, .inl (0, 5, .inl (upd (fun _ => 0) 0 1))), (0, .inr (11, [.ref 1, .ref 17, .ref 50, .ref 51, .ref 54, .ref 57, .ref 65, .ref 75, .ref 81, .ref 85, .ref 88, .ref 93, .ref 96, .int (-1), .int (-1), .ref 97, .int 0]))]) rfl ?_
  exact J_iret dX11_back_14 rfl rfl (Nat.le_of_ble_eq_true rfl) (Nat.le_of_ble_eq_true rfl) ⟨rfl, rfl⟩
set_option maxHeartbeats 4000000 in
set_option maxRecDepth 100000 in
theorem c_X12_back_4 {l : Launch} {G : jG} {nh : Nat} {fh : Nat → Option va_E} (a1 : Int32) (b_a1 : 2 ≤ a1.toInt ∧ a1.toInt ≤ 2147483647) (hk98 : fh 98 = some (.inr (12, [.int 0, .int 0, .ref 99, .ref 100, .ref 101, .ref 102, .ref 103, .ref 104, .ref 105, .int 0, .int (-1), .ref 106, .ref 107, .ref 108, .int 0, .int 0, .int 0, .int 0, .int 0, .int 0, .int 0, .ref 109, .int 0, .int 0, .ref 110, .ref 111, .ref 112, .ref 113, .ref 114, .ref 115, .ref 116, .ref 117, .int 0, .int 0, .int (-1), .int (-1), .ref 118, .ref 119, .ref 120, .ref 121, .ref 122, .ref 123, .ref 124, .ref 125, .ref 126, .ref 127, .ref 128, .ref 129, .int 0, .ref 130, .ref 131, .ref 132, .ref 133, .ref 134, .int 0, .int 0]))) (hk99 : fh 99 = some (.inl (0, 7, .inl (fun _ => 0)))) : JM l G yX12_back MX12_back { frames := 1, cells := 0, slots := 0, locals := 22 } [.ref 98, .int a1] (nh, fh) (fun r h9 => r = some (.int (-1)) ∧ h9 = (nh, hc fh [(99, .inl (0, 7, .inl (upd (fun _ => 0) 1 1))), (98, .inr (12, [.int (-1), .int 0, .ref 99, .ref 100, .ref 101, .ref 102, .ref 103, .ref 104, .ref 105, .int 0, .int (-1), .ref 106, .ref 107, .ref 108, .int 0, .int 0, .int 0, .int 0, .int 0, .int 0, .int 0, .ref 109, .int 0, .int 0, .ref 110, .ref 111, .ref 112, .ref 113, .ref 114, .ref 115, .ref 116, .ref 117, .int 0, .int 0, .int (-1), .int (-1), .ref 118, .ref 119, .ref 120, .ref 121, .ref 122, .ref 123, .ref 124, .ref 125, .ref 126, .ref 127, .ref 128, .ref 129, .int 0, .ref 130, .ref 131, .ref 132, .ref 133, .ref 134, .int 0, .int 0]))])) := by
  refine JM.of (by decide) rfl (fun h => by cases h) (Nat.le_of_ble_eq_true rfl) ⟨1, rfl⟩ ?_
  refine J_hc0 (J_ls (ls2 := [some (.ref 98), some (.int a1), none]) rfl ?_)
  refine J_iload_n dX12_back_0 rfl rfl ?_
  refine J_iconst (v := 0) dX12_back_1 (by decide) ?_
  refine J_iconst (v := 1) dX12_back_2 (by decide) ?_
  refine J_callS (st := []) dX12_back_3 cs_X12_138 (c_X12_lies_25 (a1) b_a1) rfl rfl (Nat.le_of_ble_eq_true rfl) ⟨(Nat.le_of_ble_eq_true rfl), (Nat.le_of_ble_eq_true rfl)⟩ ⟨(Nat.le_of_ble_eq_true rfl), (Nat.le_of_ble_eq_true rfl)⟩ (fun r h9 hp => ?_)
  obtain ⟨rfl, rfl⟩ := hp
  refine J_nf (nh2 := nh) (ck2 := 0) (sk2 := 0) (st2 := [.int 0]) rfl rfl rfl rfl ?_
  refine J_if_ne (tgt := 15) dX12_back_6 (by decide) (fun q => absurd (by decide +kernel) q) (fun _ => ?_)
  refine J_aload_n dX12_back_9 rfl rfl ?_
  refine J_iconst (v := (-1)) dX12_back_10 (by decide) ?_
  refine J_callV (st := []) dX12_back_11 cv_X12_142 (c_X12_refuses_1 hk98 hk99) hk98 rfl rfl (Nat.le_of_ble_eq_true rfl) ⟨(Nat.le_of_ble_eq_true rfl), (Nat.le_of_ble_eq_true rfl)⟩ ⟨(Nat.le_of_ble_eq_true rfl), (Nat.le_of_ble_eq_true rfl)⟩ (fun r h9 hp => ?_)
  obtain ⟨rfl, rfl⟩ := hp
  refine J_nf (nh2 := nh) (ck2 := 0) (sk2 := 0) (st2 := [.int (-1)]) rfl rfl rfl rfl ?_
  refine J_app (L3 := [(99, .inl (0, 7, .inl (upd (fun _ => 0) 1 1))), (98, .inr (12, [.int (-1), .int 0, .ref 99, .ref 100, .ref 101, .ref 102, .ref 103, .ref 104, .ref 105, .int 0, .int (-1), .ref 106, .ref 107, .ref 108, .int 0, .int 0, .int 0, .int 0, .int 0, .int 0, .int 0, .ref 109, .int 0, .int 0, .ref 110, .ref 111, .ref 112, .ref 113, .ref 114, .ref 115, .ref 116, .ref 117, .int 0, .int 0, .int (-1), .int (-1), .ref 118, .ref 119, .ref 120, .ref 121, .ref 122, .ref 123, .ref 124, .ref 125, .ref 126, .ref 127, .ref 128, .ref 129, .int 0, .ref 130, .ref 131, .ref 132, .ref 133, .ref 134, .int 0, .int 0]))]) rfl ?_
  exact J_iret dX12_back_14 rfl rfl (Nat.le_of_ble_eq_true rfl) (Nat.le_of_ble_eq_true rfl) ⟨rfl, rfl⟩
set_option maxHeartbeats 4000000 in
set_option maxRecDepth 100000 in
theorem c_X11_count_1 {l : Launch} {G : jG} {nh : Nat} {fh : Nat → Option va_E} (a1 : Int32) (b_a1 : (-2147483648) ≤ a1.toInt ∧ a1.toInt ≤ (-1)) : JM l G yX11_count MX11_count { frames := 0, cells := 0, slots := 0, locals := 0 } [.ref 0, .int a1] (nh, fh) (fun r h9 => r = some (.int (-1)) ∧ h9 = (nh, fh)) := by
  refine JM.of (by decide) rfl (fun h => by cases h) (Nat.le_of_ble_eq_true rfl) ⟨0, rfl⟩ ?_
  refine J_hc0 (J_ls (ls2 := [some (.ref 0), some (.int a1)]) rfl ?_)
  refine J_iload_n dX11_count_0 rfl rfl ?_
  refine J_iconst (v := 1) dX11_count_1 (by decide) ?_
  refine J_icmp_lt (tgt := 22) dX11_count_2 (by decide) (fun _ => ?_) (fun q => absurd (by have hb0 := b_a1; simp only [fa_lt, fa_le, fa_eq, kc_1]; omega) q)
  refine J_iload_n dX11_count_22 rfl rfl ?_
  refine J_bipush (v := 11) dX11_count_23 (by decide +kernel) ?_
  refine J_icmp_lt (tgt := 44) dX11_count_25 (by decide) (fun _ => ?_) (fun q => absurd (by have hb0 := b_a1; simp only [fa_lt, fa_le, fa_eq, kc_11]; omega) q)
  refine J_iload_n dX11_count_44 rfl rfl ?_
  refine J_tableOut (tgt := 212) dX11_count_45 (by have hb := b_a1; omega) (by decide) ?_
  refine J_iconst (v := (-1)) dX11_count_212 (by decide) ?_
  exact J_iret dX11_count_213 rfl rfl (Nat.le_of_ble_eq_true rfl) (Nat.le_of_ble_eq_true rfl) ⟨rfl, rfl⟩
set_option maxHeartbeats 4000000 in
set_option maxRecDepth 100000 in
theorem c_X12_count_1 {l : Launch} {G : jG} {nh : Nat} {fh : Nat → Option va_E} (a1 : Int32) (b_a1 : (-2147483648) ≤ a1.toInt ∧ a1.toInt ≤ (-1)) : JM l G yX12_count MX12_count { frames := 0, cells := 0, slots := 0, locals := 0 } [.ref 98, .int a1] (nh, fh) (fun r h9 => r = some (.int (-1)) ∧ h9 = (nh, fh)) := by
  refine JM.of (by decide) rfl (fun h => by cases h) (Nat.le_of_ble_eq_true rfl) ⟨0, rfl⟩ ?_
  refine J_hc0 (J_ls (ls2 := [some (.ref 98), some (.int a1)]) rfl ?_)
  refine J_iload_n dX12_count_0 rfl rfl ?_
  refine J_tableOut (tgt := 190) dX12_count_1 (by have hb := b_a1; omega) (by decide) ?_
  refine J_iconst (v := (-1)) dX12_count_190 (by decide) ?_
  exact J_iret dX12_count_191 rfl rfl (Nat.le_of_ble_eq_true rfl) (Nat.le_of_ble_eq_true rfl) ⟨rfl, rfl⟩
set_option maxHeartbeats 4000000 in
set_option maxRecDepth 100000 in
theorem c_X11_count_2 {l : Launch} {G : jG} {nh : Nat} {fh : Nat → Option va_E} (hk0 : fh 0 = some (.inr (11, [.ref 1, .ref 17, .ref 50, .ref 51, .ref 54, .ref 57, .ref 65, .ref 75, .ref 81, .ref 85, .ref 88, .ref 93, .ref 96, .int 0, .int (-1), .ref 97, .int 0]))) (hk51 : fh 51 = some (.inr (0, [.ref 52, .ref 53, .int 1, .int 0]))) : JM l G yX11_count MX11_count { frames := 1, cells := 0, slots := 0, locals := 20 } [.ref 0, .int 0] (nh, fh) (fun r h9 => r = some (.int 0) ∧ h9 = (nh, fh)) := by
  refine JM.of (by decide) rfl (fun h => by cases h) (Nat.le_of_ble_eq_true rfl) ⟨0, rfl⟩ ?_
  refine J_hc0 (J_ls (ls2 := [some (.ref 0), some (.int 0)]) rfl ?_)
  refine J_iload_n dX11_count_0 rfl rfl ?_
  refine J_iconst (v := 1) dX11_count_1 (by decide) ?_
  refine J_icmp_lt (tgt := 22) dX11_count_2 (by decide) (fun _ => ?_) (fun q => absurd (by decide +kernel) q)
  refine J_iload_n dX11_count_22 rfl rfl ?_
  refine J_bipush (v := 11) dX11_count_23 (by decide +kernel) ?_
  refine J_icmp_lt (tgt := 44) dX11_count_25 (by decide) (fun _ => ?_) (fun q => absurd (by decide +kernel) q)
  refine J_iload_n dX11_count_44 rfl rfl ?_
  refine J_tableIn (tgt := 136) dX11_count_45 (by decide +kernel) (by decide +kernel) (off := 91) (by decide +kernel) (by decide) ?_
  refine J_aload_n dX11_count_136 rfl rfl ?_
  refine J_get (v := .ref 51) dX11_count_137 fl_X11_27 hk0 rfl ?_
  refine J_callV (st := []) dX11_count_140 cv_X11_122 (c_X0_places_1 hk51) hk51 rfl rfl (Nat.le_of_ble_eq_true rfl) ⟨(Nat.le_of_ble_eq_true rfl), (Nat.le_of_ble_eq_true rfl)⟩ ⟨(Nat.le_of_ble_eq_true rfl), (Nat.le_of_ble_eq_true rfl)⟩ (fun r h9 hp => ?_)
  obtain ⟨rfl, rfl⟩ := hp
  refine J_nf (nh2 := nh) (ck2 := 0) (sk2 := 0) (st2 := [.int 0]) rfl rfl rfl rfl ?_
  exact J_iret dX11_count_143 rfl rfl (Nat.le_of_ble_eq_true rfl) (Nat.le_of_ble_eq_true rfl) ⟨rfl, rfl⟩
set_option maxHeartbeats 4000000 in
set_option maxRecDepth 100000 in
theorem c_X12_count_2 {l : Launch} {G : jG} {nh : Nat} {fh : Nat → Option va_E} (hk98 : fh 98 = some (.inr (12, [.int 0, .int 0, .ref 99, .ref 100, .ref 101, .ref 102, .ref 103, .ref 104, .ref 105, .int 0, .int (-1), .ref 106, .ref 107, .ref 108, .int 0, .int 0, .int 0, .int 0, .int 0, .int 0, .int 0, .ref 109, .int 0, .int 0, .ref 110, .ref 111, .ref 112, .ref 113, .ref 114, .ref 115, .ref 116, .ref 117, .int 0, .int 0, .int (-1), .int (-1), .ref 118, .ref 119, .ref 120, .ref 121, .ref 122, .ref 123, .ref 124, .ref 125, .ref 126, .ref 127, .ref 128, .ref 129, .int 0, .ref 130, .ref 131, .ref 132, .ref 133, .ref 134, .int 0, .int 0]))) (hk100 : fh 100 = some (.inl (0, 4870, .inl (upd (fun _ => 0) 63 (-1))))) : JM l G yX12_count MX12_count { frames := 1, cells := 0, slots := 0, locals := 22 } [.ref 98, .int 0] (nh, fh) (fun r h9 => r = some (.int 0) ∧ h9 = (nh, fh)) := by
  refine JM.of (by decide) rfl (fun h => by cases h) (Nat.le_of_ble_eq_true rfl) ⟨0, rfl⟩ ?_
  refine J_hc0 (J_ls (ls2 := [some (.ref 98), some (.int 0)]) rfl ?_)
  refine J_iload_n dX12_count_0 rfl rfl ?_
  refine J_tableIn (tgt := 92) dX12_count_1 (by decide +kernel) (by decide +kernel) (off := 91) (by decide +kernel) (by decide) ?_
  refine J_aload_n dX12_count_92 rfl rfl ?_
  refine J_callV (st := []) dX12_count_93 cv_X12_149 (c_X12_places_1 hk98 hk100) hk98 rfl rfl (Nat.le_of_ble_eq_true rfl) ⟨(Nat.le_of_ble_eq_true rfl), (Nat.le_of_ble_eq_true rfl)⟩ ⟨(Nat.le_of_ble_eq_true rfl), (Nat.le_of_ble_eq_true rfl)⟩ (fun r h9 hp => ?_)
  obtain ⟨rfl, rfl⟩ := hp
  refine J_nf (nh2 := nh) (ck2 := 0) (sk2 := 0) (st2 := [.int 0]) rfl rfl rfl rfl ?_
  exact J_iret dX12_count_96 rfl rfl (Nat.le_of_ble_eq_true rfl) (Nat.le_of_ble_eq_true rfl) ⟨rfl, rfl⟩
set_option maxHeartbeats 4000000 in
set_option maxRecDepth 100000 in
theorem c_X11_count_3 {l : Launch} {G : jG} {nh : Nat} {fh : Nat → Option va_E} (hk0 : fh 0 = some (.inr (11, [.ref 1, .ref 17, .ref 50, .ref 51, .ref 54, .ref 57, .ref 65, .ref 75, .ref 81, .ref 85, .ref 88, .ref 93, .ref 96, .int 0, .int (-1), .ref 97, .int 0]))) (hk1 : fh 1 = some (.inr (8, [.ref 2, .ref 3, .ref 4, .int 0, .int (-1), .ref 11, .ref 12, .int 0, .ref 13, .ref 14, .int 0, .ref 15, .ref 16, .int 0]))) (hk2 : fh 2 = some (.inl (0, 5, .inl (fun _ => 0)))) : JM l G yX11_count MX11_count { frames := 0, cells := 0, slots := 0, locals := 0 } [.ref 0, .int 1] (nh, fh) (fun r h9 => r = some (.int 0) ∧ h9 = (nh, fh)) := by
  refine JM.of (by decide) rfl (fun h => by cases h) (Nat.le_of_ble_eq_true rfl) ⟨0, rfl⟩ ?_
  refine J_hc0 (J_ls (ls2 := [some (.ref 0), some (.int 1)]) rfl ?_)
  refine J_iload_n dX11_count_0 rfl rfl ?_
  refine J_iconst (v := 1) dX11_count_1 (by decide) ?_
  refine J_icmp_lt (tgt := 22) dX11_count_2 (by decide) (fun q => absurd q (by decide +kernel)) (fun _ => ?_)
  refine J_iload_n dX11_count_5 rfl rfl ?_
  refine J_iconst (v := 5) dX11_count_6 (by decide) ?_
  refine J_icmp_gt (tgt := 22) dX11_count_7 (by decide) (fun q => absurd q (by decide +kernel)) (fun _ => ?_)
  refine J_aload_n dX11_count_10 rfl rfl ?_
  refine J_get (v := .ref 1) dX11_count_11 fl_X11_10 hk0 rfl ?_
  refine J_get (v := .ref 2) dX11_count_14 fl_X11_111 hk1 rfl ?_
  refine J_iload_n dX11_count_17 rfl rfl ?_
  refine J_iconst (v := 1) dX11_count_18 (by decide) ?_
  refine J_isub (z := 0) dX11_count_19 (by decide +kernel) ?_
  refine J_iald (i2 := 0) (v := 0) dX11_count_20 hk2 rfl (jin (by decide +kernel)) (by decide +kernel) rfl ?_
  exact J_iret dX11_count_21 rfl rfl (Nat.le_of_ble_eq_true rfl) (Nat.le_of_ble_eq_true rfl) ⟨rfl, rfl⟩
set_option maxHeartbeats 4000000 in
set_option maxRecDepth 100000 in
theorem c_X12_count_3 {l : Launch} {G : jG} {nh : Nat} {fh : Nat → Option va_E} (hk98 : fh 98 = some (.inr (12, [.int 0, .int 0, .ref 99, .ref 100, .ref 101, .ref 102, .ref 103, .ref 104, .ref 105, .int 0, .int (-1), .ref 106, .ref 107, .ref 108, .int 0, .int 0, .int 0, .int 0, .int 0, .int 0, .int 0, .ref 109, .int 0, .int 0, .ref 110, .ref 111, .ref 112, .ref 113, .ref 114, .ref 115, .ref 116, .ref 117, .int 0, .int 0, .int (-1), .int (-1), .ref 118, .ref 119, .ref 120, .ref 121, .ref 122, .ref 123, .ref 124, .ref 125, .ref 126, .ref 127, .ref 128, .ref 129, .int 0, .ref 130, .ref 131, .ref 132, .ref 133, .ref 134, .int 0, .int 0]))) (hk100 : fh 100 = some (.inl (0, 4870, .inl (upd (fun _ => 0) 63 (-1))))) : JM l G yX12_count MX12_count { frames := 0, cells := 0, slots := 0, locals := 0 } [.ref 98, .int 1] (nh, fh) (fun r h9 => r = some (.int 0) ∧ h9 = (nh, fh)) := by
  refine JM.of (by decide) rfl (fun h => by cases h) (Nat.le_of_ble_eq_true rfl) ⟨0, rfl⟩ ?_
  refine J_hc0 (J_ls (ls2 := [some (.ref 98), some (.int 1)]) rfl ?_)
  refine J_iload_n dX12_count_0 rfl rfl ?_
  refine J_tableIn (tgt := 97) dX12_count_1 (by decide +kernel) (by decide +kernel) (off := 96) (by decide +kernel) (by decide) ?_
  refine J_aload_n dX12_count_97 rfl rfl ?_
  refine J_get (v := .ref 100) dX12_count_98 fl_X12_20 hk98 rfl ?_
  refine J_iconst (v := 0) dX12_count_101 (by decide) ?_
  refine J_iload_n dX12_count_102 rfl rfl ?_
  refine J_iadd (z := 1) dX12_count_103 (by decide +kernel) ?_
  refine J_iconst (v := 1) dX12_count_104 (by decide) ?_
  refine J_isub (z := 0) dX12_count_105 (by decide +kernel) ?_
  refine J_iald (i2 := 0) (v := 0) dX12_count_106 hk100 rfl (jin (by decide +kernel)) (by decide +kernel) rfl ?_
  exact J_iret dX12_count_107 rfl rfl (Nat.le_of_ble_eq_true rfl) (Nat.le_of_ble_eq_true rfl) ⟨rfl, rfl⟩
set_option maxHeartbeats 4000000 in
set_option maxRecDepth 100000 in
theorem c_X11_count_4 {l : Launch} {G : jG} {nh : Nat} {fh : Nat → Option va_E} (hk0 : fh 0 = some (.inr (11, [.ref 1, .ref 17, .ref 50, .ref 51, .ref 54, .ref 57, .ref 65, .ref 75, .ref 81, .ref 85, .ref 88, .ref 93, .ref 96, .int 0, .int (-1), .ref 97, .int 0]))) (hk1 : fh 1 = some (.inr (8, [.ref 2, .ref 3, .ref 4, .int 0, .int (-1), .ref 11, .ref 12, .int 0, .ref 13, .ref 14, .int 0, .ref 15, .ref 16, .int 0]))) (hk2 : fh 2 = some (.inl (0, 5, .inl (fun _ => 0)))) : JM l G yX11_count MX11_count { frames := 0, cells := 0, slots := 0, locals := 0 } [.ref 0, .int 2] (nh, fh) (fun r h9 => r = some (.int 0) ∧ h9 = (nh, fh)) := by
  refine JM.of (by decide) rfl (fun h => by cases h) (Nat.le_of_ble_eq_true rfl) ⟨0, rfl⟩ ?_
  refine J_hc0 (J_ls (ls2 := [some (.ref 0), some (.int 2)]) rfl ?_)
  refine J_iload_n dX11_count_0 rfl rfl ?_
  refine J_iconst (v := 1) dX11_count_1 (by decide) ?_
  refine J_icmp_lt (tgt := 22) dX11_count_2 (by decide) (fun q => absurd q (by decide +kernel)) (fun _ => ?_)
  refine J_iload_n dX11_count_5 rfl rfl ?_
  refine J_iconst (v := 5) dX11_count_6 (by decide) ?_
  refine J_icmp_gt (tgt := 22) dX11_count_7 (by decide) (fun q => absurd q (by decide +kernel)) (fun _ => ?_)
  refine J_aload_n dX11_count_10 rfl rfl ?_
  refine J_get (v := .ref 1) dX11_count_11 fl_X11_10 hk0 rfl ?_
  refine J_get (v := .ref 2) dX11_count_14 fl_X11_111 hk1 rfl ?_
  refine J_iload_n dX11_count_17 rfl rfl ?_
  refine J_iconst (v := 1) dX11_count_18 (by decide) ?_
  refine J_isub (z := 1) dX11_count_19 (by decide +kernel) ?_
  refine J_iald (i2 := 1) (v := 0) dX11_count_20 hk2 rfl (jin (by decide +kernel)) (by decide +kernel) rfl ?_
  exact J_iret dX11_count_21 rfl rfl (Nat.le_of_ble_eq_true rfl) (Nat.le_of_ble_eq_true rfl) ⟨rfl, rfl⟩
set_option maxHeartbeats 4000000 in
set_option maxRecDepth 100000 in
theorem c_X12_count_4 {l : Launch} {G : jG} {nh : Nat} {fh : Nat → Option va_E} (hk98 : fh 98 = some (.inr (12, [.int 0, .int 0, .ref 99, .ref 100, .ref 101, .ref 102, .ref 103, .ref 104, .ref 105, .int 0, .int (-1), .ref 106, .ref 107, .ref 108, .int 0, .int 0, .int 0, .int 0, .int 0, .int 0, .int 0, .ref 109, .int 0, .int 0, .ref 110, .ref 111, .ref 112, .ref 113, .ref 114, .ref 115, .ref 116, .ref 117, .int 0, .int 0, .int (-1), .int (-1), .ref 118, .ref 119, .ref 120, .ref 121, .ref 122, .ref 123, .ref 124, .ref 125, .ref 126, .ref 127, .ref 128, .ref 129, .int 0, .ref 130, .ref 131, .ref 132, .ref 133, .ref 134, .int 0, .int 0]))) (hk100 : fh 100 = some (.inl (0, 4870, .inl (upd (fun _ => 0) 63 (-1))))) : JM l G yX12_count MX12_count { frames := 0, cells := 0, slots := 0, locals := 0 } [.ref 98, .int 2] (nh, fh) (fun r h9 => r = some (.int 0) ∧ h9 = (nh, fh)) := by
  refine JM.of (by decide) rfl (fun h => by cases h) (Nat.le_of_ble_eq_true rfl) ⟨0, rfl⟩ ?_
  refine J_hc0 (J_ls (ls2 := [some (.ref 98), some (.int 2)]) rfl ?_)
  refine J_iload_n dX12_count_0 rfl rfl ?_
  refine J_tableIn (tgt := 97) dX12_count_1 (by decide +kernel) (by decide +kernel) (off := 96) (by decide +kernel) (by decide) ?_
  refine J_aload_n dX12_count_97 rfl rfl ?_
  refine J_get (v := .ref 100) dX12_count_98 fl_X12_20 hk98 rfl ?_
  refine J_iconst (v := 0) dX12_count_101 (by decide) ?_
  refine J_iload_n dX12_count_102 rfl rfl ?_
  refine J_iadd (z := 2) dX12_count_103 (by decide +kernel) ?_
  refine J_iconst (v := 1) dX12_count_104 (by decide) ?_
  refine J_isub (z := 1) dX12_count_105 (by decide +kernel) ?_
  refine J_iald (i2 := 1) (v := 0) dX12_count_106 hk100 rfl (jin (by decide +kernel)) (by decide +kernel) rfl ?_
  exact J_iret dX12_count_107 rfl rfl (Nat.le_of_ble_eq_true rfl) (Nat.le_of_ble_eq_true rfl) ⟨rfl, rfl⟩
set_option maxHeartbeats 4000000 in
set_option maxRecDepth 100000 in
theorem c_X11_count_5 {l : Launch} {G : jG} {nh : Nat} {fh : Nat → Option va_E} (hk0 : fh 0 = some (.inr (11, [.ref 1, .ref 17, .ref 50, .ref 51, .ref 54, .ref 57, .ref 65, .ref 75, .ref 81, .ref 85, .ref 88, .ref 93, .ref 96, .int 0, .int (-1), .ref 97, .int 0]))) (hk1 : fh 1 = some (.inr (8, [.ref 2, .ref 3, .ref 4, .int 0, .int (-1), .ref 11, .ref 12, .int 0, .ref 13, .ref 14, .int 0, .ref 15, .ref 16, .int 0]))) (hk2 : fh 2 = some (.inl (0, 5, .inl (fun _ => 0)))) : JM l G yX11_count MX11_count { frames := 0, cells := 0, slots := 0, locals := 0 } [.ref 0, .int 3] (nh, fh) (fun r h9 => r = some (.int 0) ∧ h9 = (nh, fh)) := by
  refine JM.of (by decide) rfl (fun h => by cases h) (Nat.le_of_ble_eq_true rfl) ⟨0, rfl⟩ ?_
  refine J_hc0 (J_ls (ls2 := [some (.ref 0), some (.int 3)]) rfl ?_)
  refine J_iload_n dX11_count_0 rfl rfl ?_
  refine J_iconst (v := 1) dX11_count_1 (by decide) ?_
  refine J_icmp_lt (tgt := 22) dX11_count_2 (by decide) (fun q => absurd q (by decide +kernel)) (fun _ => ?_)
  refine J_iload_n dX11_count_5 rfl rfl ?_
  refine J_iconst (v := 5) dX11_count_6 (by decide) ?_
  refine J_icmp_gt (tgt := 22) dX11_count_7 (by decide) (fun q => absurd q (by decide +kernel)) (fun _ => ?_)
  refine J_aload_n dX11_count_10 rfl rfl ?_
  refine J_get (v := .ref 1) dX11_count_11 fl_X11_10 hk0 rfl ?_
  refine J_get (v := .ref 2) dX11_count_14 fl_X11_111 hk1 rfl ?_
  refine J_iload_n dX11_count_17 rfl rfl ?_
  refine J_iconst (v := 1) dX11_count_18 (by decide) ?_
  refine J_isub (z := 2) dX11_count_19 (by decide +kernel) ?_
  refine J_iald (i2 := 2) (v := 0) dX11_count_20 hk2 rfl (jin (by decide +kernel)) (by decide +kernel) rfl ?_
  exact J_iret dX11_count_21 rfl rfl (Nat.le_of_ble_eq_true rfl) (Nat.le_of_ble_eq_true rfl) ⟨rfl, rfl⟩
set_option maxHeartbeats 4000000 in
set_option maxRecDepth 100000 in
theorem c_X12_count_5 {l : Launch} {G : jG} {nh : Nat} {fh : Nat → Option va_E} (hk98 : fh 98 = some (.inr (12, [.int 0, .int 0, .ref 99, .ref 100, .ref 101, .ref 102, .ref 103, .ref 104, .ref 105, .int 0, .int (-1), .ref 106, .ref 107, .ref 108, .int 0, .int 0, .int 0, .int 0, .int 0, .int 0, .int 0, .ref 109, .int 0, .int 0, .ref 110, .ref 111, .ref 112, .ref 113, .ref 114, .ref 115, .ref 116, .ref 117, .int 0, .int 0, .int (-1), .int (-1), .ref 118, .ref 119, .ref 120, .ref 121, .ref 122, .ref 123, .ref 124, .ref 125, .ref 126, .ref 127, .ref 128, .ref 129, .int 0, .ref 130, .ref 131, .ref 132, .ref 133, .ref 134, .int 0, .int 0]))) (hk100 : fh 100 = some (.inl (0, 4870, .inl (upd (fun _ => 0) 63 (-1))))) : JM l G yX12_count MX12_count { frames := 0, cells := 0, slots := 0, locals := 0 } [.ref 98, .int 3] (nh, fh) (fun r h9 => r = some (.int 0) ∧ h9 = (nh, fh)) := by
  refine JM.of (by decide) rfl (fun h => by cases h) (Nat.le_of_ble_eq_true rfl) ⟨0, rfl⟩ ?_
  refine J_hc0 (J_ls (ls2 := [some (.ref 98), some (.int 3)]) rfl ?_)
  refine J_iload_n dX12_count_0 rfl rfl ?_
  refine J_tableIn (tgt := 97) dX12_count_1 (by decide +kernel) (by decide +kernel) (off := 96) (by decide +kernel) (by decide) ?_
  refine J_aload_n dX12_count_97 rfl rfl ?_
  refine J_get (v := .ref 100) dX12_count_98 fl_X12_20 hk98 rfl ?_
  refine J_iconst (v := 0) dX12_count_101 (by decide) ?_
  refine J_iload_n dX12_count_102 rfl rfl ?_
  refine J_iadd (z := 3) dX12_count_103 (by decide +kernel) ?_
  refine J_iconst (v := 1) dX12_count_104 (by decide) ?_
  refine J_isub (z := 2) dX12_count_105 (by decide +kernel) ?_
  refine J_iald (i2 := 2) (v := 0) dX12_count_106 hk100 rfl (jin (by decide +kernel)) (by decide +kernel) rfl ?_
  exact J_iret dX12_count_107 rfl rfl (Nat.le_of_ble_eq_true rfl) (Nat.le_of_ble_eq_true rfl) ⟨rfl, rfl⟩
set_option maxHeartbeats 4000000 in
set_option maxRecDepth 100000 in
theorem c_X11_count_6 {l : Launch} {G : jG} {nh : Nat} {fh : Nat → Option va_E} (hk0 : fh 0 = some (.inr (11, [.ref 1, .ref 17, .ref 50, .ref 51, .ref 54, .ref 57, .ref 65, .ref 75, .ref 81, .ref 85, .ref 88, .ref 93, .ref 96, .int 0, .int (-1), .ref 97, .int 0]))) (hk1 : fh 1 = some (.inr (8, [.ref 2, .ref 3, .ref 4, .int 0, .int (-1), .ref 11, .ref 12, .int 0, .ref 13, .ref 14, .int 0, .ref 15, .ref 16, .int 0]))) (hk2 : fh 2 = some (.inl (0, 5, .inl (fun _ => 0)))) : JM l G yX11_count MX11_count { frames := 0, cells := 0, slots := 0, locals := 0 } [.ref 0, .int 4] (nh, fh) (fun r h9 => r = some (.int 0) ∧ h9 = (nh, fh)) := by
  refine JM.of (by decide) rfl (fun h => by cases h) (Nat.le_of_ble_eq_true rfl) ⟨0, rfl⟩ ?_
  refine J_hc0 (J_ls (ls2 := [some (.ref 0), some (.int 4)]) rfl ?_)
  refine J_iload_n dX11_count_0 rfl rfl ?_
  refine J_iconst (v := 1) dX11_count_1 (by decide) ?_
  refine J_icmp_lt (tgt := 22) dX11_count_2 (by decide) (fun q => absurd q (by decide +kernel)) (fun _ => ?_)
  refine J_iload_n dX11_count_5 rfl rfl ?_
  refine J_iconst (v := 5) dX11_count_6 (by decide) ?_
  refine J_icmp_gt (tgt := 22) dX11_count_7 (by decide) (fun q => absurd q (by decide +kernel)) (fun _ => ?_)
  refine J_aload_n dX11_count_10 rfl rfl ?_
  refine J_get (v := .ref 1) dX11_count_11 fl_X11_10 hk0 rfl ?_
  refine J_get (v := .ref 2) dX11_count_14 fl_X11_111 hk1 rfl ?_
  refine J_iload_n dX11_count_17 rfl rfl ?_
  refine J_iconst (v := 1) dX11_count_18 (by decide) ?_
  refine J_isub (z := 3) dX11_count_19 (by decide +kernel) ?_
  refine J_iald (i2 := 3) (v := 0) dX11_count_20 hk2 rfl (jin (by decide +kernel)) (by decide +kernel) rfl ?_
  exact J_iret dX11_count_21 rfl rfl (Nat.le_of_ble_eq_true rfl) (Nat.le_of_ble_eq_true rfl) ⟨rfl, rfl⟩
set_option maxHeartbeats 4000000 in
set_option maxRecDepth 100000 in
theorem c_X12_count_6 {l : Launch} {G : jG} {nh : Nat} {fh : Nat → Option va_E} (hk98 : fh 98 = some (.inr (12, [.int 0, .int 0, .ref 99, .ref 100, .ref 101, .ref 102, .ref 103, .ref 104, .ref 105, .int 0, .int (-1), .ref 106, .ref 107, .ref 108, .int 0, .int 0, .int 0, .int 0, .int 0, .int 0, .int 0, .ref 109, .int 0, .int 0, .ref 110, .ref 111, .ref 112, .ref 113, .ref 114, .ref 115, .ref 116, .ref 117, .int 0, .int 0, .int (-1), .int (-1), .ref 118, .ref 119, .ref 120, .ref 121, .ref 122, .ref 123, .ref 124, .ref 125, .ref 126, .ref 127, .ref 128, .ref 129, .int 0, .ref 130, .ref 131, .ref 132, .ref 133, .ref 134, .int 0, .int 0]))) (hk100 : fh 100 = some (.inl (0, 4870, .inl (upd (fun _ => 0) 63 (-1))))) : JM l G yX12_count MX12_count { frames := 0, cells := 0, slots := 0, locals := 0 } [.ref 98, .int 4] (nh, fh) (fun r h9 => r = some (.int 0) ∧ h9 = (nh, fh)) := by
  refine JM.of (by decide) rfl (fun h => by cases h) (Nat.le_of_ble_eq_true rfl) ⟨0, rfl⟩ ?_
  refine J_hc0 (J_ls (ls2 := [some (.ref 98), some (.int 4)]) rfl ?_)
  refine J_iload_n dX12_count_0 rfl rfl ?_
  refine J_tableIn (tgt := 97) dX12_count_1 (by decide +kernel) (by decide +kernel) (off := 96) (by decide +kernel) (by decide) ?_
  refine J_aload_n dX12_count_97 rfl rfl ?_
  refine J_get (v := .ref 100) dX12_count_98 fl_X12_20 hk98 rfl ?_
  refine J_iconst (v := 0) dX12_count_101 (by decide) ?_
  refine J_iload_n dX12_count_102 rfl rfl ?_
  refine J_iadd (z := 4) dX12_count_103 (by decide +kernel) ?_
  refine J_iconst (v := 1) dX12_count_104 (by decide) ?_
  refine J_isub (z := 3) dX12_count_105 (by decide +kernel) ?_
  refine J_iald (i2 := 3) (v := 0) dX12_count_106 hk100 rfl (jin (by decide +kernel)) (by decide +kernel) rfl ?_
  exact J_iret dX12_count_107 rfl rfl (Nat.le_of_ble_eq_true rfl) (Nat.le_of_ble_eq_true rfl) ⟨rfl, rfl⟩
set_option maxHeartbeats 4000000 in
set_option maxRecDepth 100000 in
theorem c_X11_count_7 {l : Launch} {G : jG} {nh : Nat} {fh : Nat → Option va_E} (hk0 : fh 0 = some (.inr (11, [.ref 1, .ref 17, .ref 50, .ref 51, .ref 54, .ref 57, .ref 65, .ref 75, .ref 81, .ref 85, .ref 88, .ref 93, .ref 96, .int 0, .int (-1), .ref 97, .int 0]))) (hk1 : fh 1 = some (.inr (8, [.ref 2, .ref 3, .ref 4, .int 0, .int (-1), .ref 11, .ref 12, .int 0, .ref 13, .ref 14, .int 0, .ref 15, .ref 16, .int 0]))) (hk2 : fh 2 = some (.inl (0, 5, .inl (fun _ => 0)))) : JM l G yX11_count MX11_count { frames := 0, cells := 0, slots := 0, locals := 0 } [.ref 0, .int 5] (nh, fh) (fun r h9 => r = some (.int 0) ∧ h9 = (nh, fh)) := by
  refine JM.of (by decide) rfl (fun h => by cases h) (Nat.le_of_ble_eq_true rfl) ⟨0, rfl⟩ ?_
  refine J_hc0 (J_ls (ls2 := [some (.ref 0), some (.int 5)]) rfl ?_)
  refine J_iload_n dX11_count_0 rfl rfl ?_
  refine J_iconst (v := 1) dX11_count_1 (by decide) ?_
  refine J_icmp_lt (tgt := 22) dX11_count_2 (by decide) (fun q => absurd q (by decide +kernel)) (fun _ => ?_)
  refine J_iload_n dX11_count_5 rfl rfl ?_
  refine J_iconst (v := 5) dX11_count_6 (by decide) ?_
  refine J_icmp_gt (tgt := 22) dX11_count_7 (by decide) (fun q => absurd q (by decide +kernel)) (fun _ => ?_)
  refine J_aload_n dX11_count_10 rfl rfl ?_
  refine J_get (v := .ref 1) dX11_count_11 fl_X11_10 hk0 rfl ?_
  refine J_get (v := .ref 2) dX11_count_14 fl_X11_111 hk1 rfl ?_
  refine J_iload_n dX11_count_17 rfl rfl ?_
  refine J_iconst (v := 1) dX11_count_18 (by decide) ?_
  refine J_isub (z := 4) dX11_count_19 (by decide +kernel) ?_
  refine J_iald (i2 := 4) (v := 0) dX11_count_20 hk2 rfl (jin (by decide +kernel)) (by decide +kernel) rfl ?_
  exact J_iret dX11_count_21 rfl rfl (Nat.le_of_ble_eq_true rfl) (Nat.le_of_ble_eq_true rfl) ⟨rfl, rfl⟩
set_option maxHeartbeats 4000000 in
set_option maxRecDepth 100000 in
theorem c_X12_count_7 {l : Launch} {G : jG} {nh : Nat} {fh : Nat → Option va_E} (hk98 : fh 98 = some (.inr (12, [.int 0, .int 0, .ref 99, .ref 100, .ref 101, .ref 102, .ref 103, .ref 104, .ref 105, .int 0, .int (-1), .ref 106, .ref 107, .ref 108, .int 0, .int 0, .int 0, .int 0, .int 0, .int 0, .int 0, .ref 109, .int 0, .int 0, .ref 110, .ref 111, .ref 112, .ref 113, .ref 114, .ref 115, .ref 116, .ref 117, .int 0, .int 0, .int (-1), .int (-1), .ref 118, .ref 119, .ref 120, .ref 121, .ref 122, .ref 123, .ref 124, .ref 125, .ref 126, .ref 127, .ref 128, .ref 129, .int 0, .ref 130, .ref 131, .ref 132, .ref 133, .ref 134, .int 0, .int 0]))) (hk100 : fh 100 = some (.inl (0, 4870, .inl (upd (fun _ => 0) 63 (-1))))) : JM l G yX12_count MX12_count { frames := 0, cells := 0, slots := 0, locals := 0 } [.ref 98, .int 5] (nh, fh) (fun r h9 => r = some (.int 0) ∧ h9 = (nh, fh)) := by
  refine JM.of (by decide) rfl (fun h => by cases h) (Nat.le_of_ble_eq_true rfl) ⟨0, rfl⟩ ?_
  refine J_hc0 (J_ls (ls2 := [some (.ref 98), some (.int 5)]) rfl ?_)
  refine J_iload_n dX12_count_0 rfl rfl ?_
  refine J_tableIn (tgt := 97) dX12_count_1 (by decide +kernel) (by decide +kernel) (off := 96) (by decide +kernel) (by decide) ?_
  refine J_aload_n dX12_count_97 rfl rfl ?_
  refine J_get (v := .ref 100) dX12_count_98 fl_X12_20 hk98 rfl ?_
  refine J_iconst (v := 0) dX12_count_101 (by decide) ?_
  refine J_iload_n dX12_count_102 rfl rfl ?_
  refine J_iadd (z := 5) dX12_count_103 (by decide +kernel) ?_
  refine J_iconst (v := 1) dX12_count_104 (by decide) ?_
  refine J_isub (z := 4) dX12_count_105 (by decide +kernel) ?_
  refine J_iald (i2 := 4) (v := 0) dX12_count_106 hk100 rfl (jin (by decide +kernel)) (by decide +kernel) rfl ?_
  exact J_iret dX12_count_107 rfl rfl (Nat.le_of_ble_eq_true rfl) (Nat.le_of_ble_eq_true rfl) ⟨rfl, rfl⟩
set_option maxHeartbeats 4000000 in
set_option maxRecDepth 100000 in
theorem c_X11_count_8 {l : Launch} {G : jG} {nh : Nat} {fh : Nat → Option va_E} (hk0 : fh 0 = some (.inr (11, [.ref 1, .ref 17, .ref 50, .ref 51, .ref 54, .ref 57, .ref 65, .ref 75, .ref 81, .ref 85, .ref 88, .ref 93, .ref 96, .int 0, .int (-1), .ref 97, .int 0]))) (hk1 : fh 1 = some (.inr (8, [.ref 2, .ref 3, .ref 4, .int 0, .int (-1), .ref 11, .ref 12, .int 0, .ref 13, .ref 14, .int 0, .ref 15, .ref 16, .int 0]))) : JM l G yX11_count MX11_count { frames := 0, cells := 0, slots := 0, locals := 0 } [.ref 0, .int 6] (nh, fh) (fun r h9 => r = some (.int 0) ∧ h9 = (nh, fh)) := by
  refine JM.of (by decide) rfl (fun h => by cases h) (Nat.le_of_ble_eq_true rfl) ⟨0, rfl⟩ ?_
  refine J_hc0 (J_ls (ls2 := [some (.ref 0), some (.int 6)]) rfl ?_)
  refine J_iload_n dX11_count_0 rfl rfl ?_
  refine J_iconst (v := 1) dX11_count_1 (by decide) ?_
  refine J_icmp_lt (tgt := 22) dX11_count_2 (by decide) (fun q => absurd q (by decide +kernel)) (fun _ => ?_)
  refine J_iload_n dX11_count_5 rfl rfl ?_
  refine J_iconst (v := 5) dX11_count_6 (by decide) ?_
  refine J_icmp_gt (tgt := 22) dX11_count_7 (by decide) (fun _ => ?_) (fun q => absurd (by decide +kernel) q)
  refine J_iload_n dX11_count_22 rfl rfl ?_
  refine J_bipush (v := 11) dX11_count_23 (by decide +kernel) ?_
  refine J_icmp_lt (tgt := 44) dX11_count_25 (by decide) (fun _ => ?_) (fun q => absurd (by decide +kernel) q)
  refine J_iload_n dX11_count_44 rfl rfl ?_
  refine J_tableIn (tgt := 144) dX11_count_45 (by decide +kernel) (by decide +kernel) (off := 99) (by decide +kernel) (by decide) ?_
  refine J_aload_n dX11_count_144 rfl rfl ?_
  refine J_get (v := .ref 1) dX11_count_145 fl_X11_10 hk0 rfl ?_
  refine J_get (v := .int 0) dX11_count_148 fl_X11_184 hk1 rfl ?_
  exact J_iret dX11_count_151 rfl rfl (Nat.le_of_ble_eq_true rfl) (Nat.le_of_ble_eq_true rfl) ⟨rfl, rfl⟩
set_option maxHeartbeats 4000000 in
set_option maxRecDepth 100000 in
theorem c_X12_count_8 {l : Launch} {G : jG} {nh : Nat} {fh : Nat → Option va_E} (hk98 : fh 98 = some (.inr (12, [.int 0, .int 0, .ref 99, .ref 100, .ref 101, .ref 102, .ref 103, .ref 104, .ref 105, .int 0, .int (-1), .ref 106, .ref 107, .ref 108, .int 0, .int 0, .int 0, .int 0, .int 0, .int 0, .int 0, .ref 109, .int 0, .int 0, .ref 110, .ref 111, .ref 112, .ref 113, .ref 114, .ref 115, .ref 116, .ref 117, .int 0, .int 0, .int (-1), .int (-1), .ref 118, .ref 119, .ref 120, .ref 121, .ref 122, .ref 123, .ref 124, .ref 125, .ref 126, .ref 127, .ref 128, .ref 129, .int 0, .ref 130, .ref 131, .ref 132, .ref 133, .ref 134, .int 0, .int 0]))) (hk100 : fh 100 = some (.inl (0, 4870, .inl (upd (fun _ => 0) 63 (-1))))) : JM l G yX12_count MX12_count { frames := 0, cells := 0, slots := 0, locals := 0 } [.ref 98, .int 6] (nh, fh) (fun r h9 => r = some (.int 0) ∧ h9 = (nh, fh)) := by
  refine JM.of (by decide) rfl (fun h => by cases h) (Nat.le_of_ble_eq_true rfl) ⟨0, rfl⟩ ?_
  refine J_hc0 (J_ls (ls2 := [some (.ref 98), some (.int 6)]) rfl ?_)
  refine J_iload_n dX12_count_0 rfl rfl ?_
  refine J_tableIn (tgt := 108) dX12_count_1 (by decide +kernel) (by decide +kernel) (off := 107) (by decide +kernel) (by decide) ?_
  refine J_aload_n dX12_count_108 rfl rfl ?_
  refine J_get (v := .ref 100) dX12_count_109 fl_X12_20 hk98 rfl ?_
  refine J_bipush (v := 62) dX12_count_112 (by decide +kernel) ?_
  refine J_iald (i2 := 62) (v := 0) dX12_count_114 hk100 rfl (jin (by decide +kernel)) (by decide +kernel) rfl ?_
  exact J_iret dX12_count_115 rfl rfl (Nat.le_of_ble_eq_true rfl) (Nat.le_of_ble_eq_true rfl) ⟨rfl, rfl⟩
set_option maxHeartbeats 4000000 in
set_option maxRecDepth 100000 in
theorem c_X11_count_9 {l : Launch} {G : jG} {nh : Nat} {fh : Nat → Option va_E} (hk0 : fh 0 = some (.inr (11, [.ref 1, .ref 17, .ref 50, .ref 51, .ref 54, .ref 57, .ref 65, .ref 75, .ref 81, .ref 85, .ref 88, .ref 93, .ref 96, .int 0, .int (-1), .ref 97, .int 0]))) (hk1 : fh 1 = some (.inr (8, [.ref 2, .ref 3, .ref 4, .int 0, .int (-1), .ref 11, .ref 12, .int 0, .ref 13, .ref 14, .int 0, .ref 15, .ref 16, .int 0]))) : JM l G yX11_count MX11_count { frames := 0, cells := 0, slots := 0, locals := 0 } [.ref 0, .int 7] (nh, fh) (fun r h9 => r = some (.int 0) ∧ h9 = (nh, fh)) := by
  refine JM.of (by decide) rfl (fun h => by cases h) (Nat.le_of_ble_eq_true rfl) ⟨0, rfl⟩ ?_
  refine J_hc0 (J_ls (ls2 := [some (.ref 0), some (.int 7)]) rfl ?_)
  refine J_iload_n dX11_count_0 rfl rfl ?_
  refine J_iconst (v := 1) dX11_count_1 (by decide) ?_
  refine J_icmp_lt (tgt := 22) dX11_count_2 (by decide) (fun q => absurd q (by decide +kernel)) (fun _ => ?_)
  refine J_iload_n dX11_count_5 rfl rfl ?_
  refine J_iconst (v := 5) dX11_count_6 (by decide) ?_
  refine J_icmp_gt (tgt := 22) dX11_count_7 (by decide) (fun _ => ?_) (fun q => absurd (by decide +kernel) q)
  refine J_iload_n dX11_count_22 rfl rfl ?_
  refine J_bipush (v := 11) dX11_count_23 (by decide +kernel) ?_
  refine J_icmp_lt (tgt := 44) dX11_count_25 (by decide) (fun _ => ?_) (fun q => absurd (by decide +kernel) q)
  refine J_iload_n dX11_count_44 rfl rfl ?_
  refine J_tableIn (tgt := 152) dX11_count_45 (by decide +kernel) (by decide +kernel) (off := 107) (by decide +kernel) (by decide) ?_
  refine J_aload_n dX11_count_152 rfl rfl ?_
  refine J_get (v := .ref 1) dX11_count_153 fl_X11_10 hk0 rfl ?_
  refine J_get (v := .int 0) dX11_count_156 fl_X11_204 hk1 rfl ?_
  exact J_iret dX11_count_159 rfl rfl (Nat.le_of_ble_eq_true rfl) (Nat.le_of_ble_eq_true rfl) ⟨rfl, rfl⟩
set_option maxHeartbeats 4000000 in
set_option maxRecDepth 100000 in
theorem c_X12_count_9 {l : Launch} {G : jG} {nh : Nat} {fh : Nat → Option va_E} (hk98 : fh 98 = some (.inr (12, [.int 0, .int 0, .ref 99, .ref 100, .ref 101, .ref 102, .ref 103, .ref 104, .ref 105, .int 0, .int (-1), .ref 106, .ref 107, .ref 108, .int 0, .int 0, .int 0, .int 0, .int 0, .int 0, .int 0, .ref 109, .int 0, .int 0, .ref 110, .ref 111, .ref 112, .ref 113, .ref 114, .ref 115, .ref 116, .ref 117, .int 0, .int 0, .int (-1), .int (-1), .ref 118, .ref 119, .ref 120, .ref 121, .ref 122, .ref 123, .ref 124, .ref 125, .ref 126, .ref 127, .ref 128, .ref 129, .int 0, .ref 130, .ref 131, .ref 132, .ref 133, .ref 134, .int 0, .int 0]))) (hk100 : fh 100 = some (.inl (0, 4870, .inl (upd (fun _ => 0) 63 (-1))))) : JM l G yX12_count MX12_count { frames := 0, cells := 0, slots := 0, locals := 0 } [.ref 98, .int 7] (nh, fh) (fun r h9 => r = some (.int 0) ∧ h9 = (nh, fh)) := by
  refine JM.of (by decide) rfl (fun h => by cases h) (Nat.le_of_ble_eq_true rfl) ⟨0, rfl⟩ ?_
  refine J_hc0 (J_ls (ls2 := [some (.ref 98), some (.int 7)]) rfl ?_)
  refine J_iload_n dX12_count_0 rfl rfl ?_
  refine J_tableIn (tgt := 116) dX12_count_1 (by decide +kernel) (by decide +kernel) (off := 115) (by decide +kernel) (by decide) ?_
  refine J_aload_n dX12_count_116 rfl rfl ?_
  refine J_get (v := .ref 100) dX12_count_117 fl_X12_20 hk98 rfl ?_
  refine J_bipush (v := 59) dX12_count_120 (by decide +kernel) ?_
  refine J_iald (i2 := 59) (v := 0) dX12_count_122 hk100 rfl (jin (by decide +kernel)) (by decide +kernel) rfl ?_
  exact J_iret dX12_count_123 rfl rfl (Nat.le_of_ble_eq_true rfl) (Nat.le_of_ble_eq_true rfl) ⟨rfl, rfl⟩
set_option maxHeartbeats 4000000 in
set_option maxRecDepth 100000 in
theorem c_X11_count_10 {l : Launch} {G : jG} {nh : Nat} {fh : Nat → Option va_E} (hk0 : fh 0 = some (.inr (11, [.ref 1, .ref 17, .ref 50, .ref 51, .ref 54, .ref 57, .ref 65, .ref 75, .ref 81, .ref 85, .ref 88, .ref 93, .ref 96, .int 0, .int (-1), .ref 97, .int 0]))) (hk1 : fh 1 = some (.inr (8, [.ref 2, .ref 3, .ref 4, .int 0, .int (-1), .ref 11, .ref 12, .int 0, .ref 13, .ref 14, .int 0, .ref 15, .ref 16, .int 0]))) : JM l G yX11_count MX11_count { frames := 0, cells := 0, slots := 0, locals := 0 } [.ref 0, .int 8] (nh, fh) (fun r h9 => r = some (.int 0) ∧ h9 = (nh, fh)) := by
  refine JM.of (by decide) rfl (fun h => by cases h) (Nat.le_of_ble_eq_true rfl) ⟨0, rfl⟩ ?_
  refine J_hc0 (J_ls (ls2 := [some (.ref 0), some (.int 8)]) rfl ?_)
  refine J_iload_n dX11_count_0 rfl rfl ?_
  refine J_iconst (v := 1) dX11_count_1 (by decide) ?_
  refine J_icmp_lt (tgt := 22) dX11_count_2 (by decide) (fun q => absurd q (by decide +kernel)) (fun _ => ?_)
  refine J_iload_n dX11_count_5 rfl rfl ?_
  refine J_iconst (v := 5) dX11_count_6 (by decide) ?_
  refine J_icmp_gt (tgt := 22) dX11_count_7 (by decide) (fun _ => ?_) (fun q => absurd (by decide +kernel) q)
  refine J_iload_n dX11_count_22 rfl rfl ?_
  refine J_bipush (v := 11) dX11_count_23 (by decide +kernel) ?_
  refine J_icmp_lt (tgt := 44) dX11_count_25 (by decide) (fun _ => ?_) (fun q => absurd (by decide +kernel) q)
  refine J_iload_n dX11_count_44 rfl rfl ?_
  refine J_tableIn (tgt := 160) dX11_count_45 (by decide +kernel) (by decide +kernel) (off := 115) (by decide +kernel) (by decide) ?_
  refine J_aload_n dX11_count_160 rfl rfl ?_
  refine J_get (v := .ref 1) dX11_count_161 fl_X11_10 hk0 rfl ?_
  refine J_get (v := .int 0) dX11_count_164 fl_X11_286 hk1 rfl ?_
  exact J_iret dX11_count_167 rfl rfl (Nat.le_of_ble_eq_true rfl) (Nat.le_of_ble_eq_true rfl) ⟨rfl, rfl⟩
set_option maxHeartbeats 4000000 in
set_option maxRecDepth 100000 in
theorem c_X12_count_10 {l : Launch} {G : jG} {nh : Nat} {fh : Nat → Option va_E} (hk98 : fh 98 = some (.inr (12, [.int 0, .int 0, .ref 99, .ref 100, .ref 101, .ref 102, .ref 103, .ref 104, .ref 105, .int 0, .int (-1), .ref 106, .ref 107, .ref 108, .int 0, .int 0, .int 0, .int 0, .int 0, .int 0, .int 0, .ref 109, .int 0, .int 0, .ref 110, .ref 111, .ref 112, .ref 113, .ref 114, .ref 115, .ref 116, .ref 117, .int 0, .int 0, .int (-1), .int (-1), .ref 118, .ref 119, .ref 120, .ref 121, .ref 122, .ref 123, .ref 124, .ref 125, .ref 126, .ref 127, .ref 128, .ref 129, .int 0, .ref 130, .ref 131, .ref 132, .ref 133, .ref 134, .int 0, .int 0]))) (hk100 : fh 100 = some (.inl (0, 4870, .inl (upd (fun _ => 0) 63 (-1))))) : JM l G yX12_count MX12_count { frames := 0, cells := 0, slots := 0, locals := 0 } [.ref 98, .int 8] (nh, fh) (fun r h9 => r = some (.int 0) ∧ h9 = (nh, fh)) := by
  refine JM.of (by decide) rfl (fun h => by cases h) (Nat.le_of_ble_eq_true rfl) ⟨0, rfl⟩ ?_
  refine J_hc0 (J_ls (ls2 := [some (.ref 98), some (.int 8)]) rfl ?_)
  refine J_iload_n dX12_count_0 rfl rfl ?_
  refine J_tableIn (tgt := 124) dX12_count_1 (by decide +kernel) (by decide +kernel) (off := 123) (by decide +kernel) (by decide) ?_
  refine J_aload_n dX12_count_124 rfl rfl ?_
  refine J_get (v := .ref 100) dX12_count_125 fl_X12_20 hk98 rfl ?_
  refine J_bipush (v := 61) dX12_count_128 (by decide +kernel) ?_
  refine J_iald (i2 := 61) (v := 0) dX12_count_130 hk100 rfl (jin (by decide +kernel)) (by decide +kernel) rfl ?_
  exact J_iret dX12_count_131 rfl rfl (Nat.le_of_ble_eq_true rfl) (Nat.le_of_ble_eq_true rfl) ⟨rfl, rfl⟩
set_option maxHeartbeats 4000000 in
set_option maxRecDepth 100000 in
theorem c_X11_count_11 {l : Launch} {G : jG} {nh : Nat} {fh : Nat → Option va_E} (hk0 : fh 0 = some (.inr (11, [.ref 1, .ref 17, .ref 50, .ref 51, .ref 54, .ref 57, .ref 65, .ref 75, .ref 81, .ref 85, .ref 88, .ref 93, .ref 96, .int 0, .int (-1), .ref 97, .int 0]))) (hk1 : fh 1 = some (.inr (8, [.ref 2, .ref 3, .ref 4, .int 0, .int (-1), .ref 11, .ref 12, .int 0, .ref 13, .ref 14, .int 0, .ref 15, .ref 16, .int 0]))) : JM l G yX11_count MX11_count { frames := 0, cells := 0, slots := 0, locals := 0 } [.ref 0, .int 9] (nh, fh) (fun r h9 => r = some (.int 0) ∧ h9 = (nh, fh)) := by
  refine JM.of (by decide) rfl (fun h => by cases h) (Nat.le_of_ble_eq_true rfl) ⟨0, rfl⟩ ?_
  refine J_hc0 (J_ls (ls2 := [some (.ref 0), some (.int 9)]) rfl ?_)
  refine J_iload_n dX11_count_0 rfl rfl ?_
  refine J_iconst (v := 1) dX11_count_1 (by decide) ?_
  refine J_icmp_lt (tgt := 22) dX11_count_2 (by decide) (fun q => absurd q (by decide +kernel)) (fun _ => ?_)
  refine J_iload_n dX11_count_5 rfl rfl ?_
  refine J_iconst (v := 5) dX11_count_6 (by decide) ?_
  refine J_icmp_gt (tgt := 22) dX11_count_7 (by decide) (fun _ => ?_) (fun q => absurd (by decide +kernel) q)
  refine J_iload_n dX11_count_22 rfl rfl ?_
  refine J_bipush (v := 11) dX11_count_23 (by decide +kernel) ?_
  refine J_icmp_lt (tgt := 44) dX11_count_25 (by decide) (fun _ => ?_) (fun q => absurd (by decide +kernel) q)
  refine J_iload_n dX11_count_44 rfl rfl ?_
  refine J_tableIn (tgt := 168) dX11_count_45 (by decide +kernel) (by decide +kernel) (off := 123) (by decide +kernel) (by decide) ?_
  refine J_aload_n dX11_count_168 rfl rfl ?_
  refine J_get (v := .ref 1) dX11_count_169 fl_X11_10 hk0 rfl ?_
  refine J_get (v := .int 0) dX11_count_172 fl_X11_264 hk1 rfl ?_
  exact J_iret dX11_count_175 rfl rfl (Nat.le_of_ble_eq_true rfl) (Nat.le_of_ble_eq_true rfl) ⟨rfl, rfl⟩
set_option maxHeartbeats 4000000 in
set_option maxRecDepth 100000 in
theorem c_X12_count_11 {l : Launch} {G : jG} {nh : Nat} {fh : Nat → Option va_E} (hk98 : fh 98 = some (.inr (12, [.int 0, .int 0, .ref 99, .ref 100, .ref 101, .ref 102, .ref 103, .ref 104, .ref 105, .int 0, .int (-1), .ref 106, .ref 107, .ref 108, .int 0, .int 0, .int 0, .int 0, .int 0, .int 0, .int 0, .ref 109, .int 0, .int 0, .ref 110, .ref 111, .ref 112, .ref 113, .ref 114, .ref 115, .ref 116, .ref 117, .int 0, .int 0, .int (-1), .int (-1), .ref 118, .ref 119, .ref 120, .ref 121, .ref 122, .ref 123, .ref 124, .ref 125, .ref 126, .ref 127, .ref 128, .ref 129, .int 0, .ref 130, .ref 131, .ref 132, .ref 133, .ref 134, .int 0, .int 0]))) (hk100 : fh 100 = some (.inl (0, 4870, .inl (upd (fun _ => 0) 63 (-1))))) : JM l G yX12_count MX12_count { frames := 0, cells := 0, slots := 0, locals := 0 } [.ref 98, .int 9] (nh, fh) (fun r h9 => r = some (.int 0) ∧ h9 = (nh, fh)) := by
  refine JM.of (by decide) rfl (fun h => by cases h) (Nat.le_of_ble_eq_true rfl) ⟨0, rfl⟩ ?_
  refine J_hc0 (J_ls (ls2 := [some (.ref 98), some (.int 9)]) rfl ?_)
  refine J_iload_n dX12_count_0 rfl rfl ?_
  refine J_tableIn (tgt := 132) dX12_count_1 (by decide +kernel) (by decide +kernel) (off := 131) (by decide +kernel) (by decide) ?_
  refine J_aload_n dX12_count_132 rfl rfl ?_
  refine J_get (v := .ref 100) dX12_count_133 fl_X12_20 hk98 rfl ?_
  refine J_bipush (v := 60) dX12_count_136 (by decide +kernel) ?_
  refine J_iald (i2 := 60) (v := 0) dX12_count_138 hk100 rfl (jin (by decide +kernel)) (by decide +kernel) rfl ?_
  exact J_iret dX12_count_139 rfl rfl (Nat.le_of_ble_eq_true rfl) (Nat.le_of_ble_eq_true rfl) ⟨rfl, rfl⟩
set_option maxHeartbeats 4000000 in
set_option maxRecDepth 100000 in
theorem c_X11_count_12 {l : Launch} {G : jG} {nh : Nat} {fh : Nat → Option va_E} (hk0 : fh 0 = some (.inr (11, [.ref 1, .ref 17, .ref 50, .ref 51, .ref 54, .ref 57, .ref 65, .ref 75, .ref 81, .ref 85, .ref 88, .ref 93, .ref 96, .int 0, .int (-1), .ref 97, .int 0]))) (hk54 : fh 54 = some (.inr (5, [.ref 55, .int 0, .int 17, .int 0, .int 0, .int 0, .int 0, .int (-1), .ref 56, .int 0]))) : JM l G yX11_count MX11_count { frames := 1, cells := 0, slots := 0, locals := 20 } [.ref 0, .int 10] (nh, fh) (fun r h9 => r = some (.int 0) ∧ h9 = (nh, fh)) := by
  refine JM.of (by decide) rfl (fun h => by cases h) (Nat.le_of_ble_eq_true rfl) ⟨0, rfl⟩ ?_
  refine J_hc0 (J_ls (ls2 := [some (.ref 0), some (.int 10)]) rfl ?_)
  refine J_iload_n dX11_count_0 rfl rfl ?_
  refine J_iconst (v := 1) dX11_count_1 (by decide) ?_
  refine J_icmp_lt (tgt := 22) dX11_count_2 (by decide) (fun q => absurd q (by decide +kernel)) (fun _ => ?_)
  refine J_iload_n dX11_count_5 rfl rfl ?_
  refine J_iconst (v := 5) dX11_count_6 (by decide) ?_
  refine J_icmp_gt (tgt := 22) dX11_count_7 (by decide) (fun _ => ?_) (fun q => absurd (by decide +kernel) q)
  refine J_iload_n dX11_count_22 rfl rfl ?_
  refine J_bipush (v := 11) dX11_count_23 (by decide +kernel) ?_
  refine J_icmp_lt (tgt := 44) dX11_count_25 (by decide) (fun _ => ?_) (fun q => absurd (by decide +kernel) q)
  refine J_iload_n dX11_count_44 rfl rfl ?_
  refine J_tableIn (tgt := 176) dX11_count_45 (by decide +kernel) (by decide +kernel) (off := 131) (by decide +kernel) (by decide) ?_
  refine J_aload_n dX11_count_176 rfl rfl ?_
  refine J_get (v := .ref 54) dX11_count_177 fl_X11_34 hk0 rfl ?_
  refine J_callV (st := []) dX11_count_180 cv_X11_158 (c_X5_length_2 hk54) hk54 rfl rfl (Nat.le_of_ble_eq_true rfl) ⟨(Nat.le_of_ble_eq_true rfl), (Nat.le_of_ble_eq_true rfl)⟩ ⟨(Nat.le_of_ble_eq_true rfl), (Nat.le_of_ble_eq_true rfl)⟩ (fun r h9 hp => ?_)
  obtain ⟨rfl, rfl⟩ := hp
  refine J_nf (nh2 := nh) (ck2 := 0) (sk2 := 0) (st2 := [.int 0]) rfl rfl rfl rfl ?_
  exact J_iret dX11_count_183 rfl rfl (Nat.le_of_ble_eq_true rfl) (Nat.le_of_ble_eq_true rfl) ⟨rfl, rfl⟩
set_option maxHeartbeats 4000000 in
set_option maxRecDepth 100000 in
theorem c_X12_count_12 {l : Launch} {G : jG} {nh : Nat} {fh : Nat → Option va_E} (hk98 : fh 98 = some (.inr (12, [.int 0, .int 0, .ref 99, .ref 100, .ref 101, .ref 102, .ref 103, .ref 104, .ref 105, .int 0, .int (-1), .ref 106, .ref 107, .ref 108, .int 0, .int 0, .int 0, .int 0, .int 0, .int 0, .int 0, .ref 109, .int 0, .int 0, .ref 110, .ref 111, .ref 112, .ref 113, .ref 114, .ref 115, .ref 116, .ref 117, .int 0, .int 0, .int (-1), .int (-1), .ref 118, .ref 119, .ref 120, .ref 121, .ref 122, .ref 123, .ref 124, .ref 125, .ref 126, .ref 127, .ref 128, .ref 129, .int 0, .ref 130, .ref 131, .ref 132, .ref 133, .ref 134, .int 0, .int 0]))) : JM l G yX12_count MX12_count { frames := 0, cells := 0, slots := 0, locals := 0 } [.ref 98, .int 10] (nh, fh) (fun r h9 => r = some (.int 0) ∧ h9 = (nh, fh)) := by
  refine JM.of (by decide) rfl (fun h => by cases h) (Nat.le_of_ble_eq_true rfl) ⟨0, rfl⟩ ?_
  refine J_hc0 (J_ls (ls2 := [some (.ref 98), some (.int 10)]) rfl ?_)
  refine J_iload_n dX12_count_0 rfl rfl ?_
  refine J_tableIn (tgt := 140) dX12_count_1 (by decide +kernel) (by decide +kernel) (off := 139) (by decide +kernel) (by decide) ?_
  refine J_aload_n dX12_count_140 rfl rfl ?_
  refine J_get (v := .int 0) dX12_count_141 fl_X12_156 hk98 rfl ?_
  exact J_iret dX12_count_144 rfl rfl (Nat.le_of_ble_eq_true rfl) (Nat.le_of_ble_eq_true rfl) ⟨rfl, rfl⟩
set_option maxHeartbeats 4000000 in
set_option maxRecDepth 100000 in
theorem c_X11_count_13 {l : Launch} {G : jG} {nh : Nat} {fh : Nat → Option va_E} (hk0 : fh 0 = some (.inr (11, [.ref 1, .ref 17, .ref 50, .ref 51, .ref 54, .ref 57, .ref 65, .ref 75, .ref 81, .ref 85, .ref 88, .ref 93, .ref 96, .int 0, .int (-1), .ref 97, .int 0]))) (hk96 : fh 96 = some (.inl (0, 5, .inl (fun _ => 0)))) : JM l G yX11_count MX11_count { frames := 0, cells := 0, slots := 0, locals := 0 } [.ref 0, .int 11] (nh, fh) (fun r h9 => r = some (.int 0) ∧ h9 = (nh, fh)) := by
  refine JM.of (by decide) rfl (fun h => by cases h) (Nat.le_of_ble_eq_true rfl) ⟨0, rfl⟩ ?_
  refine J_hc0 (J_ls (ls2 := [some (.ref 0), some (.int 11)]) rfl ?_)
  refine J_iload_n dX11_count_0 rfl rfl ?_
  refine J_iconst (v := 1) dX11_count_1 (by decide) ?_
  refine J_icmp_lt (tgt := 22) dX11_count_2 (by decide) (fun q => absurd q (by decide +kernel)) (fun _ => ?_)
  refine J_iload_n dX11_count_5 rfl rfl ?_
  refine J_iconst (v := 5) dX11_count_6 (by decide) ?_
  refine J_icmp_gt (tgt := 22) dX11_count_7 (by decide) (fun _ => ?_) (fun q => absurd (by decide +kernel) q)
  refine J_iload_n dX11_count_22 rfl rfl ?_
  refine J_bipush (v := 11) dX11_count_23 (by decide +kernel) ?_
  refine J_icmp_lt (tgt := 44) dX11_count_25 (by decide) (fun q => absurd q (by decide +kernel)) (fun _ => ?_)
  refine J_iload_n dX11_count_28 rfl rfl ?_
  refine J_bipush (v := 15) dX11_count_29 (by decide +kernel) ?_
  refine J_icmp_gt (tgt := 44) dX11_count_31 (by decide) (fun q => absurd q (by decide +kernel)) (fun _ => ?_)
  refine J_aload_n dX11_count_34 rfl rfl ?_
  refine J_get (v := .ref 96) dX11_count_35 fl_X11_93 hk0 rfl ?_
  refine J_iload_n dX11_count_38 rfl rfl ?_
  refine J_bipush (v := 11) dX11_count_39 (by decide +kernel) ?_
  refine J_isub (z := 0) dX11_count_41 (by decide +kernel) ?_
  refine J_iald (i2 := 0) (v := 0) dX11_count_42 hk96 rfl (jin (by decide +kernel)) (by decide +kernel) rfl ?_
  exact J_iret dX11_count_43 rfl rfl (Nat.le_of_ble_eq_true rfl) (Nat.le_of_ble_eq_true rfl) ⟨rfl, rfl⟩
set_option maxHeartbeats 4000000 in
set_option maxRecDepth 100000 in
theorem c_X12_count_13 {l : Launch} {G : jG} {nh : Nat} {fh : Nat → Option va_E} (hk98 : fh 98 = some (.inr (12, [.int 0, .int 0, .ref 99, .ref 100, .ref 101, .ref 102, .ref 103, .ref 104, .ref 105, .int 0, .int (-1), .ref 106, .ref 107, .ref 108, .int 0, .int 0, .int 0, .int 0, .int 0, .int 0, .int 0, .ref 109, .int 0, .int 0, .ref 110, .ref 111, .ref 112, .ref 113, .ref 114, .ref 115, .ref 116, .ref 117, .int 0, .int 0, .int (-1), .int (-1), .ref 118, .ref 119, .ref 120, .ref 121, .ref 122, .ref 123, .ref 124, .ref 125, .ref 126, .ref 127, .ref 128, .ref 129, .int 0, .ref 130, .ref 131, .ref 132, .ref 133, .ref 134, .int 0, .int 0]))) (hk99 : fh 99 = some (.inl (0, 7, .inl (fun _ => 0)))) : JM l G yX12_count MX12_count { frames := 0, cells := 0, slots := 0, locals := 0 } [.ref 98, .int 11] (nh, fh) (fun r h9 => r = some (.int 0) ∧ h9 = (nh, fh)) := by
  refine JM.of (by decide) rfl (fun h => by cases h) (Nat.le_of_ble_eq_true rfl) ⟨0, rfl⟩ ?_
  refine J_hc0 (J_ls (ls2 := [some (.ref 98), some (.int 11)]) rfl ?_)
  refine J_iload_n dX12_count_0 rfl rfl ?_
  refine J_tableIn (tgt := 145) dX12_count_1 (by decide +kernel) (by decide +kernel) (off := 144) (by decide +kernel) (by decide) ?_
  refine J_aload_n dX12_count_145 rfl rfl ?_
  refine J_get (v := .ref 99) dX12_count_146 fl_X12_7 hk98 rfl ?_
  refine J_iload_n dX12_count_149 rfl rfl ?_
  refine J_bipush (v := 10) dX12_count_150 (by decide +kernel) ?_
  refine J_isub (z := 1) dX12_count_152 (by decide +kernel) ?_
  refine J_iald (i2 := 1) (v := 0) dX12_count_153 hk99 rfl (jin (by decide +kernel)) (by decide +kernel) rfl ?_
  exact J_iret dX12_count_154 rfl rfl (Nat.le_of_ble_eq_true rfl) (Nat.le_of_ble_eq_true rfl) ⟨rfl, rfl⟩
set_option maxHeartbeats 4000000 in
set_option maxRecDepth 100000 in
theorem c_X11_count_14 {l : Launch} {G : jG} {nh : Nat} {fh : Nat → Option va_E} (hk0 : fh 0 = some (.inr (11, [.ref 1, .ref 17, .ref 50, .ref 51, .ref 54, .ref 57, .ref 65, .ref 75, .ref 81, .ref 85, .ref 88, .ref 93, .ref 96, .int 0, .int (-1), .ref 97, .int 0]))) (hk96 : fh 96 = some (.inl (0, 5, .inl (fun _ => 0)))) : JM l G yX11_count MX11_count { frames := 0, cells := 0, slots := 0, locals := 0 } [.ref 0, .int 12] (nh, fh) (fun r h9 => r = some (.int 0) ∧ h9 = (nh, fh)) := by
  refine JM.of (by decide) rfl (fun h => by cases h) (Nat.le_of_ble_eq_true rfl) ⟨0, rfl⟩ ?_
  refine J_hc0 (J_ls (ls2 := [some (.ref 0), some (.int 12)]) rfl ?_)
  refine J_iload_n dX11_count_0 rfl rfl ?_
  refine J_iconst (v := 1) dX11_count_1 (by decide) ?_
  refine J_icmp_lt (tgt := 22) dX11_count_2 (by decide) (fun q => absurd q (by decide +kernel)) (fun _ => ?_)
  refine J_iload_n dX11_count_5 rfl rfl ?_
  refine J_iconst (v := 5) dX11_count_6 (by decide) ?_
  refine J_icmp_gt (tgt := 22) dX11_count_7 (by decide) (fun _ => ?_) (fun q => absurd (by decide +kernel) q)
  refine J_iload_n dX11_count_22 rfl rfl ?_
  refine J_bipush (v := 11) dX11_count_23 (by decide +kernel) ?_
  refine J_icmp_lt (tgt := 44) dX11_count_25 (by decide) (fun q => absurd q (by decide +kernel)) (fun _ => ?_)
  refine J_iload_n dX11_count_28 rfl rfl ?_
  refine J_bipush (v := 15) dX11_count_29 (by decide +kernel) ?_
  refine J_icmp_gt (tgt := 44) dX11_count_31 (by decide) (fun q => absurd q (by decide +kernel)) (fun _ => ?_)
  refine J_aload_n dX11_count_34 rfl rfl ?_
  refine J_get (v := .ref 96) dX11_count_35 fl_X11_93 hk0 rfl ?_
  refine J_iload_n dX11_count_38 rfl rfl ?_
  refine J_bipush (v := 11) dX11_count_39 (by decide +kernel) ?_
  refine J_isub (z := 1) dX11_count_41 (by decide +kernel) ?_
  refine J_iald (i2 := 1) (v := 0) dX11_count_42 hk96 rfl (jin (by decide +kernel)) (by decide +kernel) rfl ?_
  exact J_iret dX11_count_43 rfl rfl (Nat.le_of_ble_eq_true rfl) (Nat.le_of_ble_eq_true rfl) ⟨rfl, rfl⟩
set_option maxHeartbeats 4000000 in
set_option maxRecDepth 100000 in
theorem c_X12_count_14 {l : Launch} {G : jG} {nh : Nat} {fh : Nat → Option va_E} (hk98 : fh 98 = some (.inr (12, [.int 0, .int 0, .ref 99, .ref 100, .ref 101, .ref 102, .ref 103, .ref 104, .ref 105, .int 0, .int (-1), .ref 106, .ref 107, .ref 108, .int 0, .int 0, .int 0, .int 0, .int 0, .int 0, .int 0, .ref 109, .int 0, .int 0, .ref 110, .ref 111, .ref 112, .ref 113, .ref 114, .ref 115, .ref 116, .ref 117, .int 0, .int 0, .int (-1), .int (-1), .ref 118, .ref 119, .ref 120, .ref 121, .ref 122, .ref 123, .ref 124, .ref 125, .ref 126, .ref 127, .ref 128, .ref 129, .int 0, .ref 130, .ref 131, .ref 132, .ref 133, .ref 134, .int 0, .int 0]))) (hk99 : fh 99 = some (.inl (0, 7, .inl (fun _ => 0)))) : JM l G yX12_count MX12_count { frames := 0, cells := 0, slots := 0, locals := 0 } [.ref 98, .int 12] (nh, fh) (fun r h9 => r = some (.int 0) ∧ h9 = (nh, fh)) := by
  refine JM.of (by decide) rfl (fun h => by cases h) (Nat.le_of_ble_eq_true rfl) ⟨0, rfl⟩ ?_
  refine J_hc0 (J_ls (ls2 := [some (.ref 98), some (.int 12)]) rfl ?_)
  refine J_iload_n dX12_count_0 rfl rfl ?_
  refine J_tableIn (tgt := 145) dX12_count_1 (by decide +kernel) (by decide +kernel) (off := 144) (by decide +kernel) (by decide) ?_
  refine J_aload_n dX12_count_145 rfl rfl ?_
  refine J_get (v := .ref 99) dX12_count_146 fl_X12_7 hk98 rfl ?_
  refine J_iload_n dX12_count_149 rfl rfl ?_
  refine J_bipush (v := 10) dX12_count_150 (by decide +kernel) ?_
  refine J_isub (z := 2) dX12_count_152 (by decide +kernel) ?_
  refine J_iald (i2 := 2) (v := 0) dX12_count_153 hk99 rfl (jin (by decide +kernel)) (by decide +kernel) rfl ?_
  exact J_iret dX12_count_154 rfl rfl (Nat.le_of_ble_eq_true rfl) (Nat.le_of_ble_eq_true rfl) ⟨rfl, rfl⟩
set_option maxHeartbeats 4000000 in
set_option maxRecDepth 100000 in
theorem c_X11_count_15 {l : Launch} {G : jG} {nh : Nat} {fh : Nat → Option va_E} (hk0 : fh 0 = some (.inr (11, [.ref 1, .ref 17, .ref 50, .ref 51, .ref 54, .ref 57, .ref 65, .ref 75, .ref 81, .ref 85, .ref 88, .ref 93, .ref 96, .int 0, .int (-1), .ref 97, .int 0]))) (hk96 : fh 96 = some (.inl (0, 5, .inl (fun _ => 0)))) : JM l G yX11_count MX11_count { frames := 0, cells := 0, slots := 0, locals := 0 } [.ref 0, .int 13] (nh, fh) (fun r h9 => r = some (.int 0) ∧ h9 = (nh, fh)) := by
  refine JM.of (by decide) rfl (fun h => by cases h) (Nat.le_of_ble_eq_true rfl) ⟨0, rfl⟩ ?_
  refine J_hc0 (J_ls (ls2 := [some (.ref 0), some (.int 13)]) rfl ?_)
  refine J_iload_n dX11_count_0 rfl rfl ?_
  refine J_iconst (v := 1) dX11_count_1 (by decide) ?_
  refine J_icmp_lt (tgt := 22) dX11_count_2 (by decide) (fun q => absurd q (by decide +kernel)) (fun _ => ?_)
  refine J_iload_n dX11_count_5 rfl rfl ?_
  refine J_iconst (v := 5) dX11_count_6 (by decide) ?_
  refine J_icmp_gt (tgt := 22) dX11_count_7 (by decide) (fun _ => ?_) (fun q => absurd (by decide +kernel) q)
  refine J_iload_n dX11_count_22 rfl rfl ?_
  refine J_bipush (v := 11) dX11_count_23 (by decide +kernel) ?_
  refine J_icmp_lt (tgt := 44) dX11_count_25 (by decide) (fun q => absurd q (by decide +kernel)) (fun _ => ?_)
  refine J_iload_n dX11_count_28 rfl rfl ?_
  refine J_bipush (v := 15) dX11_count_29 (by decide +kernel) ?_
  refine J_icmp_gt (tgt := 44) dX11_count_31 (by decide) (fun q => absurd q (by decide +kernel)) (fun _ => ?_)
  refine J_aload_n dX11_count_34 rfl rfl ?_
  refine J_get (v := .ref 96) dX11_count_35 fl_X11_93 hk0 rfl ?_
  refine J_iload_n dX11_count_38 rfl rfl ?_
  refine J_bipush (v := 11) dX11_count_39 (by decide +kernel) ?_
  refine J_isub (z := 2) dX11_count_41 (by decide +kernel) ?_
  refine J_iald (i2 := 2) (v := 0) dX11_count_42 hk96 rfl (jin (by decide +kernel)) (by decide +kernel) rfl ?_
  exact J_iret dX11_count_43 rfl rfl (Nat.le_of_ble_eq_true rfl) (Nat.le_of_ble_eq_true rfl) ⟨rfl, rfl⟩
set_option maxHeartbeats 4000000 in
set_option maxRecDepth 100000 in
theorem c_X12_count_15 {l : Launch} {G : jG} {nh : Nat} {fh : Nat → Option va_E} (hk98 : fh 98 = some (.inr (12, [.int 0, .int 0, .ref 99, .ref 100, .ref 101, .ref 102, .ref 103, .ref 104, .ref 105, .int 0, .int (-1), .ref 106, .ref 107, .ref 108, .int 0, .int 0, .int 0, .int 0, .int 0, .int 0, .int 0, .ref 109, .int 0, .int 0, .ref 110, .ref 111, .ref 112, .ref 113, .ref 114, .ref 115, .ref 116, .ref 117, .int 0, .int 0, .int (-1), .int (-1), .ref 118, .ref 119, .ref 120, .ref 121, .ref 122, .ref 123, .ref 124, .ref 125, .ref 126, .ref 127, .ref 128, .ref 129, .int 0, .ref 130, .ref 131, .ref 132, .ref 133, .ref 134, .int 0, .int 0]))) (hk99 : fh 99 = some (.inl (0, 7, .inl (fun _ => 0)))) : JM l G yX12_count MX12_count { frames := 0, cells := 0, slots := 0, locals := 0 } [.ref 98, .int 13] (nh, fh) (fun r h9 => r = some (.int 0) ∧ h9 = (nh, fh)) := by
  refine JM.of (by decide) rfl (fun h => by cases h) (Nat.le_of_ble_eq_true rfl) ⟨0, rfl⟩ ?_
  refine J_hc0 (J_ls (ls2 := [some (.ref 98), some (.int 13)]) rfl ?_)
  refine J_iload_n dX12_count_0 rfl rfl ?_
  refine J_tableIn (tgt := 145) dX12_count_1 (by decide +kernel) (by decide +kernel) (off := 144) (by decide +kernel) (by decide) ?_
  refine J_aload_n dX12_count_145 rfl rfl ?_
  refine J_get (v := .ref 99) dX12_count_146 fl_X12_7 hk98 rfl ?_
  refine J_iload_n dX12_count_149 rfl rfl ?_
  refine J_bipush (v := 10) dX12_count_150 (by decide +kernel) ?_
  refine J_isub (z := 3) dX12_count_152 (by decide +kernel) ?_
  refine J_iald (i2 := 3) (v := 0) dX12_count_153 hk99 rfl (jin (by decide +kernel)) (by decide +kernel) rfl ?_
  exact J_iret dX12_count_154 rfl rfl (Nat.le_of_ble_eq_true rfl) (Nat.le_of_ble_eq_true rfl) ⟨rfl, rfl⟩
set_option maxHeartbeats 4000000 in
set_option maxRecDepth 100000 in
theorem c_X11_count_16 {l : Launch} {G : jG} {nh : Nat} {fh : Nat → Option va_E} (hk0 : fh 0 = some (.inr (11, [.ref 1, .ref 17, .ref 50, .ref 51, .ref 54, .ref 57, .ref 65, .ref 75, .ref 81, .ref 85, .ref 88, .ref 93, .ref 96, .int 0, .int (-1), .ref 97, .int 0]))) (hk96 : fh 96 = some (.inl (0, 5, .inl (fun _ => 0)))) : JM l G yX11_count MX11_count { frames := 0, cells := 0, slots := 0, locals := 0 } [.ref 0, .int 14] (nh, fh) (fun r h9 => r = some (.int 0) ∧ h9 = (nh, fh)) := by
  refine JM.of (by decide) rfl (fun h => by cases h) (Nat.le_of_ble_eq_true rfl) ⟨0, rfl⟩ ?_
  refine J_hc0 (J_ls (ls2 := [some (.ref 0), some (.int 14)]) rfl ?_)
  refine J_iload_n dX11_count_0 rfl rfl ?_
  refine J_iconst (v := 1) dX11_count_1 (by decide) ?_
  refine J_icmp_lt (tgt := 22) dX11_count_2 (by decide) (fun q => absurd q (by decide +kernel)) (fun _ => ?_)
  refine J_iload_n dX11_count_5 rfl rfl ?_
  refine J_iconst (v := 5) dX11_count_6 (by decide) ?_
  refine J_icmp_gt (tgt := 22) dX11_count_7 (by decide) (fun _ => ?_) (fun q => absurd (by decide +kernel) q)
  refine J_iload_n dX11_count_22 rfl rfl ?_
  refine J_bipush (v := 11) dX11_count_23 (by decide +kernel) ?_
  refine J_icmp_lt (tgt := 44) dX11_count_25 (by decide) (fun q => absurd q (by decide +kernel)) (fun _ => ?_)
  refine J_iload_n dX11_count_28 rfl rfl ?_
  refine J_bipush (v := 15) dX11_count_29 (by decide +kernel) ?_
  refine J_icmp_gt (tgt := 44) dX11_count_31 (by decide) (fun q => absurd q (by decide +kernel)) (fun _ => ?_)
  refine J_aload_n dX11_count_34 rfl rfl ?_
  refine J_get (v := .ref 96) dX11_count_35 fl_X11_93 hk0 rfl ?_
  refine J_iload_n dX11_count_38 rfl rfl ?_
  refine J_bipush (v := 11) dX11_count_39 (by decide +kernel) ?_
  refine J_isub (z := 3) dX11_count_41 (by decide +kernel) ?_
  refine J_iald (i2 := 3) (v := 0) dX11_count_42 hk96 rfl (jin (by decide +kernel)) (by decide +kernel) rfl ?_
  exact J_iret dX11_count_43 rfl rfl (Nat.le_of_ble_eq_true rfl) (Nat.le_of_ble_eq_true rfl) ⟨rfl, rfl⟩
set_option maxHeartbeats 4000000 in
set_option maxRecDepth 100000 in
theorem c_X12_count_16 {l : Launch} {G : jG} {nh : Nat} {fh : Nat → Option va_E} (hk98 : fh 98 = some (.inr (12, [.int 0, .int 0, .ref 99, .ref 100, .ref 101, .ref 102, .ref 103, .ref 104, .ref 105, .int 0, .int (-1), .ref 106, .ref 107, .ref 108, .int 0, .int 0, .int 0, .int 0, .int 0, .int 0, .int 0, .ref 109, .int 0, .int 0, .ref 110, .ref 111, .ref 112, .ref 113, .ref 114, .ref 115, .ref 116, .ref 117, .int 0, .int 0, .int (-1), .int (-1), .ref 118, .ref 119, .ref 120, .ref 121, .ref 122, .ref 123, .ref 124, .ref 125, .ref 126, .ref 127, .ref 128, .ref 129, .int 0, .ref 130, .ref 131, .ref 132, .ref 133, .ref 134, .int 0, .int 0]))) (hk99 : fh 99 = some (.inl (0, 7, .inl (fun _ => 0)))) : JM l G yX12_count MX12_count { frames := 0, cells := 0, slots := 0, locals := 0 } [.ref 98, .int 14] (nh, fh) (fun r h9 => r = some (.int 0) ∧ h9 = (nh, fh)) := by
  refine JM.of (by decide) rfl (fun h => by cases h) (Nat.le_of_ble_eq_true rfl) ⟨0, rfl⟩ ?_
  refine J_hc0 (J_ls (ls2 := [some (.ref 98), some (.int 14)]) rfl ?_)
  refine J_iload_n dX12_count_0 rfl rfl ?_
  refine J_tableIn (tgt := 155) dX12_count_1 (by decide +kernel) (by decide +kernel) (off := 154) (by decide +kernel) (by decide) ?_
  refine J_aload_n dX12_count_155 rfl rfl ?_
  refine J_get (v := .ref 99) dX12_count_156 fl_X12_7 hk98 rfl ?_
  refine J_iconst (v := 5) dX12_count_159 (by decide) ?_
  refine J_iald (i2 := 5) (v := 0) dX12_count_160 hk99 rfl (jin (by decide +kernel)) (by decide +kernel) rfl ?_
  exact J_iret dX12_count_161 rfl rfl (Nat.le_of_ble_eq_true rfl) (Nat.le_of_ble_eq_true rfl) ⟨rfl, rfl⟩
set_option maxHeartbeats 4000000 in
set_option maxRecDepth 100000 in
theorem c_X11_count_17 {l : Launch} {G : jG} {nh : Nat} {fh : Nat → Option va_E} (hk0 : fh 0 = some (.inr (11, [.ref 1, .ref 17, .ref 50, .ref 51, .ref 54, .ref 57, .ref 65, .ref 75, .ref 81, .ref 85, .ref 88, .ref 93, .ref 96, .int 0, .int (-1), .ref 97, .int 0]))) (hk96 : fh 96 = some (.inl (0, 5, .inl (fun _ => 0)))) : JM l G yX11_count MX11_count { frames := 0, cells := 0, slots := 0, locals := 0 } [.ref 0, .int 15] (nh, fh) (fun r h9 => r = some (.int 0) ∧ h9 = (nh, fh)) := by
  refine JM.of (by decide) rfl (fun h => by cases h) (Nat.le_of_ble_eq_true rfl) ⟨0, rfl⟩ ?_
  refine J_hc0 (J_ls (ls2 := [some (.ref 0), some (.int 15)]) rfl ?_)
  refine J_iload_n dX11_count_0 rfl rfl ?_
  refine J_iconst (v := 1) dX11_count_1 (by decide) ?_
  refine J_icmp_lt (tgt := 22) dX11_count_2 (by decide) (fun q => absurd q (by decide +kernel)) (fun _ => ?_)
  refine J_iload_n dX11_count_5 rfl rfl ?_
  refine J_iconst (v := 5) dX11_count_6 (by decide) ?_
  refine J_icmp_gt (tgt := 22) dX11_count_7 (by decide) (fun _ => ?_) (fun q => absurd (by decide +kernel) q)
  refine J_iload_n dX11_count_22 rfl rfl ?_
  refine J_bipush (v := 11) dX11_count_23 (by decide +kernel) ?_
  refine J_icmp_lt (tgt := 44) dX11_count_25 (by decide) (fun q => absurd q (by decide +kernel)) (fun _ => ?_)
  refine J_iload_n dX11_count_28 rfl rfl ?_
  refine J_bipush (v := 15) dX11_count_29 (by decide +kernel) ?_
  refine J_icmp_gt (tgt := 44) dX11_count_31 (by decide) (fun q => absurd q (by decide +kernel)) (fun _ => ?_)
  refine J_aload_n dX11_count_34 rfl rfl ?_
  refine J_get (v := .ref 96) dX11_count_35 fl_X11_93 hk0 rfl ?_
  refine J_iload_n dX11_count_38 rfl rfl ?_
  refine J_bipush (v := 11) dX11_count_39 (by decide +kernel) ?_
  refine J_isub (z := 4) dX11_count_41 (by decide +kernel) ?_
  refine J_iald (i2 := 4) (v := 0) dX11_count_42 hk96 rfl (jin (by decide +kernel)) (by decide +kernel) rfl ?_
  exact J_iret dX11_count_43 rfl rfl (Nat.le_of_ble_eq_true rfl) (Nat.le_of_ble_eq_true rfl) ⟨rfl, rfl⟩
set_option maxHeartbeats 4000000 in
set_option maxRecDepth 100000 in
theorem c_X12_count_17 {l : Launch} {G : jG} {nh : Nat} {fh : Nat → Option va_E} (hk98 : fh 98 = some (.inr (12, [.int 0, .int 0, .ref 99, .ref 100, .ref 101, .ref 102, .ref 103, .ref 104, .ref 105, .int 0, .int (-1), .ref 106, .ref 107, .ref 108, .int 0, .int 0, .int 0, .int 0, .int 0, .int 0, .int 0, .ref 109, .int 0, .int 0, .ref 110, .ref 111, .ref 112, .ref 113, .ref 114, .ref 115, .ref 116, .ref 117, .int 0, .int 0, .int (-1), .int (-1), .ref 118, .ref 119, .ref 120, .ref 121, .ref 122, .ref 123, .ref 124, .ref 125, .ref 126, .ref 127, .ref 128, .ref 129, .int 0, .ref 130, .ref 131, .ref 132, .ref 133, .ref 134, .int 0, .int 0]))) (hk99 : fh 99 = some (.inl (0, 7, .inl (fun _ => 0)))) : JM l G yX12_count MX12_count { frames := 0, cells := 0, slots := 0, locals := 0 } [.ref 98, .int 15] (nh, fh) (fun r h9 => r = some (.int 0) ∧ h9 = (nh, fh)) := by
  refine JM.of (by decide) rfl (fun h => by cases h) (Nat.le_of_ble_eq_true rfl) ⟨0, rfl⟩ ?_
  refine J_hc0 (J_ls (ls2 := [some (.ref 98), some (.int 15)]) rfl ?_)
  refine J_iload_n dX12_count_0 rfl rfl ?_
  refine J_tableIn (tgt := 162) dX12_count_1 (by decide +kernel) (by decide +kernel) (off := 161) (by decide +kernel) (by decide) ?_
  refine J_aload_n dX12_count_162 rfl rfl ?_
  refine J_get (v := .ref 99) dX12_count_163 fl_X12_7 hk98 rfl ?_
  refine J_bipush (v := 6) dX12_count_166 (by decide +kernel) ?_
  refine J_iald (i2 := 6) (v := 0) dX12_count_168 hk99 rfl (jin (by decide +kernel)) (by decide +kernel) rfl ?_
  exact J_iret dX12_count_169 rfl rfl (Nat.le_of_ble_eq_true rfl) (Nat.le_of_ble_eq_true rfl) ⟨rfl, rfl⟩
set_option maxHeartbeats 4000000 in
set_option maxRecDepth 100000 in
theorem c_X11_count_18 {l : Launch} {G : jG} {nh : Nat} {fh : Nat → Option va_E} (hk0 : fh 0 = some (.inr (11, [.ref 1, .ref 17, .ref 50, .ref 51, .ref 54, .ref 57, .ref 65, .ref 75, .ref 81, .ref 85, .ref 88, .ref 93, .ref 96, .int 0, .int (-1), .ref 97, .int 0]))) (hk1 : fh 1 = some (.inr (8, [.ref 2, .ref 3, .ref 4, .int 0, .int (-1), .ref 11, .ref 12, .int 0, .ref 13, .ref 14, .int 0, .ref 15, .ref 16, .int 0]))) : JM l G yX11_count MX11_count { frames := 0, cells := 0, slots := 0, locals := 0 } [.ref 0, .int 16] (nh, fh) (fun r h9 => r = some (.int (-1)) ∧ h9 = (nh, fh)) := by
  refine JM.of (by decide) rfl (fun h => by cases h) (Nat.le_of_ble_eq_true rfl) ⟨0, rfl⟩ ?_
  refine J_hc0 (J_ls (ls2 := [some (.ref 0), some (.int 16)]) rfl ?_)
  refine J_iload_n dX11_count_0 rfl rfl ?_
  refine J_iconst (v := 1) dX11_count_1 (by decide) ?_
  refine J_icmp_lt (tgt := 22) dX11_count_2 (by decide) (fun q => absurd q (by decide +kernel)) (fun _ => ?_)
  refine J_iload_n dX11_count_5 rfl rfl ?_
  refine J_iconst (v := 5) dX11_count_6 (by decide) ?_
  refine J_icmp_gt (tgt := 22) dX11_count_7 (by decide) (fun _ => ?_) (fun q => absurd (by decide +kernel) q)
  refine J_iload_n dX11_count_22 rfl rfl ?_
  refine J_bipush (v := 11) dX11_count_23 (by decide +kernel) ?_
  refine J_icmp_lt (tgt := 44) dX11_count_25 (by decide) (fun q => absurd q (by decide +kernel)) (fun _ => ?_)
  refine J_iload_n dX11_count_28 rfl rfl ?_
  refine J_bipush (v := 15) dX11_count_29 (by decide +kernel) ?_
  refine J_icmp_gt (tgt := 44) dX11_count_31 (by decide) (fun _ => ?_) (fun q => absurd (by decide +kernel) q)
  refine J_iload_n dX11_count_44 rfl rfl ?_
  refine J_tableIn (tgt := 184) dX11_count_45 (by decide +kernel) (by decide +kernel) (off := 139) (by decide +kernel) (by decide) ?_
  refine J_aload_n dX11_count_184 rfl rfl ?_
  refine J_get (v := .ref 1) dX11_count_185 fl_X11_10 hk0 rfl ?_
  refine J_get (v := .int (-1)) dX11_count_188 fl_X11_198 hk1 rfl ?_
  exact J_iret dX11_count_191 rfl rfl (Nat.le_of_ble_eq_true rfl) (Nat.le_of_ble_eq_true rfl) ⟨rfl, rfl⟩
set_option maxHeartbeats 4000000 in
set_option maxRecDepth 100000 in
theorem c_X12_count_18 {l : Launch} {G : jG} {nh : Nat} {fh : Nat → Option va_E} (hk98 : fh 98 = some (.inr (12, [.int 0, .int 0, .ref 99, .ref 100, .ref 101, .ref 102, .ref 103, .ref 104, .ref 105, .int 0, .int (-1), .ref 106, .ref 107, .ref 108, .int 0, .int 0, .int 0, .int 0, .int 0, .int 0, .int 0, .ref 109, .int 0, .int 0, .ref 110, .ref 111, .ref 112, .ref 113, .ref 114, .ref 115, .ref 116, .ref 117, .int 0, .int 0, .int (-1), .int (-1), .ref 118, .ref 119, .ref 120, .ref 121, .ref 122, .ref 123, .ref 124, .ref 125, .ref 126, .ref 127, .ref 128, .ref 129, .int 0, .ref 130, .ref 131, .ref 132, .ref 133, .ref 134, .int 0, .int 0]))) (hk100 : fh 100 = some (.inl (0, 4870, .inl (upd (fun _ => 0) 63 (-1))))) : JM l G yX12_count MX12_count { frames := 0, cells := 0, slots := 0, locals := 0 } [.ref 98, .int 16] (nh, fh) (fun r h9 => r = some (.int (-1)) ∧ h9 = (nh, fh)) := by
  refine JM.of (by decide) rfl (fun h => by cases h) (Nat.le_of_ble_eq_true rfl) ⟨0, rfl⟩ ?_
  refine J_hc0 (J_ls (ls2 := [some (.ref 98), some (.int 16)]) rfl ?_)
  refine J_iload_n dX12_count_0 rfl rfl ?_
  refine J_tableIn (tgt := 170) dX12_count_1 (by decide +kernel) (by decide +kernel) (off := 169) (by decide +kernel) (by decide) ?_
  refine J_aload_n dX12_count_170 rfl rfl ?_
  refine J_get (v := .ref 100) dX12_count_171 fl_X12_20 hk98 rfl ?_
  refine J_bipush (v := 63) dX12_count_174 (by decide +kernel) ?_
  refine J_iald (i2 := 63) (v := (-1)) dX12_count_176 hk100 rfl (jin (by decide +kernel)) (by decide +kernel) rfl ?_
  exact J_iret dX12_count_177 rfl rfl (Nat.le_of_ble_eq_true rfl) (Nat.le_of_ble_eq_true rfl) ⟨rfl, rfl⟩
set_option maxHeartbeats 4000000 in
set_option maxRecDepth 100000 in
theorem c_X11_count_19 {l : Launch} {G : jG} {nh : Nat} {fh : Nat → Option va_E} (hk0 : fh 0 = some (.inr (11, [.ref 1, .ref 17, .ref 50, .ref 51, .ref 54, .ref 57, .ref 65, .ref 75, .ref 81, .ref 85, .ref 88, .ref 93, .ref 96, .int 0, .int (-1), .ref 97, .int 0]))) (hk1 : fh 1 = some (.inr (8, [.ref 2, .ref 3, .ref 4, .int 0, .int (-1), .ref 11, .ref 12, .int 0, .ref 13, .ref 14, .int 0, .ref 15, .ref 16, .int 0]))) (hk3 : fh 3 = some (.inl (0, 2, .inl (fun _ => 0)))) : JM l G yX11_count MX11_count { frames := 0, cells := 0, slots := 0, locals := 0 } [.ref 0, .int 17] (nh, fh) (fun r h9 => r = some (.int 0) ∧ h9 = (nh, fh)) := by
  refine JM.of (by decide) rfl (fun h => by cases h) (Nat.le_of_ble_eq_true rfl) ⟨0, rfl⟩ ?_
  refine J_hc0 (J_ls (ls2 := [some (.ref 0), some (.int 17)]) rfl ?_)
  refine J_iload_n dX11_count_0 rfl rfl ?_
  refine J_iconst (v := 1) dX11_count_1 (by decide) ?_
  refine J_icmp_lt (tgt := 22) dX11_count_2 (by decide) (fun q => absurd q (by decide +kernel)) (fun _ => ?_)
  refine J_iload_n dX11_count_5 rfl rfl ?_
  refine J_iconst (v := 5) dX11_count_6 (by decide) ?_
  refine J_icmp_gt (tgt := 22) dX11_count_7 (by decide) (fun _ => ?_) (fun q => absurd (by decide +kernel) q)
  refine J_iload_n dX11_count_22 rfl rfl ?_
  refine J_bipush (v := 11) dX11_count_23 (by decide +kernel) ?_
  refine J_icmp_lt (tgt := 44) dX11_count_25 (by decide) (fun q => absurd q (by decide +kernel)) (fun _ => ?_)
  refine J_iload_n dX11_count_28 rfl rfl ?_
  refine J_bipush (v := 15) dX11_count_29 (by decide +kernel) ?_
  refine J_icmp_gt (tgt := 44) dX11_count_31 (by decide) (fun _ => ?_) (fun q => absurd (by decide +kernel) q)
  refine J_iload_n dX11_count_44 rfl rfl ?_
  refine J_tableIn (tgt := 192) dX11_count_45 (by decide +kernel) (by decide +kernel) (off := 147) (by decide +kernel) (by decide) ?_
  refine J_aload_n dX11_count_192 rfl rfl ?_
  refine J_get (v := .ref 1) dX11_count_193 fl_X11_10 hk0 rfl ?_
  refine J_get (v := .ref 3) dX11_count_196 fl_X11_145 hk1 rfl ?_
  refine J_iconst (v := 0) dX11_count_199 (by decide) ?_
  refine J_iald (i2 := 0) (v := 0) dX11_count_200 hk3 rfl (jin (by decide +kernel)) (by decide +kernel) rfl ?_
  exact J_iret dX11_count_201 rfl rfl (Nat.le_of_ble_eq_true rfl) (Nat.le_of_ble_eq_true rfl) ⟨rfl, rfl⟩
set_option maxHeartbeats 4000000 in
set_option maxRecDepth 100000 in
theorem c_X12_count_19 {l : Launch} {G : jG} {nh : Nat} {fh : Nat → Option va_E} (hk98 : fh 98 = some (.inr (12, [.int 0, .int 0, .ref 99, .ref 100, .ref 101, .ref 102, .ref 103, .ref 104, .ref 105, .int 0, .int (-1), .ref 106, .ref 107, .ref 108, .int 0, .int 0, .int 0, .int 0, .int 0, .int 0, .int 0, .ref 109, .int 0, .int 0, .ref 110, .ref 111, .ref 112, .ref 113, .ref 114, .ref 115, .ref 116, .ref 117, .int 0, .int 0, .int (-1), .int (-1), .ref 118, .ref 119, .ref 120, .ref 121, .ref 122, .ref 123, .ref 124, .ref 125, .ref 126, .ref 127, .ref 128, .ref 129, .int 0, .ref 130, .ref 131, .ref 132, .ref 133, .ref 134, .int 0, .int 0]))) (hk100 : fh 100 = some (.inl (0, 4870, .inl (upd (fun _ => 0) 63 (-1))))) : JM l G yX12_count MX12_count { frames := 0, cells := 0, slots := 0, locals := 0 } [.ref 98, .int 17] (nh, fh) (fun r h9 => r = some (.int 0) ∧ h9 = (nh, fh)) := by
  refine JM.of (by decide) rfl (fun h => by cases h) (Nat.le_of_ble_eq_true rfl) ⟨0, rfl⟩ ?_
  refine J_hc0 (J_ls (ls2 := [some (.ref 98), some (.int 17)]) rfl ?_)
  refine J_iload_n dX12_count_0 rfl rfl ?_
  refine J_tableIn (tgt := 178) dX12_count_1 (by decide +kernel) (by decide +kernel) (off := 177) (by decide +kernel) (by decide) ?_
  refine J_aload_n dX12_count_178 rfl rfl ?_
  refine J_get (v := .ref 100) dX12_count_179 fl_X12_20 hk98 rfl ?_
  refine J_iconst (v := 5) dX12_count_182 (by decide) ?_
  refine J_iload_n dX12_count_183 rfl rfl ?_
  refine J_iadd (z := 22) dX12_count_184 (by decide +kernel) ?_
  refine J_bipush (v := 17) dX12_count_185 (by decide +kernel) ?_
  refine J_isub (z := 5) dX12_count_187 (by decide +kernel) ?_
  refine J_iald (i2 := 5) (v := 0) dX12_count_188 hk100 rfl (jin (by decide +kernel)) (by decide +kernel) rfl ?_
  exact J_iret dX12_count_189 rfl rfl (Nat.le_of_ble_eq_true rfl) (Nat.le_of_ble_eq_true rfl) ⟨rfl, rfl⟩
set_option maxHeartbeats 4000000 in
set_option maxRecDepth 100000 in
theorem c_X11_count_20 {l : Launch} {G : jG} {nh : Nat} {fh : Nat → Option va_E} (hk0 : fh 0 = some (.inr (11, [.ref 1, .ref 17, .ref 50, .ref 51, .ref 54, .ref 57, .ref 65, .ref 75, .ref 81, .ref 85, .ref 88, .ref 93, .ref 96, .int 0, .int (-1), .ref 97, .int 0]))) (hk1 : fh 1 = some (.inr (8, [.ref 2, .ref 3, .ref 4, .int 0, .int (-1), .ref 11, .ref 12, .int 0, .ref 13, .ref 14, .int 0, .ref 15, .ref 16, .int 0]))) (hk3 : fh 3 = some (.inl (0, 2, .inl (fun _ => 0)))) : JM l G yX11_count MX11_count { frames := 0, cells := 0, slots := 0, locals := 0 } [.ref 0, .int 18] (nh, fh) (fun r h9 => r = some (.int 0) ∧ h9 = (nh, fh)) := by
  refine JM.of (by decide) rfl (fun h => by cases h) (Nat.le_of_ble_eq_true rfl) ⟨0, rfl⟩ ?_
  refine J_hc0 (J_ls (ls2 := [some (.ref 0), some (.int 18)]) rfl ?_)
  refine J_iload_n dX11_count_0 rfl rfl ?_
  refine J_iconst (v := 1) dX11_count_1 (by decide) ?_
  refine J_icmp_lt (tgt := 22) dX11_count_2 (by decide) (fun q => absurd q (by decide +kernel)) (fun _ => ?_)
  refine J_iload_n dX11_count_5 rfl rfl ?_
  refine J_iconst (v := 5) dX11_count_6 (by decide) ?_
  refine J_icmp_gt (tgt := 22) dX11_count_7 (by decide) (fun _ => ?_) (fun q => absurd (by decide +kernel) q)
  refine J_iload_n dX11_count_22 rfl rfl ?_
  refine J_bipush (v := 11) dX11_count_23 (by decide +kernel) ?_
  refine J_icmp_lt (tgt := 44) dX11_count_25 (by decide) (fun q => absurd q (by decide +kernel)) (fun _ => ?_)
  refine J_iload_n dX11_count_28 rfl rfl ?_
  refine J_bipush (v := 15) dX11_count_29 (by decide +kernel) ?_
  refine J_icmp_gt (tgt := 44) dX11_count_31 (by decide) (fun _ => ?_) (fun q => absurd (by decide +kernel) q)
  refine J_iload_n dX11_count_44 rfl rfl ?_
  refine J_tableIn (tgt := 202) dX11_count_45 (by decide +kernel) (by decide +kernel) (off := 157) (by decide +kernel) (by decide) ?_
  refine J_aload_n dX11_count_202 rfl rfl ?_
  refine J_get (v := .ref 1) dX11_count_203 fl_X11_10 hk0 rfl ?_
  refine J_get (v := .ref 3) dX11_count_206 fl_X11_145 hk1 rfl ?_
  refine J_iconst (v := 1) dX11_count_209 (by decide) ?_
  refine J_iald (i2 := 1) (v := 0) dX11_count_210 hk3 rfl (jin (by decide +kernel)) (by decide +kernel) rfl ?_
  exact J_iret dX11_count_211 rfl rfl (Nat.le_of_ble_eq_true rfl) (Nat.le_of_ble_eq_true rfl) ⟨rfl, rfl⟩
set_option maxHeartbeats 4000000 in
set_option maxRecDepth 100000 in
theorem c_X12_count_20 {l : Launch} {G : jG} {nh : Nat} {fh : Nat → Option va_E} (hk98 : fh 98 = some (.inr (12, [.int 0, .int 0, .ref 99, .ref 100, .ref 101, .ref 102, .ref 103, .ref 104, .ref 105, .int 0, .int (-1), .ref 106, .ref 107, .ref 108, .int 0, .int 0, .int 0, .int 0, .int 0, .int 0, .int 0, .ref 109, .int 0, .int 0, .ref 110, .ref 111, .ref 112, .ref 113, .ref 114, .ref 115, .ref 116, .ref 117, .int 0, .int 0, .int (-1), .int (-1), .ref 118, .ref 119, .ref 120, .ref 121, .ref 122, .ref 123, .ref 124, .ref 125, .ref 126, .ref 127, .ref 128, .ref 129, .int 0, .ref 130, .ref 131, .ref 132, .ref 133, .ref 134, .int 0, .int 0]))) (hk100 : fh 100 = some (.inl (0, 4870, .inl (upd (fun _ => 0) 63 (-1))))) : JM l G yX12_count MX12_count { frames := 0, cells := 0, slots := 0, locals := 0 } [.ref 98, .int 18] (nh, fh) (fun r h9 => r = some (.int 0) ∧ h9 = (nh, fh)) := by
  refine JM.of (by decide) rfl (fun h => by cases h) (Nat.le_of_ble_eq_true rfl) ⟨0, rfl⟩ ?_
  refine J_hc0 (J_ls (ls2 := [some (.ref 98), some (.int 18)]) rfl ?_)
  refine J_iload_n dX12_count_0 rfl rfl ?_
  refine J_tableIn (tgt := 178) dX12_count_1 (by decide +kernel) (by decide +kernel) (off := 177) (by decide +kernel) (by decide) ?_
  refine J_aload_n dX12_count_178 rfl rfl ?_
  refine J_get (v := .ref 100) dX12_count_179 fl_X12_20 hk98 rfl ?_
  refine J_iconst (v := 5) dX12_count_182 (by decide) ?_
  refine J_iload_n dX12_count_183 rfl rfl ?_
  refine J_iadd (z := 23) dX12_count_184 (by decide +kernel) ?_
  refine J_bipush (v := 17) dX12_count_185 (by decide +kernel) ?_
  refine J_isub (z := 6) dX12_count_187 (by decide +kernel) ?_
  refine J_iald (i2 := 6) (v := 0) dX12_count_188 hk100 rfl (jin (by decide +kernel)) (by decide +kernel) rfl ?_
  exact J_iret dX12_count_189 rfl rfl (Nat.le_of_ble_eq_true rfl) (Nat.le_of_ble_eq_true rfl) ⟨rfl, rfl⟩
set_option maxHeartbeats 4000000 in
set_option maxRecDepth 100000 in
theorem c_X11_count_21 {l : Launch} {G : jG} {nh : Nat} {fh : Nat → Option va_E} (a1 : Int32) (b_a1 : 19 ≤ a1.toInt ∧ a1.toInt ≤ 2147483647) : JM l G yX11_count MX11_count { frames := 0, cells := 0, slots := 0, locals := 0 } [.ref 0, .int a1] (nh, fh) (fun r h9 => r = some (.int (-1)) ∧ h9 = (nh, fh)) := by
  refine JM.of (by decide) rfl (fun h => by cases h) (Nat.le_of_ble_eq_true rfl) ⟨0, rfl⟩ ?_
  refine J_hc0 (J_ls (ls2 := [some (.ref 0), some (.int a1)]) rfl ?_)
  refine J_iload_n dX11_count_0 rfl rfl ?_
  refine J_iconst (v := 1) dX11_count_1 (by decide) ?_
  refine J_icmp_lt (tgt := 22) dX11_count_2 (by decide) (fun q => absurd q (by have hb0 := b_a1; simp only [fa_lt, fa_le, fa_eq, kc_1]; omega)) (fun _ => ?_)
  refine J_iload_n dX11_count_5 rfl rfl ?_
  refine J_iconst (v := 5) dX11_count_6 (by decide) ?_
  refine J_icmp_gt (tgt := 22) dX11_count_7 (by decide) (fun _ => ?_) (fun q => absurd (by have hb0 := b_a1; simp only [fa_lt, fa_le, fa_eq, kc_5]; omega) q)
  refine J_iload_n dX11_count_22 rfl rfl ?_
  refine J_bipush (v := 11) dX11_count_23 (by decide +kernel) ?_
  refine J_icmp_lt (tgt := 44) dX11_count_25 (by decide) (fun q => absurd q (by have hb0 := b_a1; simp only [fa_lt, fa_le, fa_eq, kc_11]; omega)) (fun _ => ?_)
  refine J_iload_n dX11_count_28 rfl rfl ?_
  refine J_bipush (v := 15) dX11_count_29 (by decide +kernel) ?_
  refine J_icmp_gt (tgt := 44) dX11_count_31 (by decide) (fun _ => ?_) (fun q => absurd (by have hb0 := b_a1; simp only [fa_lt, fa_le, fa_eq, kc_15]; omega) q)
  refine J_iload_n dX11_count_44 rfl rfl ?_
  refine J_tableOut (tgt := 212) dX11_count_45 (by have hb := b_a1; omega) (by decide) ?_
  refine J_iconst (v := (-1)) dX11_count_212 (by decide) ?_
  exact J_iret dX11_count_213 rfl rfl (Nat.le_of_ble_eq_true rfl) (Nat.le_of_ble_eq_true rfl) ⟨rfl, rfl⟩
set_option maxHeartbeats 4000000 in
set_option maxRecDepth 100000 in
theorem c_X12_count_21 {l : Launch} {G : jG} {nh : Nat} {fh : Nat → Option va_E} (a1 : Int32) (b_a1 : 19 ≤ a1.toInt ∧ a1.toInt ≤ 2147483647) : JM l G yX12_count MX12_count { frames := 0, cells := 0, slots := 0, locals := 0 } [.ref 98, .int a1] (nh, fh) (fun r h9 => r = some (.int (-1)) ∧ h9 = (nh, fh)) := by
  refine JM.of (by decide) rfl (fun h => by cases h) (Nat.le_of_ble_eq_true rfl) ⟨0, rfl⟩ ?_
  refine J_hc0 (J_ls (ls2 := [some (.ref 98), some (.int a1)]) rfl ?_)
  refine J_iload_n dX12_count_0 rfl rfl ?_
  refine J_tableOut (tgt := 190) dX12_count_1 (by have hb := b_a1; omega) (by decide) ?_
  refine J_iconst (v := (-1)) dX12_count_190 (by decide) ?_
  exact J_iret dX12_count_191 rfl rfl (Nat.le_of_ble_eq_true rfl) (Nat.le_of_ble_eq_true rfl) ⟨rfl, rfl⟩
set_option maxHeartbeats 4000000 in
set_option maxRecDepth 100000 in
theorem c_X11_status_1 {l : Launch} {G : jG} {nh : Nat} {fh : Nat → Option va_E} (hk0 : fh 0 = some (.inr (11, [.ref 1, .ref 17, .ref 50, .ref 51, .ref 54, .ref 57, .ref 65, .ref 75, .ref 81, .ref 85, .ref 88, .ref 93, .ref 96, .int 0, .int (-1), .ref 97, .int 0]))) : JM l G yX11_status MX11_status { frames := 0, cells := 0, slots := 0, locals := 0 } [.ref 0] (nh, fh) (fun r h9 => r = some (.int 0) ∧ h9 = (nh, fh)) := by
  refine JM.of (by decide) rfl (fun h => by cases h) (Nat.le_of_ble_eq_true rfl) ⟨0, rfl⟩ ?_
  refine J_hc0 (J_ls (ls2 := [some (.ref 0)]) rfl ?_)
  refine J_aload_n dX11_status_0 rfl rfl ?_
  refine J_get (v := .int 0) dX11_status_1 fl_X11_97 hk0 rfl ?_
  exact J_iret dX11_status_4 rfl rfl (Nat.le_of_ble_eq_true rfl) (Nat.le_of_ble_eq_true rfl) ⟨rfl, rfl⟩
set_option maxHeartbeats 4000000 in
set_option maxRecDepth 100000 in
theorem c_X12_status_1 {l : Launch} {G : jG} {nh : Nat} {fh : Nat → Option va_E} (hk98 : fh 98 = some (.inr (12, [.int 0, .int 0, .ref 99, .ref 100, .ref 101, .ref 102, .ref 103, .ref 104, .ref 105, .int 0, .int (-1), .ref 106, .ref 107, .ref 108, .int 0, .int 0, .int 0, .int 0, .int 0, .int 0, .int 0, .ref 109, .int 0, .int 0, .ref 110, .ref 111, .ref 112, .ref 113, .ref 114, .ref 115, .ref 116, .ref 117, .int 0, .int 0, .int (-1), .int (-1), .ref 118, .ref 119, .ref 120, .ref 121, .ref 122, .ref 123, .ref 124, .ref 125, .ref 126, .ref 127, .ref 128, .ref 129, .int 0, .ref 130, .ref 131, .ref 132, .ref 133, .ref 134, .int 0, .int 0]))) : JM l G yX12_status MX12_status { frames := 0, cells := 0, slots := 0, locals := 0 } [.ref 98] (nh, fh) (fun r h9 => r = some (.int 0) ∧ h9 = (nh, fh)) := by
  refine JM.of (by decide) rfl (fun h => by cases h) (Nat.le_of_ble_eq_true rfl) ⟨0, rfl⟩ ?_
  refine J_hc0 (J_ls (ls2 := [some (.ref 98)]) rfl ?_)
  refine J_aload_n dX12_status_0 rfl rfl ?_
  refine J_get (v := .int 0) dX12_status_1 fl_X12_3 hk98 rfl ?_
  exact J_iret dX12_status_4 rfl rfl (Nat.le_of_ble_eq_true rfl) (Nat.le_of_ble_eq_true rfl) ⟨rfl, rfl⟩
