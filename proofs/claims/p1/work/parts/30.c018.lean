/-! contracts at fresh objects: written by wip/tools/law.py -/
set_option maxHeartbeats 4000000 in
set_option maxRecDepth 100000 in
theorem c_X10_rowsTo_26 {l : Launch} {G : jG} {nh : Nat} {fh : Nat → Option va_E} (hk1 : fh 1 = some (.inr (8, [.ref 2, .ref 3, .ref 4, .int 0, .int (-1), .ref 11, .ref 12, .int 0, .ref 13, .ref 14, .int 0, .ref 15, .ref 16, .int 0]))) (hk3 : fh 3 = some (.inl (0, 2, .inl (fun _ => 0)))) (hk51 : fh 51 = some (.inr (0, [.ref 52, .ref 53, .int 1, .int 0]))) (hk52 : fh 52 = some (.inl (0, 1260, .inl (upd (fun _ => 0) 0 0)))) (hk57 : fh 57 = some (.inr (9, [.ref 1, .ref 51, .ref 58, .ref 61, .ref 62, .ref 135, .ref 64, .int 0, .int 0, .int 0]))) (hk62 : fh 62 = some (.inl (0, 1260, .inl (upd (fun _ => 0) 0 (-1))))) (hk65 : fh 65 = some (.inr (10, [.ref 51, .ref 57, .ref 66, .ref 67, .ref 68, .int 0, .int (-1), .int (-1), .ref 69, .ref 70, .ref 71, .ref 72, .int 0, .int (-1), .int (-1), .ref 73, .ref 74]))) (hk73 : fh 73 = some (.inl (1, 1260, .inr (.inl (fun _ => 0))))) (hk74 : fh 74 = some (.inl (1, 1260, .inr (.inl (fun _ => 0))))) : JM l G yX10_rowsTo MX10_rowsTo { frames := 5, cells := 0, slots := 0, locals := 119 } [.ref 65, .int 0, .int 0, .int 12] (nh, fh) (fun r h9 => r = some (.long 0) ∧ h9 = (nh, hc fh [(65, .inr (10, [.ref 51, .ref 57, .ref 66, .ref 67, .ref 68, .int 0, .int (-1), .int (-1), .ref 69, .ref 70, .ref 71, .ref 72, .int 0, .int (-1), .int (-1), .ref 73, .ref 74])), (73, .inl (1, 1260, .inr (.inl (vp_updL (vp_updL (vp_updL (vp_updL (vp_updL (vp_updL (vp_updL (vp_updL (fun _ => 0) 0 0) 0 1) 0 0) 0 0) 0 0) 0 0) 0 0) 0 0)))), (74, .inl (1, 1260, .inr (.inl (vp_updL (vp_updL (vp_updL (vp_updL (vp_updL (vp_updL (fun _ => 0) 0 0) 0 0) 0 0) 0 0) 0 0) 0 0)))), (62, .inl (0, 1260, .inl (upd (upd (fun _ => 0) 0 (-1)) 0 0)))])) := by
  refine JM.of (by decide) rfl (fun h => by cases h) (Nat.le_of_ble_eq_true rfl) ⟨4, rfl⟩ ?_
  refine J_hc0 (J_ls (ls2 := [some (.ref 65), some (.int 0), some (.int 0), some (.int 12), none, none, none, none]) rfl ?_)
  refine J_aload_n dX10_rowsTo_0 rfl rfl ?_
  refine J_get (v := .ref 51) dX10_rowsTo_1 fl_X10_59 hk65 rfl ?_
  refine J_callV (st := []) dX10_rowsTo_4 cv_X10_83 (c_X0_many_1 hk51) hk51 rfl rfl (Nat.le_of_ble_eq_true rfl) ⟨(Nat.le_of_ble_eq_true rfl), (Nat.le_of_ble_eq_true rfl)⟩ ⟨(Nat.le_of_ble_eq_true rfl), (Nat.le_of_ble_eq_true rfl)⟩ (fun r h9 hp => ?_)
  obtain ⟨rfl, rfl⟩ := hp
  refine J_nf (nh2 := nh) (ck2 := 0) (sk2 := 0) (st2 := [.int 1]) rfl rfl rfl rfl ?_
  refine J_istore dX10_rowsTo_7 (Nat.le_of_ble_eq_true rfl) rfl ?_
  refine J_aload_n dX10_rowsTo_9 rfl rfl ?_
  refine J_get (v := .ref 73) dX10_rowsTo_10 fl_X10_52 hk65 rfl ?_
  refine J_iconst (v := 0) dX10_rowsTo_13 (by decide) ?_
  refine J_iload dX10_rowsTo_14 rfl ?_
  refine J_lconst (v := 0) dX10_rowsTo_16 (by decide +kernel) ?_
  refine J_callS (st := []) dX10_rowsTo_17 cs_X10_127 (c_J7_fill_bad5a_1 hk73) rfl rfl (Nat.le_of_ble_eq_true rfl) ⟨(Nat.le_of_ble_eq_true rfl), (Nat.le_of_ble_eq_true rfl)⟩ ⟨(Nat.le_of_ble_eq_true rfl), (Nat.le_of_ble_eq_true rfl)⟩ (fun r h9 hp => ?_)
  obtain ⟨rfl, rfl⟩ := hp
  refine J_nf (nh2 := nh) (ck2 := 0) (sk2 := 0) (st2 := []) rfl rfl rfl rfl ?_
  refine J_app (L3 := [(73, .inl (1, 1260, .inr (.inl (vp_updL (fun _ => 0) 0 0))))]) rfl ?_
  refine J_aload_n dX10_rowsTo_20 rfl rfl ?_
  refine J_get (v := .ref 73) dX10_rowsTo_21 fl_X10_52 hk65 rfl ?_
  refine J_iload_n dX10_rowsTo_24 rfl rfl ?_
  refine J_lconst (v := 1) dX10_rowsTo_25 (by decide +kernel) ?_
  refine K_last (i2 := 0) dX10_rowsTo_26 rfl rfl (jin (by decide +kernel)) (by decide +kernel) ?_
  refine J_iconst (v := 0) dX10_rowsTo_27 (by decide) ?_
  refine J_istore dX10_rowsTo_28 (Nat.le_of_ble_eq_true rfl) rfl ?_
  refine J_iload dX10_rowsTo_30 rfl ?_
  refine J_iload_n dX10_rowsTo_32 rfl rfl ?_
  refine J_icmp_ge (tgt := 48) dX10_rowsTo_33 (by decide) (fun q => absurd q (by decide +kernel)) (fun _ => ?_)
  refine J_aload_n dX10_rowsTo_36 rfl rfl ?_
  refine J_iload dX10_rowsTo_37 rfl ?_
  refine J_callV (st := []) dX10_rowsTo_39 cv_X10_130 (c_X10_lengthenRows_1 hk1 hk3 hk51 hk52 hk57 hk62 hk65 rfl hk74) hk65 rfl rfl (Nat.le_of_ble_eq_true rfl) ⟨(Nat.le_of_ble_eq_true rfl), (Nat.le_of_ble_eq_true rfl)⟩ ⟨(Nat.le_of_ble_eq_true rfl), (Nat.le_of_ble_eq_true rfl)⟩ (fun r h9 hp => ?_)
  obtain ⟨rfl, rfl⟩ := hp
  refine J_nf (nh2 := nh) (ck2 := 0) (sk2 := 0) (st2 := []) rfl rfl rfl rfl ?_
  refine J_app (L3 := [(65, .inr (10, [.ref 51, .ref 57, .ref 66, .ref 67, .ref 68, .int 0, .int (-1), .int (-1), .ref 69, .ref 70, .ref 71, .ref 72, .int 0, .int (-1), .int (-1), .ref 74, .ref 73])), (62, .inl (0, 1260, .inl (upd (upd (fun _ => 0) 0 (-1)) 0 0))), (74, .inl (1, 1260, .inr (.inl (vp_updL (fun _ => 0) 0 0)))), (73, .inl (1, 1260, .inr (.inl (vp_updL (vp_updL (fun _ => 0) 0 0) 0 1)))), (73, .inl (1, 1260, .inr (.inl (vp_updL (fun _ => 0) 0 0))))]) rfl ?_
  refine J_iinc (v := 1) dX10_rowsTo_42 rfl (by decide +kernel) (Nat.le_of_ble_eq_true rfl) rfl ?_
  refine J_ls (ls2 := [some (.ref 65), some (.int 0), some (.int 0), some (.int 12), some (.int 1), some (.int 1), none, none]) rfl ?_
  refine J_goto (tgt := 30) dX10_rowsTo_45 (by decide) ?_
  refine J_iload dX10_rowsTo_30 rfl ?_
  refine J_iload_n dX10_rowsTo_32 rfl rfl ?_
  refine J_icmp_ge (tgt := 48) dX10_rowsTo_33 (by decide) (fun q => absurd q (by decide +kernel)) (fun _ => ?_)
  refine J_aload_n dX10_rowsTo_36 rfl rfl ?_
  refine J_iload dX10_rowsTo_37 rfl ?_
  refine J_callV (st := []) dX10_rowsTo_39 cv_X10_130 (c_X10_lengthenRows_2 rfl rfl rfl) rfl rfl rfl (Nat.le_of_ble_eq_true rfl) ⟨(Nat.le_of_ble_eq_true rfl), (Nat.le_of_ble_eq_true rfl)⟩ ⟨(Nat.le_of_ble_eq_true rfl), (Nat.le_of_ble_eq_true rfl)⟩ (fun r h9 hp => ?_)
  obtain ⟨rfl, rfl⟩ := hp
  refine J_nf (nh2 := nh) (ck2 := 0) (sk2 := 0) (st2 := []) rfl rfl rfl rfl ?_
  refine J_app (L3 := [(65, .inr (10, [.ref 51, .ref 57, .ref 66, .ref 67, .ref 68, .int 0, .int (-1), .int (-1), .ref 69, .ref 70, .ref 71, .ref 72, .int 0, .int (-1), .int (-1), .ref 73, .ref 74])), (73, .inl (1, 1260, .inr (.inl (vp_updL (vp_updL (vp_updL (fun _ => 0) 0 0) 0 1) 0 0)))), (65, .inr (10, [.ref 51, .ref 57, .ref 66, .ref 67, .ref 68, .int 0, .int (-1), .int (-1), .ref 69, .ref 70, .ref 71, .ref 72, .int 0, .int (-1), .int (-1), .ref 74, .ref 73])), (62, .inl (0, 1260, .inl (upd (upd (fun _ => 0) 0 (-1)) 0 0))), (74, .inl (1, 1260, .inr (.inl (vp_updL (fun _ => 0) 0 0)))), (73, .inl (1, 1260, .inr (.inl (vp_updL (vp_updL (fun _ => 0) 0 0) 0 1)))), (73, .inl (1, 1260, .inr (.inl (vp_updL (fun _ => 0) 0 0))))]) rfl ?_
  refine J_iinc (v := 2) dX10_rowsTo_42 rfl (by decide +kernel) (Nat.le_of_ble_eq_true rfl) rfl ?_
  refine J_ls (ls2 := [some (.ref 65), some (.int 0), some (.int 0), some (.int 12), some (.int 1), some (.int 2), none, none]) rfl ?_
  refine J_goto (tgt := 30) dX10_rowsTo_45 (by decide) ?_
  refine J_iload dX10_rowsTo_30 rfl ?_
  refine J_iload_n dX10_rowsTo_32 rfl rfl ?_
  refine J_icmp_ge (tgt := 48) dX10_rowsTo_33 (by decide) (fun q => absurd q (by decide +kernel)) (fun _ => ?_)
  refine J_aload_n dX10_rowsTo_36 rfl rfl ?_
  refine J_iload dX10_rowsTo_37 rfl ?_
  refine J_callV (st := []) dX10_rowsTo_39 cv_X10_130 (c_X10_lengthenRows_3 rfl rfl rfl) rfl rfl rfl (Nat.le_of_ble_eq_true rfl) ⟨(Nat.le_of_ble_eq_true rfl), (Nat.le_of_ble_eq_true rfl)⟩ ⟨(Nat.le_of_ble_eq_true rfl), (Nat.le_of_ble_eq_true rfl)⟩ (fun r h9 hp => ?_)
  obtain ⟨rfl, rfl⟩ := hp
  refine J_nf (nh2 := nh) (ck2 := 0) (sk2 := 0) (st2 := []) rfl rfl rfl rfl ?_
  refine J_app (L3 := [(65, .inr (10, [.ref 51, .ref 57, .ref 66, .ref 67, .ref 68, .int 0, .int (-1), .int (-1), .ref 69, .ref 70, .ref 71, .ref 72, .int 0, .int (-1), .int (-1), .ref 74, .ref 73])), (74, .inl (1, 1260, .inr (.inl (vp_updL (vp_updL (fun _ => 0) 0 0) 0 0)))), (65, .inr (10, [.ref 51, .ref 57, .ref 66, .ref 67, .ref 68, .int 0, .int (-1), .int (-1), .ref 69, .ref 70, .ref 71, .ref 72, .int 0, .int (-1), .int (-1), .ref 73, .ref 74])), (73, .inl (1, 1260, .inr (.inl (vp_updL (vp_updL (vp_updL (fun _ => 0) 0 0) 0 1) 0 0)))), (65, .inr (10, [.ref 51, .ref 57, .ref 66, .ref 67, .ref 68, .int 0, .int (-1), .int (-1), .ref 69, .ref 70, .ref 71, .ref 72, .int 0, .int (-1), .int (-1), .ref 74, .ref 73])), (62, .inl (0, 1260, .inl (upd (upd (fun _ => 0) 0 (-1)) 0 0))), (74, .inl (1, 1260, .inr (.inl (vp_updL (fun _ => 0) 0 0)))), (73, .inl (1, 1260, .inr (.inl (vp_updL (vp_updL (fun _ => 0) 0 0) 0 1)))), (73, .inl (1, 1260, .inr (.inl (vp_updL (fun _ => 0) 0 0))))]) rfl ?_
  refine J_iinc (v := 3) dX10_rowsTo_42 rfl (by decide +kernel) (Nat.le_of_ble_eq_true rfl) rfl ?_
  refine J_ls (ls2 := [some (.ref 65), some (.int 0), some (.int 0), some (.int 12), some (.int 1), some (.int 3), none, none]) rfl ?_
  refine J_goto (tgt := 30) dX10_rowsTo_45 (by decide) ?_
  refine J_iload dX10_rowsTo_30 rfl ?_
  refine J_iload_n dX10_rowsTo_32 rfl rfl ?_
  refine J_icmp_ge (tgt := 48) dX10_rowsTo_33 (by decide) (fun q => absurd q (by decide +kernel)) (fun _ => ?_)
  refine J_aload_n dX10_rowsTo_36 rfl rfl ?_
  refine J_iload dX10_rowsTo_37 rfl ?_
  refine J_callV (st := []) dX10_rowsTo_39 cv_X10_130 (c_X10_lengthenRows_4 rfl rfl rfl) rfl rfl rfl (Nat.le_of_ble_eq_true rfl) ⟨(Nat.le_of_ble_eq_true rfl), (Nat.le_of_ble_eq_true rfl)⟩ ⟨(Nat.le_of_ble_eq_true rfl), (Nat.le_of_ble_eq_true rfl)⟩ (fun r h9 hp => ?_)
  obtain ⟨rfl, rfl⟩ := hp
  refine J_nf (nh2 := nh) (ck2 := 0) (sk2 := 0) (st2 := []) rfl rfl rfl rfl ?_
  refine J_app (L3 := [(65, .inr (10, [.ref 51, .ref 57, .ref 66, .ref 67, .ref 68, .int 0, .int (-1), .int (-1), .ref 69, .ref 70, .ref 71, .ref 72, .int 0, .int (-1), .int (-1), .ref 73, .ref 74])), (73, .inl (1, 1260, .inr (.inl (vp_updL (vp_updL (vp_updL (vp_updL (fun _ => 0) 0 0) 0 1) 0 0) 0 0)))), (65, .inr (10, [.ref 51, .ref 57, .ref 66, .ref 67, .ref 68, .int 0, .int (-1), .int (-1), .ref 69, .ref 70, .ref 71, .ref 72, .int 0, .int (-1), .int (-1), .ref 74, .ref 73])), (74, .inl (1, 1260, .inr (.inl (vp_updL (vp_updL (fun _ => 0) 0 0) 0 0)))), (65, .inr (10, [.ref 51, .ref 57, .ref 66, .ref 67, .ref 68, .int 0, .int (-1), .int (-1), .ref 69, .ref 70, .ref 71, .ref 72, .int 0, .int (-1), .int (-1), .ref 73, .ref 74])), (73, .inl (1, 1260, .inr (.inl (vp_updL (vp_updL (vp_updL (fun _ => 0) 0 0) 0 1) 0 0)))), (65, .inr (10, [.ref 51, .ref 57, .ref 66, .ref 67, .ref 68, .int 0, .int (-1), .int (-1), .ref 69, .ref 70, .ref 71, .ref 72, .int 0, .int (-1), .int (-1), .ref 74, .ref 73])), (62, .inl (0, 1260, .inl (upd (upd (fun _ => 0) 0 (-1)) 0 0))), (74, .inl (1, 1260, .inr (.inl (vp_updL (fun _ => 0) 0 0)))), (73, .inl (1, 1260, .inr (.inl (vp_updL (vp_updL (fun _ => 0) 0 0) 0 1)))), (73, .inl (1, 1260, .inr (.inl (vp_updL (fun _ => 0) 0 0))))]) rfl ?_
  refine J_iinc (v := 4) dX10_rowsTo_42 rfl (by decide +kernel) (Nat.le_of_ble_eq_true rfl) rfl ?_
  refine J_ls (ls2 := [some (.ref 65), some (.int 0), some (.int 0), some (.int 12), some (.int 1), some (.int 4), none, none]) rfl ?_
  refine J_goto (tgt := 30) dX10_rowsTo_45 (by decide) ?_
  refine J_iload dX10_rowsTo_30 rfl ?_
  refine J_iload_n dX10_rowsTo_32 rfl rfl ?_
  refine J_icmp_ge (tgt := 48) dX10_rowsTo_33 (by decide) (fun q => absurd q (by decide +kernel)) (fun _ => ?_)
  refine J_aload_n dX10_rowsTo_36 rfl rfl ?_
  refine J_iload dX10_rowsTo_37 rfl ?_
  refine J_callV (st := []) dX10_rowsTo_39 cv_X10_130 (c_X10_lengthenRows_5 rfl rfl rfl) rfl rfl rfl (Nat.le_of_ble_eq_true rfl) ⟨(Nat.le_of_ble_eq_true rfl), (Nat.le_of_ble_eq_true rfl)⟩ ⟨(Nat.le_of_ble_eq_true rfl), (Nat.le_of_ble_eq_true rfl)⟩ (fun r h9 hp => ?_)
  obtain ⟨rfl, rfl⟩ := hp
  refine J_nf (nh2 := nh) (ck2 := 0) (sk2 := 0) (st2 := []) rfl rfl rfl rfl ?_
  refine J_app (L3 := [(65, .inr (10, [.ref 51, .ref 57, .ref 66, .ref 67, .ref 68, .int 0, .int (-1), .int (-1), .ref 69, .ref 70, .ref 71, .ref 72, .int 0, .int (-1), .int (-1), .ref 74, .ref 73])), (74, .inl (1, 1260, .inr (.inl (vp_updL (vp_updL (vp_updL (fun _ => 0) 0 0) 0 0) 0 0)))), (65, .inr (10, [.ref 51, .ref 57, .ref 66, .ref 67, .ref 68, .int 0, .int (-1), .int (-1), .ref 69, .ref 70, .ref 71, .ref 72, .int 0, .int (-1), .int (-1), .ref 73, .ref 74])), (73, .inl (1, 1260, .inr (.inl (vp_updL (vp_updL (vp_updL (vp_updL (fun _ => 0) 0 0) 0 1) 0 0) 0 0)))), (65, .inr (10, [.ref 51, .ref 57, .ref 66, .ref 67, .ref 68, .int 0, .int (-1), .int (-1), .ref 69, .ref 70, .ref 71, .ref 72, .int 0, .int (-1), .int (-1), .ref 74, .ref 73])), (74, .inl (1, 1260, .inr (.inl (vp_updL (vp_updL (fun _ => 0) 0 0) 0 0)))), (65, .inr (10, [.ref 51, .ref 57, .ref 66, .ref 67, .ref 68, .int 0, .int (-1), .int (-1), .ref 69, .ref 70, .ref 71, .ref 72, .int 0, .int (-1), .int (-1), .ref 73, .ref 74])), (73, .inl (1, 1260, .inr (.inl (vp_updL (vp_updL (vp_updL (fun _ => 0) 0 0) 0 1) 0 0)))), (65, .inr (10, [.ref 51, .ref 57, .ref 66, .ref 67, .ref 68, .int 0, .int (-1), .int (-1), .ref 69, .ref 70, .ref 71, .ref 72, .int 0, .int (-1), .int (-1), .ref 74, .ref 73])), (62, .inl (0, 1260, .inl (upd (upd (fun _ => 0) 0 (-1)) 0 0))), (74, .inl (1, 1260, .inr (.inl (vp_updL (fun _ => 0) 0 0)))), (73, .inl (1, 1260, .inr (.inl (vp_updL (vp_updL (fun _ => 0) 0 0) 0 1)))), (73, .inl (1, 1260, .inr (.inl (vp_updL (fun _ => 0) 0 0))))]) rfl ?_
  refine J_iinc (v := 5) dX10_rowsTo_42 rfl (by decide +kernel) (Nat.le_of_ble_eq_true rfl) rfl ?_
  refine J_ls (ls2 := [some (.ref 65), some (.int 0), some (.int 0), some (.int 12), some (.int 1), some (.int 5), none, none]) rfl ?_
  refine J_goto (tgt := 30) dX10_rowsTo_45 (by decide) ?_
  refine J_iload dX10_rowsTo_30 rfl ?_
  refine J_iload_n dX10_rowsTo_32 rfl rfl ?_
  refine J_icmp_ge (tgt := 48) dX10_rowsTo_33 (by decide) (fun q => absurd q (by decide +kernel)) (fun _ => ?_)
  refine J_aload_n dX10_rowsTo_36 rfl rfl ?_
  refine J_iload dX10_rowsTo_37 rfl ?_
  refine J_callV (st := []) dX10_rowsTo_39 cv_X10_130 (c_X10_lengthenRows_6 rfl rfl rfl) rfl rfl rfl (Nat.le_of_ble_eq_true rfl) ⟨(Nat.le_of_ble_eq_true rfl), (Nat.le_of_ble_eq_true rfl)⟩ ⟨(Nat.le_of_ble_eq_true rfl), (Nat.le_of_ble_eq_true rfl)⟩ (fun r h9 hp => ?_)
  obtain ⟨rfl, rfl⟩ := hp
  refine J_nf (nh2 := nh) (ck2 := 0) (sk2 := 0) (st2 := []) rfl rfl rfl rfl ?_
  refine J_app (L3 := [(65, .inr (10, [.ref 51, .ref 57, .ref 66, .ref 67, .ref 68, .int 0, .int (-1), .int (-1), .ref 69, .ref 70, .ref 71, .ref 72, .int 0, .int (-1), .int (-1), .ref 73, .ref 74])), (73, .inl (1, 1260, .inr (.inl (vp_updL (vp_updL (vp_updL (vp_updL (vp_updL (fun _ => 0) 0 0) 0 1) 0 0) 0 0) 0 0)))), (65, .inr (10, [.ref 51, .ref 57, .ref 66, .ref 67, .ref 68, .int 0, .int (-1), .int (-1), .ref 69, .ref 70, .ref 71, .ref 72, .int 0, .int (-1), .int (-1), .ref 74, .ref 73])), (74, .inl (1, 1260, .inr (.inl (vp_updL (vp_updL (vp_updL (fun _ => 0) 0 0) 0 0) 0 0)))), (65, .inr (10, [.ref 51, .ref 57, .ref 66, .ref 67, .ref 68, .int 0, .int (-1), .int (-1), .ref 69, .ref 70, .ref 71, .ref 72, .int 0, .int (-1), .int (-1), .ref 73, .ref 74])), (73, .inl (1, 1260, .inr (.inl (vp_updL (vp_updL (vp_updL (vp_updL (fun _ => 0) 0 0) 0 1) 0 0) 0 0)))), (65, .inr (10, [.ref 51, .ref 57, .ref 66, .ref 67, .ref 68, .int 0, .int (-1), .int (-1), .ref 69, .ref 70, .ref 71, .ref 72, .int 0, .int (-1), .int (-1), .ref 74, .ref 73])), (74, .inl (1, 1260, .inr (.inl (vp_updL (vp_updL (fun _ => 0) 0 0) 0 0)))), (65, .inr (10, [.ref 51, .ref 57, .ref 66, .ref 67, .ref 68, .int 0, .int (-1), .int (-1), .ref 69, .ref 70, .ref 71, .ref 72, .int 0, .int (-1), .int (-1), .ref 73, .ref 74])), (73, .inl (1, 1260, .inr (.inl (vp_updL (vp_updL (vp_updL (fun _ => 0) 0 0) 0 1) 0 0)))), (65, .inr (10, [.ref 51, .ref 57, .ref 66, .ref 67, .ref 68, .int 0, .int (-1), .int (-1), .ref 69, .ref 70, .ref 71, .ref 72, .int 0, .int (-1), .int (-1), .ref 74, .ref 73])), (62, .inl (0, 1260, .inl (upd (upd (fun _ => 0) 0 (-1)) 0 0))), (74, .inl (1, 1260, .inr (.inl (vp_updL (fun _ => 0) 0 0)))), (73, .inl (1, 1260, .inr (.inl (vp_updL (vp_updL (fun _ => 0) 0 0) 0 1)))), (73, .inl (1, 1260, .inr (.inl (vp_updL (fun _ => 0) 0 0))))]) rfl ?_
  refine J_iinc (v := 6) dX10_rowsTo_42 rfl (by decide +kernel) (Nat.le_of_ble_eq_true rfl) rfl ?_
  refine J_ls (ls2 := [some (.ref 65), some (.int 0), some (.int 0), some (.int 12), some (.int 1), some (.int 6), none, none]) rfl ?_
  refine J_goto (tgt := 30) dX10_rowsTo_45 (by decide) ?_
  refine J_iload dX10_rowsTo_30 rfl ?_
  refine J_iload_n dX10_rowsTo_32 rfl rfl ?_
  refine J_icmp_ge (tgt := 48) dX10_rowsTo_33 (by decide) (fun q => absurd q (by decide +kernel)) (fun _ => ?_)
  refine J_aload_n dX10_rowsTo_36 rfl rfl ?_
  refine J_iload dX10_rowsTo_37 rfl ?_
  refine J_callV (st := []) dX10_rowsTo_39 cv_X10_130 (c_X10_lengthenRows_7 rfl rfl rfl) rfl rfl rfl (Nat.le_of_ble_eq_true rfl) ⟨(Nat.le_of_ble_eq_true rfl), (Nat.le_of_ble_eq_true rfl)⟩ ⟨(Nat.le_of_ble_eq_true rfl), (Nat.le_of_ble_eq_true rfl)⟩ (fun r h9 hp => ?_)
  obtain ⟨rfl, rfl⟩ := hp
  refine J_nf (nh2 := nh) (ck2 := 0) (sk2 := 0) (st2 := []) rfl rfl rfl rfl ?_
  refine J_app (L3 := [(65, .inr (10, [.ref 51, .ref 57, .ref 66, .ref 67, .ref 68, .int 0, .int (-1), .int (-1), .ref 69, .ref 70, .ref 71, .ref 72, .int 0, .int (-1), .int (-1), .ref 74, .ref 73])), (74, .inl (1, 1260, .inr (.inl (vp_updL (vp_updL (vp_updL (vp_updL (fun _ => 0) 0 0) 0 0) 0 0) 0 0)))), (65, .inr (10, [.ref 51, .ref 57, .ref 66, .ref 67, .ref 68, .int 0, .int (-1), .int (-1), .ref 69, .ref 70, .ref 71, .ref 72, .int 0, .int (-1), .int (-1), .ref 73, .ref 74])), (73, .inl (1, 1260, .inr (.inl (vp_updL (vp_updL (vp_updL (vp_updL (vp_updL (fun _ => 0) 0 0) 0 1) 0 0) 0 0) 0 0)))), (65, .inr (10, [.ref 51, .ref 57, .ref 66, .ref 67, .ref 68, .int 0, .int (-1), .int (-1), .ref 69, .ref 70, .ref 71, .ref 72, .int 0, .int (-1), .int (-1), .ref 74, .ref 73])), (74, .inl (1, 1260, .inr (.inl (vp_updL (vp_updL (vp_updL (fun _ => 0) 0 0) 0 0) 0 0)))), (65, .inr (10, [.ref 51, .ref 57, .ref 66, .ref 67, .ref 68, .int 0, .int (-1), .int (-1), .ref 69, .ref 70, .ref 71, .ref 72, .int 0, .int (-1), .int (-1), .ref 73, .ref 74])), (73, .inl (1, 1260, .inr (.inl (vp_updL (vp_updL (vp_updL (vp_updL (fun _ => 0) 0 0) 0 1) 0 0) 0 0)))), (65, .inr (10, [.ref 51, .ref 57, .ref 66, .ref 67, .ref 68, .int 0, .int (-1), .int (-1), .ref 69, .ref 70, .ref 71, .ref 72, .int 0, .int (-1), .int (-1), .ref 74, .ref 73])), (74, .inl (1, 1260, .inr (.inl (vp_updL (vp_updL (fun _ => 0) 0 0) 0 0)))), (65, .inr (10, [.ref 51, .ref 57, .ref 66, .ref 67, .ref 68, .int 0, .int (-1), .int (-1), .ref 69, .ref 70, .ref 71, .ref 72, .int 0, .int (-1), .int (-1), .ref 73, .ref 74])), (73, .inl (1, 1260, .inr (.inl (vp_updL (vp_updL (vp_updL (fun _ => 0) 0 0) 0 1) 0 0)))), (65, .inr (10, [.ref 51, .ref 57, .ref 66, .ref 67, .ref 68, .int 0, .int (-1), .int (-1), .ref 69, .ref 70, .ref 71, .ref 72, .int 0, .int (-1), .int (-1), .ref 74, .ref 73])), (62, .inl (0, 1260, .inl (upd (upd (fun _ => 0) 0 (-1)) 0 0))), (74, .inl (1, 1260, .inr (.inl (vp_updL (fun _ => 0) 0 0)))), (73, .inl (1, 1260, .inr (.inl (vp_updL (vp_updL (fun _ => 0) 0 0) 0 1)))), (73, .inl (1, 1260, .inr (.inl (vp_updL (fun _ => 0) 0 0))))]) rfl ?_
  refine J_iinc (v := 7) dX10_rowsTo_42 rfl (by decide +kernel) (Nat.le_of_ble_eq_true rfl) rfl ?_
  refine J_ls (ls2 := [some (.ref 65), some (.int 0), some (.int 0), some (.int 12), some (.int 1), some (.int 7), none, none]) rfl ?_
  refine J_goto (tgt := 30) dX10_rowsTo_45 (by decide) ?_
  refine J_iload dX10_rowsTo_30 rfl ?_
  refine J_iload_n dX10_rowsTo_32 rfl rfl ?_
  refine J_icmp_ge (tgt := 48) dX10_rowsTo_33 (by decide) (fun q => absurd q (by decide +kernel)) (fun _ => ?_)
  refine J_aload_n dX10_rowsTo_36 rfl rfl ?_
  refine J_iload dX10_rowsTo_37 rfl ?_
  refine J_callV (st := []) dX10_rowsTo_39 cv_X10_130 (c_X10_lengthenRows_8 rfl rfl rfl) rfl rfl rfl (Nat.le_of_ble_eq_true rfl) ⟨(Nat.le_of_ble_eq_true rfl), (Nat.le_of_ble_eq_true rfl)⟩ ⟨(Nat.le_of_ble_eq_true rfl), (Nat.le_of_ble_eq_true rfl)⟩ (fun r h9 hp => ?_)
  obtain ⟨rfl, rfl⟩ := hp
  refine J_nf (nh2 := nh) (ck2 := 0) (sk2 := 0) (st2 := []) rfl rfl rfl rfl ?_
  refine J_app (L3 := [(65, .inr (10, [.ref 51, .ref 57, .ref 66, .ref 67, .ref 68, .int 0, .int (-1), .int (-1), .ref 69, .ref 70, .ref 71, .ref 72, .int 0, .int (-1), .int (-1), .ref 73, .ref 74])), (73, .inl (1, 1260, .inr (.inl (vp_updL (vp_updL (vp_updL (vp_updL (vp_updL (vp_updL (fun _ => 0) 0 0) 0 1) 0 0) 0 0) 0 0) 0 0)))), (65, .inr (10, [.ref 51, .ref 57, .ref 66, .ref 67, .ref 68, .int 0, .int (-1), .int (-1), .ref 69, .ref 70, .ref 71, .ref 72, .int 0, .int (-1), .int (-1), .ref 74, .ref 73])), (74, .inl (1, 1260, .inr (.inl (vp_updL (vp_updL (vp_updL (vp_updL (fun _ => 0) 0 0) 0 0) 0 0) 0 0)))), (65, .inr (10, [.ref 51, .ref 57, .ref 66, .ref 67, .ref 68, .int 0, .int (-1), .int (-1), .ref 69, .ref 70, .ref 71, .ref 72, .int 0, .int (-1), .int (-1), .ref 73, .ref 74])), (73, .inl (1, 1260, .inr (.inl (vp_updL (vp_updL (vp_updL (vp_updL (vp_updL (fun _ => 0) 0 0) 0 1) 0 0) 0 0) 0 0)))), (65, .inr (10, [.ref 51, .ref 57, .ref 66, .ref 67, .ref 68, .int 0, .int (-1), .int (-1), .ref 69, .ref 70, .ref 71, .ref 72, .int 0, .int (-1), .int (-1), .ref 74, .ref 73])), (74, .inl (1, 1260, .inr (.inl (vp_updL (vp_updL (vp_updL (fun _ => 0) 0 0) 0 0) 0 0)))), (65, .inr (10, [.ref 51, .ref 57, .ref 66, .ref 67, .ref 68, .int 0, .int (-1), .int (-1), .ref 69, .ref 70, .ref 71, .ref 72, .int 0, .int (-1), .int (-1), .ref 73, .ref 74])), (73, .inl (1, 1260, .inr (.inl (vp_updL (vp_updL (vp_updL (vp_updL (fun _ => 0) 0 0) 0 1) 0 0) 0 0)))), (65, .inr (10, [.ref 51, .ref 57, .ref 66, .ref 67, .ref 68, .int 0, .int (-1), .int (-1), .ref 69, .ref 70, .ref 71, .ref 72, .int 0, .int (-1), .int (-1), .ref 74, .ref 73])), (74, .inl (1, 1260, .inr (.inl (vp_updL (vp_updL (fun _ => 0) 0 0) 0 0)))), (65, .inr (10, [.ref 51, .ref 57, .ref 66, .ref 67, .ref 68, .int 0, .int (-1), .int (-1), .ref 69, .ref 70, .ref 71, .ref 72, .int 0, .int (-1), .int (-1), .ref 73, .ref 74])), (73, .inl (1, 1260, .inr (.inl (vp_updL (vp_updL (vp_updL (fun _ => 0) 0 0) 0 1) 0 0)))), (65, .inr (10, [.ref 51, .ref 57, .ref 66, .ref 67, .ref 68, .int 0, .int (-1), .int (-1), .ref 69, .ref 70, .ref 71, .ref 72, .int 0, .int (-1), .int (-1), .ref 74, .ref 73])), (62, .inl (0, 1260, .inl (upd (upd (fun _ => 0) 0 (-1)) 0 0))), (74, .inl (1, 1260, .inr (.inl (vp_updL (fun _ => 0) 0 0)))), (73, .inl (1, 1260, .inr (.inl (vp_updL (vp_updL (fun _ => 0) 0 0) 0 1)))), (73, .inl (1, 1260, .inr (.inl (vp_updL (fun _ => 0) 0 0))))]) rfl ?_
  refine J_iinc (v := 8) dX10_rowsTo_42 rfl (by decide +kernel) (Nat.le_of_ble_eq_true rfl) rfl ?_
  refine J_ls (ls2 := [some (.ref 65), some (.int 0), some (.int 0), some (.int 12), some (.int 1), some (.int 8), none, none]) rfl ?_
  refine J_goto (tgt := 30) dX10_rowsTo_45 (by decide) ?_
  refine J_iload dX10_rowsTo_30 rfl ?_
  refine J_iload_n dX10_rowsTo_32 rfl rfl ?_
  refine J_icmp_ge (tgt := 48) dX10_rowsTo_33 (by decide) (fun q => absurd q (by decide +kernel)) (fun _ => ?_)
  refine J_aload_n dX10_rowsTo_36 rfl rfl ?_
  refine J_iload dX10_rowsTo_37 rfl ?_
  refine J_callV (st := []) dX10_rowsTo_39 cv_X10_130 (c_X10_lengthenRows_9 rfl rfl rfl) rfl rfl rfl (Nat.le_of_ble_eq_true rfl) ⟨(Nat.le_of_ble_eq_true rfl), (Nat.le_of_ble_eq_true rfl)⟩ ⟨(Nat.le_of_ble_eq_true rfl), (Nat.le_of_ble_eq_true rfl)⟩ (fun r h9 hp => ?_)
  obtain ⟨rfl, rfl⟩ := hp
  refine J_nf (nh2 := nh) (ck2 := 0) (sk2 := 0) (st2 := []) rfl rfl rfl rfl ?_
  refine J_app (L3 := [(65, .inr (10, [.ref 51, .ref 57, .ref 66, .ref 67, .ref 68, .int 0, .int (-1), .int (-1), .ref 69, .ref 70, .ref 71, .ref 72, .int 0, .int (-1), .int (-1), .ref 74, .ref 73])), (74, .inl (1, 1260, .inr (.inl (vp_updL (vp_updL (vp_updL (vp_updL (vp_updL (fun _ => 0) 0 0) 0 0) 0 0) 0 0) 0 0)))), (65, .inr (10, [.ref 51, .ref 57, .ref 66, .ref 67, .ref 68, .int 0, .int (-1), .int (-1), .ref 69, .ref 70, .ref 71, .ref 72, .int 0, .int (-1), .int (-1), .ref 73, .ref 74])), (73, .inl (1, 1260, .inr (.inl (vp_updL (vp_updL (vp_updL (vp_updL (vp_updL (vp_updL (fun _ => 0) 0 0) 0 1) 0 0) 0 0) 0 0) 0 0)))), (65, .inr (10, [.ref 51, .ref 57, .ref 66, .ref 67, .ref 68, .int 0, .int (-1), .int (-1), .ref 69, .ref 70, .ref 71, .ref 72, .int 0, .int (-1), .int (-1), .ref 74, .ref 73])), (74, .inl (1, 1260, .inr (.inl (vp_updL (vp_updL (vp_updL (vp_updL (fun _ => 0) 0 0) 0 0) 0 0) 0 0)))), (65, .inr (10, [.ref 51, .ref 57, .ref 66, .ref 67, .ref 68, .int 0, .int (-1), .int (-1), .ref 69, .ref 70, .ref 71, .ref 72, .int 0, .int (-1), .int (-1), .ref 73, .ref 74])), (73, .inl (1, 1260, .inr (.inl (vp_updL (vp_updL (vp_updL (vp_updL (vp_updL (fun _ => 0) 0 0) 0 1) 0 0) 0 0) 0 0)))), (65, .inr (10, [.ref 51, .ref 57, .ref 66, .ref 67, .ref 68, .int 0, .int (-1), .int (-1), .ref 69, .ref 70, .ref 71, .ref 72, .int 0, .int (-1), .int (-1), .ref 74, .ref 73])), (74, .inl (1, 1260, .inr (.inl (vp_updL (vp_updL (vp_updL (fun _ => 0) 0 0) 0 0) 0 0)))), (65, .inr (10, [.ref 51, .ref 57, .ref 66, .ref 67, .ref 68, .int 0, .int (-1), .int (-1), .ref 69, .ref 70, .ref 71, .ref 72, .int 0, .int (-1), .int (-1), .ref 73, .ref 74])), (73, .inl (1, 1260, .inr (.inl (vp_updL (vp_updL (vp_updL (vp_updL (fun _ => 0) 0 0) 0 1) 0 0) 0 0)))), (65, .inr (10, [.ref 51, .ref 57, .ref 66, .ref 67, .ref 68, .int 0, .int (-1), .int (-1), .ref 69, .ref 70, .ref 71, .ref 72, .int 0, .int (-1), .int (-1), .ref 74, .ref 73])), (74, .inl (1, 1260, .inr (.inl (vp_updL (vp_updL (fun _ => 0) 0 0) 0 0)))), (65, .inr (10, [.ref 51, .ref 57, .ref 66, .ref 67, .ref 68, .int 0, .int (-1), .int (-1), .ref 69, .ref 70, .ref 71, .ref 72, .int 0, .int (-1), .int (-1), .ref 73, .ref 74])), (73, .inl (1, 1260, .inr (.inl (vp_updL (vp_updL (vp_updL (fun _ => 0) 0 0) 0 1) 0 0)))), (65, .inr (10, [.ref 51, .ref 57, .ref 66, .ref 67, .ref 68, .int 0, .int (-1), .int (-1), .ref 69, .ref 70, .ref 71, .ref 72, .int 0, .int (-1), .int (-1), .ref 74, .ref 73])), (62, .inl (0, 1260, .inl (upd (upd (fun _ => 0) 0 (-1)) 0 0))), (74, .inl (1, 1260, .inr (.inl (vp_updL (fun _ => 0) 0 0)))), (73, .inl (1, 1260, .inr (.inl (vp_updL (vp_updL (fun _ => 0) 0 0) 0 1)))), (73, .inl (1, 1260, .inr (.inl (vp_updL (fun _ => 0) 0 0))))]) rfl ?_
  refine J_iinc (v := 9) dX10_rowsTo_42 rfl (by decide +kernel) (Nat.le_of_ble_eq_true rfl) rfl ?_
  refine J_ls (ls2 := [some (.ref 65), some (.int 0), some (.int 0), some (.int 12), some (.int 1), some (.int 9), none, none]) rfl ?_
  refine J_goto (tgt := 30) dX10_rowsTo_45 (by decide) ?_
  refine J_iload dX10_rowsTo_30 rfl ?_
  refine J_iload_n dX10_rowsTo_32 rfl rfl ?_
  refine J_icmp_ge (tgt := 48) dX10_rowsTo_33 (by decide) (fun q => absurd q (by decide +kernel)) (fun _ => ?_)
  refine J_aload_n dX10_rowsTo_36 rfl rfl ?_
  refine J_iload dX10_rowsTo_37 rfl ?_
  refine J_callV (st := []) dX10_rowsTo_39 cv_X10_130 (c_X10_lengthenRows_10 rfl rfl rfl) rfl rfl rfl (Nat.le_of_ble_eq_true rfl) ⟨(Nat.le_of_ble_eq_true rfl), (Nat.le_of_ble_eq_true rfl)⟩ ⟨(Nat.le_of_ble_eq_true rfl), (Nat.le_of_ble_eq_true rfl)⟩ (fun r h9 hp => ?_)
  obtain ⟨rfl, rfl⟩ := hp
  refine J_nf (nh2 := nh) (ck2 := 0) (sk2 := 0) (st2 := []) rfl rfl rfl rfl ?_
  refine J_app (L3 := [(65, .inr (10, [.ref 51, .ref 57, .ref 66, .ref 67, .ref 68, .int 0, .int (-1), .int (-1), .ref 69, .ref 70, .ref 71, .ref 72, .int 0, .int (-1), .int (-1), .ref 73, .ref 74])), (73, .inl (1, 1260, .inr (.inl (vp_updL (vp_updL (vp_updL (vp_updL (vp_updL (vp_updL (vp_updL (fun _ => 0) 0 0) 0 1) 0 0) 0 0) 0 0) 0 0) 0 0)))), (65, .inr (10, [.ref 51, .ref 57, .ref 66, .ref 67, .ref 68, .int 0, .int (-1), .int (-1), .ref 69, .ref 70, .ref 71, .ref 72, .int 0, .int (-1), .int (-1), .ref 74, .ref 73])), (74, .inl (1, 1260, .inr (.inl (vp_updL (vp_updL (vp_updL (vp_updL (vp_updL (fun _ => 0) 0 0) 0 0) 0 0) 0 0) 0 0)))), (65, .inr (10, [.ref 51, .ref 57, .ref 66, .ref 67, .ref 68, .int 0, .int (-1), .int (-1), .ref 69, .ref 70, .ref 71, .ref 72, .int 0, .int (-1), .int (-1), .ref 73, .ref 74])), (73, .inl (1, 1260, .inr (.inl (vp_updL (vp_updL (vp_updL (vp_updL (vp_updL (vp_updL (fun _ => 0) 0 0) 0 1) 0 0) 0 0) 0 0) 0 0)))), (65, .inr (10, [.ref 51, .ref 57, .ref 66, .ref 67, .ref 68, .int 0, .int (-1), .int (-1), .ref 69, .ref 70, .ref 71, .ref 72, .int 0, .int (-1), .int (-1), .ref 74, .ref 73])), (74, .inl (1, 1260, .inr (.inl (vp_updL (vp_updL (vp_updL (vp_updL (fun _ => 0) 0 0) 0 0) 0 0) 0 0)))), (65, .inr (10, [.ref 51, .ref 57, .ref 66, .ref 67, .ref 68, .int 0, .int (-1), .int (-1), .ref 69, .ref 70, .ref 71, .ref 72, .int 0, .int (-1), .int (-1), .ref 73, .ref 74])), (73, .inl (1, 1260, .inr (.inl (vp_updL (vp_updL (vp_updL (vp_updL (vp_updL (fun _ => 0) 0 0) 0 1) 0 0) 0 0) 0 0)))), (65, .inr (10, [.ref 51, .ref 57, .ref 66, .ref 67, .ref 68, .int 0, .int (-1), .int (-1), .ref 69, .ref 70, .ref 71, .ref 72, .int 0, .int (-1), .int (-1), .ref 74, .ref 73])), (74, .inl (1, 1260, .inr (.inl (vp_updL (vp_updL (vp_updL (fun _ => 0) 0 0) 0 0) 0 0)))), (65, .inr (10, [.ref 51, .ref 57, .ref 66, .ref 67, .ref 68, .int 0, .int (-1), .int (-1), .ref 69, .ref 70, .ref 71, .ref 72, .int 0, .int (-1), .int (-1), .ref 73, .ref 74])), (73, .inl (1, 1260, .inr (.inl (vp_updL (vp_updL (vp_updL (vp_updL (fun _ => 0) 0 0) 0 1) 0 0) 0 0)))), (65, .inr (10, [.ref 51, .ref 57, .ref 66, .ref 67, .ref 68, .int 0, .int (-1), .int (-1), .ref 69, .ref 70, .ref 71, .ref 72, .int 0, .int (-1), .int (-1), .ref 74, .ref 73])), (74, .inl (1, 1260, .inr (.inl (vp_updL (vp_updL (fun _ => 0) 0 0) 0 0)))), (65, .inr (10, [.ref 51, .ref 57, .ref 66, .ref 67, .ref 68, .int 0, .int (-1), .int (-1), .ref 69, .ref 70, .ref 71, .ref 72, .int 0, .int (-1), .int (-1), .ref 73, .ref 74])), (73, .inl (1, 1260, .inr (.inl (vp_updL (vp_updL (vp_updL (fun _ => 0) 0 0) 0 1) 0 0)))), (65, .inr (10, [.ref 51, .ref 57, .ref 66, .ref 67, .ref 68, .int 0, .int (-1), .int (-1), .ref 69, .ref 70, .ref 71, .ref 72, .int 0, .int (-1), .int (-1), .ref 74, .ref 73])), (62, .inl (0, 1260, .inl (upd (upd (fun _ => 0) 0 (-1)) 0 0))), (74, .inl (1, 1260, .inr (.inl (vp_updL (fun _ => 0) 0 0)))), (73, .inl (1, 1260, .inr (.inl (vp_updL (vp_updL (fun _ => 0) 0 0) 0 1)))), (73, .inl (1, 1260, .inr (.inl (vp_updL (fun _ => 0) 0 0))))]) rfl ?_
  refine J_iinc (v := 10) dX10_rowsTo_42 rfl (by decide +kernel) (Nat.le_of_ble_eq_true rfl) rfl ?_
  refine J_ls (ls2 := [some (.ref 65), some (.int 0), some (.int 0), some (.int 12), some (.int 1), some (.int 10), none, none]) rfl ?_
  refine J_goto (tgt := 30) dX10_rowsTo_45 (by decide) ?_
  refine J_iload dX10_rowsTo_30 rfl ?_
  refine J_iload_n dX10_rowsTo_32 rfl rfl ?_
  refine J_icmp_ge (tgt := 48) dX10_rowsTo_33 (by decide) (fun q => absurd q (by decide +kernel)) (fun _ => ?_)
  refine J_aload_n dX10_rowsTo_36 rfl rfl ?_
  refine J_iload dX10_rowsTo_37 rfl ?_
  refine J_callV (st := []) dX10_rowsTo_39 cv_X10_130 (c_X10_lengthenRows_11 rfl rfl rfl) rfl rfl rfl (Nat.le_of_ble_eq_true rfl) ⟨(Nat.le_of_ble_eq_true rfl), (Nat.le_of_ble_eq_true rfl)⟩ ⟨(Nat.le_of_ble_eq_true rfl), (Nat.le_of_ble_eq_true rfl)⟩ (fun r h9 hp => ?_)
  obtain ⟨rfl, rfl⟩ := hp
  refine J_nf (nh2 := nh) (ck2 := 0) (sk2 := 0) (st2 := []) rfl rfl rfl rfl ?_
  refine J_app (L3 := [(65, .inr (10, [.ref 51, .ref 57, .ref 66, .ref 67, .ref 68, .int 0, .int (-1), .int (-1), .ref 69, .ref 70, .ref 71, .ref 72, .int 0, .int (-1), .int (-1), .ref 74, .ref 73])), (74, .inl (1, 1260, .inr (.inl (vp_updL (vp_updL (vp_updL (vp_updL (vp_updL (vp_updL (fun _ => 0) 0 0) 0 0) 0 0) 0 0) 0 0) 0 0)))), (65, .inr (10, [.ref 51, .ref 57, .ref 66, .ref 67, .ref 68, .int 0, .int (-1), .int (-1), .ref 69, .ref 70, .ref 71, .ref 72, .int 0, .int (-1), .int (-1), .ref 73, .ref 74])), (73, .inl (1, 1260, .inr (.inl (vp_updL (vp_updL (vp_updL (vp_updL (vp_updL (vp_updL (vp_updL (fun _ => 0) 0 0) 0 1) 0 0) 0 0) 0 0) 0 0) 0 0)))), (65, .inr (10, [.ref 51, .ref 57, .ref 66, .ref 67, .ref 68, .int 0, .int (-1), .int (-1), .ref 69, .ref 70, .ref 71, .ref 72, .int 0, .int (-1), .int (-1), .ref 74, .ref 73])), (74, .inl (1, 1260, .inr (.inl (vp_updL (vp_updL (vp_updL (vp_updL (vp_updL (fun _ => 0) 0 0) 0 0) 0 0) 0 0) 0 0)))), (65, .inr (10, [.ref 51, .ref 57, .ref 66, .ref 67, .ref 68, .int 0, .int (-1), .int (-1), .ref 69, .ref 70, .ref 71, .ref 72, .int 0, .int (-1), .int (-1), .ref 73, .ref 74])), (73, .inl (1, 1260, .inr (.inl (vp_updL (vp_updL (vp_updL (vp_updL (vp_updL (vp_updL (fun _ => 0) 0 0) 0 1) 0 0) 0 0) 0 0) 0 0)))), (65, .inr (10, [.ref 51, .ref 57, .ref 66, .ref 67, .ref 68, .int 0, .int (-1), .int (-1), .ref 69, .ref 70, .ref 71, .ref 72, .int 0, .int (-1), .int (-1), .ref 74, .ref 73])), (74, .inl (1, 1260, .inr (.inl (vp_updL (vp_updL (vp_updL (vp_updL (fun _ => 0) 0 0) 0 0) 0 0) 0 0)))), (65, .inr (10, [.ref 51, .ref 57, .ref 66, .ref 67, .ref 68, .int 0, .int (-1), .int (-1), .ref 69, .ref 70, .ref 71, .ref 72, .int 0, .int (-1), .int (-1), .ref 73, .ref 74])), (73, .inl (1, 1260, .inr (.inl (vp_updL (vp_updL (vp_updL (vp_updL (vp_updL (fun _ => 0) 0 0) 0 1) 0 0) 0 0) 0 0)))), (65, .inr (10, [.ref 51, .ref 57, .ref 66, .ref 67, .ref 68, .int 0, .int (-1), .int (-1), .ref 69, .ref 70, .ref 71, .ref 72, .int 0, .int (-1), .int (-1), .ref 74, .ref 73])), (74, .inl (1, 1260, .inr (.inl (vp_updL (vp_updL (vp_updL (fun _ => 0) 0 0) 0 0) 0 0)))), (65, .inr (10, [.ref 51, .ref 57, .ref 66, .ref 67, .ref 68, .int 0, .int (-1), .int (-1), .ref 69, .ref 70, .ref 71, .ref 72, .int 0, .int (-1), .int (-1), .ref 73, .ref 74])), (73, .inl (1, 1260, .inr (.inl (vp_updL (vp_updL (vp_updL (vp_updL (fun _ => 0) 0 0) 0 1) 0 0) 0 0)))), (65, .inr (10, [.ref 51, .ref 57, .ref 66, .ref 67, .ref 68, .int 0, .int (-1), .int (-1), .ref 69, .ref 70, .ref 71, .ref 72, .int 0, .int (-1), .int (-1), .ref 74, .ref 73])), (74, .inl (1, 1260, .inr (.inl (vp_updL (vp_updL (fun _ => 0) 0 0) 0 0)))), (65, .inr (10, [.ref 51, .ref 57, .ref 66, .ref 67, .ref 68, .int 0, .int (-1), .int (-1), .ref 69, .ref 70, .ref 71, .ref 72, .int 0, .int (-1), .int (-1), .ref 73, .ref 74])), (73, .inl (1, 1260, .inr (.inl (vp_updL (vp_updL (vp_updL (fun _ => 0) 0 0) 0 1) 0 0)))), (65, .inr (10, [.ref 51, .ref 57, .ref 66, .ref 67, .ref 68, .int 0, .int (-1), .int (-1), .ref 69, .ref 70, .ref 71, .ref 72, .int 0, .int (-1), .int (-1), .ref 74, .ref 73])), (62, .inl (0, 1260, .inl (upd (upd (fun _ => 0) 0 (-1)) 0 0))), (74, .inl (1, 1260, .inr (.inl (vp_updL (fun _ => 0) 0 0)))), (73, .inl (1, 1260, .inr (.inl (vp_updL (vp_updL (fun _ => 0) 0 0) 0 1)))), (73, .inl (1, 1260, .inr (.inl (vp_updL (fun _ => 0) 0 0))))]) rfl ?_
  refine J_iinc (v := 11) dX10_rowsTo_42 rfl (by decide +kernel) (Nat.le_of_ble_eq_true rfl) rfl ?_
  refine J_ls (ls2 := [some (.ref 65), some (.int 0), some (.int 0), some (.int 12), some (.int 1), some (.int 11), none, none]) rfl ?_
  refine J_goto (tgt := 30) dX10_rowsTo_45 (by decide) ?_
  refine J_iload dX10_rowsTo_30 rfl ?_
  refine J_iload_n dX10_rowsTo_32 rfl rfl ?_
  refine J_icmp_ge (tgt := 48) dX10_rowsTo_33 (by decide) (fun q => absurd q (by decide +kernel)) (fun _ => ?_)
  refine J_aload_n dX10_rowsTo_36 rfl rfl ?_
  refine J_iload dX10_rowsTo_37 rfl ?_
  refine J_callV (st := []) dX10_rowsTo_39 cv_X10_130 (c_X10_lengthenRows_12 rfl rfl rfl) rfl rfl rfl (Nat.le_of_ble_eq_true rfl) ⟨(Nat.le_of_ble_eq_true rfl), (Nat.le_of_ble_eq_true rfl)⟩ ⟨(Nat.le_of_ble_eq_true rfl), (Nat.le_of_ble_eq_true rfl)⟩ (fun r h9 hp => ?_)
  obtain ⟨rfl, rfl⟩ := hp
  refine J_nf (nh2 := nh) (ck2 := 0) (sk2 := 0) (st2 := []) rfl rfl rfl rfl ?_
  refine J_app (L3 := [(65, .inr (10, [.ref 51, .ref 57, .ref 66, .ref 67, .ref 68, .int 0, .int (-1), .int (-1), .ref 69, .ref 70, .ref 71, .ref 72, .int 0, .int (-1), .int (-1), .ref 73, .ref 74])), (73, .inl (1, 1260, .inr (.inl (vp_updL (vp_updL (vp_updL (vp_updL (vp_updL (vp_updL (vp_updL (vp_updL (fun _ => 0) 0 0) 0 1) 0 0) 0 0) 0 0) 0 0) 0 0) 0 0)))), (65, .inr (10, [.ref 51, .ref 57, .ref 66, .ref 67, .ref 68, .int 0, .int (-1), .int (-1), .ref 69, .ref 70, .ref 71, .ref 72, .int 0, .int (-1), .int (-1), .ref 74, .ref 73])), (74, .inl (1, 1260, .inr (.inl (vp_updL (vp_updL (vp_updL (vp_updL (vp_updL (vp_updL (fun _ => 0) 0 0) 0 0) 0 0) 0 0) 0 0) 0 0)))), (65, .inr (10, [.ref 51, .ref 57, .ref 66, .ref 67, .ref 68, .int 0, .int (-1), .int (-1), .ref 69, .ref 70, .ref 71, .ref 72, .int 0, .int (-1), .int (-1), .ref 73, .ref 74])), (73, .inl (1, 1260, .inr (.inl (vp_updL (vp_updL (vp_updL (vp_updL (vp_updL (vp_updL (vp_updL (fun _ => 0) 0 0) 0 1) 0 0) 0 0) 0 0) 0 0) 0 0)))), (65, .inr (10, [.ref 51, .ref 57, .ref 66, .ref 67, .ref 68, .int 0, .int (-1), .int (-1), .ref 69, .ref 70, .ref 71, .ref 72, .int 0, .int (-1), .int (-1), .ref 74, .ref 73])), (74, .inl (1, 1260, .inr (.inl (vp_updL (vp_updL (vp_updL (vp_updL (vp_updL (fun _ => 0) 0 0) 0 0) 0 0) 0 0) 0 0)))), (65, .inr (10, [.ref 51, .ref 57, .ref 66, .ref 67, .ref 68, .int 0, .int (-1), .int (-1), .ref 69, .ref 70, .ref 71, .ref 72, .int 0, .int (-1), .int (-1), .ref 73, .ref 74])), (73, .inl (1, 1260, .inr (.inl (vp_updL (vp_updL (vp_updL (vp_updL (vp_updL (vp_updL (fun _ => 0) 0 0) 0 1) 0 0) 0 0) 0 0) 0 0)))), (65, .inr (10, [.ref 51, .ref 57, .ref 66, .ref 67, .ref 68, .int 0, .int (-1), .int (-1), .ref 69, .ref 70, .ref 71, .ref 72, .int 0, .int (-1), .int (-1), .ref 74, .ref 73])), (74, .inl (1, 1260, .inr (.inl (vp_updL (vp_updL (vp_updL (vp_updL (fun _ => 0) 0 0) 0 0) 0 0) 0 0)))), (65, .inr (10, [.ref 51, .ref 57, .ref 66, .ref 67, .ref 68, .int 0, .int (-1), .int (-1), .ref 69, .ref 70, .ref 71, .ref 72, .int 0, .int (-1), .int (-1), .ref 73, .ref 74])), (73, .inl (1, 1260, .inr (.inl (vp_updL (vp_updL (vp_updL (vp_updL (vp_updL (fun _ => 0) 0 0) 0 1) 0 0) 0 0) 0 0)))), (65, .inr (10, [.ref 51, .ref 57, .ref 66, .ref 67, .ref 68, .int 0, .int (-1), .int (-1), .ref 69, .ref 70, .ref 71, .ref 72, .int 0, .int (-1), .int (-1), .ref 74, .ref 73])), (74, .inl (1, 1260, .inr (.inl (vp_updL (vp_updL (vp_updL (fun _ => 0) 0 0) 0 0) 0 0)))), (65, .inr (10, [.ref 51, .ref 57, .ref 66, .ref 67, .ref 68, .int 0, .int (-1), .int (-1), .ref 69, .ref 70, .ref 71, .ref 72, .int 0, .int (-1), .int (-1), .ref 73, .ref 74])), (73, .inl (1, 1260, .inr (.inl (vp_updL (vp_updL (vp_updL (vp_updL (fun _ => 0) 0 0) 0 1) 0 0) 0 0)))), (65, .inr (10, [.ref 51, .ref 57, .ref 66, .ref 67, .ref 68, .int 0, .int (-1), .int (-1), .ref 69, .ref 70, .ref 71, .ref 72, .int 0, .int (-1), .int (-1), .ref 74, .ref 73])), (74, .inl (1, 1260, .inr (.inl (vp_updL (vp_updL (fun _ => 0) 0 0) 0 0)))), (65, .inr (10, [.ref 51, .ref 57, .ref 66, .ref 67, .ref 68, .int 0, .int (-1), .int (-1), .ref 69, .ref 70, .ref 71, .ref 72, .int 0, .int (-1), .int (-1), .ref 73, .ref 74])), (73, .inl (1, 1260, .inr (.inl (vp_updL (vp_updL (vp_updL (fun _ => 0) 0 0) 0 1) 0 0)))), (65, .inr (10, [.ref 51, .ref 57, .ref 66, .ref 67, .ref 68, .int 0, .int (-1), .int (-1), .ref 69, .ref 70, .ref 71, .ref 72, .int 0, .int (-1), .int (-1), .ref 74, .ref 73])), (62, .inl (0, 1260, .inl (upd (upd (fun _ => 0) 0 (-1)) 0 0))), (74, .inl (1, 1260, .inr (.inl (vp_updL (fun _ => 0) 0 0)))), (73, .inl (1, 1260, .inr (.inl (vp_updL (vp_updL (fun _ => 0) 0 0) 0 1)))), (73, .inl (1, 1260, .inr (.inl (vp_updL (fun _ => 0) 0 0))))]) rfl ?_
  refine J_iinc (v := 12) dX10_rowsTo_42 rfl (by decide +kernel) (Nat.le_of_ble_eq_true rfl) rfl ?_
  refine J_ls (ls2 := [some (.ref 65), some (.int 0), some (.int 0), some (.int 12), some (.int 1), some (.int 12), none, none]) rfl ?_
  refine J_goto (tgt := 30) dX10_rowsTo_45 (by decide) ?_
  refine J_iload dX10_rowsTo_30 rfl ?_
  refine J_iload_n dX10_rowsTo_32 rfl rfl ?_
  refine J_icmp_ge (tgt := 48) dX10_rowsTo_33 (by decide) (fun _ => ?_) (fun q => absurd (by decide +kernel) q)
  refine J_iload_n dX10_rowsTo_48 rfl rfl ?_
  refine J_iconst (v := (-1)) dX10_rowsTo_49 (by decide) ?_
  refine J_icmp_eq (tgt := 60) dX10_rowsTo_50 (by decide) (fun q => absurd q (by decide +kernel)) (fun _ => ?_)
  refine J_aload_n dX10_rowsTo_53 rfl rfl ?_
  refine J_get (v := .ref 73) dX10_rowsTo_54 fl_X10_52 rfl rfl ?_
  refine J_iload_n dX10_rowsTo_57 rfl rfl ?_
  refine J_lald (i2 := 0) (v := 0) dX10_rowsTo_58 rfl rfl (jin (by decide +kernel)) (by decide +kernel) rfl ?_
  refine J_mask (L2 := [(65, .inr (10, [.ref 51, .ref 57, .ref 66, .ref 67, .ref 68, .int 0, .int (-1), .int (-1), .ref 69, .ref 70, .ref 71, .ref 72, .int 0, .int (-1), .int (-1), .ref 73, .ref 74])), (73, .inl (1, 1260, .inr (.inl (vp_updL (vp_updL (vp_updL (vp_updL (vp_updL (vp_updL (vp_updL (vp_updL (fun _ => 0) 0 0) 0 1) 0 0) 0 0) 0 0) 0 0) 0 0) 0 0)))), (74, .inl (1, 1260, .inr (.inl (vp_updL (vp_updL (vp_updL (vp_updL (vp_updL (vp_updL (fun _ => 0) 0 0) 0 0) 0 0) 0 0) 0 0) 0 0)))), (62, .inl (0, 1260, .inl (upd (upd (fun _ => 0) 0 (-1)) 0 0)))]) (ks := [65, 73, 65, 74, 65, 73, 65, 74, 65, 73, 65, 74, 65, 73, 65, 74, 65, 73, 65, 74, 65, 73, 65, 62, 74, 73, 73]) [true, true, false, true, false, false, false, false, false, false, false, false, false, false, false, false, false, false, false, false, false, false, false, true, false, false, false] rfl (by decide +kernel) rfl ?_
  exact J_lret dX10_rowsTo_59 rfl (Nat.le_of_ble_eq_true rfl) (Nat.le_of_ble_eq_true rfl) ⟨rfl, rfl⟩
set_option maxHeartbeats 4000000 in
set_option maxRecDepth 100000 in
theorem c_X11_rows_31 {l : Launch} {G : jG} {fh : Nat → Option va_E} (hk0 : fh 0 = some (.inr (11, [.ref 1, .ref 17, .ref 50, .ref 51, .ref 54, .ref 57, .ref 65, .ref 75, .ref 81, .ref 85, .ref 88, .ref 93, .ref 96, .int 0, .int (-1), .ref 97, .int 0]))) (hk1 : fh 1 = some (.inr (8, [.ref 2, .ref 3, .ref 4, .int 0, .int (-1), .ref 11, .ref 12, .int 0, .ref 13, .ref 14, .int 0, .ref 15, .ref 16, .int 0]))) (hk3 : fh 3 = some (.inl (0, 2, .inl (fun _ => 0)))) (hk51 : fh 51 = some (.inr (0, [.ref 52, .ref 53, .int 1, .int 0]))) (hk52 : fh 52 = some (.inl (0, 1260, .inl (upd (fun _ => 0) 0 0)))) (hk57 : fh 57 = some (.inr (9, [.ref 1, .ref 51, .ref 58, .ref 61, .ref 62, .ref 63, .ref 64, .int 0, .int 1, .int 1]))) (hk58 : fh 58 = some (.inr (1, [.ref 59, .ref 60, .int 0, .int 0, .int 0, .int 0, .int 0, .int 1]))) (hk59 : fh 59 = some (.inl (0, 8, .inl (fun _ => 0)))) (hk62 : fh 62 = some (.inl (0, 1260, .inl (fun _ => 0)))) (hk63 : fh 63 = some (.inl (0, 0, .inl (fun _ => 0)))) (hk65 : fh 65 = some (.inr (10, [.ref 51, .ref 57, .ref 66, .ref 67, .ref 68, .int 0, .int (-1), .int (-1), .ref 69, .ref 70, .ref 71, .ref 72, .int 0, .int (-1), .int (-1), .ref 73, .ref 74]))) (hk73 : fh 73 = some (.inl (1, 1260, .inr (.inl (fun _ => 0))))) (hk74 : fh 74 = some (.inl (1, 1260, .inr (.inl (fun _ => 0))))) : JM l G yX11_rows MX11_rows { frames := 6, cells := 1, slots := 22, locals := 146 } [.ref 0, .int 0, .int 0, .int 12] (135, fh) (fun r h9 => r = some (.long 0) ∧ h9 = (136, hc fh [(65, .inr (10, [.ref 51, .ref 57, .ref 66, .ref 67, .ref 68, .int 0, .int (-1), .int (-1), .ref 69, .ref 70, .ref 71, .ref 72, .int 0, .int (-1), .int (-1), .ref 73, .ref 74])), (73, .inl (1, 1260, .inr (.inl (vp_updL (vp_updL (vp_updL (vp_updL (vp_updL (vp_updL (vp_updL (vp_updL (fun _ => 0) 0 0) 0 1) 0 0) 0 0) 0 0) 0 0) 0 0) 0 0)))), (74, .inl (1, 1260, .inr (.inl (vp_updL (vp_updL (vp_updL (vp_updL (vp_updL (vp_updL (fun _ => 0) 0 0) 0 0) 0 0) 0 0) 0 0) 0 0)))), (62, .inl (0, 1260, .inl (upd (upd (fun _ => 0) 0 (-1)) 0 0))), (57, .inr (9, [.ref 1, .ref 51, .ref 58, .ref 61, .ref 62, .ref 135, .ref 64, .int 0, .int 0, .int 0])), (135, .inl (0, 22, .inl (fun _ => 0))), (59, .inl (0, 8, .inl (upd (upd (fun _ => 0) 6 0) 7 0)))])) := by
  refine JM.of (by decide) rfl (fun h => by cases h) (Nat.le_of_ble_eq_true rfl) ⟨0, rfl⟩ ?_
  refine J_hc0 (J_ls (ls2 := [some (.ref 0), some (.int 0), some (.int 0), some (.int 12)]) rfl ?_)
  refine J_aload_n dX11_rows_0 rfl rfl ?_
  refine J_get (v := .ref 51) dX11_rows_1 fl_X11_27 hk0 rfl ?_
  refine J_iload_n dX11_rows_4 rfl rfl ?_
  refine J_callV (st := []) dX11_rows_5 cv_X11_135 (c_X0_has_2 hk51) hk51 rfl rfl (Nat.le_of_ble_eq_true rfl) ⟨(Nat.le_of_ble_eq_true rfl), (Nat.le_of_ble_eq_true rfl)⟩ ⟨(Nat.le_of_ble_eq_true rfl), (Nat.le_of_ble_eq_true rfl)⟩ (fun r h9 hp => ?_)
  obtain ⟨rfl, rfl⟩ := hp
  refine J_nf (nh2 := 135) (ck2 := 0) (sk2 := 0) (st2 := [.int 1]) rfl rfl rfl rfl ?_
  refine J_if_eq (tgt := 37) dX11_rows_8 (by decide) (fun q => absurd q (by decide +kernel)) (fun _ => ?_)
  refine J_iload_n dX11_rows_11 rfl rfl ?_
  refine J_iconst (v := (-1)) dX11_rows_12 (by decide) ?_
  refine J_icmp_eq (tgt := 27) dX11_rows_13 (by decide) (fun q => absurd q (by decide +kernel)) (fun _ => ?_)
  refine J_aload_n dX11_rows_16 rfl rfl ?_
  refine J_get (v := .ref 51) dX11_rows_17 fl_X11_27 hk0 rfl ?_
  refine J_iload_n dX11_rows_20 rfl rfl ?_
  refine J_callV (st := []) dX11_rows_21 cv_X11_135 (c_X0_has_2 hk51) hk51 rfl rfl (Nat.le_of_ble_eq_true rfl) ⟨(Nat.le_of_ble_eq_true rfl), (Nat.le_of_ble_eq_true rfl)⟩ ⟨(Nat.le_of_ble_eq_true rfl), (Nat.le_of_ble_eq_true rfl)⟩ (fun r h9 hp => ?_)
  obtain ⟨rfl, rfl⟩ := hp
  refine J_nf (nh2 := 135) (ck2 := 0) (sk2 := 0) (st2 := [.int 1]) rfl rfl rfl rfl ?_
  refine J_if_eq (tgt := 37) dX11_rows_24 (by decide) (fun q => absurd q (by decide +kernel)) (fun _ => ?_)
  refine J_iload_n dX11_rows_27 rfl rfl ?_
  refine J_if_lt (tgt := 37) dX11_rows_28 (by decide) (fun q => absurd q (by decide +kernel)) (fun _ => ?_)
  refine J_iload_n dX11_rows_31 rfl rfl ?_
  refine J_bipush (v := 12) dX11_rows_32 (by decide +kernel) ?_
  refine J_icmp_le (tgt := 41) dX11_rows_34 (by decide) (fun _ => ?_) (fun q => absurd (by decide +kernel) q)
  refine J_aload_n dX11_rows_41 rfl rfl ?_
  refine J_get (v := .ref 57) dX11_rows_42 fl_X11_43 hk0 rfl ?_
  refine J_callV (st := []) dX11_rows_45 cv_X11_217 (c_X9_prepare_1 hk1 hk3 hk51 hk57 hk58 hk59 hk62 hk63) hk57 rfl rfl (Nat.le_of_ble_eq_true rfl) ⟨(Nat.le_of_ble_eq_true rfl), (Nat.le_of_ble_eq_true rfl)⟩ ⟨(Nat.le_of_ble_eq_true rfl), (Nat.le_of_ble_eq_true rfl)⟩ (fun r h9 hp => ?_)
  obtain ⟨rfl, rfl⟩ := hp
  refine J_nf (nh2 := 136) (ck2 := 1) (sk2 := 22) (st2 := []) rfl rfl rfl rfl ?_
  refine J_app (L3 := [(57, .inr (9, [.ref 1, .ref 51, .ref 58, .ref 61, .ref 62, .ref 135, .ref 64, .int 0, .int 0, .int 0])), (62, .inl (0, 1260, .inl (upd (fun _ => 0) 0 (-1)))), (135, .inl (0, 22, .inl (fun _ => 0))), (59, .inl (0, 8, .inl (upd (upd (fun _ => 0) 6 0) 7 0)))]) rfl ?_
  refine J_aload_n dX11_rows_48 rfl rfl ?_
  refine J_get (v := .ref 65) dX11_rows_49 fl_X11_52 hk0 rfl ?_
  refine J_iload_n dX11_rows_52 rfl rfl ?_
  refine J_iload_n dX11_rows_53 rfl rfl ?_
  refine J_iload_n dX11_rows_54 rfl rfl ?_
  refine J_callV (st := []) dX11_rows_55 cv_X11_256 (c_X10_rowsTo_26 hk1 hk3 hk51 hk52 rfl rfl hk65 hk73 hk74) hk65 rfl rfl (Nat.le_of_ble_eq_true rfl) ⟨(Nat.le_of_ble_eq_true rfl), (Nat.le_of_ble_eq_true rfl)⟩ ⟨(Nat.le_of_ble_eq_true rfl), (Nat.le_of_ble_eq_true rfl)⟩ (fun r h9 hp => ?_)
  obtain ⟨rfl, rfl⟩ := hp
  refine J_nf (nh2 := 136) (ck2 := 1) (sk2 := 22) (st2 := [.long 0]) rfl rfl rfl rfl ?_
  refine J_app (L3 := [(65, .inr (10, [.ref 51, .ref 57, .ref 66, .ref 67, .ref 68, .int 0, .int (-1), .int (-1), .ref 69, .ref 70, .ref 71, .ref 72, .int 0, .int (-1), .int (-1), .ref 73, .ref 74])), (73, .inl (1, 1260, .inr (.inl (vp_updL (vp_updL (vp_updL (vp_updL (vp_updL (vp_updL (vp_updL (vp_updL (fun _ => 0) 0 0) 0 1) 0 0) 0 0) 0 0) 0 0) 0 0) 0 0)))), (74, .inl (1, 1260, .inr (.inl (vp_updL (vp_updL (vp_updL (vp_updL (vp_updL (vp_updL (fun _ => 0) 0 0) 0 0) 0 0) 0 0) 0 0) 0 0)))), (62, .inl (0, 1260, .inl (upd (upd (fun _ => 0) 0 (-1)) 0 0))), (57, .inr (9, [.ref 1, .ref 51, .ref 58, .ref 61, .ref 62, .ref 135, .ref 64, .int 0, .int 0, .int 0])), (62, .inl (0, 1260, .inl (upd (fun _ => 0) 0 (-1)))), (135, .inl (0, 22, .inl (fun _ => 0))), (59, .inl (0, 8, .inl (upd (upd (fun _ => 0) 6 0) 7 0)))]) rfl ?_
  refine J_mask (L2 := [(65, .inr (10, [.ref 51, .ref 57, .ref 66, .ref 67, .ref 68, .int 0, .int (-1), .int (-1), .ref 69, .ref 70, .ref 71, .ref 72, .int 0, .int (-1), .int (-1), .ref 73, .ref 74])), (73, .inl (1, 1260, .inr (.inl (vp_updL (vp_updL (vp_updL (vp_updL (vp_updL (vp_updL (vp_updL (vp_updL (fun _ => 0) 0 0) 0 1) 0 0) 0 0) 0 0) 0 0) 0 0) 0 0)))), (74, .inl (1, 1260, .inr (.inl (vp_updL (vp_updL (vp_updL (vp_updL (vp_updL (vp_updL (fun _ => 0) 0 0) 0 0) 0 0) 0 0) 0 0) 0 0)))), (62, .inl (0, 1260, .inl (upd (upd (fun _ => 0) 0 (-1)) 0 0))), (57, .inr (9, [.ref 1, .ref 51, .ref 58, .ref 61, .ref 62, .ref 135, .ref 64, .int 0, .int 0, .int 0])), (135, .inl (0, 22, .inl (fun _ => 0))), (59, .inl (0, 8, .inl (upd (upd (fun _ => 0) 6 0) 7 0)))]) (ks := [65, 73, 74, 62, 57, 62, 135, 59]) [true, true, true, true, true, false, true, true] rfl (by decide +kernel) rfl ?_
  exact J_lret dX11_rows_58 rfl (Nat.le_of_ble_eq_true rfl) (Nat.le_of_ble_eq_true rfl) ⟨rfl, rfl⟩
set_option maxHeartbeats 4000000 in
set_option maxRecDepth 100000 in
theorem c_X12_rows_31 {l : Launch} {G : jG} {nh : Nat} {fh : Nat → Option va_E} (hk98 : fh 98 = some (.inr (12, [.int 0, .int 0, .ref 99, .ref 100, .ref 101, .ref 102, .ref 103, .ref 104, .ref 105, .int 0, .int (-1), .ref 106, .ref 107, .ref 108, .int 0, .int 0, .int 0, .int 0, .int 0, .int 0, .int 0, .ref 109, .int 0, .int 0, .ref 110, .ref 111, .ref 112, .ref 113, .ref 114, .ref 115, .ref 116, .ref 117, .int 0, .int 0, .int (-1), .int (-1), .ref 118, .ref 119, .ref 120, .ref 121, .ref 122, .ref 123, .ref 124, .ref 125, .ref 126, .ref 127, .ref 128, .ref 129, .int 0, .ref 130, .ref 131, .ref 132, .ref 133, .ref 134, .int 0, .int 0]))) (hk100 : fh 100 = some (.inl (0, 4870, .inl (upd (fun _ => 0) 63 (-1))))) (hk111 : fh 111 = some (.inl (0, 1260, .inl (fun _ => 0)))) (hk114 : fh 114 = some (.inl (0, 1260, .inl (fun _ => 0)))) (hk116 : fh 116 = some (.inl (0, 1260, .inl (fun _ => 0)))) (hk127 : fh 127 = some (.inl (1, 1260, .inr (.inl (fun _ => 0))))) (hk128 : fh 128 = some (.inl (1, 1260, .inr (.inl (fun _ => 0))))) : JM l G yX12_rows MX12_rows { frames := 3, cells := 0, slots := 0, locals := 69 } [.ref 98, .int 0, .int 0, .int 12] (nh, fh) (fun r h9 => r = some (.long 0) ∧ h9 = (nh, hc fh [(127, .inl (1, 1260, .inr (.inl (vp_updL (vp_updL (vp_updL (vp_updL (vp_updL (vp_updL (vp_updL (vp_updL (vp_updL (vp_updL (vp_updL (vp_updL (vp_updL (fun _ => 0) 0 1) 0 0) 0 0) 0 0) 0 0) 0 0) 0 0) 0 0) 0 0) 0 0) 0 0) 0 0) 0 0)))), (128, .inl (1, 1260, .inr (.inl (vp_updL (vp_updL (vp_updL (vp_updL (vp_updL (vp_updL (vp_updL (vp_updL (vp_updL (vp_updL (vp_updL (vp_updL (fun _ => 0) 0 0) 0 0) 0 0) 0 0) 0 0) 0 0) 0 0) 0 0) 0 0) 0 0) 0 0) 0 0)))), (114, .inl (0, 1260, .inl (upd (fun _ => 0) 0 0))), (116, .inl (0, 1260, .inl (upd (fun _ => 0) 0 0))), (98, .inr (12, [.int 0, .int 0, .ref 99, .ref 100, .ref 101, .ref 102, .ref 103, .ref 104, .ref 105, .int 0, .int (-1), .ref 106, .ref 107, .ref 108, .int 0, .int 0, .int 0, .int 0, .int 0, .int 0, .int 0, .ref 109, .int 0, .int 0, .ref 110, .ref 111, .ref 112, .ref 113, .ref 114, .ref 115, .ref 116, .ref 117, .int 1, .int 0, .int 0, .int 0, .ref 118, .ref 119, .ref 120, .ref 121, .ref 122, .ref 123, .ref 124, .ref 125, .ref 126, .ref 127, .ref 128, .ref 129, .int 0, .ref 130, .ref 131, .ref 132, .ref 133, .ref 134, .int 0, .int 0])), (111, .inl (0, 1260, .inl (upd (fun _ => 0) 0 0)))])) := by
  refine JM.of (by decide) rfl (fun h => by cases h) (Nat.le_of_ble_eq_true rfl) ⟨3, rfl⟩ ?_
  refine J_hc0 (J_ls (ls2 := [some (.ref 98), some (.int 0), some (.int 0), some (.int 12), none, none, none]) rfl ?_)
  refine J_aload_n dX12_rows_0 rfl rfl ?_
  refine J_iload_n dX12_rows_1 rfl rfl ?_
  refine J_callV (st := []) dX12_rows_2 cv_X12_325 (c_X12_isHouse_2 hk98 hk100 hk111) hk98 rfl rfl (Nat.le_of_ble_eq_true rfl) ⟨(Nat.le_of_ble_eq_true rfl), (Nat.le_of_ble_eq_true rfl)⟩ ⟨(Nat.le_of_ble_eq_true rfl), (Nat.le_of_ble_eq_true rfl)⟩ (fun r h9 hp => ?_)
  obtain ⟨rfl, rfl⟩ := hp
  refine J_nf (nh2 := nh) (ck2 := 0) (sk2 := 0) (st2 := [.int 1]) rfl rfl rfl rfl ?_
  refine J_app (L3 := [(98, .inr (12, [.int 0, .int 0, .ref 99, .ref 100, .ref 101, .ref 102, .ref 103, .ref 104, .ref 105, .int 0, .int (-1), .ref 106, .ref 107, .ref 108, .int 0, .int 0, .int 0, .int 0, .int 0, .int 0, .int 0, .ref 109, .int 0, .int 0, .ref 110, .ref 111, .ref 112, .ref 113, .ref 114, .ref 115, .ref 116, .ref 117, .int 1, .int 0, .int 0, .int (-1), .ref 118, .ref 119, .ref 120, .ref 121, .ref 122, .ref 123, .ref 124, .ref 125, .ref 126, .ref 127, .ref 128, .ref 129, .int 0, .ref 130, .ref 131, .ref 132, .ref 133, .ref 134, .int 0, .int 0])), (111, .inl (0, 1260, .inl (upd (fun _ => 0) 0 0)))]) rfl ?_
  refine J_if_eq (tgt := 31) dX12_rows_5 (by decide) (fun q => absurd q (by decide +kernel)) (fun _ => ?_)
  refine J_iload_n dX12_rows_8 rfl rfl ?_
  refine J_iconst (v := (-1)) dX12_rows_9 (by decide) ?_
  refine J_icmp_eq (tgt := 21) dX12_rows_10 (by decide) (fun q => absurd q (by decide +kernel)) (fun _ => ?_)
  refine J_aload_n dX12_rows_13 rfl rfl ?_
  refine J_iload_n dX12_rows_14 rfl rfl ?_
  refine J_callV (st := []) dX12_rows_15 cv_X12_325 (c_X12_isHouse_5 rfl) rfl rfl rfl (Nat.le_of_ble_eq_true rfl) ⟨(Nat.le_of_ble_eq_true rfl), (Nat.le_of_ble_eq_true rfl)⟩ ⟨(Nat.le_of_ble_eq_true rfl), (Nat.le_of_ble_eq_true rfl)⟩ (fun r h9 hp => ?_)
  obtain ⟨rfl, rfl⟩ := hp
  refine J_nf (nh2 := nh) (ck2 := 0) (sk2 := 0) (st2 := [.int 1]) rfl rfl rfl rfl ?_
  refine J_if_eq (tgt := 31) dX12_rows_18 (by decide) (fun q => absurd q (by decide +kernel)) (fun _ => ?_)
  refine J_iload_n dX12_rows_21 rfl rfl ?_
  refine J_iconst (v := 0) dX12_rows_22 (by decide) ?_
  refine J_bipush (v := 12) dX12_rows_23 (by decide +kernel) ?_
  refine J_callS (st := []) dX12_rows_25 cs_X12_138 (c_X12_lies_61 ) rfl rfl (Nat.le_of_ble_eq_true rfl) ⟨(Nat.le_of_ble_eq_true rfl), (Nat.le_of_ble_eq_true rfl)⟩ ⟨(Nat.le_of_ble_eq_true rfl), (Nat.le_of_ble_eq_true rfl)⟩ (fun r h9 hp => ?_)
  obtain ⟨rfl, rfl⟩ := hp
  refine J_nf (nh2 := nh) (ck2 := 0) (sk2 := 0) (st2 := [.int 1]) rfl rfl rfl rfl ?_
  refine J_if_ne (tgt := 35) dX12_rows_28 (by decide) (fun _ => ?_) (fun q => absurd q (by decide +kernel))
  refine J_aload_n dX12_rows_35 rfl rfl ?_
  refine J_callV (st := []) dX12_rows_36 cv_X12_328 (c_X12_looks_1 rfl hk100 hk114 hk116) rfl rfl rfl (Nat.le_of_ble_eq_true rfl) ⟨(Nat.le_of_ble_eq_true rfl), (Nat.le_of_ble_eq_true rfl)⟩ ⟨(Nat.le_of_ble_eq_true rfl), (Nat.le_of_ble_eq_true rfl)⟩ (fun r h9 hp => ?_)
  obtain ⟨rfl, rfl⟩ := hp
  refine J_nf (nh2 := nh) (ck2 := 0) (sk2 := 0) (st2 := []) rfl rfl rfl rfl ?_
  refine J_app (L3 := [(114, .inl (0, 1260, .inl (upd (fun _ => 0) 0 0))), (116, .inl (0, 1260, .inl (upd (fun _ => 0) 0 0))), (98, .inr (12, [.int 0, .int 0, .ref 99, .ref 100, .ref 101, .ref 102, .ref 103, .ref 104, .ref 105, .int 0, .int (-1), .ref 106, .ref 107, .ref 108, .int 0, .int 0, .int 0, .int 0, .int 0, .int 0, .int 0, .ref 109, .int 0, .int 0, .ref 110, .ref 111, .ref 112, .ref 113, .ref 114, .ref 115, .ref 116, .ref 117, .int 1, .int 0, .int 0, .int 0, .ref 118, .ref 119, .ref 120, .ref 121, .ref 122, .ref 123, .ref 124, .ref 125, .ref 126, .ref 127, .ref 128, .ref 129, .int 0, .ref 130, .ref 131, .ref 132, .ref 133, .ref 134, .int 0, .int 0])), (98, .inr (12, [.int 0, .int 0, .ref 99, .ref 100, .ref 101, .ref 102, .ref 103, .ref 104, .ref 105, .int 0, .int (-1), .ref 106, .ref 107, .ref 108, .int 0, .int 0, .int 0, .int 0, .int 0, .int 0, .int 0, .ref 109, .int 0, .int 0, .ref 110, .ref 111, .ref 112, .ref 113, .ref 114, .ref 115, .ref 116, .ref 117, .int 1, .int 0, .int 0, .int (-1), .ref 118, .ref 119, .ref 120, .ref 121, .ref 122, .ref 123, .ref 124, .ref 125, .ref 126, .ref 127, .ref 128, .ref 129, .int 0, .ref 130, .ref 131, .ref 132, .ref 133, .ref 134, .int 0, .int 0])), (111, .inl (0, 1260, .inl (upd (fun _ => 0) 0 0)))]) rfl ?_
  refine J_iconst (v := 0) dX12_rows_39 (by decide) ?_
  refine J_istore dX12_rows_40 (Nat.le_of_ble_eq_true rfl) rfl ?_
  refine J_iload dX12_rows_42 rfl ?_
  refine J_aload_n dX12_rows_44 rfl rfl ?_
  refine J_get (v := .int 1) dX12_rows_45 fl_X12_298 rfl rfl ?_
  refine J_icmp_ge (tgt := 75) dX12_rows_48 (by decide) (fun q => absurd q (by decide +kernel)) (fun _ => ?_)
  refine J_aload_n dX12_rows_51 rfl rfl ?_
  refine J_get (v := .ref 127) dX12_rows_52 fl_X12_113 rfl rfl ?_
  refine J_iload dX12_rows_55 rfl ?_
  refine J_iload dX12_rows_57 rfl ?_
  refine J_iload_n dX12_rows_59 rfl rfl ?_
  refine J_icmp_ne (tgt := 67) dX12_rows_60 (by decide) (fun q => absurd (by decide +kernel) q) (fun _ => ?_)
  refine J_lconst (v := 1) dX12_rows_63 (by decide +kernel) ?_
  refine J_goto (tgt := 68) dX12_rows_64 (by decide) ?_
  refine K_last (i2 := 0) dX12_rows_68 hk127 rfl (jin (by decide +kernel)) (by decide +kernel) ?_
  refine J_iinc (v := 1) dX12_rows_69 rfl (by decide +kernel) (Nat.le_of_ble_eq_true rfl) rfl ?_
  refine J_ls (ls2 := [some (.ref 98), some (.int 0), some (.int 0), some (.int 12), some (.int 1), none, none]) rfl ?_
  refine J_goto (tgt := 42) dX12_rows_72 (by decide) ?_
  refine J_iload dX12_rows_42 rfl ?_
  refine J_aload_n dX12_rows_44 rfl rfl ?_
  refine J_get (v := .int 1) dX12_rows_45 fl_X12_298 rfl rfl ?_
  refine J_icmp_ge (tgt := 75) dX12_rows_48 (by decide) (fun _ => ?_) (fun q => absurd (by decide +kernel) q)
  refine J_iconst (v := 0) dX12_rows_75 (by decide) ?_
  refine J_istore dX12_rows_76 (Nat.le_of_ble_eq_true rfl) rfl ?_
  refine J_iload dX12_rows_78 rfl ?_
  refine J_iload_n dX12_rows_80 rfl rfl ?_
  refine J_icmp_ge (tgt := 215) dX12_rows_81 (by decide) (fun q => absurd q (by decide +kernel)) (fun _ => ?_)
  refine J_iconst (v := 0) dX12_rows_84 (by decide) ?_
  refine J_istore dX12_rows_85 (Nat.le_of_ble_eq_true rfl) rfl ?_
  refine J_iload dX12_rows_87 rfl ?_
  refine J_aload_n dX12_rows_89 rfl rfl ?_
  refine J_get (v := .int 1) dX12_rows_90 fl_X12_298 rfl rfl ?_
  refine J_icmp_ge (tgt := 110) dX12_rows_93 (by decide) (fun q => absurd q (by decide +kernel)) (fun _ => ?_)
  refine J_aload_n dX12_rows_96 rfl rfl ?_
  refine J_get (v := .ref 128) dX12_rows_97 fl_X12_116 rfl rfl ?_
  refine J_iload dX12_rows_100 rfl ?_
  refine J_lconst (v := 0) dX12_rows_102 (by decide +kernel) ?_
  refine K_last (i2 := 0) dX12_rows_103 hk128 rfl (jin (by decide +kernel)) (by decide +kernel) ?_
  refine J_iinc (v := 1) dX12_rows_104 rfl (by decide +kernel) (Nat.le_of_ble_eq_true rfl) rfl ?_
  refine J_ls (ls2 := [some (.ref 98), some (.int 0), some (.int 0), some (.int 12), some (.int 0), some (.int 1), none]) rfl ?_
  refine J_goto (tgt := 87) dX12_rows_107 (by decide) ?_
  refine J_iload dX12_rows_87 rfl ?_
  refine J_aload_n dX12_rows_89 rfl rfl ?_
  refine J_get (v := .int 1) dX12_rows_90 fl_X12_298 rfl rfl ?_
  refine J_icmp_ge (tgt := 110) dX12_rows_93 (by decide) (fun _ => ?_) (fun q => absurd (by decide +kernel) q)
  refine J_iconst (v := 0) dX12_rows_110 (by decide) ?_
  refine J_istore dX12_rows_111 (Nat.le_of_ble_eq_true rfl) rfl ?_
  refine J_iload dX12_rows_113 rfl ?_
  refine J_aload_n dX12_rows_115 rfl rfl ?_
  refine J_get (v := .int 1) dX12_rows_116 fl_X12_298 rfl rfl ?_
  refine J_icmp_ge (tgt := 177) dX12_rows_119 (by decide) (fun q => absurd q (by decide +kernel)) (fun _ => ?_)
  refine J_iconst (v := 0) dX12_rows_122 (by decide) ?_
  refine J_istore dX12_rows_123 (Nat.le_of_ble_eq_true rfl) rfl ?_
  refine J_iload dX12_rows_125 rfl ?_
  refine J_aload_n dX12_rows_127 rfl rfl ?_
  refine J_get (v := .ref 114) dX12_rows_128 fl_X12_67 rfl rfl ?_
  refine J_iload dX12_rows_131 rfl ?_
  refine J_iald (i2 := 0) (v := 0) dX12_rows_133 rfl rfl (jin (by decide +kernel)) (by decide +kernel) rfl ?_
  refine J_icmp_ge (tgt := 171) dX12_rows_134 (by decide) (fun _ => ?_) (fun q => absurd (by decide +kernel) q)
  refine J_iinc (v := 1) dX12_rows_171 rfl (by decide +kernel) (Nat.le_of_ble_eq_true rfl) rfl ?_
  refine J_ls (ls2 := [some (.ref 98), some (.int 0), some (.int 0), some (.int 12), some (.int 0), some (.int 1), some (.int 0)]) rfl ?_
  refine J_goto (tgt := 113) dX12_rows_174 (by decide) ?_
  refine J_iload dX12_rows_113 rfl ?_
  refine J_aload_n dX12_rows_115 rfl rfl ?_
  refine J_get (v := .int 1) dX12_rows_116 fl_X12_298 rfl rfl ?_
  refine J_icmp_ge (tgt := 177) dX12_rows_119 (by decide) (fun _ => ?_) (fun q => absurd (by decide +kernel) q)
  refine J_iconst (v := 0) dX12_rows_177 (by decide) ?_
  refine J_istore dX12_rows_178 (Nat.le_of_ble_eq_true rfl) rfl ?_
  refine J_iload dX12_rows_180 rfl ?_
  refine J_aload_n dX12_rows_182 rfl rfl ?_
  refine J_get (v := .int 1) dX12_rows_183 fl_X12_298 rfl rfl ?_
  refine J_icmp_ge (tgt := 209) dX12_rows_186 (by decide) (fun q => absurd q (by decide +kernel)) (fun _ => ?_)
  refine J_aload_n dX12_rows_189 rfl rfl ?_
  refine J_get (v := .ref 127) dX12_rows_190 fl_X12_113 rfl rfl ?_
  refine J_iload dX12_rows_193 rfl ?_
  refine J_aload_n dX12_rows_195 rfl rfl ?_
  refine J_get (v := .ref 128) dX12_rows_196 fl_X12_116 rfl rfl ?_
  refine J_iload dX12_rows_199 rfl ?_
  refine J_lald (i2 := 0) (v := 0) dX12_rows_201 rfl rfl (jin (by decide +kernel)) (by decide +kernel) rfl ?_
  refine K_last (i2 := 0) dX12_rows_202 rfl rfl (jin (by decide +kernel)) (by decide +kernel) ?_
  refine J_iinc (v := 1) dX12_rows_203 rfl (by decide +kernel) (Nat.le_of_ble_eq_true rfl) rfl ?_
  refine J_ls (ls2 := [some (.ref 98), some (.int 0), some (.int 0), some (.int 12), some (.int 0), some (.int 1), some (.int 0)]) rfl ?_
  refine J_goto (tgt := 180) dX12_rows_206 (by decide) ?_
  refine J_iload dX12_rows_180 rfl ?_
  refine J_aload_n dX12_rows_182 rfl rfl ?_
  refine J_get (v := .int 1) dX12_rows_183 fl_X12_298 rfl rfl ?_
  refine J_icmp_ge (tgt := 209) dX12_rows_186 (by decide) (fun _ => ?_) (fun q => absurd (by decide +kernel) q)
  refine J_iinc (v := 1) dX12_rows_209 rfl (by decide +kernel) (Nat.le_of_ble_eq_true rfl) rfl ?_
  refine J_ls (ls2 := [some (.ref 98), some (.int 0), some (.int 0), some (.int 12), some (.int 1), some (.int 1), some (.int 0)]) rfl ?_
  refine J_goto (tgt := 78) dX12_rows_212 (by decide) ?_
  refine J_iload dX12_rows_78 rfl ?_
  refine J_iload_n dX12_rows_80 rfl rfl ?_
  refine J_icmp_ge (tgt := 215) dX12_rows_81 (by decide) (fun q => absurd q (by decide +kernel)) (fun _ => ?_)
  refine J_iconst (v := 0) dX12_rows_84 (by decide) ?_
  refine J_istore dX12_rows_85 (Nat.le_of_ble_eq_true rfl) rfl ?_
  refine J_iload dX12_rows_87 rfl ?_
  refine J_aload_n dX12_rows_89 rfl rfl ?_
  refine J_get (v := .int 1) dX12_rows_90 fl_X12_298 rfl rfl ?_
  refine J_icmp_ge (tgt := 110) dX12_rows_93 (by decide) (fun q => absurd q (by decide +kernel)) (fun _ => ?_)
  refine J_aload_n dX12_rows_96 rfl rfl ?_
  refine J_get (v := .ref 128) dX12_rows_97 fl_X12_116 rfl rfl ?_
  refine J_iload dX12_rows_100 rfl ?_
  refine J_lconst (v := 0) dX12_rows_102 (by decide +kernel) ?_
  refine K_last (i2 := 0) dX12_rows_103 rfl rfl (jin (by decide +kernel)) (by decide +kernel) ?_
  refine J_iinc (v := 1) dX12_rows_104 rfl (by decide +kernel) (Nat.le_of_ble_eq_true rfl) rfl ?_
  refine J_ls (ls2 := [some (.ref 98), some (.int 0), some (.int 0), some (.int 12), some (.int 1), some (.int 1), some (.int 0)]) rfl ?_
  refine J_goto (tgt := 87) dX12_rows_107 (by decide) ?_
  refine J_iload dX12_rows_87 rfl ?_
  refine J_aload_n dX12_rows_89 rfl rfl ?_
  refine J_get (v := .int 1) dX12_rows_90 fl_X12_298 rfl rfl ?_
  refine J_icmp_ge (tgt := 110) dX12_rows_93 (by decide) (fun _ => ?_) (fun q => absurd (by decide +kernel) q)
  refine J_iconst (v := 0) dX12_rows_110 (by decide) ?_
  refine J_istore dX12_rows_111 (Nat.le_of_ble_eq_true rfl) rfl ?_
  refine J_iload dX12_rows_113 rfl ?_
  refine J_aload_n dX12_rows_115 rfl rfl ?_
  refine J_get (v := .int 1) dX12_rows_116 fl_X12_298 rfl rfl ?_
  refine J_icmp_ge (tgt := 177) dX12_rows_119 (by decide) (fun q => absurd q (by decide +kernel)) (fun _ => ?_)
  refine J_iconst (v := 0) dX12_rows_122 (by decide) ?_
  refine J_istore dX12_rows_123 (Nat.le_of_ble_eq_true rfl) rfl ?_
  refine J_iload dX12_rows_125 rfl ?_
  refine J_aload_n dX12_rows_127 rfl rfl ?_
  refine J_get (v := .ref 114) dX12_rows_128 fl_X12_67 rfl rfl ?_
  refine J_iload dX12_rows_131 rfl ?_
  refine J_iald (i2 := 0) (v := 0) dX12_rows_133 rfl rfl (jin (by decide +kernel)) (by decide +kernel) rfl ?_
  refine J_icmp_ge (tgt := 171) dX12_rows_134 (by decide) (fun _ => ?_) (fun q => absurd (by decide +kernel) q)
  refine J_iinc (v := 1) dX12_rows_171 rfl (by decide +kernel) (Nat.le_of_ble_eq_true rfl) rfl ?_
  refine J_ls (ls2 := [some (.ref 98), some (.int 0), some (.int 0), some (.int 12), some (.int 1), some (.int 1), some (.int 0)]) rfl ?_
  refine J_goto (tgt := 113) dX12_rows_174 (by decide) ?_
  refine J_iload dX12_rows_113 rfl ?_
  refine J_aload_n dX12_rows_115 rfl rfl ?_
  refine J_get (v := .int 1) dX12_rows_116 fl_X12_298 rfl rfl ?_
  refine J_icmp_ge (tgt := 177) dX12_rows_119 (by decide) (fun _ => ?_) (fun q => absurd (by decide +kernel) q)
  refine J_iconst (v := 0) dX12_rows_177 (by decide) ?_
  refine J_istore dX12_rows_178 (Nat.le_of_ble_eq_true rfl) rfl ?_
  refine J_iload dX12_rows_180 rfl ?_
  refine J_aload_n dX12_rows_182 rfl rfl ?_
  refine J_get (v := .int 1) dX12_rows_183 fl_X12_298 rfl rfl ?_
  refine J_icmp_ge (tgt := 209) dX12_rows_186 (by decide) (fun q => absurd q (by decide +kernel)) (fun _ => ?_)
  refine J_aload_n dX12_rows_189 rfl rfl ?_
  refine J_get (v := .ref 127) dX12_rows_190 fl_X12_113 rfl rfl ?_
  refine J_iload dX12_rows_193 rfl ?_
  refine J_aload_n dX12_rows_195 rfl rfl ?_
  refine J_get (v := .ref 128) dX12_rows_196 fl_X12_116 rfl rfl ?_
  refine J_iload dX12_rows_199 rfl ?_
  refine J_lald (i2 := 0) (v := 0) dX12_rows_201 rfl rfl (jin (by decide +kernel)) (by decide +kernel) rfl ?_
  refine K_last (i2 := 0) dX12_rows_202 rfl rfl (jin (by decide +kernel)) (by decide +kernel) ?_
  refine J_iinc (v := 1) dX12_rows_203 rfl (by decide +kernel) (Nat.le_of_ble_eq_true rfl) rfl ?_
  refine J_ls (ls2 := [some (.ref 98), some (.int 0), some (.int 0), some (.int 12), some (.int 1), some (.int 1), some (.int 0)]) rfl ?_
  refine J_goto (tgt := 180) dX12_rows_206 (by decide) ?_
  refine J_iload dX12_rows_180 rfl ?_
  refine J_aload_n dX12_rows_182 rfl rfl ?_
  refine J_get (v := .int 1) dX12_rows_183 fl_X12_298 rfl rfl ?_
  refine J_icmp_ge (tgt := 209) dX12_rows_186 (by decide) (fun _ => ?_) (fun q => absurd (by decide +kernel) q)
  refine J_iinc (v := 2) dX12_rows_209 rfl (by decide +kernel) (Nat.le_of_ble_eq_true rfl) rfl ?_
  refine J_ls (ls2 := [some (.ref 98), some (.int 0), some (.int 0), some (.int 12), some (.int 2), some (.int 1), some (.int 0)]) rfl ?_
  refine J_goto (tgt := 78) dX12_rows_212 (by decide) ?_
  refine J_iload dX12_rows_78 rfl ?_
  refine J_iload_n dX12_rows_80 rfl rfl ?_
  refine J_icmp_ge (tgt := 215) dX12_rows_81 (by decide) (fun q => absurd q (by decide +kernel)) (fun _ => ?_)
  refine J_iconst (v := 0) dX12_rows_84 (by decide) ?_
  refine J_istore dX12_rows_85 (Nat.le_of_ble_eq_true rfl) rfl ?_
  refine J_iload dX12_rows_87 rfl ?_
  refine J_aload_n dX12_rows_89 rfl rfl ?_
  refine J_get (v := .int 1) dX12_rows_90 fl_X12_298 rfl rfl ?_
  refine J_icmp_ge (tgt := 110) dX12_rows_93 (by decide) (fun q => absurd q (by decide +kernel)) (fun _ => ?_)
  refine J_aload_n dX12_rows_96 rfl rfl ?_
  refine J_get (v := .ref 128) dX12_rows_97 fl_X12_116 rfl rfl ?_
  refine J_iload dX12_rows_100 rfl ?_
  refine J_lconst (v := 0) dX12_rows_102 (by decide +kernel) ?_
  refine K_last (i2 := 0) dX12_rows_103 rfl rfl (jin (by decide +kernel)) (by decide +kernel) ?_
  refine J_iinc (v := 1) dX12_rows_104 rfl (by decide +kernel) (Nat.le_of_ble_eq_true rfl) rfl ?_
  refine J_ls (ls2 := [some (.ref 98), some (.int 0), some (.int 0), some (.int 12), some (.int 2), some (.int 1), some (.int 0)]) rfl ?_
  refine J_goto (tgt := 87) dX12_rows_107 (by decide) ?_
  refine J_iload dX12_rows_87 rfl ?_
  refine J_aload_n dX12_rows_89 rfl rfl ?_
  refine J_get (v := .int 1) dX12_rows_90 fl_X12_298 rfl rfl ?_
  refine J_icmp_ge (tgt := 110) dX12_rows_93 (by decide) (fun _ => ?_) (fun q => absurd (by decide +kernel) q)
  refine J_iconst (v := 0) dX12_rows_110 (by decide) ?_
  refine J_istore dX12_rows_111 (Nat.le_of_ble_eq_true rfl) rfl ?_
  refine J_iload dX12_rows_113 rfl ?_
  refine J_aload_n dX12_rows_115 rfl rfl ?_
  refine J_get (v := .int 1) dX12_rows_116 fl_X12_298 rfl rfl ?_
  refine J_icmp_ge (tgt := 177) dX12_rows_119 (by decide) (fun q => absurd q (by decide +kernel)) (fun _ => ?_)
  refine J_iconst (v := 0) dX12_rows_122 (by decide) ?_
  refine J_istore dX12_rows_123 (Nat.le_of_ble_eq_true rfl) rfl ?_
  refine J_iload dX12_rows_125 rfl ?_
  refine J_aload_n dX12_rows_127 rfl rfl ?_
  refine J_get (v := .ref 114) dX12_rows_128 fl_X12_67 rfl rfl ?_
  refine J_iload dX12_rows_131 rfl ?_
  refine J_iald (i2 := 0) (v := 0) dX12_rows_133 rfl rfl (jin (by decide +kernel)) (by decide +kernel) rfl ?_
  refine J_icmp_ge (tgt := 171) dX12_rows_134 (by decide) (fun _ => ?_) (fun q => absurd (by decide +kernel) q)
  refine J_iinc (v := 1) dX12_rows_171 rfl (by decide +kernel) (Nat.le_of_ble_eq_true rfl) rfl ?_
  refine J_ls (ls2 := [some (.ref 98), some (.int 0), some (.int 0), some (.int 12), some (.int 2), some (.int 1), some (.int 0)]) rfl ?_
  refine J_goto (tgt := 113) dX12_rows_174 (by decide) ?_
  refine J_iload dX12_rows_113 rfl ?_
  refine J_aload_n dX12_rows_115 rfl rfl ?_
  refine J_get (v := .int 1) dX12_rows_116 fl_X12_298 rfl rfl ?_
  refine J_icmp_ge (tgt := 177) dX12_rows_119 (by decide) (fun _ => ?_) (fun q => absurd (by decide +kernel) q)
  refine J_iconst (v := 0) dX12_rows_177 (by decide) ?_
  refine J_istore dX12_rows_178 (Nat.le_of_ble_eq_true rfl) rfl ?_
  refine J_iload dX12_rows_180 rfl ?_
  refine J_aload_n dX12_rows_182 rfl rfl ?_
  refine J_get (v := .int 1) dX12_rows_183 fl_X12_298 rfl rfl ?_
  refine J_icmp_ge (tgt := 209) dX12_rows_186 (by decide) (fun q => absurd q (by decide +kernel)) (fun _ => ?_)
  refine J_aload_n dX12_rows_189 rfl rfl ?_
  refine J_get (v := .ref 127) dX12_rows_190 fl_X12_113 rfl rfl ?_
  refine J_iload dX12_rows_193 rfl ?_
  refine J_aload_n dX12_rows_195 rfl rfl ?_
  refine J_get (v := .ref 128) dX12_rows_196 fl_X12_116 rfl rfl ?_
  refine J_iload dX12_rows_199 rfl ?_
  refine J_lald (i2 := 0) (v := 0) dX12_rows_201 rfl rfl (jin (by decide +kernel)) (by decide +kernel) rfl ?_
  refine K_last (i2 := 0) dX12_rows_202 rfl rfl (jin (by decide +kernel)) (by decide +kernel) ?_
  refine J_iinc (v := 1) dX12_rows_203 rfl (by decide +kernel) (Nat.le_of_ble_eq_true rfl) rfl ?_
  refine J_ls (ls2 := [some (.ref 98), some (.int 0), some (.int 0), some (.int 12), some (.int 2), some (.int 1), some (.int 0)]) rfl ?_
  refine J_goto (tgt := 180) dX12_rows_206 (by decide) ?_
  refine J_iload dX12_rows_180 rfl ?_
  refine J_aload_n dX12_rows_182 rfl rfl ?_
  refine J_get (v := .int 1) dX12_rows_183 fl_X12_298 rfl rfl ?_
  refine J_icmp_ge (tgt := 209) dX12_rows_186 (by decide) (fun _ => ?_) (fun q => absurd (by decide +kernel) q)
  refine J_iinc (v := 3) dX12_rows_209 rfl (by decide +kernel) (Nat.le_of_ble_eq_true rfl) rfl ?_
  refine J_ls (ls2 := [some (.ref 98), some (.int 0), some (.int 0), some (.int 12), some (.int 3), some (.int 1), some (.int 0)]) rfl ?_
  refine J_goto (tgt := 78) dX12_rows_212 (by decide) ?_
  refine J_iload dX12_rows_78 rfl ?_
  refine J_iload_n dX12_rows_80 rfl rfl ?_
  refine J_icmp_ge (tgt := 215) dX12_rows_81 (by decide) (fun q => absurd q (by decide +kernel)) (fun _ => ?_)
  refine J_iconst (v := 0) dX12_rows_84 (by decide) ?_
  refine J_istore dX12_rows_85 (Nat.le_of_ble_eq_true rfl) rfl ?_
  refine J_iload dX12_rows_87 rfl ?_
  refine J_aload_n dX12_rows_89 rfl rfl ?_
  refine J_get (v := .int 1) dX12_rows_90 fl_X12_298 rfl rfl ?_
  refine J_icmp_ge (tgt := 110) dX12_rows_93 (by decide) (fun q => absurd q (by decide +kernel)) (fun _ => ?_)
  refine J_aload_n dX12_rows_96 rfl rfl ?_
  refine J_get (v := .ref 128) dX12_rows_97 fl_X12_116 rfl rfl ?_
  refine J_iload dX12_rows_100 rfl ?_
  refine J_lconst (v := 0) dX12_rows_102 (by decide +kernel) ?_
  refine K_last (i2 := 0) dX12_rows_103 rfl rfl (jin (by decide +kernel)) (by decide +kernel) ?_
  refine J_iinc (v := 1) dX12_rows_104 rfl (by decide +kernel) (Nat.le_of_ble_eq_true rfl) rfl ?_
  refine J_ls (ls2 := [some (.ref 98), some (.int 0), some (.int 0), some (.int 12), some (.int 3), some (.int 1), some (.int 0)]) rfl ?_
  refine J_goto (tgt := 87) dX12_rows_107 (by decide) ?_
  refine J_iload dX12_rows_87 rfl ?_
  refine J_aload_n dX12_rows_89 rfl rfl ?_
  refine J_get (v := .int 1) dX12_rows_90 fl_X12_298 rfl rfl ?_
  refine J_icmp_ge (tgt := 110) dX12_rows_93 (by decide) (fun _ => ?_) (fun q => absurd (by decide +kernel) q)
  refine J_iconst (v := 0) dX12_rows_110 (by decide) ?_
  refine J_istore dX12_rows_111 (Nat.le_of_ble_eq_true rfl) rfl ?_
  refine J_iload dX12_rows_113 rfl ?_
  refine J_aload_n dX12_rows_115 rfl rfl ?_
  refine J_get (v := .int 1) dX12_rows_116 fl_X12_298 rfl rfl ?_
  refine J_icmp_ge (tgt := 177) dX12_rows_119 (by decide) (fun q => absurd q (by decide +kernel)) (fun _ => ?_)
  refine J_iconst (v := 0) dX12_rows_122 (by decide) ?_
  refine J_istore dX12_rows_123 (Nat.le_of_ble_eq_true rfl) rfl ?_
  refine J_iload dX12_rows_125 rfl ?_
  refine J_aload_n dX12_rows_127 rfl rfl ?_
  refine J_get (v := .ref 114) dX12_rows_128 fl_X12_67 rfl rfl ?_
  refine J_iload dX12_rows_131 rfl ?_
  refine J_iald (i2 := 0) (v := 0) dX12_rows_133 rfl rfl (jin (by decide +kernel)) (by decide +kernel) rfl ?_
  refine J_icmp_ge (tgt := 171) dX12_rows_134 (by decide) (fun _ => ?_) (fun q => absurd (by decide +kernel) q)
  refine J_iinc (v := 1) dX12_rows_171 rfl (by decide +kernel) (Nat.le_of_ble_eq_true rfl) rfl ?_
  refine J_ls (ls2 := [some (.ref 98), some (.int 0), some (.int 0), some (.int 12), some (.int 3), some (.int 1), some (.int 0)]) rfl ?_
  refine J_goto (tgt := 113) dX12_rows_174 (by decide) ?_
  refine J_iload dX12_rows_113 rfl ?_
  refine J_aload_n dX12_rows_115 rfl rfl ?_
  refine J_get (v := .int 1) dX12_rows_116 fl_X12_298 rfl rfl ?_
  refine J_icmp_ge (tgt := 177) dX12_rows_119 (by decide) (fun _ => ?_) (fun q => absurd (by decide +kernel) q)
  refine J_iconst (v := 0) dX12_rows_177 (by decide) ?_
  refine J_istore dX12_rows_178 (Nat.le_of_ble_eq_true rfl) rfl ?_
  refine J_iload dX12_rows_180 rfl ?_
  refine J_aload_n dX12_rows_182 rfl rfl ?_
  refine J_get (v := .int 1) dX12_rows_183 fl_X12_298 rfl rfl ?_
  refine J_icmp_ge (tgt := 209) dX12_rows_186 (by decide) (fun q => absurd q (by decide +kernel)) (fun _ => ?_)
  refine J_aload_n dX12_rows_189 rfl rfl ?_
  refine J_get (v := .ref 127) dX12_rows_190 fl_X12_113 rfl rfl ?_
  refine J_iload dX12_rows_193 rfl ?_
  refine J_aload_n dX12_rows_195 rfl rfl ?_
  refine J_get (v := .ref 128) dX12_rows_196 fl_X12_116 rfl rfl ?_
  refine J_iload dX12_rows_199 rfl ?_
  refine J_lald (i2 := 0) (v := 0) dX12_rows_201 rfl rfl (jin (by decide +kernel)) (by decide +kernel) rfl ?_
  refine K_last (i2 := 0) dX12_rows_202 rfl rfl (jin (by decide +kernel)) (by decide +kernel) ?_
  refine J_iinc (v := 1) dX12_rows_203 rfl (by decide +kernel) (Nat.le_of_ble_eq_true rfl) rfl ?_
  refine J_ls (ls2 := [some (.ref 98), some (.int 0), some (.int 0), some (.int 12), some (.int 3), some (.int 1), some (.int 0)]) rfl ?_
  refine J_goto (tgt := 180) dX12_rows_206 (by decide) ?_
  refine J_iload dX12_rows_180 rfl ?_
  refine J_aload_n dX12_rows_182 rfl rfl ?_
  refine J_get (v := .int 1) dX12_rows_183 fl_X12_298 rfl rfl ?_
  refine J_icmp_ge (tgt := 209) dX12_rows_186 (by decide) (fun _ => ?_) (fun q => absurd (by decide +kernel) q)
  refine J_iinc (v := 4) dX12_rows_209 rfl (by decide +kernel) (Nat.le_of_ble_eq_true rfl) rfl ?_
  refine J_ls (ls2 := [some (.ref 98), some (.int 0), some (.int 0), some (.int 12), some (.int 4), some (.int 1), some (.int 0)]) rfl ?_
  refine J_goto (tgt := 78) dX12_rows_212 (by decide) ?_
  refine J_iload dX12_rows_78 rfl ?_
  refine J_iload_n dX12_rows_80 rfl rfl ?_
  refine J_icmp_ge (tgt := 215) dX12_rows_81 (by decide) (fun q => absurd q (by decide +kernel)) (fun _ => ?_)
  refine J_iconst (v := 0) dX12_rows_84 (by decide) ?_
  refine J_istore dX12_rows_85 (Nat.le_of_ble_eq_true rfl) rfl ?_
  refine J_iload dX12_rows_87 rfl ?_
  refine J_aload_n dX12_rows_89 rfl rfl ?_
  refine J_get (v := .int 1) dX12_rows_90 fl_X12_298 rfl rfl ?_
  refine J_icmp_ge (tgt := 110) dX12_rows_93 (by decide) (fun q => absurd q (by decide +kernel)) (fun _ => ?_)
  refine J_aload_n dX12_rows_96 rfl rfl ?_
  refine J_get (v := .ref 128) dX12_rows_97 fl_X12_116 rfl rfl ?_
  refine J_iload dX12_rows_100 rfl ?_
  refine J_lconst (v := 0) dX12_rows_102 (by decide +kernel) ?_
  refine K_last (i2 := 0) dX12_rows_103 rfl rfl (jin (by decide +kernel)) (by decide +kernel) ?_
  refine J_iinc (v := 1) dX12_rows_104 rfl (by decide +kernel) (Nat.le_of_ble_eq_true rfl) rfl ?_
  refine J_ls (ls2 := [some (.ref 98), some (.int 0), some (.int 0), some (.int 12), some (.int 4), some (.int 1), some (.int 0)]) rfl ?_
  refine J_goto (tgt := 87) dX12_rows_107 (by decide) ?_
  refine J_iload dX12_rows_87 rfl ?_
  refine J_aload_n dX12_rows_89 rfl rfl ?_
  refine J_get (v := .int 1) dX12_rows_90 fl_X12_298 rfl rfl ?_
  refine J_icmp_ge (tgt := 110) dX12_rows_93 (by decide) (fun _ => ?_) (fun q => absurd (by decide +kernel) q)
  refine J_iconst (v := 0) dX12_rows_110 (by decide) ?_
  refine J_istore dX12_rows_111 (Nat.le_of_ble_eq_true rfl) rfl ?_
  refine J_iload dX12_rows_113 rfl ?_
  refine J_aload_n dX12_rows_115 rfl rfl ?_
  refine J_get (v := .int 1) dX12_rows_116 fl_X12_298 rfl rfl ?_
  refine J_icmp_ge (tgt := 177) dX12_rows_119 (by decide) (fun q => absurd q (by decide +kernel)) (fun _ => ?_)
  refine J_iconst (v := 0) dX12_rows_122 (by decide) ?_
  refine J_istore dX12_rows_123 (Nat.le_of_ble_eq_true rfl) rfl ?_
  refine J_iload dX12_rows_125 rfl ?_
  refine J_aload_n dX12_rows_127 rfl rfl ?_
  refine J_get (v := .ref 114) dX12_rows_128 fl_X12_67 rfl rfl ?_
  refine J_iload dX12_rows_131 rfl ?_
  refine J_iald (i2 := 0) (v := 0) dX12_rows_133 rfl rfl (jin (by decide +kernel)) (by decide +kernel) rfl ?_
  refine J_icmp_ge (tgt := 171) dX12_rows_134 (by decide) (fun _ => ?_) (fun q => absurd (by decide +kernel) q)
  refine J_iinc (v := 1) dX12_rows_171 rfl (by decide +kernel) (Nat.le_of_ble_eq_true rfl) rfl ?_
  refine J_ls (ls2 := [some (.ref 98), some (.int 0), some (.int 0), some (.int 12), some (.int 4), some (.int 1), some (.int 0)]) rfl ?_
  refine J_goto (tgt := 113) dX12_rows_174 (by decide) ?_
  refine J_iload dX12_rows_113 rfl ?_
  refine J_aload_n dX12_rows_115 rfl rfl ?_
  refine J_get (v := .int 1) dX12_rows_116 fl_X12_298 rfl rfl ?_
  refine J_icmp_ge (tgt := 177) dX12_rows_119 (by decide) (fun _ => ?_) (fun q => absurd (by decide +kernel) q)
  refine J_iconst (v := 0) dX12_rows_177 (by decide) ?_
  refine J_istore dX12_rows_178 (Nat.le_of_ble_eq_true rfl) rfl ?_
  refine J_iload dX12_rows_180 rfl ?_
  refine J_aload_n dX12_rows_182 rfl rfl ?_
  refine J_get (v := .int 1) dX12_rows_183 fl_X12_298 rfl rfl ?_
  refine J_icmp_ge (tgt := 209) dX12_rows_186 (by decide) (fun q => absurd q (by decide +kernel)) (fun _ => ?_)
  refine J_aload_n dX12_rows_189 rfl rfl ?_
  refine J_get (v := .ref 127) dX12_rows_190 fl_X12_113 rfl rfl ?_
  refine J_iload dX12_rows_193 rfl ?_
  refine J_aload_n dX12_rows_195 rfl rfl ?_
  refine J_get (v := .ref 128) dX12_rows_196 fl_X12_116 rfl rfl ?_
  refine J_iload dX12_rows_199 rfl ?_
  refine J_lald (i2 := 0) (v := 0) dX12_rows_201 rfl rfl (jin (by decide +kernel)) (by decide +kernel) rfl ?_
  refine K_last (i2 := 0) dX12_rows_202 rfl rfl (jin (by decide +kernel)) (by decide +kernel) ?_
  refine J_iinc (v := 1) dX12_rows_203 rfl (by decide +kernel) (Nat.le_of_ble_eq_true rfl) rfl ?_
  refine J_ls (ls2 := [some (.ref 98), some (.int 0), some (.int 0), some (.int 12), some (.int 4), some (.int 1), some (.int 0)]) rfl ?_
  refine J_goto (tgt := 180) dX12_rows_206 (by decide) ?_
  refine J_iload dX12_rows_180 rfl ?_
  refine J_aload_n dX12_rows_182 rfl rfl ?_
  refine J_get (v := .int 1) dX12_rows_183 fl_X12_298 rfl rfl ?_
  refine J_icmp_ge (tgt := 209) dX12_rows_186 (by decide) (fun _ => ?_) (fun q => absurd (by decide +kernel) q)
  refine J_iinc (v := 5) dX12_rows_209 rfl (by decide +kernel) (Nat.le_of_ble_eq_true rfl) rfl ?_
  refine J_ls (ls2 := [some (.ref 98), some (.int 0), some (.int 0), some (.int 12), some (.int 5), some (.int 1), some (.int 0)]) rfl ?_
  refine J_goto (tgt := 78) dX12_rows_212 (by decide) ?_
  refine J_iload dX12_rows_78 rfl ?_
  refine J_iload_n dX12_rows_80 rfl rfl ?_
  refine J_icmp_ge (tgt := 215) dX12_rows_81 (by decide) (fun q => absurd q (by decide +kernel)) (fun _ => ?_)
  refine J_iconst (v := 0) dX12_rows_84 (by decide) ?_
  refine J_istore dX12_rows_85 (Nat.le_of_ble_eq_true rfl) rfl ?_
  refine J_iload dX12_rows_87 rfl ?_
  refine J_aload_n dX12_rows_89 rfl rfl ?_
  refine J_get (v := .int 1) dX12_rows_90 fl_X12_298 rfl rfl ?_
  refine J_icmp_ge (tgt := 110) dX12_rows_93 (by decide) (fun q => absurd q (by decide +kernel)) (fun _ => ?_)
  refine J_aload_n dX12_rows_96 rfl rfl ?_
  refine J_get (v := .ref 128) dX12_rows_97 fl_X12_116 rfl rfl ?_
  refine J_iload dX12_rows_100 rfl ?_
  refine J_lconst (v := 0) dX12_rows_102 (by decide +kernel) ?_
  refine K_last (i2 := 0) dX12_rows_103 rfl rfl (jin (by decide +kernel)) (by decide +kernel) ?_
  refine J_iinc (v := 1) dX12_rows_104 rfl (by decide +kernel) (Nat.le_of_ble_eq_true rfl) rfl ?_
  refine J_ls (ls2 := [some (.ref 98), some (.int 0), some (.int 0), some (.int 12), some (.int 5), some (.int 1), some (.int 0)]) rfl ?_
  refine J_goto (tgt := 87) dX12_rows_107 (by decide) ?_
  refine J_iload dX12_rows_87 rfl ?_
  refine J_aload_n dX12_rows_89 rfl rfl ?_
  refine J_get (v := .int 1) dX12_rows_90 fl_X12_298 rfl rfl ?_
  refine J_icmp_ge (tgt := 110) dX12_rows_93 (by decide) (fun _ => ?_) (fun q => absurd (by decide +kernel) q)
  refine J_iconst (v := 0) dX12_rows_110 (by decide) ?_
  refine J_istore dX12_rows_111 (Nat.le_of_ble_eq_true rfl) rfl ?_
  refine J_iload dX12_rows_113 rfl ?_
  refine J_aload_n dX12_rows_115 rfl rfl ?_
  refine J_get (v := .int 1) dX12_rows_116 fl_X12_298 rfl rfl ?_
  refine J_icmp_ge (tgt := 177) dX12_rows_119 (by decide) (fun q => absurd q (by decide +kernel)) (fun _ => ?_)
  refine J_iconst (v := 0) dX12_rows_122 (by decide) ?_
  refine J_istore dX12_rows_123 (Nat.le_of_ble_eq_true rfl) rfl ?_
  refine J_iload dX12_rows_125 rfl ?_
  refine J_aload_n dX12_rows_127 rfl rfl ?_
  refine J_get (v := .ref 114) dX12_rows_128 fl_X12_67 rfl rfl ?_
  refine J_iload dX12_rows_131 rfl ?_
  refine J_iald (i2 := 0) (v := 0) dX12_rows_133 rfl rfl (jin (by decide +kernel)) (by decide +kernel) rfl ?_
  refine J_icmp_ge (tgt := 171) dX12_rows_134 (by decide) (fun _ => ?_) (fun q => absurd (by decide +kernel) q)
  refine J_iinc (v := 1) dX12_rows_171 rfl (by decide +kernel) (Nat.le_of_ble_eq_true rfl) rfl ?_
  refine J_ls (ls2 := [some (.ref 98), some (.int 0), some (.int 0), some (.int 12), some (.int 5), some (.int 1), some (.int 0)]) rfl ?_
  refine J_goto (tgt := 113) dX12_rows_174 (by decide) ?_
  refine J_iload dX12_rows_113 rfl ?_
  refine J_aload_n dX12_rows_115 rfl rfl ?_
  refine J_get (v := .int 1) dX12_rows_116 fl_X12_298 rfl rfl ?_
  refine J_icmp_ge (tgt := 177) dX12_rows_119 (by decide) (fun _ => ?_) (fun q => absurd (by decide +kernel) q)
  refine J_iconst (v := 0) dX12_rows_177 (by decide) ?_
  refine J_istore dX12_rows_178 (Nat.le_of_ble_eq_true rfl) rfl ?_
  refine J_iload dX12_rows_180 rfl ?_
  refine J_aload_n dX12_rows_182 rfl rfl ?_
  refine J_get (v := .int 1) dX12_rows_183 fl_X12_298 rfl rfl ?_
  refine J_icmp_ge (tgt := 209) dX12_rows_186 (by decide) (fun q => absurd q (by decide +kernel)) (fun _ => ?_)
  refine J_aload_n dX12_rows_189 rfl rfl ?_
  refine J_get (v := .ref 127) dX12_rows_190 fl_X12_113 rfl rfl ?_
  refine J_iload dX12_rows_193 rfl ?_
  refine J_aload_n dX12_rows_195 rfl rfl ?_
  refine J_get (v := .ref 128) dX12_rows_196 fl_X12_116 rfl rfl ?_
  refine J_iload dX12_rows_199 rfl ?_
  refine J_lald (i2 := 0) (v := 0) dX12_rows_201 rfl rfl (jin (by decide +kernel)) (by decide +kernel) rfl ?_
  refine K_last (i2 := 0) dX12_rows_202 rfl rfl (jin (by decide +kernel)) (by decide +kernel) ?_
  refine J_iinc (v := 1) dX12_rows_203 rfl (by decide +kernel) (Nat.le_of_ble_eq_true rfl) rfl ?_
  refine J_ls (ls2 := [some (.ref 98), some (.int 0), some (.int 0), some (.int 12), some (.int 5), some (.int 1), some (.int 0)]) rfl ?_
  refine J_goto (tgt := 180) dX12_rows_206 (by decide) ?_
  refine J_iload dX12_rows_180 rfl ?_
  refine J_aload_n dX12_rows_182 rfl rfl ?_
  refine J_get (v := .int 1) dX12_rows_183 fl_X12_298 rfl rfl ?_
  refine J_icmp_ge (tgt := 209) dX12_rows_186 (by decide) (fun _ => ?_) (fun q => absurd (by decide +kernel) q)
  refine J_iinc (v := 6) dX12_rows_209 rfl (by decide +kernel) (Nat.le_of_ble_eq_true rfl) rfl ?_
  refine J_ls (ls2 := [some (.ref 98), some (.int 0), some (.int 0), some (.int 12), some (.int 6), some (.int 1), some (.int 0)]) rfl ?_
  refine J_goto (tgt := 78) dX12_rows_212 (by decide) ?_
  refine J_iload dX12_rows_78 rfl ?_
  refine J_iload_n dX12_rows_80 rfl rfl ?_
  refine J_icmp_ge (tgt := 215) dX12_rows_81 (by decide) (fun q => absurd q (by decide +kernel)) (fun _ => ?_)
  refine J_iconst (v := 0) dX12_rows_84 (by decide) ?_
  refine J_istore dX12_rows_85 (Nat.le_of_ble_eq_true rfl) rfl ?_
  refine J_iload dX12_rows_87 rfl ?_
  refine J_aload_n dX12_rows_89 rfl rfl ?_
  refine J_get (v := .int 1) dX12_rows_90 fl_X12_298 rfl rfl ?_
  refine J_icmp_ge (tgt := 110) dX12_rows_93 (by decide) (fun q => absurd q (by decide +kernel)) (fun _ => ?_)
  refine J_aload_n dX12_rows_96 rfl rfl ?_
  refine J_get (v := .ref 128) dX12_rows_97 fl_X12_116 rfl rfl ?_
  refine J_iload dX12_rows_100 rfl ?_
  refine J_lconst (v := 0) dX12_rows_102 (by decide +kernel) ?_
  refine K_last (i2 := 0) dX12_rows_103 rfl rfl (jin (by decide +kernel)) (by decide +kernel) ?_
  refine J_iinc (v := 1) dX12_rows_104 rfl (by decide +kernel) (Nat.le_of_ble_eq_true rfl) rfl ?_
  refine J_ls (ls2 := [some (.ref 98), some (.int 0), some (.int 0), some (.int 12), some (.int 6), some (.int 1), some (.int 0)]) rfl ?_
  refine J_goto (tgt := 87) dX12_rows_107 (by decide) ?_
  refine J_iload dX12_rows_87 rfl ?_
  refine J_aload_n dX12_rows_89 rfl rfl ?_
  refine J_get (v := .int 1) dX12_rows_90 fl_X12_298 rfl rfl ?_
  refine J_icmp_ge (tgt := 110) dX12_rows_93 (by decide) (fun _ => ?_) (fun q => absurd (by decide +kernel) q)
  refine J_iconst (v := 0) dX12_rows_110 (by decide) ?_
  refine J_istore dX12_rows_111 (Nat.le_of_ble_eq_true rfl) rfl ?_
  refine J_iload dX12_rows_113 rfl ?_
  refine J_aload_n dX12_rows_115 rfl rfl ?_
  refine J_get (v := .int 1) dX12_rows_116 fl_X12_298 rfl rfl ?_
  refine J_icmp_ge (tgt := 177) dX12_rows_119 (by decide) (fun q => absurd q (by decide +kernel)) (fun _ => ?_)
  refine J_iconst (v := 0) dX12_rows_122 (by decide) ?_
  refine J_istore dX12_rows_123 (Nat.le_of_ble_eq_true rfl) rfl ?_
  refine J_iload dX12_rows_125 rfl ?_
  refine J_aload_n dX12_rows_127 rfl rfl ?_
  refine J_get (v := .ref 114) dX12_rows_128 fl_X12_67 rfl rfl ?_
  refine J_iload dX12_rows_131 rfl ?_
  refine J_iald (i2 := 0) (v := 0) dX12_rows_133 rfl rfl (jin (by decide +kernel)) (by decide +kernel) rfl ?_
  refine J_icmp_ge (tgt := 171) dX12_rows_134 (by decide) (fun _ => ?_) (fun q => absurd (by decide +kernel) q)
  refine J_iinc (v := 1) dX12_rows_171 rfl (by decide +kernel) (Nat.le_of_ble_eq_true rfl) rfl ?_
  refine J_ls (ls2 := [some (.ref 98), some (.int 0), some (.int 0), some (.int 12), some (.int 6), some (.int 1), some (.int 0)]) rfl ?_
  refine J_goto (tgt := 113) dX12_rows_174 (by decide) ?_
  refine J_iload dX12_rows_113 rfl ?_
  refine J_aload_n dX12_rows_115 rfl rfl ?_
  refine J_get (v := .int 1) dX12_rows_116 fl_X12_298 rfl rfl ?_
  refine J_icmp_ge (tgt := 177) dX12_rows_119 (by decide) (fun _ => ?_) (fun q => absurd (by decide +kernel) q)
  refine J_iconst (v := 0) dX12_rows_177 (by decide) ?_
  refine J_istore dX12_rows_178 (Nat.le_of_ble_eq_true rfl) rfl ?_
  refine J_iload dX12_rows_180 rfl ?_
  refine J_aload_n dX12_rows_182 rfl rfl ?_
  refine J_get (v := .int 1) dX12_rows_183 fl_X12_298 rfl rfl ?_
  refine J_icmp_ge (tgt := 209) dX12_rows_186 (by decide) (fun q => absurd q (by decide +kernel)) (fun _ => ?_)
  refine J_aload_n dX12_rows_189 rfl rfl ?_
  refine J_get (v := .ref 127) dX12_rows_190 fl_X12_113 rfl rfl ?_
  refine J_iload dX12_rows_193 rfl ?_
  refine J_aload_n dX12_rows_195 rfl rfl ?_
  refine J_get (v := .ref 128) dX12_rows_196 fl_X12_116 rfl rfl ?_
  refine J_iload dX12_rows_199 rfl ?_
  refine J_lald (i2 := 0) (v := 0) dX12_rows_201 rfl rfl (jin (by decide +kernel)) (by decide +kernel) rfl ?_
  refine K_last (i2 := 0) dX12_rows_202 rfl rfl (jin (by decide +kernel)) (by decide +kernel) ?_
  refine J_iinc (v := 1) dX12_rows_203 rfl (by decide +kernel) (Nat.le_of_ble_eq_true rfl) rfl ?_
  refine J_ls (ls2 := [some (.ref 98), some (.int 0), some (.int 0), some (.int 12), some (.int 6), some (.int 1), some (.int 0)]) rfl ?_
  refine J_goto (tgt := 180) dX12_rows_206 (by decide) ?_
  refine J_iload dX12_rows_180 rfl ?_
  refine J_aload_n dX12_rows_182 rfl rfl ?_
  refine J_get (v := .int 1) dX12_rows_183 fl_X12_298 rfl rfl ?_
  refine J_icmp_ge (tgt := 209) dX12_rows_186 (by decide) (fun _ => ?_) (fun q => absurd (by decide +kernel) q)
  refine J_iinc (v := 7) dX12_rows_209 rfl (by decide +kernel) (Nat.le_of_ble_eq_true rfl) rfl ?_
  refine J_ls (ls2 := [some (.ref 98), some (.int 0), some (.int 0), some (.int 12), some (.int 7), some (.int 1), some (.int 0)]) rfl ?_
  refine J_goto (tgt := 78) dX12_rows_212 (by decide) ?_
  refine J_iload dX12_rows_78 rfl ?_
  refine J_iload_n dX12_rows_80 rfl rfl ?_
  refine J_icmp_ge (tgt := 215) dX12_rows_81 (by decide) (fun q => absurd q (by decide +kernel)) (fun _ => ?_)
  refine J_iconst (v := 0) dX12_rows_84 (by decide) ?_
  refine J_istore dX12_rows_85 (Nat.le_of_ble_eq_true rfl) rfl ?_
  refine J_iload dX12_rows_87 rfl ?_
  refine J_aload_n dX12_rows_89 rfl rfl ?_
  refine J_get (v := .int 1) dX12_rows_90 fl_X12_298 rfl rfl ?_
  refine J_icmp_ge (tgt := 110) dX12_rows_93 (by decide) (fun q => absurd q (by decide +kernel)) (fun _ => ?_)
  refine J_aload_n dX12_rows_96 rfl rfl ?_
  refine J_get (v := .ref 128) dX12_rows_97 fl_X12_116 rfl rfl ?_
  refine J_iload dX12_rows_100 rfl ?_
  refine J_lconst (v := 0) dX12_rows_102 (by decide +kernel) ?_
  refine K_last (i2 := 0) dX12_rows_103 rfl rfl (jin (by decide +kernel)) (by decide +kernel) ?_
  refine J_iinc (v := 1) dX12_rows_104 rfl (by decide +kernel) (Nat.le_of_ble_eq_true rfl) rfl ?_
  refine J_ls (ls2 := [some (.ref 98), some (.int 0), some (.int 0), some (.int 12), some (.int 7), some (.int 1), some (.int 0)]) rfl ?_
  refine J_goto (tgt := 87) dX12_rows_107 (by decide) ?_
  refine J_iload dX12_rows_87 rfl ?_
  refine J_aload_n dX12_rows_89 rfl rfl ?_
  refine J_get (v := .int 1) dX12_rows_90 fl_X12_298 rfl rfl ?_
  refine J_icmp_ge (tgt := 110) dX12_rows_93 (by decide) (fun _ => ?_) (fun q => absurd (by decide +kernel) q)
  refine J_iconst (v := 0) dX12_rows_110 (by decide) ?_
  refine J_istore dX12_rows_111 (Nat.le_of_ble_eq_true rfl) rfl ?_
  refine J_iload dX12_rows_113 rfl ?_
  refine J_aload_n dX12_rows_115 rfl rfl ?_
  refine J_get (v := .int 1) dX12_rows_116 fl_X12_298 rfl rfl ?_
  refine J_icmp_ge (tgt := 177) dX12_rows_119 (by decide) (fun q => absurd q (by decide +kernel)) (fun _ => ?_)
  refine J_iconst (v := 0) dX12_rows_122 (by decide) ?_
  refine J_istore dX12_rows_123 (Nat.le_of_ble_eq_true rfl) rfl ?_
  refine J_iload dX12_rows_125 rfl ?_
  refine J_aload_n dX12_rows_127 rfl rfl ?_
  refine J_get (v := .ref 114) dX12_rows_128 fl_X12_67 rfl rfl ?_
  refine J_iload dX12_rows_131 rfl ?_
  refine J_iald (i2 := 0) (v := 0) dX12_rows_133 rfl rfl (jin (by decide +kernel)) (by decide +kernel) rfl ?_
  refine J_icmp_ge (tgt := 171) dX12_rows_134 (by decide) (fun _ => ?_) (fun q => absurd (by decide +kernel) q)
  refine J_iinc (v := 1) dX12_rows_171 rfl (by decide +kernel) (Nat.le_of_ble_eq_true rfl) rfl ?_
  refine J_ls (ls2 := [some (.ref 98), some (.int 0), some (.int 0), some (.int 12), some (.int 7), some (.int 1), some (.int 0)]) rfl ?_
  refine J_goto (tgt := 113) dX12_rows_174 (by decide) ?_
  refine J_iload dX12_rows_113 rfl ?_
  refine J_aload_n dX12_rows_115 rfl rfl ?_
  refine J_get (v := .int 1) dX12_rows_116 fl_X12_298 rfl rfl ?_
  refine J_icmp_ge (tgt := 177) dX12_rows_119 (by decide) (fun _ => ?_) (fun q => absurd (by decide +kernel) q)
  refine J_iconst (v := 0) dX12_rows_177 (by decide) ?_
  refine J_istore dX12_rows_178 (Nat.le_of_ble_eq_true rfl) rfl ?_
  refine J_iload dX12_rows_180 rfl ?_
  refine J_aload_n dX12_rows_182 rfl rfl ?_
  refine J_get (v := .int 1) dX12_rows_183 fl_X12_298 rfl rfl ?_
  refine J_icmp_ge (tgt := 209) dX12_rows_186 (by decide) (fun q => absurd q (by decide +kernel)) (fun _ => ?_)
  refine J_aload_n dX12_rows_189 rfl rfl ?_
  refine J_get (v := .ref 127) dX12_rows_190 fl_X12_113 rfl rfl ?_
  refine J_iload dX12_rows_193 rfl ?_
  refine J_aload_n dX12_rows_195 rfl rfl ?_
  refine J_get (v := .ref 128) dX12_rows_196 fl_X12_116 rfl rfl ?_
  refine J_iload dX12_rows_199 rfl ?_
  refine J_lald (i2 := 0) (v := 0) dX12_rows_201 rfl rfl (jin (by decide +kernel)) (by decide +kernel) rfl ?_
  refine K_last (i2 := 0) dX12_rows_202 rfl rfl (jin (by decide +kernel)) (by decide +kernel) ?_
  refine J_iinc (v := 1) dX12_rows_203 rfl (by decide +kernel) (Nat.le_of_ble_eq_true rfl) rfl ?_
  refine J_ls (ls2 := [some (.ref 98), some (.int 0), some (.int 0), some (.int 12), some (.int 7), some (.int 1), some (.int 0)]) rfl ?_
  refine J_goto (tgt := 180) dX12_rows_206 (by decide) ?_
  refine J_iload dX12_rows_180 rfl ?_
  refine J_aload_n dX12_rows_182 rfl rfl ?_
  refine J_get (v := .int 1) dX12_rows_183 fl_X12_298 rfl rfl ?_
  refine J_icmp_ge (tgt := 209) dX12_rows_186 (by decide) (fun _ => ?_) (fun q => absurd (by decide +kernel) q)
  refine J_iinc (v := 8) dX12_rows_209 rfl (by decide +kernel) (Nat.le_of_ble_eq_true rfl) rfl ?_
  refine J_ls (ls2 := [some (.ref 98), some (.int 0), some (.int 0), some (.int 12), some (.int 8), some (.int 1), some (.int 0)]) rfl ?_
  refine J_goto (tgt := 78) dX12_rows_212 (by decide) ?_
  refine J_iload dX12_rows_78 rfl ?_
  refine J_iload_n dX12_rows_80 rfl rfl ?_
  refine J_icmp_ge (tgt := 215) dX12_rows_81 (by decide) (fun q => absurd q (by decide +kernel)) (fun _ => ?_)
  refine J_iconst (v := 0) dX12_rows_84 (by decide) ?_
  refine J_istore dX12_rows_85 (Nat.le_of_ble_eq_true rfl) rfl ?_
  refine J_iload dX12_rows_87 rfl ?_
  refine J_aload_n dX12_rows_89 rfl rfl ?_
  refine J_get (v := .int 1) dX12_rows_90 fl_X12_298 rfl rfl ?_
  refine J_icmp_ge (tgt := 110) dX12_rows_93 (by decide) (fun q => absurd q (by decide +kernel)) (fun _ => ?_)
  refine J_aload_n dX12_rows_96 rfl rfl ?_
  refine J_get (v := .ref 128) dX12_rows_97 fl_X12_116 rfl rfl ?_
  refine J_iload dX12_rows_100 rfl ?_
  refine J_lconst (v := 0) dX12_rows_102 (by decide +kernel) ?_
  refine K_last (i2 := 0) dX12_rows_103 rfl rfl (jin (by decide +kernel)) (by decide +kernel) ?_
  refine J_iinc (v := 1) dX12_rows_104 rfl (by decide +kernel) (Nat.le_of_ble_eq_true rfl) rfl ?_
  refine J_ls (ls2 := [some (.ref 98), some (.int 0), some (.int 0), some (.int 12), some (.int 8), some (.int 1), some (.int 0)]) rfl ?_
  refine J_goto (tgt := 87) dX12_rows_107 (by decide) ?_
  refine J_iload dX12_rows_87 rfl ?_
  refine J_aload_n dX12_rows_89 rfl rfl ?_
  refine J_get (v := .int 1) dX12_rows_90 fl_X12_298 rfl rfl ?_
  refine J_icmp_ge (tgt := 110) dX12_rows_93 (by decide) (fun _ => ?_) (fun q => absurd (by decide +kernel) q)
  refine J_iconst (v := 0) dX12_rows_110 (by decide) ?_
  refine J_istore dX12_rows_111 (Nat.le_of_ble_eq_true rfl) rfl ?_
  refine J_iload dX12_rows_113 rfl ?_
  refine J_aload_n dX12_rows_115 rfl rfl ?_
  refine J_get (v := .int 1) dX12_rows_116 fl_X12_298 rfl rfl ?_
  refine J_icmp_ge (tgt := 177) dX12_rows_119 (by decide) (fun q => absurd q (by decide +kernel)) (fun _ => ?_)
  refine J_iconst (v := 0) dX12_rows_122 (by decide) ?_
  refine J_istore dX12_rows_123 (Nat.le_of_ble_eq_true rfl) rfl ?_
  refine J_iload dX12_rows_125 rfl ?_
  refine J_aload_n dX12_rows_127 rfl rfl ?_
  refine J_get (v := .ref 114) dX12_rows_128 fl_X12_67 rfl rfl ?_
  refine J_iload dX12_rows_131 rfl ?_
  refine J_iald (i2 := 0) (v := 0) dX12_rows_133 rfl rfl (jin (by decide +kernel)) (by decide +kernel) rfl ?_
  refine J_icmp_ge (tgt := 171) dX12_rows_134 (by decide) (fun _ => ?_) (fun q => absurd (by decide +kernel) q)
  refine J_iinc (v := 1) dX12_rows_171 rfl (by decide +kernel) (Nat.le_of_ble_eq_true rfl) rfl ?_
  refine J_ls (ls2 := [some (.ref 98), some (.int 0), some (.int 0), some (.int 12), some (.int 8), some (.int 1), some (.int 0)]) rfl ?_
  refine J_goto (tgt := 113) dX12_rows_174 (by decide) ?_
  refine J_iload dX12_rows_113 rfl ?_
  refine J_aload_n dX12_rows_115 rfl rfl ?_
  refine J_get (v := .int 1) dX12_rows_116 fl_X12_298 rfl rfl ?_
  refine J_icmp_ge (tgt := 177) dX12_rows_119 (by decide) (fun _ => ?_) (fun q => absurd (by decide +kernel) q)
  refine J_iconst (v := 0) dX12_rows_177 (by decide) ?_
  refine J_istore dX12_rows_178 (Nat.le_of_ble_eq_true rfl) rfl ?_
  refine J_iload dX12_rows_180 rfl ?_
  refine J_aload_n dX12_rows_182 rfl rfl ?_
  refine J_get (v := .int 1) dX12_rows_183 fl_X12_298 rfl rfl ?_
  refine J_icmp_ge (tgt := 209) dX12_rows_186 (by decide) (fun q => absurd q (by decide +kernel)) (fun _ => ?_)
  refine J_aload_n dX12_rows_189 rfl rfl ?_
  refine J_get (v := .ref 127) dX12_rows_190 fl_X12_113 rfl rfl ?_
  refine J_iload dX12_rows_193 rfl ?_
  refine J_aload_n dX12_rows_195 rfl rfl ?_
  refine J_get (v := .ref 128) dX12_rows_196 fl_X12_116 rfl rfl ?_
  refine J_iload dX12_rows_199 rfl ?_
  refine J_lald (i2 := 0) (v := 0) dX12_rows_201 rfl rfl (jin (by decide +kernel)) (by decide +kernel) rfl ?_
  refine K_last (i2 := 0) dX12_rows_202 rfl rfl (jin (by decide +kernel)) (by decide +kernel) ?_
  refine J_iinc (v := 1) dX12_rows_203 rfl (by decide +kernel) (Nat.le_of_ble_eq_true rfl) rfl ?_
  refine J_ls (ls2 := [some (.ref 98), some (.int 0), some (.int 0), some (.int 12), some (.int 8), some (.int 1), some (.int 0)]) rfl ?_
  refine J_goto (tgt := 180) dX12_rows_206 (by decide) ?_
  refine J_iload dX12_rows_180 rfl ?_
  refine J_aload_n dX12_rows_182 rfl rfl ?_
  refine J_get (v := .int 1) dX12_rows_183 fl_X12_298 rfl rfl ?_
  refine J_icmp_ge (tgt := 209) dX12_rows_186 (by decide) (fun _ => ?_) (fun q => absurd (by decide +kernel) q)
  refine J_iinc (v := 9) dX12_rows_209 rfl (by decide +kernel) (Nat.le_of_ble_eq_true rfl) rfl ?_
  refine J_ls (ls2 := [some (.ref 98), some (.int 0), some (.int 0), some (.int 12), some (.int 9), some (.int 1), some (.int 0)]) rfl ?_
  refine J_goto (tgt := 78) dX12_rows_212 (by decide) ?_
  refine J_iload dX12_rows_78 rfl ?_
  refine J_iload_n dX12_rows_80 rfl rfl ?_
  refine J_icmp_ge (tgt := 215) dX12_rows_81 (by decide) (fun q => absurd q (by decide +kernel)) (fun _ => ?_)
  refine J_iconst (v := 0) dX12_rows_84 (by decide) ?_
  refine J_istore dX12_rows_85 (Nat.le_of_ble_eq_true rfl) rfl ?_
  refine J_iload dX12_rows_87 rfl ?_
  refine J_aload_n dX12_rows_89 rfl rfl ?_
  refine J_get (v := .int 1) dX12_rows_90 fl_X12_298 rfl rfl ?_
  refine J_icmp_ge (tgt := 110) dX12_rows_93 (by decide) (fun q => absurd q (by decide +kernel)) (fun _ => ?_)
  refine J_aload_n dX12_rows_96 rfl rfl ?_
  refine J_get (v := .ref 128) dX12_rows_97 fl_X12_116 rfl rfl ?_
  refine J_iload dX12_rows_100 rfl ?_
  refine J_lconst (v := 0) dX12_rows_102 (by decide +kernel) ?_
  refine K_last (i2 := 0) dX12_rows_103 rfl rfl (jin (by decide +kernel)) (by decide +kernel) ?_
  refine J_iinc (v := 1) dX12_rows_104 rfl (by decide +kernel) (Nat.le_of_ble_eq_true rfl) rfl ?_
  refine J_ls (ls2 := [some (.ref 98), some (.int 0), some (.int 0), some (.int 12), some (.int 9), some (.int 1), some (.int 0)]) rfl ?_
  refine J_goto (tgt := 87) dX12_rows_107 (by decide) ?_
  refine J_iload dX12_rows_87 rfl ?_
  refine J_aload_n dX12_rows_89 rfl rfl ?_
  refine J_get (v := .int 1) dX12_rows_90 fl_X12_298 rfl rfl ?_
  refine J_icmp_ge (tgt := 110) dX12_rows_93 (by decide) (fun _ => ?_) (fun q => absurd (by decide +kernel) q)
  refine J_iconst (v := 0) dX12_rows_110 (by decide) ?_
  refine J_istore dX12_rows_111 (Nat.le_of_ble_eq_true rfl) rfl ?_
  refine J_iload dX12_rows_113 rfl ?_
  refine J_aload_n dX12_rows_115 rfl rfl ?_
  refine J_get (v := .int 1) dX12_rows_116 fl_X12_298 rfl rfl ?_
  refine J_icmp_ge (tgt := 177) dX12_rows_119 (by decide) (fun q => absurd q (by decide +kernel)) (fun _ => ?_)
  refine J_iconst (v := 0) dX12_rows_122 (by decide) ?_
  refine J_istore dX12_rows_123 (Nat.le_of_ble_eq_true rfl) rfl ?_
  refine J_iload dX12_rows_125 rfl ?_
  refine J_aload_n dX12_rows_127 rfl rfl ?_
  refine J_get (v := .ref 114) dX12_rows_128 fl_X12_67 rfl rfl ?_
  refine J_iload dX12_rows_131 rfl ?_
  refine J_iald (i2 := 0) (v := 0) dX12_rows_133 rfl rfl (jin (by decide +kernel)) (by decide +kernel) rfl ?_
  refine J_icmp_ge (tgt := 171) dX12_rows_134 (by decide) (fun _ => ?_) (fun q => absurd (by decide +kernel) q)
  refine J_iinc (v := 1) dX12_rows_171 rfl (by decide +kernel) (Nat.le_of_ble_eq_true rfl) rfl ?_
  refine J_ls (ls2 := [some (.ref 98), some (.int 0), some (.int 0), some (.int 12), some (.int 9), some (.int 1), some (.int 0)]) rfl ?_
  refine J_goto (tgt := 113) dX12_rows_174 (by decide) ?_
  refine J_iload dX12_rows_113 rfl ?_
  refine J_aload_n dX12_rows_115 rfl rfl ?_
  refine J_get (v := .int 1) dX12_rows_116 fl_X12_298 rfl rfl ?_
  refine J_icmp_ge (tgt := 177) dX12_rows_119 (by decide) (fun _ => ?_) (fun q => absurd (by decide +kernel) q)
  refine J_iconst (v := 0) dX12_rows_177 (by decide) ?_
  refine J_istore dX12_rows_178 (Nat.le_of_ble_eq_true rfl) rfl ?_
  refine J_iload dX12_rows_180 rfl ?_
  refine J_aload_n dX12_rows_182 rfl rfl ?_
  refine J_get (v := .int 1) dX12_rows_183 fl_X12_298 rfl rfl ?_
  refine J_icmp_ge (tgt := 209) dX12_rows_186 (by decide) (fun q => absurd q (by decide +kernel)) (fun _ => ?_)
  refine J_aload_n dX12_rows_189 rfl rfl ?_
  refine J_get (v := .ref 127) dX12_rows_190 fl_X12_113 rfl rfl ?_
  refine J_iload dX12_rows_193 rfl ?_
  refine J_aload_n dX12_rows_195 rfl rfl ?_
  refine J_get (v := .ref 128) dX12_rows_196 fl_X12_116 rfl rfl ?_
  refine J_iload dX12_rows_199 rfl ?_
  refine J_lald (i2 := 0) (v := 0) dX12_rows_201 rfl rfl (jin (by decide +kernel)) (by decide +kernel) rfl ?_
  refine K_last (i2 := 0) dX12_rows_202 rfl rfl (jin (by decide +kernel)) (by decide +kernel) ?_
  refine J_iinc (v := 1) dX12_rows_203 rfl (by decide +kernel) (Nat.le_of_ble_eq_true rfl) rfl ?_
  refine J_ls (ls2 := [some (.ref 98), some (.int 0), some (.int 0), some (.int 12), some (.int 9), some (.int 1), some (.int 0)]) rfl ?_
  refine J_goto (tgt := 180) dX12_rows_206 (by decide) ?_
  refine J_iload dX12_rows_180 rfl ?_
  refine J_aload_n dX12_rows_182 rfl rfl ?_
  refine J_get (v := .int 1) dX12_rows_183 fl_X12_298 rfl rfl ?_
  refine J_icmp_ge (tgt := 209) dX12_rows_186 (by decide) (fun _ => ?_) (fun q => absurd (by decide +kernel) q)
  refine J_iinc (v := 10) dX12_rows_209 rfl (by decide +kernel) (Nat.le_of_ble_eq_true rfl) rfl ?_
  refine J_ls (ls2 := [some (.ref 98), some (.int 0), some (.int 0), some (.int 12), some (.int 10), some (.int 1), some (.int 0)]) rfl ?_
  refine J_goto (tgt := 78) dX12_rows_212 (by decide) ?_
  refine J_iload dX12_rows_78 rfl ?_
  refine J_iload_n dX12_rows_80 rfl rfl ?_
  refine J_icmp_ge (tgt := 215) dX12_rows_81 (by decide) (fun q => absurd q (by decide +kernel)) (fun _ => ?_)
  refine J_iconst (v := 0) dX12_rows_84 (by decide) ?_
  refine J_istore dX12_rows_85 (Nat.le_of_ble_eq_true rfl) rfl ?_
  refine J_iload dX12_rows_87 rfl ?_
  refine J_aload_n dX12_rows_89 rfl rfl ?_
  refine J_get (v := .int 1) dX12_rows_90 fl_X12_298 rfl rfl ?_
  refine J_icmp_ge (tgt := 110) dX12_rows_93 (by decide) (fun q => absurd q (by decide +kernel)) (fun _ => ?_)
  refine J_aload_n dX12_rows_96 rfl rfl ?_
  refine J_get (v := .ref 128) dX12_rows_97 fl_X12_116 rfl rfl ?_
  refine J_iload dX12_rows_100 rfl ?_
  refine J_lconst (v := 0) dX12_rows_102 (by decide +kernel) ?_
  refine K_last (i2 := 0) dX12_rows_103 rfl rfl (jin (by decide +kernel)) (by decide +kernel) ?_
  refine J_iinc (v := 1) dX12_rows_104 rfl (by decide +kernel) (Nat.le_of_ble_eq_true rfl) rfl ?_
  refine J_ls (ls2 := [some (.ref 98), some (.int 0), some (.int 0), some (.int 12), some (.int 10), some (.int 1), some (.int 0)]) rfl ?_
  refine J_goto (tgt := 87) dX12_rows_107 (by decide) ?_
  refine J_iload dX12_rows_87 rfl ?_
  refine J_aload_n dX12_rows_89 rfl rfl ?_
  refine J_get (v := .int 1) dX12_rows_90 fl_X12_298 rfl rfl ?_
  refine J_icmp_ge (tgt := 110) dX12_rows_93 (by decide) (fun _ => ?_) (fun q => absurd (by decide +kernel) q)
  refine J_iconst (v := 0) dX12_rows_110 (by decide) ?_
  refine J_istore dX12_rows_111 (Nat.le_of_ble_eq_true rfl) rfl ?_
  refine J_iload dX12_rows_113 rfl ?_
  refine J_aload_n dX12_rows_115 rfl rfl ?_
  refine J_get (v := .int 1) dX12_rows_116 fl_X12_298 rfl rfl ?_
  refine J_icmp_ge (tgt := 177) dX12_rows_119 (by decide) (fun q => absurd q (by decide +kernel)) (fun _ => ?_)
  refine J_iconst (v := 0) dX12_rows_122 (by decide) ?_
  refine J_istore dX12_rows_123 (Nat.le_of_ble_eq_true rfl) rfl ?_
  refine J_iload dX12_rows_125 rfl ?_
  refine J_aload_n dX12_rows_127 rfl rfl ?_
  refine J_get (v := .ref 114) dX12_rows_128 fl_X12_67 rfl rfl ?_
  refine J_iload dX12_rows_131 rfl ?_
  refine J_iald (i2 := 0) (v := 0) dX12_rows_133 rfl rfl (jin (by decide +kernel)) (by decide +kernel) rfl ?_
  refine J_icmp_ge (tgt := 171) dX12_rows_134 (by decide) (fun _ => ?_) (fun q => absurd (by decide +kernel) q)
  refine J_iinc (v := 1) dX12_rows_171 rfl (by decide +kernel) (Nat.le_of_ble_eq_true rfl) rfl ?_
  refine J_ls (ls2 := [some (.ref 98), some (.int 0), some (.int 0), some (.int 12), some (.int 10), some (.int 1), some (.int 0)]) rfl ?_
  refine J_goto (tgt := 113) dX12_rows_174 (by decide) ?_
  refine J_iload dX12_rows_113 rfl ?_
  refine J_aload_n dX12_rows_115 rfl rfl ?_
  refine J_get (v := .int 1) dX12_rows_116 fl_X12_298 rfl rfl ?_
  refine J_icmp_ge (tgt := 177) dX12_rows_119 (by decide) (fun _ => ?_) (fun q => absurd (by decide +kernel) q)
  refine J_iconst (v := 0) dX12_rows_177 (by decide) ?_
  refine J_istore dX12_rows_178 (Nat.le_of_ble_eq_true rfl) rfl ?_
  refine J_iload dX12_rows_180 rfl ?_
  refine J_aload_n dX12_rows_182 rfl rfl ?_
  refine J_get (v := .int 1) dX12_rows_183 fl_X12_298 rfl rfl ?_
  refine J_icmp_ge (tgt := 209) dX12_rows_186 (by decide) (fun q => absurd q (by decide +kernel)) (fun _ => ?_)
  refine J_aload_n dX12_rows_189 rfl rfl ?_
  refine J_get (v := .ref 127) dX12_rows_190 fl_X12_113 rfl rfl ?_
  refine J_iload dX12_rows_193 rfl ?_
  refine J_aload_n dX12_rows_195 rfl rfl ?_
  refine J_get (v := .ref 128) dX12_rows_196 fl_X12_116 rfl rfl ?_
  refine J_iload dX12_rows_199 rfl ?_
  refine J_lald (i2 := 0) (v := 0) dX12_rows_201 rfl rfl (jin (by decide +kernel)) (by decide +kernel) rfl ?_
  refine K_last (i2 := 0) dX12_rows_202 rfl rfl (jin (by decide +kernel)) (by decide +kernel) ?_
  refine J_iinc (v := 1) dX12_rows_203 rfl (by decide +kernel) (Nat.le_of_ble_eq_true rfl) rfl ?_
  refine J_ls (ls2 := [some (.ref 98), some (.int 0), some (.int 0), some (.int 12), some (.int 10), some (.int 1), some (.int 0)]) rfl ?_
  refine J_goto (tgt := 180) dX12_rows_206 (by decide) ?_
  refine J_iload dX12_rows_180 rfl ?_
  refine J_aload_n dX12_rows_182 rfl rfl ?_
  refine J_get (v := .int 1) dX12_rows_183 fl_X12_298 rfl rfl ?_
  refine J_icmp_ge (tgt := 209) dX12_rows_186 (by decide) (fun _ => ?_) (fun q => absurd (by decide +kernel) q)
  refine J_iinc (v := 11) dX12_rows_209 rfl (by decide +kernel) (Nat.le_of_ble_eq_true rfl) rfl ?_
  refine J_ls (ls2 := [some (.ref 98), some (.int 0), some (.int 0), some (.int 12), some (.int 11), some (.int 1), some (.int 0)]) rfl ?_
  refine J_goto (tgt := 78) dX12_rows_212 (by decide) ?_
  refine J_iload dX12_rows_78 rfl ?_
  refine J_iload_n dX12_rows_80 rfl rfl ?_
  refine J_icmp_ge (tgt := 215) dX12_rows_81 (by decide) (fun q => absurd q (by decide +kernel)) (fun _ => ?_)
  refine J_iconst (v := 0) dX12_rows_84 (by decide) ?_
  refine J_istore dX12_rows_85 (Nat.le_of_ble_eq_true rfl) rfl ?_
  refine J_iload dX12_rows_87 rfl ?_
  refine J_aload_n dX12_rows_89 rfl rfl ?_
  refine J_get (v := .int 1) dX12_rows_90 fl_X12_298 rfl rfl ?_
  refine J_icmp_ge (tgt := 110) dX12_rows_93 (by decide) (fun q => absurd q (by decide +kernel)) (fun _ => ?_)
  refine J_aload_n dX12_rows_96 rfl rfl ?_
  refine J_get (v := .ref 128) dX12_rows_97 fl_X12_116 rfl rfl ?_
  refine J_iload dX12_rows_100 rfl ?_
  refine J_lconst (v := 0) dX12_rows_102 (by decide +kernel) ?_
  refine K_last (i2 := 0) dX12_rows_103 rfl rfl (jin (by decide +kernel)) (by decide +kernel) ?_
  refine J_iinc (v := 1) dX12_rows_104 rfl (by decide +kernel) (Nat.le_of_ble_eq_true rfl) rfl ?_
  refine J_ls (ls2 := [some (.ref 98), some (.int 0), some (.int 0), some (.int 12), some (.int 11), some (.int 1), some (.int 0)]) rfl ?_
  refine J_goto (tgt := 87) dX12_rows_107 (by decide) ?_
  refine J_iload dX12_rows_87 rfl ?_
  refine J_aload_n dX12_rows_89 rfl rfl ?_
  refine J_get (v := .int 1) dX12_rows_90 fl_X12_298 rfl rfl ?_
  refine J_icmp_ge (tgt := 110) dX12_rows_93 (by decide) (fun _ => ?_) (fun q => absurd (by decide +kernel) q)
  refine J_iconst (v := 0) dX12_rows_110 (by decide) ?_
  refine J_istore dX12_rows_111 (Nat.le_of_ble_eq_true rfl) rfl ?_
  refine J_iload dX12_rows_113 rfl ?_
  refine J_aload_n dX12_rows_115 rfl rfl ?_
  refine J_get (v := .int 1) dX12_rows_116 fl_X12_298 rfl rfl ?_
  refine J_icmp_ge (tgt := 177) dX12_rows_119 (by decide) (fun q => absurd q (by decide +kernel)) (fun _ => ?_)
  refine J_iconst (v := 0) dX12_rows_122 (by decide) ?_
  refine J_istore dX12_rows_123 (Nat.le_of_ble_eq_true rfl) rfl ?_
  refine J_iload dX12_rows_125 rfl ?_
  refine J_aload_n dX12_rows_127 rfl rfl ?_
  refine J_get (v := .ref 114) dX12_rows_128 fl_X12_67 rfl rfl ?_
  refine J_iload dX12_rows_131 rfl ?_
  refine J_iald (i2 := 0) (v := 0) dX12_rows_133 rfl rfl (jin (by decide +kernel)) (by decide +kernel) rfl ?_
  refine J_icmp_ge (tgt := 171) dX12_rows_134 (by decide) (fun _ => ?_) (fun q => absurd (by decide +kernel) q)
  refine J_iinc (v := 1) dX12_rows_171 rfl (by decide +kernel) (Nat.le_of_ble_eq_true rfl) rfl ?_
  refine J_ls (ls2 := [some (.ref 98), some (.int 0), some (.int 0), some (.int 12), some (.int 11), some (.int 1), some (.int 0)]) rfl ?_
  refine J_goto (tgt := 113) dX12_rows_174 (by decide) ?_
  refine J_iload dX12_rows_113 rfl ?_
  refine J_aload_n dX12_rows_115 rfl rfl ?_
  refine J_get (v := .int 1) dX12_rows_116 fl_X12_298 rfl rfl ?_
  refine J_icmp_ge (tgt := 177) dX12_rows_119 (by decide) (fun _ => ?_) (fun q => absurd (by decide +kernel) q)
  refine J_iconst (v := 0) dX12_rows_177 (by decide) ?_
  refine J_istore dX12_rows_178 (Nat.le_of_ble_eq_true rfl) rfl ?_
  refine J_iload dX12_rows_180 rfl ?_
  refine J_aload_n dX12_rows_182 rfl rfl ?_
  refine J_get (v := .int 1) dX12_rows_183 fl_X12_298 rfl rfl ?_
  refine J_icmp_ge (tgt := 209) dX12_rows_186 (by decide) (fun q => absurd q (by decide +kernel)) (fun _ => ?_)
  refine J_aload_n dX12_rows_189 rfl rfl ?_
  refine J_get (v := .ref 127) dX12_rows_190 fl_X12_113 rfl rfl ?_
  refine J_iload dX12_rows_193 rfl ?_
  refine J_aload_n dX12_rows_195 rfl rfl ?_
  refine J_get (v := .ref 128) dX12_rows_196 fl_X12_116 rfl rfl ?_
  refine J_iload dX12_rows_199 rfl ?_
  refine J_lald (i2 := 0) (v := 0) dX12_rows_201 rfl rfl (jin (by decide +kernel)) (by decide +kernel) rfl ?_
  refine K_last (i2 := 0) dX12_rows_202 rfl rfl (jin (by decide +kernel)) (by decide +kernel) ?_
  refine J_iinc (v := 1) dX12_rows_203 rfl (by decide +kernel) (Nat.le_of_ble_eq_true rfl) rfl ?_
  refine J_ls (ls2 := [some (.ref 98), some (.int 0), some (.int 0), some (.int 12), some (.int 11), some (.int 1), some (.int 0)]) rfl ?_
  refine J_goto (tgt := 180) dX12_rows_206 (by decide) ?_
  refine J_iload dX12_rows_180 rfl ?_
  refine J_aload_n dX12_rows_182 rfl rfl ?_
  refine J_get (v := .int 1) dX12_rows_183 fl_X12_298 rfl rfl ?_
  refine J_icmp_ge (tgt := 209) dX12_rows_186 (by decide) (fun _ => ?_) (fun q => absurd (by decide +kernel) q)
  refine J_iinc (v := 12) dX12_rows_209 rfl (by decide +kernel) (Nat.le_of_ble_eq_true rfl) rfl ?_
  refine J_ls (ls2 := [some (.ref 98), some (.int 0), some (.int 0), some (.int 12), some (.int 12), some (.int 1), some (.int 0)]) rfl ?_
  refine J_goto (tgt := 78) dX12_rows_212 (by decide) ?_
  refine J_iload dX12_rows_78 rfl ?_
  refine J_iload_n dX12_rows_80 rfl rfl ?_
  refine J_icmp_ge (tgt := 215) dX12_rows_81 (by decide) (fun _ => ?_) (fun q => absurd (by decide +kernel) q)
  refine J_iload_n dX12_rows_215 rfl rfl ?_
  refine J_iconst (v := (-1)) dX12_rows_216 (by decide) ?_
  refine J_icmp_eq (tgt := 227) dX12_rows_217 (by decide) (fun q => absurd q (by decide +kernel)) (fun _ => ?_)
  refine J_aload_n dX12_rows_220 rfl rfl ?_
  refine J_get (v := .ref 127) dX12_rows_221 fl_X12_113 rfl rfl ?_
  refine J_iload_n dX12_rows_224 rfl rfl ?_
  refine J_lald (i2 := 0) (v := 0) dX12_rows_225 rfl rfl (jin (by decide +kernel)) (by decide +kernel) rfl ?_
  refine J_mask (L2 := [(127, .inl (1, 1260, .inr (.inl (vp_updL (vp_updL (vp_updL (vp_updL (vp_updL (vp_updL (vp_updL (vp_updL (vp_updL (vp_updL (vp_updL (vp_updL (vp_updL (fun _ => 0) 0 1) 0 0) 0 0) 0 0) 0 0) 0 0) 0 0) 0 0) 0 0) 0 0) 0 0) 0 0) 0 0)))), (128, .inl (1, 1260, .inr (.inl (vp_updL (vp_updL (vp_updL (vp_updL (vp_updL (vp_updL (vp_updL (vp_updL (vp_updL (vp_updL (vp_updL (vp_updL (fun _ => 0) 0 0) 0 0) 0 0) 0 0) 0 0) 0 0) 0 0) 0 0) 0 0) 0 0) 0 0) 0 0)))), (114, .inl (0, 1260, .inl (upd (fun _ => 0) 0 0))), (116, .inl (0, 1260, .inl (upd (fun _ => 0) 0 0))), (98, .inr (12, [.int 0, .int 0, .ref 99, .ref 100, .ref 101, .ref 102, .ref 103, .ref 104, .ref 105, .int 0, .int (-1), .ref 106, .ref 107, .ref 108, .int 0, .int 0, .int 0, .int 0, .int 0, .int 0, .int 0, .ref 109, .int 0, .int 0, .ref 110, .ref 111, .ref 112, .ref 113, .ref 114, .ref 115, .ref 116, .ref 117, .int 1, .int 0, .int 0, .int 0, .ref 118, .ref 119, .ref 120, .ref 121, .ref 122, .ref 123, .ref 124, .ref 125, .ref 126, .ref 127, .ref 128, .ref 129, .int 0, .ref 130, .ref 131, .ref 132, .ref 133, .ref 134, .int 0, .int 0])), (111, .inl (0, 1260, .inl (upd (fun _ => 0) 0 0)))]) (ks := [127, 128, 127, 128, 127, 128, 127, 128, 127, 128, 127, 128, 127, 128, 127, 128, 127, 128, 127, 128, 127, 128, 127, 128, 127, 114, 116, 98, 98, 111]) [true, true, false, false, false, false, false, false, false, false, false, false, false, false, false, false, false, false, false, false, false, false, false, false, false, true, true, true, false, true] rfl (by decide +kernel) rfl ?_
  exact J_lret dX12_rows_226 rfl (Nat.le_of_ble_eq_true rfl) (Nat.le_of_ble_eq_true rfl) ⟨rfl, rfl⟩
set_option maxHeartbeats 4000000 in
set_option maxRecDepth 100000 in
theorem c_X11_rows_32 {l : Launch} {G : jG} {nh : Nat} {fh : Nat → Option va_E} (a3 : Int32) (b_a3 : 13 ≤ a3.toInt ∧ a3.toInt ≤ 2147483647) (hk0 : fh 0 = some (.inr (11, [.ref 1, .ref 17, .ref 50, .ref 51, .ref 54, .ref 57, .ref 65, .ref 75, .ref 81, .ref 85, .ref 88, .ref 93, .ref 96, .int 0, .int (-1), .ref 97, .int 0]))) (hk51 : fh 51 = some (.inr (0, [.ref 52, .ref 53, .int 1, .int 0]))) : JM l G yX11_rows MX11_rows { frames := 1, cells := 0, slots := 0, locals := 21 } [.ref 0, .int 0, .int 0, .int a3] (nh, fh) (fun r h9 => r = some (.long (-1)) ∧ h9 = (nh, fh)) := by
  refine JM.of (by decide) rfl (fun h => by cases h) (Nat.le_of_ble_eq_true rfl) ⟨0, rfl⟩ ?_
  refine J_hc0 (J_ls (ls2 := [some (.ref 0), some (.int 0), some (.int 0), some (.int a3)]) rfl ?_)
  refine J_aload_n dX11_rows_0 rfl rfl ?_
  refine J_get (v := .ref 51) dX11_rows_1 fl_X11_27 hk0 rfl ?_
  refine J_iload_n dX11_rows_4 rfl rfl ?_
  refine J_callV (st := []) dX11_rows_5 cv_X11_135 (c_X0_has_2 hk51) hk51 rfl rfl (Nat.le_of_ble_eq_true rfl) ⟨(Nat.le_of_ble_eq_true rfl), (Nat.le_of_ble_eq_true rfl)⟩ ⟨(Nat.le_of_ble_eq_true rfl), (Nat.le_of_ble_eq_true rfl)⟩ (fun r h9 hp => ?_)
  obtain ⟨rfl, rfl⟩ := hp
  refine J_nf (nh2 := nh) (ck2 := 0) (sk2 := 0) (st2 := [.int 1]) rfl rfl rfl rfl ?_
  refine J_if_eq (tgt := 37) dX11_rows_8 (by decide) (fun q => absurd q (by decide +kernel)) (fun _ => ?_)
  refine J_iload_n dX11_rows_11 rfl rfl ?_
  refine J_iconst (v := (-1)) dX11_rows_12 (by decide) ?_
  refine J_icmp_eq (tgt := 27) dX11_rows_13 (by decide) (fun q => absurd q (by decide +kernel)) (fun _ => ?_)
  refine J_aload_n dX11_rows_16 rfl rfl ?_
  refine J_get (v := .ref 51) dX11_rows_17 fl_X11_27 hk0 rfl ?_
  refine J_iload_n dX11_rows_20 rfl rfl ?_
  refine J_callV (st := []) dX11_rows_21 cv_X11_135 (c_X0_has_2 hk51) hk51 rfl rfl (Nat.le_of_ble_eq_true rfl) ⟨(Nat.le_of_ble_eq_true rfl), (Nat.le_of_ble_eq_true rfl)⟩ ⟨(Nat.le_of_ble_eq_true rfl), (Nat.le_of_ble_eq_true rfl)⟩ (fun r h9 hp => ?_)
  obtain ⟨rfl, rfl⟩ := hp
  refine J_nf (nh2 := nh) (ck2 := 0) (sk2 := 0) (st2 := [.int 1]) rfl rfl rfl rfl ?_
  refine J_if_eq (tgt := 37) dX11_rows_24 (by decide) (fun q => absurd q (by decide +kernel)) (fun _ => ?_)
  refine J_iload_n dX11_rows_27 rfl rfl ?_
  refine J_if_lt (tgt := 37) dX11_rows_28 (by decide) (fun q => absurd q (by have hb0 := b_a3; simp only [fa_lt, fa_le, fa_eq, kc_0]; omega)) (fun _ => ?_)
  refine J_iload_n dX11_rows_31 rfl rfl ?_
  refine J_bipush (v := 12) dX11_rows_32 (by decide +kernel) ?_
  refine J_icmp_le (tgt := 41) dX11_rows_34 (by decide) (fun q => absurd q (by have hb0 := b_a3; simp only [fa_lt, fa_le, fa_eq, kc_12]; omega)) (fun _ => ?_)
  refine J_ldc2 (v := (-1)) dX11_rows_37 (jt5 93 rfl rfl) ?_
  exact J_lret dX11_rows_40 rfl (Nat.le_of_ble_eq_true rfl) (Nat.le_of_ble_eq_true rfl) ⟨rfl, rfl⟩
set_option maxHeartbeats 4000000 in
set_option maxRecDepth 100000 in
theorem c_X12_rows_32 {l : Launch} {G : jG} {nh : Nat} {fh : Nat → Option va_E} (a3 : Int32) (b_a3 : 13 ≤ a3.toInt ∧ a3.toInt ≤ 2147483647) (hk98 : fh 98 = some (.inr (12, [.int 0, .int 0, .ref 99, .ref 100, .ref 101, .ref 102, .ref 103, .ref 104, .ref 105, .int 0, .int (-1), .ref 106, .ref 107, .ref 108, .int 0, .int 0, .int 0, .int 0, .int 0, .int 0, .int 0, .ref 109, .int 0, .int 0, .ref 110, .ref 111, .ref 112, .ref 113, .ref 114, .ref 115, .ref 116, .ref 117, .int 0, .int 0, .int (-1), .int (-1), .ref 118, .ref 119, .ref 120, .ref 121, .ref 122, .ref 123, .ref 124, .ref 125, .ref 126, .ref 127, .ref 128, .ref 129, .int 0, .ref 130, .ref 131, .ref 132, .ref 133, .ref 134, .int 0, .int 0]))) (hk100 : fh 100 = some (.inl (0, 4870, .inl (upd (fun _ => 0) 63 (-1))))) (hk111 : fh 111 = some (.inl (0, 1260, .inl (fun _ => 0)))) : JM l G yX12_rows MX12_rows { frames := 3, cells := 0, slots := 0, locals := 69 } [.ref 98, .int 0, .int 0, .int a3] (nh, fh) (fun r h9 => r = some (.long (-1)) ∧ h9 = (nh, hc fh [(98, .inr (12, [.int 0, .int 0, .ref 99, .ref 100, .ref 101, .ref 102, .ref 103, .ref 104, .ref 105, .int 0, .int (-1), .ref 106, .ref 107, .ref 108, .int 0, .int 0, .int 0, .int 0, .int 0, .int 0, .int 0, .ref 109, .int 0, .int 0, .ref 110, .ref 111, .ref 112, .ref 113, .ref 114, .ref 115, .ref 116, .ref 117, .int 1, .int 0, .int 0, .int (-1), .ref 118, .ref 119, .ref 120, .ref 121, .ref 122, .ref 123, .ref 124, .ref 125, .ref 126, .ref 127, .ref 128, .ref 129, .int 0, .ref 130, .ref 131, .ref 132, .ref 133, .ref 134, .int 0, .int 0])), (111, .inl (0, 1260, .inl (upd (fun _ => 0) 0 0)))])) := by
  refine JM.of (by decide) rfl (fun h => by cases h) (Nat.le_of_ble_eq_true rfl) ⟨3, rfl⟩ ?_
  refine J_hc0 (J_ls (ls2 := [some (.ref 98), some (.int 0), some (.int 0), some (.int a3), none, none, none]) rfl ?_)
  refine J_aload_n dX12_rows_0 rfl rfl ?_
  refine J_iload_n dX12_rows_1 rfl rfl ?_
  refine J_callV (st := []) dX12_rows_2 cv_X12_325 (c_X12_isHouse_2 hk98 hk100 hk111) hk98 rfl rfl (Nat.le_of_ble_eq_true rfl) ⟨(Nat.le_of_ble_eq_true rfl), (Nat.le_of_ble_eq_true rfl)⟩ ⟨(Nat.le_of_ble_eq_true rfl), (Nat.le_of_ble_eq_true rfl)⟩ (fun r h9 hp => ?_)
  obtain ⟨rfl, rfl⟩ := hp
  refine J_nf (nh2 := nh) (ck2 := 0) (sk2 := 0) (st2 := [.int 1]) rfl rfl rfl rfl ?_
  refine J_app (L3 := [(98, .inr (12, [.int 0, .int 0, .ref 99, .ref 100, .ref 101, .ref 102, .ref 103, .ref 104, .ref 105, .int 0, .int (-1), .ref 106, .ref 107, .ref 108, .int 0, .int 0, .int 0, .int 0, .int 0, .int 0, .int 0, .ref 109, .int 0, .int 0, .ref 110, .ref 111, .ref 112, .ref 113, .ref 114, .ref 115, .ref 116, .ref 117, .int 1, .int 0, .int 0, .int (-1), .ref 118, .ref 119, .ref 120, .ref 121, .ref 122, .ref 123, .ref 124, .ref 125, .ref 126, .ref 127, .ref 128, .ref 129, .int 0, .ref 130, .ref 131, .ref 132, .ref 133, .ref 134, .int 0, .int 0])), (111, .inl (0, 1260, .inl (upd (fun _ => 0) 0 0)))]) rfl ?_
  refine J_if_eq (tgt := 31) dX12_rows_5 (by decide) (fun q => absurd q (by decide +kernel)) (fun _ => ?_)
  refine J_iload_n dX12_rows_8 rfl rfl ?_
  refine J_iconst (v := (-1)) dX12_rows_9 (by decide) ?_
  refine J_icmp_eq (tgt := 21) dX12_rows_10 (by decide) (fun q => absurd q (by decide +kernel)) (fun _ => ?_)
  refine J_aload_n dX12_rows_13 rfl rfl ?_
  refine J_iload_n dX12_rows_14 rfl rfl ?_
  refine J_callV (st := []) dX12_rows_15 cv_X12_325 (c_X12_isHouse_5 rfl) rfl rfl rfl (Nat.le_of_ble_eq_true rfl) ⟨(Nat.le_of_ble_eq_true rfl), (Nat.le_of_ble_eq_true rfl)⟩ ⟨(Nat.le_of_ble_eq_true rfl), (Nat.le_of_ble_eq_true rfl)⟩ (fun r h9 hp => ?_)
  obtain ⟨rfl, rfl⟩ := hp
  refine J_nf (nh2 := nh) (ck2 := 0) (sk2 := 0) (st2 := [.int 1]) rfl rfl rfl rfl ?_
  refine J_if_eq (tgt := 31) dX12_rows_18 (by decide) (fun q => absurd q (by decide +kernel)) (fun _ => ?_)
  refine J_iload_n dX12_rows_21 rfl rfl ?_
  refine J_iconst (v := 0) dX12_rows_22 (by decide) ?_
  refine J_bipush (v := 12) dX12_rows_23 (by decide +kernel) ?_
  refine J_callS (st := []) dX12_rows_25 cs_X12_138 (c_X12_lies_62 (a3) b_a3) rfl rfl (Nat.le_of_ble_eq_true rfl) ⟨(Nat.le_of_ble_eq_true rfl), (Nat.le_of_ble_eq_true rfl)⟩ ⟨(Nat.le_of_ble_eq_true rfl), (Nat.le_of_ble_eq_true rfl)⟩ (fun r h9 hp => ?_)
  obtain ⟨rfl, rfl⟩ := hp
  refine J_nf (nh2 := nh) (ck2 := 0) (sk2 := 0) (st2 := [.int 0]) rfl rfl rfl rfl ?_
  refine J_if_ne (tgt := 35) dX12_rows_28 (by decide) (fun q => absurd (by decide +kernel) q) (fun _ => ?_)
  refine J_ldc2 (v := (-1)) dX12_rows_31 (jt8 51 rfl rfl) ?_
  exact J_lret dX12_rows_34 rfl (Nat.le_of_ble_eq_true rfl) (Nat.le_of_ble_eq_true rfl) ⟨rfl, rfl⟩
set_option maxHeartbeats 4000000 in
set_option maxRecDepth 100000 in
theorem c_X11_rows_33 {l : Launch} {G : jG} {nh : Nat} {fh : Nat → Option va_E} (a2 : Int32) (b_a2 : 1 ≤ a2.toInt ∧ a2.toInt ≤ 2147483647) (a3 : Int32) (b_a3 : (-2147483648) ≤ a3.toInt ∧ a3.toInt ≤ 2147483647) (hk0 : fh 0 = some (.inr (11, [.ref 1, .ref 17, .ref 50, .ref 51, .ref 54, .ref 57, .ref 65, .ref 75, .ref 81, .ref 85, .ref 88, .ref 93, .ref 96, .int 0, .int (-1), .ref 97, .int 0]))) (hk51 : fh 51 = some (.inr (0, [.ref 52, .ref 53, .int 1, .int 0]))) : JM l G yX11_rows MX11_rows { frames := 1, cells := 0, slots := 0, locals := 21 } [.ref 0, .int 0, .int a2, .int a3] (nh, fh) (fun r h9 => r = some (.long (-1)) ∧ h9 = (nh, fh)) := by
  refine JM.of (by decide) rfl (fun h => by cases h) (Nat.le_of_ble_eq_true rfl) ⟨0, rfl⟩ ?_
  refine J_hc0 (J_ls (ls2 := [some (.ref 0), some (.int 0), some (.int a2), some (.int a3)]) rfl ?_)
  refine J_aload_n dX11_rows_0 rfl rfl ?_
  refine J_get (v := .ref 51) dX11_rows_1 fl_X11_27 hk0 rfl ?_
  refine J_iload_n dX11_rows_4 rfl rfl ?_
  refine J_callV (st := []) dX11_rows_5 cv_X11_135 (c_X0_has_2 hk51) hk51 rfl rfl (Nat.le_of_ble_eq_true rfl) ⟨(Nat.le_of_ble_eq_true rfl), (Nat.le_of_ble_eq_true rfl)⟩ ⟨(Nat.le_of_ble_eq_true rfl), (Nat.le_of_ble_eq_true rfl)⟩ (fun r h9 hp => ?_)
  obtain ⟨rfl, rfl⟩ := hp
  refine J_nf (nh2 := nh) (ck2 := 0) (sk2 := 0) (st2 := [.int 1]) rfl rfl rfl rfl ?_
  refine J_if_eq (tgt := 37) dX11_rows_8 (by decide) (fun q => absurd q (by decide +kernel)) (fun _ => ?_)
  refine J_iload_n dX11_rows_11 rfl rfl ?_
  refine J_iconst (v := (-1)) dX11_rows_12 (by decide) ?_
  refine J_icmp_eq (tgt := 27) dX11_rows_13 (by decide) (fun q => absurd q (by have hb0 := b_a2; simp only [fa_lt, fa_le, fa_eq, kc_m1]; omega)) (fun _ => ?_)
  refine J_aload_n dX11_rows_16 rfl rfl ?_
  refine J_get (v := .ref 51) dX11_rows_17 fl_X11_27 hk0 rfl ?_
  refine J_iload_n dX11_rows_20 rfl rfl ?_
  refine J_callV (st := []) dX11_rows_21 cv_X11_135 (c_X0_has_3 (a2) b_a2 hk51) hk51 rfl rfl (Nat.le_of_ble_eq_true rfl) ⟨(Nat.le_of_ble_eq_true rfl), (Nat.le_of_ble_eq_true rfl)⟩ ⟨(Nat.le_of_ble_eq_true rfl), (Nat.le_of_ble_eq_true rfl)⟩ (fun r h9 hp => ?_)
  obtain ⟨rfl, rfl⟩ := hp
  refine J_nf (nh2 := nh) (ck2 := 0) (sk2 := 0) (st2 := [.int 0]) rfl rfl rfl rfl ?_
  refine J_if_eq (tgt := 37) dX11_rows_24 (by decide) (fun _ => ?_) (fun q => absurd (by decide +kernel) q)
  refine J_ldc2 (v := (-1)) dX11_rows_37 (jt5 93 rfl rfl) ?_
  exact J_lret dX11_rows_40 rfl (Nat.le_of_ble_eq_true rfl) (Nat.le_of_ble_eq_true rfl) ⟨rfl, rfl⟩
set_option maxHeartbeats 4000000 in
set_option maxRecDepth 100000 in
theorem c_X12_rows_33 {l : Launch} {G : jG} {nh : Nat} {fh : Nat → Option va_E} (a2 : Int32) (b_a2 : 1 ≤ a2.toInt ∧ a2.toInt ≤ 2147483647) (a3 : Int32) (b_a3 : (-2147483648) ≤ a3.toInt ∧ a3.toInt ≤ 2147483647) (hk98 : fh 98 = some (.inr (12, [.int 0, .int 0, .ref 99, .ref 100, .ref 101, .ref 102, .ref 103, .ref 104, .ref 105, .int 0, .int (-1), .ref 106, .ref 107, .ref 108, .int 0, .int 0, .int 0, .int 0, .int 0, .int 0, .int 0, .ref 109, .int 0, .int 0, .ref 110, .ref 111, .ref 112, .ref 113, .ref 114, .ref 115, .ref 116, .ref 117, .int 0, .int 0, .int (-1), .int (-1), .ref 118, .ref 119, .ref 120, .ref 121, .ref 122, .ref 123, .ref 124, .ref 125, .ref 126, .ref 127, .ref 128, .ref 129, .int 0, .ref 130, .ref 131, .ref 132, .ref 133, .ref 134, .int 0, .int 0]))) (hk100 : fh 100 = some (.inl (0, 4870, .inl (upd (fun _ => 0) 63 (-1))))) (hk111 : fh 111 = some (.inl (0, 1260, .inl (fun _ => 0)))) : JM l G yX12_rows MX12_rows { frames := 3, cells := 0, slots := 0, locals := 69 } [.ref 98, .int 0, .int a2, .int a3] (nh, fh) (fun r h9 => r = some (.long (-1)) ∧ h9 = (nh, hc fh [(98, .inr (12, [.int 0, .int 0, .ref 99, .ref 100, .ref 101, .ref 102, .ref 103, .ref 104, .ref 105, .int 0, .int (-1), .ref 106, .ref 107, .ref 108, .int 0, .int 0, .int 0, .int 0, .int 0, .int 0, .int 0, .ref 109, .int 0, .int 0, .ref 110, .ref 111, .ref 112, .ref 113, .ref 114, .ref 115, .ref 116, .ref 117, .int 1, .int 0, .int 0, .int (-1), .ref 118, .ref 119, .ref 120, .ref 121, .ref 122, .ref 123, .ref 124, .ref 125, .ref 126, .ref 127, .ref 128, .ref 129, .int 0, .ref 130, .ref 131, .ref 132, .ref 133, .ref 134, .int 0, .int 0])), (111, .inl (0, 1260, .inl (upd (fun _ => 0) 0 0)))])) := by
  refine JM.of (by decide) rfl (fun h => by cases h) (Nat.le_of_ble_eq_true rfl) ⟨3, rfl⟩ ?_
  refine J_hc0 (J_ls (ls2 := [some (.ref 98), some (.int 0), some (.int a2), some (.int a3), none, none, none]) rfl ?_)
  refine J_aload_n dX12_rows_0 rfl rfl ?_
  refine J_iload_n dX12_rows_1 rfl rfl ?_
  refine J_callV (st := []) dX12_rows_2 cv_X12_325 (c_X12_isHouse_2 hk98 hk100 hk111) hk98 rfl rfl (Nat.le_of_ble_eq_true rfl) ⟨(Nat.le_of_ble_eq_true rfl), (Nat.le_of_ble_eq_true rfl)⟩ ⟨(Nat.le_of_ble_eq_true rfl), (Nat.le_of_ble_eq_true rfl)⟩ (fun r h9 hp => ?_)
  obtain ⟨rfl, rfl⟩ := hp
  refine J_nf (nh2 := nh) (ck2 := 0) (sk2 := 0) (st2 := [.int 1]) rfl rfl rfl rfl ?_
  refine J_app (L3 := [(98, .inr (12, [.int 0, .int 0, .ref 99, .ref 100, .ref 101, .ref 102, .ref 103, .ref 104, .ref 105, .int 0, .int (-1), .ref 106, .ref 107, .ref 108, .int 0, .int 0, .int 0, .int 0, .int 0, .int 0, .int 0, .ref 109, .int 0, .int 0, .ref 110, .ref 111, .ref 112, .ref 113, .ref 114, .ref 115, .ref 116, .ref 117, .int 1, .int 0, .int 0, .int (-1), .ref 118, .ref 119, .ref 120, .ref 121, .ref 122, .ref 123, .ref 124, .ref 125, .ref 126, .ref 127, .ref 128, .ref 129, .int 0, .ref 130, .ref 131, .ref 132, .ref 133, .ref 134, .int 0, .int 0])), (111, .inl (0, 1260, .inl (upd (fun _ => 0) 0 0)))]) rfl ?_
  refine J_if_eq (tgt := 31) dX12_rows_5 (by decide) (fun q => absurd q (by decide +kernel)) (fun _ => ?_)
  refine J_iload_n dX12_rows_8 rfl rfl ?_
  refine J_iconst (v := (-1)) dX12_rows_9 (by decide) ?_
  refine J_icmp_eq (tgt := 21) dX12_rows_10 (by decide) (fun q => absurd q (by have hb0 := b_a2; simp only [fa_lt, fa_le, fa_eq, kc_m1]; omega)) (fun _ => ?_)
  refine J_aload_n dX12_rows_13 rfl rfl ?_
  refine J_iload_n dX12_rows_14 rfl rfl ?_
  refine J_callV (st := []) dX12_rows_15 cv_X12_325 (c_X12_isHouse_6 (a2) b_a2 rfl) rfl rfl rfl (Nat.le_of_ble_eq_true rfl) ⟨(Nat.le_of_ble_eq_true rfl), (Nat.le_of_ble_eq_true rfl)⟩ ⟨(Nat.le_of_ble_eq_true rfl), (Nat.le_of_ble_eq_true rfl)⟩ (fun r h9 hp => ?_)
  obtain ⟨rfl, rfl⟩ := hp
  refine J_nf (nh2 := nh) (ck2 := 0) (sk2 := 0) (st2 := [.int 0]) rfl rfl rfl rfl ?_
  refine J_if_eq (tgt := 31) dX12_rows_18 (by decide) (fun _ => ?_) (fun q => absurd (by decide +kernel) q)
  refine J_ldc2 (v := (-1)) dX12_rows_31 (jt8 51 rfl rfl) ?_
  exact J_lret dX12_rows_34 rfl (Nat.le_of_ble_eq_true rfl) (Nat.le_of_ble_eq_true rfl) ⟨rfl, rfl⟩
set_option maxHeartbeats 4000000 in
set_option maxRecDepth 100000 in
theorem c_X11_rows_34 {l : Launch} {G : jG} {nh : Nat} {fh : Nat → Option va_E} (a1 : Int32) (b_a1 : 1 ≤ a1.toInt ∧ a1.toInt ≤ 2147483647) (a2 : Int32) (b_a2 : (-2147483648) ≤ a2.toInt ∧ a2.toInt ≤ 2147483647) (a3 : Int32) (b_a3 : (-2147483648) ≤ a3.toInt ∧ a3.toInt ≤ 2147483647) (hk0 : fh 0 = some (.inr (11, [.ref 1, .ref 17, .ref 50, .ref 51, .ref 54, .ref 57, .ref 65, .ref 75, .ref 81, .ref 85, .ref 88, .ref 93, .ref 96, .int 0, .int (-1), .ref 97, .int 0]))) (hk51 : fh 51 = some (.inr (0, [.ref 52, .ref 53, .int 1, .int 0]))) : JM l G yX11_rows MX11_rows { frames := 1, cells := 0, slots := 0, locals := 21 } [.ref 0, .int a1, .int a2, .int a3] (nh, fh) (fun r h9 => r = some (.long (-1)) ∧ h9 = (nh, fh)) := by
  refine JM.of (by decide) rfl (fun h => by cases h) (Nat.le_of_ble_eq_true rfl) ⟨0, rfl⟩ ?_
  refine J_hc0 (J_ls (ls2 := [some (.ref 0), some (.int a1), some (.int a2), some (.int a3)]) rfl ?_)
  refine J_aload_n dX11_rows_0 rfl rfl ?_
  refine J_get (v := .ref 51) dX11_rows_1 fl_X11_27 hk0 rfl ?_
  refine J_iload_n dX11_rows_4 rfl rfl ?_
  refine J_callV (st := []) dX11_rows_5 cv_X11_135 (c_X0_has_3 (a1) b_a1 hk51) hk51 rfl rfl (Nat.le_of_ble_eq_true rfl) ⟨(Nat.le_of_ble_eq_true rfl), (Nat.le_of_ble_eq_true rfl)⟩ ⟨(Nat.le_of_ble_eq_true rfl), (Nat.le_of_ble_eq_true rfl)⟩ (fun r h9 hp => ?_)
  obtain ⟨rfl, rfl⟩ := hp
  refine J_nf (nh2 := nh) (ck2 := 0) (sk2 := 0) (st2 := [.int 0]) rfl rfl rfl rfl ?_
  refine J_if_eq (tgt := 37) dX11_rows_8 (by decide) (fun _ => ?_) (fun q => absurd (by decide +kernel) q)
  refine J_ldc2 (v := (-1)) dX11_rows_37 (jt5 93 rfl rfl) ?_
  exact J_lret dX11_rows_40 rfl (Nat.le_of_ble_eq_true rfl) (Nat.le_of_ble_eq_true rfl) ⟨rfl, rfl⟩
set_option maxHeartbeats 4000000 in
set_option maxRecDepth 100000 in
theorem c_X12_rows_34 {l : Launch} {G : jG} {nh : Nat} {fh : Nat → Option va_E} (a1 : Int32) (b_a1 : 1 ≤ a1.toInt ∧ a1.toInt ≤ 2147483647) (a2 : Int32) (b_a2 : (-2147483648) ≤ a2.toInt ∧ a2.toInt ≤ 2147483647) (a3 : Int32) (b_a3 : (-2147483648) ≤ a3.toInt ∧ a3.toInt ≤ 2147483647) (hk98 : fh 98 = some (.inr (12, [.int 0, .int 0, .ref 99, .ref 100, .ref 101, .ref 102, .ref 103, .ref 104, .ref 105, .int 0, .int (-1), .ref 106, .ref 107, .ref 108, .int 0, .int 0, .int 0, .int 0, .int 0, .int 0, .int 0, .ref 109, .int 0, .int 0, .ref 110, .ref 111, .ref 112, .ref 113, .ref 114, .ref 115, .ref 116, .ref 117, .int 0, .int 0, .int (-1), .int (-1), .ref 118, .ref 119, .ref 120, .ref 121, .ref 122, .ref 123, .ref 124, .ref 125, .ref 126, .ref 127, .ref 128, .ref 129, .int 0, .ref 130, .ref 131, .ref 132, .ref 133, .ref 134, .int 0, .int 0]))) (hk100 : fh 100 = some (.inl (0, 4870, .inl (upd (fun _ => 0) 63 (-1))))) (hk111 : fh 111 = some (.inl (0, 1260, .inl (fun _ => 0)))) : JM l G yX12_rows MX12_rows { frames := 3, cells := 0, slots := 0, locals := 69 } [.ref 98, .int a1, .int a2, .int a3] (nh, fh) (fun r h9 => r = some (.long (-1)) ∧ h9 = (nh, hc fh [(98, .inr (12, [.int 0, .int 0, .ref 99, .ref 100, .ref 101, .ref 102, .ref 103, .ref 104, .ref 105, .int 0, .int (-1), .ref 106, .ref 107, .ref 108, .int 0, .int 0, .int 0, .int 0, .int 0, .int 0, .int 0, .ref 109, .int 0, .int 0, .ref 110, .ref 111, .ref 112, .ref 113, .ref 114, .ref 115, .ref 116, .ref 117, .int 1, .int 0, .int 0, .int (-1), .ref 118, .ref 119, .ref 120, .ref 121, .ref 122, .ref 123, .ref 124, .ref 125, .ref 126, .ref 127, .ref 128, .ref 129, .int 0, .ref 130, .ref 131, .ref 132, .ref 133, .ref 134, .int 0, .int 0])), (111, .inl (0, 1260, .inl (upd (fun _ => 0) 0 0)))])) := by
  refine JM.of (by decide) rfl (fun h => by cases h) (Nat.le_of_ble_eq_true rfl) ⟨3, rfl⟩ ?_
  refine J_hc0 (J_ls (ls2 := [some (.ref 98), some (.int a1), some (.int a2), some (.int a3), none, none, none]) rfl ?_)
  refine J_aload_n dX12_rows_0 rfl rfl ?_
  refine J_iload_n dX12_rows_1 rfl rfl ?_
  refine J_callV (st := []) dX12_rows_2 cv_X12_325 (c_X12_isHouse_3 (a1) b_a1 hk98 hk100 hk111) hk98 rfl rfl (Nat.le_of_ble_eq_true rfl) ⟨(Nat.le_of_ble_eq_true rfl), (Nat.le_of_ble_eq_true rfl)⟩ ⟨(Nat.le_of_ble_eq_true rfl), (Nat.le_of_ble_eq_true rfl)⟩ (fun r h9 hp => ?_)
  obtain ⟨rfl, rfl⟩ := hp
  refine J_nf (nh2 := nh) (ck2 := 0) (sk2 := 0) (st2 := [.int 0]) rfl rfl rfl rfl ?_
  refine J_app (L3 := [(98, .inr (12, [.int 0, .int 0, .ref 99, .ref 100, .ref 101, .ref 102, .ref 103, .ref 104, .ref 105, .int 0, .int (-1), .ref 106, .ref 107, .ref 108, .int 0, .int 0, .int 0, .int 0, .int 0, .int 0, .int 0, .ref 109, .int 0, .int 0, .ref 110, .ref 111, .ref 112, .ref 113, .ref 114, .ref 115, .ref 116, .ref 117, .int 1, .int 0, .int 0, .int (-1), .ref 118, .ref 119, .ref 120, .ref 121, .ref 122, .ref 123, .ref 124, .ref 125, .ref 126, .ref 127, .ref 128, .ref 129, .int 0, .ref 130, .ref 131, .ref 132, .ref 133, .ref 134, .int 0, .int 0])), (111, .inl (0, 1260, .inl (upd (fun _ => 0) 0 0)))]) rfl ?_
  refine J_if_eq (tgt := 31) dX12_rows_5 (by decide) (fun _ => ?_) (fun q => absurd (by decide +kernel) q)
  refine J_ldc2 (v := (-1)) dX12_rows_31 (jt8 51 rfl rfl) ?_
  exact J_lret dX12_rows_34 rfl (Nat.le_of_ble_eq_true rfl) (Nat.le_of_ble_eq_true rfl) ⟨rfl, rfl⟩
set_option maxHeartbeats 4000000 in
set_option maxRecDepth 100000 in
theorem c_X7_exists_1 {l : Launch} {G : jG} {nh : Nat} {fh : Nat → Option va_E} (hk51 : fh 51 = some (.inr (0, [.ref 52, .ref 53, .int 1, .int 0]))) (hk57 : fh 57 = some (.inr (9, [.ref 1, .ref 51, .ref 58, .ref 61, .ref 62, .ref 135, .ref 64, .int 0, .int 0, .int 0]))) (hk81 : fh 81 = some (.inr (7, [.ref 51, .ref 57, .ref 82, .ref 83, .ref 84, .int 0, .int (-1)]))) : JM l G yX7_exists MX7_exists { frames := 1, cells := 0, slots := 0, locals := 20 } [.ref 81] (nh, fh) (fun r h9 => r = some (.int 0) ∧ h9 = (nh, hc fh [(81, .inr (7, [.ref 51, .ref 57, .ref 82, .ref 83, .ref 84, .int 0, .int 0]))])) := by
  refine JM.of (by decide) rfl (fun h => by cases h) (Nat.le_of_ble_eq_true rfl) ⟨1, rfl⟩ ?_
  refine J_hc0 (J_ls (ls2 := [some (.ref 81), none]) rfl ?_)
  refine J_aload_n dX7_exists_0 rfl rfl ?_
  refine J_get (v := .int (-1)) dX7_exists_1 fl_X7_25 hk81 rfl ?_
  refine J_aload_n dX7_exists_4 rfl rfl ?_
  refine J_get (v := .ref 57) dX7_exists_5 fl_X7_33 hk81 rfl ?_
  refine J_callV (st := [.int (-1)]) dX7_exists_8 cv_X7_43 (c_X9_version_1 hk57) hk57 rfl rfl (Nat.le_of_ble_eq_true rfl) ⟨(Nat.le_of_ble_eq_true rfl), (Nat.le_of_ble_eq_true rfl)⟩ ⟨(Nat.le_of_ble_eq_true rfl), (Nat.le_of_ble_eq_true rfl)⟩ (fun r h9 hp => ?_)
  obtain ⟨rfl, rfl⟩ := hp
  refine J_nf (nh2 := nh) (ck2 := 0) (sk2 := 0) (st2 := [.int 0, .int (-1)]) rfl rfl rfl rfl ?_
  refine J_icmp_eq (tgt := 91) dX7_exists_11 (by decide) (fun q => absurd q (by decide +kernel)) (fun _ => ?_)
  refine J_aload_n dX7_exists_14 rfl rfl ?_
  refine J_aload_n dX7_exists_15 rfl rfl ?_
  refine J_get (v := .ref 57) dX7_exists_16 fl_X7_33 hk81 rfl ?_
  refine J_callV (st := [.ref 81]) dX7_exists_19 cv_X7_43 (c_X9_version_1 hk57) hk57 rfl rfl (Nat.le_of_ble_eq_true rfl) ⟨(Nat.le_of_ble_eq_true rfl), (Nat.le_of_ble_eq_true rfl)⟩ ⟨(Nat.le_of_ble_eq_true rfl), (Nat.le_of_ble_eq_true rfl)⟩ (fun r h9 hp => ?_)
  obtain ⟨rfl, rfl⟩ := hp
  refine J_nf (nh2 := nh) (ck2 := 0) (sk2 := 0) (st2 := [.int 0, .ref 81]) rfl rfl rfl rfl ?_
  refine K_put (fs2 := [.ref 51, .ref 57, .ref 82, .ref 83, .ref 84, .int 0, .int 0]) dX7_exists_22 fw_X7_25 hk81 (Nat.le_of_ble_eq_true rfl) (fun _ => ⟨rfl, rfl⟩) rfl ?_
  refine J_aload_n dX7_exists_25 rfl rfl ?_
  refine J_get (v := .ref 51) dX7_exists_26 fl_X7_29 rfl rfl ?_
  refine J_callV (st := []) dX7_exists_29 cv_X7_37 (c_X0_many_1 hk51) hk51 rfl rfl (Nat.le_of_ble_eq_true rfl) ⟨(Nat.le_of_ble_eq_true rfl), (Nat.le_of_ble_eq_true rfl)⟩ ⟨(Nat.le_of_ble_eq_true rfl), (Nat.le_of_ble_eq_true rfl)⟩ (fun r h9 hp => ?_)
  obtain ⟨rfl, rfl⟩ := hp
  refine J_nf (nh2 := nh) (ck2 := 0) (sk2 := 0) (st2 := [.int 1]) rfl rfl rfl rfl ?_
  refine J_istore_n dX7_exists_32 rfl (Nat.le_of_ble_eq_true rfl) rfl ?_
  refine J_aload_n dX7_exists_33 rfl rfl ?_
  refine J_iconst (v := 0) dX7_exists_34 (by decide) ?_
  refine K_put (fs2 := [.ref 51, .ref 57, .ref 82, .ref 83, .ref 84, .int 0, .int 0]) dX7_exists_35 fw_X7_21 rfl (Nat.le_of_ble_eq_true rfl) jb0 rfl ?_
  refine J_iload_n dX7_exists_38 rfl rfl ?_
  refine J_iconst (v := 1) dX7_exists_39 (by decide) ?_
  refine J_icmp_le (tgt := 79) dX7_exists_40 (by decide) (fun _ => ?_) (fun q => absurd (by decide +kernel) q)
  refine J_aload_n dX7_exists_79 rfl rfl ?_
  refine J_get (v := .int 0) dX7_exists_80 fl_X7_21 rfl rfl ?_
  refine J_if_eq (tgt := 91) dX7_exists_83 (by decide) (fun _ => ?_) (fun q => absurd (by decide +kernel) q)
  refine J_aload_n dX7_exists_91 rfl rfl ?_
  refine J_get (v := .int 0) dX7_exists_92 fl_X7_21 rfl rfl ?_
  refine J_mask (L2 := [(81, .inr (7, [.ref 51, .ref 57, .ref 82, .ref 83, .ref 84, .int 0, .int 0]))]) (ks := [81, 81]) [true, false] rfl (by decide +kernel) rfl ?_
  exact J_iret dX7_exists_95 rfl (by decide +kernel) (Nat.le_of_ble_eq_true rfl) (Nat.le_of_ble_eq_true rfl) ⟨rfl, rfl⟩
set_option maxHeartbeats 4000000 in
set_option maxRecDepth 100000 in
theorem c_X11_round_1 {l : Launch} {G : jG} {fh : Nat → Option va_E} (a1 : Int32) (b_a1 : (-2147483648) ≤ a1.toInt ∧ a1.toInt ≤ (-2)) (hk0 : fh 0 = some (.inr (11, [.ref 1, .ref 17, .ref 50, .ref 51, .ref 54, .ref 57, .ref 65, .ref 75, .ref 81, .ref 85, .ref 88, .ref 93, .ref 96, .int 0, .int (-1), .ref 97, .int 0]))) (hk1 : fh 1 = some (.inr (8, [.ref 2, .ref 3, .ref 4, .int 0, .int (-1), .ref 11, .ref 12, .int 0, .ref 13, .ref 14, .int 0, .ref 15, .ref 16, .int 0]))) (hk3 : fh 3 = some (.inl (0, 2, .inl (fun _ => 0)))) (hk51 : fh 51 = some (.inr (0, [.ref 52, .ref 53, .int 1, .int 0]))) (hk57 : fh 57 = some (.inr (9, [.ref 1, .ref 51, .ref 58, .ref 61, .ref 62, .ref 63, .ref 64, .int 0, .int 1, .int 1]))) (hk58 : fh 58 = some (.inr (1, [.ref 59, .ref 60, .int 0, .int 0, .int 0, .int 0, .int 0, .int 1]))) (hk59 : fh 59 = some (.inl (0, 8, .inl (fun _ => 0)))) (hk62 : fh 62 = some (.inl (0, 1260, .inl (fun _ => 0)))) (hk63 : fh 63 = some (.inl (0, 0, .inl (fun _ => 0)))) (hk81 : fh 81 = some (.inr (7, [.ref 51, .ref 57, .ref 82, .ref 83, .ref 84, .int 0, .int (-1)]))) : JM l G yX11_round MX11_round { frames := 3, cells := 1, slots := 22, locals := 67 } [.ref 0, .int a1] (135, fh) (fun r h9 => r = some (.int (-1)) ∧ h9 = (136, hc fh [(81, .inr (7, [.ref 51, .ref 57, .ref 82, .ref 83, .ref 84, .int 0, .int 0])), (57, .inr (9, [.ref 1, .ref 51, .ref 58, .ref 61, .ref 62, .ref 135, .ref 64, .int 0, .int 0, .int 0])), (62, .inl (0, 1260, .inl (upd (fun _ => 0) 0 (-1)))), (135, .inl (0, 22, .inl (fun _ => 0))), (59, .inl (0, 8, .inl (upd (upd (fun _ => 0) 6 0) 7 0)))])) := by
  refine JM.of (by decide) rfl (fun h => by cases h) (Nat.le_of_ble_eq_true rfl) ⟨1, rfl⟩ ?_
  refine J_hc0 (J_ls (ls2 := [some (.ref 0), some (.int a1), none]) rfl ?_)
  refine J_aload_n dX11_round_0 rfl rfl ?_
  refine J_get (v := .ref 51) dX11_round_1 fl_X11_27 hk0 rfl ?_
  refine J_callV (st := []) dX11_round_4 cv_X11_132 (c_X0_many_1 hk51) hk51 rfl rfl (Nat.le_of_ble_eq_true rfl) ⟨(Nat.le_of_ble_eq_true rfl), (Nat.le_of_ble_eq_true rfl)⟩ ⟨(Nat.le_of_ble_eq_true rfl), (Nat.le_of_ble_eq_true rfl)⟩ (fun r h9 hp => ?_)
  obtain ⟨rfl, rfl⟩ := hp
  refine J_nf (nh2 := 135) (ck2 := 0) (sk2 := 0) (st2 := [.int 1]) rfl rfl rfl rfl ?_
  refine J_bipush (v := 14) dX11_round_7 (by decide +kernel) ?_
  refine J_icmp_le (tgt := 14) dX11_round_9 (by decide) (fun _ => ?_) (fun q => absurd (by decide +kernel) q)
  refine J_aload_n dX11_round_14 rfl rfl ?_
  refine J_get (v := .ref 57) dX11_round_15 fl_X11_43 hk0 rfl ?_
  refine J_callV (st := []) dX11_round_18 cv_X11_217 (c_X9_prepare_1 hk1 hk3 hk51 hk57 hk58 hk59 hk62 hk63) hk57 rfl rfl (Nat.le_of_ble_eq_true rfl) ⟨(Nat.le_of_ble_eq_true rfl), (Nat.le_of_ble_eq_true rfl)⟩ ⟨(Nat.le_of_ble_eq_true rfl), (Nat.le_of_ble_eq_true rfl)⟩ (fun r h9 hp => ?_)
  obtain ⟨rfl, rfl⟩ := hp
  refine J_nf (nh2 := 136) (ck2 := 1) (sk2 := 22) (st2 := []) rfl rfl rfl rfl ?_
  refine J_app (L3 := [(57, .inr (9, [.ref 1, .ref 51, .ref 58, .ref 61, .ref 62, .ref 135, .ref 64, .int 0, .int 0, .int 0])), (62, .inl (0, 1260, .inl (upd (fun _ => 0) 0 (-1)))), (135, .inl (0, 22, .inl (fun _ => 0))), (59, .inl (0, 8, .inl (upd (upd (fun _ => 0) 6 0) 7 0)))]) rfl ?_
  refine J_aload_n dX11_round_21 rfl rfl ?_
  refine J_get (v := .ref 81) dX11_round_22 fl_X11_66 hk0 rfl ?_
  refine J_callV (st := []) dX11_round_25 cv_X11_260 (c_X7_exists_1 hk51 rfl hk81) hk81 rfl rfl (Nat.le_of_ble_eq_true rfl) ⟨(Nat.le_of_ble_eq_true rfl), (Nat.le_of_ble_eq_true rfl)⟩ ⟨(Nat.le_of_ble_eq_true rfl), (Nat.le_of_ble_eq_true rfl)⟩ (fun r h9 hp => ?_)
  obtain ⟨rfl, rfl⟩ := hp
  refine J_nf (nh2 := 136) (ck2 := 1) (sk2 := 22) (st2 := [.int 0]) rfl rfl rfl rfl ?_
  refine J_app (L3 := [(81, .inr (7, [.ref 51, .ref 57, .ref 82, .ref 83, .ref 84, .int 0, .int 0])), (57, .inr (9, [.ref 1, .ref 51, .ref 58, .ref 61, .ref 62, .ref 135, .ref 64, .int 0, .int 0, .int 0])), (62, .inl (0, 1260, .inl (upd (fun _ => 0) 0 (-1)))), (135, .inl (0, 22, .inl (fun _ => 0))), (59, .inl (0, 8, .inl (upd (upd (fun _ => 0) 6 0) 7 0)))]) rfl ?_
  refine J_istore_n dX11_round_28 rfl (Nat.le_of_ble_eq_true rfl) rfl ?_
  refine J_iload_n dX11_round_29 rfl rfl ?_
  refine J_iconst (v := (-1)) dX11_round_30 (by decide) ?_
  refine J_icmp_ne (tgt := 44) dX11_round_31 (by decide) (fun _ => ?_) (fun q => absurd q (by have hb0 := b_a1; simp only [fa_lt, fa_le, fa_eq, kc_m1]; omega))
  refine J_iload_n dX11_round_44 rfl rfl ?_
  refine J_if_eq (tgt := 59) dX11_round_45 (by decide) (fun _ => ?_) (fun q => absurd (by decide +kernel) q)
  refine J_iconst (v := (-1)) dX11_round_59 (by decide) ?_
  exact J_iret dX11_round_60 rfl rfl (Nat.le_of_ble_eq_true rfl) (Nat.le_of_ble_eq_true rfl) ⟨rfl, rfl⟩
set_option maxHeartbeats 4000000 in
set_option maxRecDepth 100000 in
theorem c_X12_stepBetween_1 {l : Launch} {G : jG} {nh : Nat} {fh : Nat → Option va_E} (hk98 : fh 98 = some (.inr (12, [.int 0, .int 0, .ref 99, .ref 100, .ref 101, .ref 102, .ref 103, .ref 104, .ref 105, .int 0, .int (-1), .ref 106, .ref 107, .ref 108, .int 0, .int 0, .int 0, .int 0, .int 0, .int 0, .int 0, .ref 109, .int 0, .int 0, .ref 110, .ref 111, .ref 112, .ref 113, .ref 114, .ref 115, .ref 116, .ref 117, .int 1, .int 0, .int 0, .int 0, .ref 118, .ref 119, .ref 120, .ref 121, .ref 122, .ref 123, .ref 124, .ref 125, .ref 126, .ref 127, .ref 128, .ref 129, .int 0, .ref 130, .ref 131, .ref 132, .ref 133, .ref 134, .int 0, .int 0]))) (hk114 : fh 114 = some (.inl (0, 1260, .inl (upd (fun _ => 0) 0 0)))) : JM l G yX12_stepBetween MX12_stepBetween { frames := 0, cells := 0, slots := 0, locals := 0 } [.ref 98, .int 0, .int 0] (nh, fh) (fun r h9 => r = some (.int (-1)) ∧ h9 = (nh, fh)) := by
  refine JM.of (by decide) rfl (fun h => by cases h) (Nat.le_of_ble_eq_true rfl) ⟨1, rfl⟩ ?_
  refine J_hc0 (J_ls (ls2 := [some (.ref 98), some (.int 0), some (.int 0), none]) rfl ?_)
  refine J_iconst (v := 0) dX12_stepBetween_0 (by decide) ?_
  refine J_istore_n dX12_stepBetween_1 rfl (Nat.le_of_ble_eq_true rfl) rfl ?_
  refine J_iload_n dX12_stepBetween_2 rfl rfl ?_
  refine J_aload_n dX12_stepBetween_3 rfl rfl ?_
  refine J_get (v := .ref 114) dX12_stepBetween_4 fl_X12_67 hk98 rfl ?_
  refine J_iload_n dX12_stepBetween_7 rfl rfl ?_
  refine J_iald (i2 := 0) (v := 0) dX12_stepBetween_8 hk114 rfl (jin (by decide +kernel)) (by decide +kernel) rfl ?_
  refine J_icmp_ge (tgt := 35) dX12_stepBetween_9 (by decide) (fun _ => ?_) (fun q => absurd (by decide +kernel) q)
  refine J_iconst (v := (-1)) dX12_stepBetween_35 (by decide) ?_
  exact J_iret dX12_stepBetween_36 rfl rfl (Nat.le_of_ble_eq_true rfl) (Nat.le_of_ble_eq_true rfl) ⟨rfl, rfl⟩
set_option maxHeartbeats 4000000 in
set_option maxRecDepth 100000 in
theorem c_X12_endsBy_1 {l : Launch} {G : jG} {nh : Nat} {fh : Nat → Option va_E} (hk98 : fh 98 = some (.inr (12, [.int 0, .int 0, .ref 99, .ref 100, .ref 101, .ref 102, .ref 103, .ref 104, .ref 105, .int 0, .int (-1), .ref 106, .ref 107, .ref 108, .int 0, .int 0, .int 0, .int 0, .int 0, .int 0, .int 0, .ref 109, .int 0, .int 0, .ref 110, .ref 111, .ref 112, .ref 113, .ref 114, .ref 115, .ref 116, .ref 117, .int 1, .int 0, .int 0, .int 0, .ref 118, .ref 119, .ref 120, .ref 121, .ref 122, .ref 123, .ref 124, .ref 125, .ref 126, .ref 127, .ref 128, .ref 129, .int 0, .ref 130, .ref 131, .ref 132, .ref 133, .ref 134, .int 0, .int 0]))) (hk114 : fh 114 = some (.inl (0, 1260, .inl (upd (fun _ => 0) 0 0)))) : JM l G yX12_endsBy MX12_endsBy { frames := 1, cells := 0, slots := 0, locals := 23 } [.ref 98, .int 1, .int 0, .int 1] (nh, fh) (fun r h9 => r = some (.int 0) ∧ h9 = (nh, fh)) := by
  refine JM.of (by decide) rfl (fun h => by cases h) (Nat.le_of_ble_eq_true rfl) ⟨2, rfl⟩ ?_
  refine J_hc0 (J_ls (ls2 := [some (.ref 98), some (.int 1), some (.int 0), some (.int 1), none, none]) rfl ?_)
  refine J_iload_n dX12_endsBy_0 rfl rfl ?_
  refine J_iload_n dX12_endsBy_1 rfl rfl ?_
  refine J_icmp_ne (tgt := 21) dX12_endsBy_2 (by decide) (fun q => absurd (by decide +kernel) q) (fun _ => ?_)
  refine J_aload_n dX12_endsBy_5 rfl rfl ?_
  refine J_iload_n dX12_endsBy_6 rfl rfl ?_
  refine J_iconst (v := 0) dX12_endsBy_7 (by decide) ?_
  refine J_callV (st := []) dX12_endsBy_8 cv_X12_340 (c_X12_stepBetween_1 hk98 hk114) hk98 rfl rfl (Nat.le_of_ble_eq_true rfl) ⟨(Nat.le_of_ble_eq_true rfl), (Nat.le_of_ble_eq_true rfl)⟩ ⟨(Nat.le_of_ble_eq_true rfl), (Nat.le_of_ble_eq_true rfl)⟩ (fun r h9 hp => ?_)
  obtain ⟨rfl, rfl⟩ := hp
  refine J_nf (nh2 := nh) (ck2 := 0) (sk2 := 0) (st2 := [.int (-1)]) rfl rfl rfl rfl ?_
  refine J_iconst (v := (-1)) dX12_endsBy_11 (by decide) ?_
  refine J_icmp_eq (tgt := 19) dX12_endsBy_12 (by decide) (fun _ => ?_) (fun q => absurd (by decide +kernel) q)
  refine J_iconst (v := 0) dX12_endsBy_19 (by decide) ?_
  exact J_iret dX12_endsBy_20 rfl (by decide +kernel) (Nat.le_of_ble_eq_true rfl) (Nat.le_of_ble_eq_true rfl) ⟨rfl, rfl⟩
set_option maxHeartbeats 4000000 in
set_option maxRecDepth 100000 in
theorem c_X12_findsRound_1 {l : Launch} {G : jG} {nh : Nat} {fh : Nat → Option va_E} (hk98 : fh 98 = some (.inr (12, [.int 0, .int 0, .ref 99, .ref 100, .ref 101, .ref 102, .ref 103, .ref 104, .ref 105, .int 0, .int (-1), .ref 106, .ref 107, .ref 108, .int 0, .int 0, .int 0, .int 0, .int 0, .int 0, .int 0, .ref 109, .int 0, .int 0, .ref 110, .ref 111, .ref 112, .ref 113, .ref 114, .ref 115, .ref 116, .ref 117, .int 1, .int 0, .int 0, .int 0, .ref 118, .ref 119, .ref 120, .ref 121, .ref 122, .ref 123, .ref 124, .ref 125, .ref 126, .ref 127, .ref 128, .ref 129, .int 0, .ref 130, .ref 131, .ref 132, .ref 133, .ref 134, .int 0, .int 0]))) (hk114 : fh 114 = some (.inl (0, 1260, .inl (upd (fun _ => 0) 0 0)))) (hk129 : fh 129 = some (.inl (2, 229376, .inl (fun _ => 0)))) : JM l G yX12_findsRound MX12_findsRound { frames := 2, cells := 0, slots := 0, locals := 48 } [.ref 98] (nh, fh) (fun r h9 => r = some (.int 0) ∧ h9 = (nh, hc fh [(129, .inl (2, 229376, .inl (upd (fun _ => 0) 14 0)))])) := by
  refine JM.of (by decide) rfl (fun h => by cases h) (Nat.le_of_ble_eq_true rfl) ⟨3, rfl⟩ ?_
  refine J_hc0 (J_ls (ls2 := [some (.ref 98), none, none, none]) rfl ?_)
  refine J_iconst (v := 1) dX12_findsRound_0 (by decide) ?_
  refine J_aload_n dX12_findsRound_1 rfl rfl ?_
  refine J_get (v := .int 1) dX12_findsRound_2 fl_X12_298 hk98 rfl ?_
  refine J_ishl (z := 2) dX12_findsRound_5 (by decide +kernel) ?_
  refine J_iconst (v := 1) dX12_findsRound_6 (by decide) ?_
  refine J_isub (z := 1) dX12_findsRound_7 (by decide +kernel) ?_
  refine J_istore_n dX12_findsRound_8 rfl (Nat.le_of_ble_eq_true rfl) rfl ?_
  refine J_iload_n dX12_findsRound_9 rfl rfl ?_
  refine J_istore_n dX12_findsRound_10 rfl (Nat.le_of_ble_eq_true rfl) rfl ?_
  refine J_iload_n dX12_findsRound_11 rfl rfl ?_
  refine J_if_le (tgt := 72) dX12_findsRound_12 (by decide) (fun q => absurd q (by decide +kernel)) (fun _ => ?_)
  refine J_iconst (v := 0) dX12_findsRound_15 (by decide) ?_
  refine J_istore_n dX12_findsRound_16 rfl (Nat.le_of_ble_eq_true rfl) rfl ?_
  refine J_iload_n dX12_findsRound_17 rfl rfl ?_
  refine J_aload_n dX12_findsRound_18 rfl rfl ?_
  refine J_get (v := .int 1) dX12_findsRound_19 fl_X12_298 hk98 rfl ?_
  refine J_icmp_ge (tgt := 66) dX12_findsRound_22 (by decide) (fun q => absurd q (by decide +kernel)) (fun _ => ?_)
  refine J_aload_n dX12_findsRound_25 rfl rfl ?_
  refine J_get (v := .ref 129) dX12_findsRound_26 fl_X12_120 hk98 rfl ?_
  refine J_iload_n dX12_findsRound_29 rfl rfl ?_
  refine J_bipush (v := 14) dX12_findsRound_30 (by decide +kernel) ?_
  refine J_imul (z := 14) dX12_findsRound_32 (by decide +kernel) ?_
  refine J_iload_n dX12_findsRound_33 rfl rfl ?_
  refine J_iadd (z := 14) dX12_findsRound_34 (by decide +kernel) ?_
  refine J_iload_n dX12_findsRound_35 rfl rfl ?_
  refine J_iload_n dX12_findsRound_36 rfl rfl ?_
  refine J_ishr (z := 1) dX12_findsRound_37 (by decide +kernel) ?_
  refine J_iconst (v := 1) dX12_findsRound_38 (by decide) ?_
  refine J_iand (z := 1) dX12_findsRound_39 (by decide +kernel) ?_
  refine J_iconst (v := 1) dX12_findsRound_40 (by decide) ?_
  refine J_icmp_ne (tgt := 58) dX12_findsRound_41 (by decide) (fun q => absurd (by decide +kernel) q) (fun _ => ?_)
  refine J_aload_n dX12_findsRound_44 rfl rfl ?_
  refine J_iload_n dX12_findsRound_45 rfl rfl ?_
  refine J_iload_n dX12_findsRound_46 rfl rfl ?_
  refine J_iload_n dX12_findsRound_47 rfl rfl ?_
  refine J_callV (st := [.int 14, .ref 129]) dX12_findsRound_48 cv_X12_348 (c_X12_endsBy_1 hk98 hk114) hk98 rfl rfl (Nat.le_of_ble_eq_true rfl) ⟨(Nat.le_of_ble_eq_true rfl), (Nat.le_of_ble_eq_true rfl)⟩ ⟨(Nat.le_of_ble_eq_true rfl), (Nat.le_of_ble_eq_true rfl)⟩ (fun r h9 hp => ?_)
  obtain ⟨rfl, rfl⟩ := hp
  refine J_nf (nh2 := nh) (ck2 := 0) (sk2 := 0) (st2 := [.int 0, .int 14, .ref 129]) rfl rfl rfl rfl ?_
  refine J_if_eq (tgt := 58) dX12_findsRound_51 (by decide) (fun _ => ?_) (fun q => absurd (by decide +kernel) q)
  refine J_iconst (v := 0) dX12_findsRound_58 (by decide) ?_
  refine K_zast (i2 := 14) (y := 0) dX12_findsRound_59 hk129 rfl (jin (by decide +kernel)) (by decide +kernel) (by decide +kernel) ?_
  refine J_iinc (v := 1) dX12_findsRound_60 rfl (by decide +kernel) (Nat.le_of_ble_eq_true rfl) rfl ?_
  refine J_ls (ls2 := [some (.ref 98), some (.int 1), some (.int 1), some (.int 1)]) rfl ?_
  refine J_goto (tgt := 17) dX12_findsRound_63 (by decide) ?_
  refine J_iload_n dX12_findsRound_17 rfl rfl ?_
  refine J_aload_n dX12_findsRound_18 rfl rfl ?_
  refine J_get (v := .int 1) dX12_findsRound_19 fl_X12_298 hk98 rfl ?_
  refine J_icmp_ge (tgt := 66) dX12_findsRound_22 (by decide) (fun _ => ?_) (fun q => absurd (by decide +kernel) q)
  refine J_iinc (v := 0) dX12_findsRound_66 rfl (by decide +kernel) (Nat.le_of_ble_eq_true rfl) rfl ?_
  refine J_ls (ls2 := [some (.ref 98), some (.int 1), some (.int 0), some (.int 1)]) rfl ?_
  refine J_goto (tgt := 11) dX12_findsRound_69 (by decide) ?_
  refine J_iload_n dX12_findsRound_11 rfl rfl ?_
  refine J_if_le (tgt := 72) dX12_findsRound_12 (by decide) (fun _ => ?_) (fun q => absurd (by decide +kernel) q)
  refine J_aload_n dX12_findsRound_72 rfl rfl ?_
  refine J_get (v := .int 1) dX12_findsRound_73 fl_X12_298 hk98 rfl ?_
  refine J_iconst (v := 1) dX12_findsRound_76 (by decide) ?_
  refine J_icmp_le (tgt := 94) dX12_findsRound_77 (by decide) (fun _ => ?_) (fun q => absurd (by decide +kernel) q)
  refine J_iconst (v := 0) dX12_findsRound_94 (by decide) ?_
  exact J_iret dX12_findsRound_95 rfl (by decide +kernel) (Nat.le_of_ble_eq_true rfl) (Nat.le_of_ble_eq_true rfl) ⟨rfl, rfl⟩
set_option maxHeartbeats 4000000 in
set_option maxRecDepth 100000 in
theorem c_X12_round_1 {l : Launch} {G : jG} {nh : Nat} {fh : Nat → Option va_E} (a1 : Int32) (b_a1 : (-2147483648) ≤ a1.toInt ∧ a1.toInt ≤ (-2)) (hk98 : fh 98 = some (.inr (12, [.int 0, .int 0, .ref 99, .ref 100, .ref 101, .ref 102, .ref 103, .ref 104, .ref 105, .int 0, .int (-1), .ref 106, .ref 107, .ref 108, .int 0, .int 0, .int 0, .int 0, .int 0, .int 0, .int 0, .ref 109, .int 0, .int 0, .ref 110, .ref 111, .ref 112, .ref 113, .ref 114, .ref 115, .ref 116, .ref 117, .int 0, .int 0, .int (-1), .int (-1), .ref 118, .ref 119, .ref 120, .ref 121, .ref 122, .ref 123, .ref 124, .ref 125, .ref 126, .ref 127, .ref 128, .ref 129, .int 0, .ref 130, .ref 131, .ref 132, .ref 133, .ref 134, .int 0, .int 0]))) (hk100 : fh 100 = some (.inl (0, 4870, .inl (upd (fun _ => 0) 63 (-1))))) (hk111 : fh 111 = some (.inl (0, 1260, .inl (fun _ => 0)))) (hk114 : fh 114 = some (.inl (0, 1260, .inl (fun _ => 0)))) (hk116 : fh 116 = some (.inl (0, 1260, .inl (fun _ => 0)))) (hk129 : fh 129 = some (.inl (2, 229376, .inl (fun _ => 0)))) : JM l G yX12_round MX12_round { frames := 3, cells := 0, slots := 0, locals := 71 } [.ref 98, .int a1] (nh, fh) (fun r h9 => r = some (.int (-1)) ∧ h9 = (nh, hc fh [(129, .inl (2, 229376, .inl (upd (fun _ => 0) 14 0))), (114, .inl (0, 1260, .inl (upd (fun _ => 0) 0 0))), (116, .inl (0, 1260, .inl (upd (fun _ => 0) 0 0))), (98, .inr (12, [.int 0, .int 0, .ref 99, .ref 100, .ref 101, .ref 102, .ref 103, .ref 104, .ref 105, .int 0, .int (-1), .ref 106, .ref 107, .ref 108, .int 0, .int 0, .int 0, .int 0, .int 0, .int 0, .int 0, .ref 109, .int 0, .int 0, .ref 110, .ref 111, .ref 112, .ref 113, .ref 114, .ref 115, .ref 116, .ref 117, .int 1, .int 0, .int 0, .int 0, .ref 118, .ref 119, .ref 120, .ref 121, .ref 122, .ref 123, .ref 124, .ref 125, .ref 126, .ref 127, .ref 128, .ref 129, .int 0, .ref 130, .ref 131, .ref 132, .ref 133, .ref 134, .int 0, .int 0])), (111, .inl (0, 1260, .inl (upd (fun _ => 0) 0 0)))])) := by
  refine JM.of (by decide) rfl (fun h => by cases h) (Nat.le_of_ble_eq_true rfl) ⟨5, rfl⟩ ?_
  refine J_hc0 (J_ls (ls2 := [some (.ref 98), some (.int a1), none, none, none, none, none]) rfl ?_)
  refine J_aload_n dX12_round_0 rfl rfl ?_
  refine J_callV (st := []) dX12_round_1 cv_X12_159 (c_X12_laysHouses_1 hk98 hk100 hk111) hk98 rfl rfl (Nat.le_of_ble_eq_true rfl) ⟨(Nat.le_of_ble_eq_true rfl), (Nat.le_of_ble_eq_true rfl)⟩ ⟨(Nat.le_of_ble_eq_true rfl), (Nat.le_of_ble_eq_true rfl)⟩ (fun r h9 hp => ?_)
  obtain ⟨rfl, rfl⟩ := hp
  refine J_nf (nh2 := nh) (ck2 := 0) (sk2 := 0) (st2 := []) rfl rfl rfl rfl ?_
  refine J_app (L3 := [(98, .inr (12, [.int 0, .int 0, .ref 99, .ref 100, .ref 101, .ref 102, .ref 103, .ref 104, .ref 105, .int 0, .int (-1), .ref 106, .ref 107, .ref 108, .int 0, .int 0, .int 0, .int 0, .int 0, .int 0, .int 0, .ref 109, .int 0, .int 0, .ref 110, .ref 111, .ref 112, .ref 113, .ref 114, .ref 115, .ref 116, .ref 117, .int 1, .int 0, .int 0, .int (-1), .ref 118, .ref 119, .ref 120, .ref 121, .ref 122, .ref 123, .ref 124, .ref 125, .ref 126, .ref 127, .ref 128, .ref 129, .int 0, .ref 130, .ref 131, .ref 132, .ref 133, .ref 134, .int 0, .int 0])), (111, .inl (0, 1260, .inl (upd (fun _ => 0) 0 0)))]) rfl ?_
  refine J_aload_n dX12_round_4 rfl rfl ?_
  refine J_get (v := .int 1) dX12_round_5 fl_X12_298 rfl rfl ?_
  refine J_bipush (v := 14) dX12_round_8 (by decide +kernel) ?_
  refine J_icmp_le (tgt := 15) dX12_round_10 (by decide) (fun _ => ?_) (fun q => absurd (by decide +kernel) q)
  refine J_aload_n dX12_round_15 rfl rfl ?_
  refine J_callV (st := []) dX12_round_16 cv_X12_328 (c_X12_looks_1 rfl hk100 hk114 hk116) rfl rfl rfl (Nat.le_of_ble_eq_true rfl) ⟨(Nat.le_of_ble_eq_true rfl), (Nat.le_of_ble_eq_true rfl)⟩ ⟨(Nat.le_of_ble_eq_true rfl), (Nat.le_of_ble_eq_true rfl)⟩ (fun r h9 hp => ?_)
  obtain ⟨rfl, rfl⟩ := hp
  refine J_nf (nh2 := nh) (ck2 := 0) (sk2 := 0) (st2 := []) rfl rfl rfl rfl ?_
  refine J_app (L3 := [(114, .inl (0, 1260, .inl (upd (fun _ => 0) 0 0))), (116, .inl (0, 1260, .inl (upd (fun _ => 0) 0 0))), (98, .inr (12, [.int 0, .int 0, .ref 99, .ref 100, .ref 101, .ref 102, .ref 103, .ref 104, .ref 105, .int 0, .int (-1), .ref 106, .ref 107, .ref 108, .int 0, .int 0, .int 0, .int 0, .int 0, .int 0, .int 0, .ref 109, .int 0, .int 0, .ref 110, .ref 111, .ref 112, .ref 113, .ref 114, .ref 115, .ref 116, .ref 117, .int 1, .int 0, .int 0, .int 0, .ref 118, .ref 119, .ref 120, .ref 121, .ref 122, .ref 123, .ref 124, .ref 125, .ref 126, .ref 127, .ref 128, .ref 129, .int 0, .ref 130, .ref 131, .ref 132, .ref 133, .ref 134, .int 0, .int 0])), (98, .inr (12, [.int 0, .int 0, .ref 99, .ref 100, .ref 101, .ref 102, .ref 103, .ref 104, .ref 105, .int 0, .int (-1), .ref 106, .ref 107, .ref 108, .int 0, .int 0, .int 0, .int 0, .int 0, .int 0, .int 0, .ref 109, .int 0, .int 0, .ref 110, .ref 111, .ref 112, .ref 113, .ref 114, .ref 115, .ref 116, .ref 117, .int 1, .int 0, .int 0, .int (-1), .ref 118, .ref 119, .ref 120, .ref 121, .ref 122, .ref 123, .ref 124, .ref 125, .ref 126, .ref 127, .ref 128, .ref 129, .int 0, .ref 130, .ref 131, .ref 132, .ref 133, .ref 134, .int 0, .int 0])), (111, .inl (0, 1260, .inl (upd (fun _ => 0) 0 0)))]) rfl ?_
  refine J_aload_n dX12_round_19 rfl rfl ?_
  refine J_callV (st := []) dX12_round_20 cv_X12_351 (c_X12_findsRound_1 rfl rfl hk129) rfl rfl rfl (Nat.le_of_ble_eq_true rfl) ⟨(Nat.le_of_ble_eq_true rfl), (Nat.le_of_ble_eq_true rfl)⟩ ⟨(Nat.le_of_ble_eq_true rfl), (Nat.le_of_ble_eq_true rfl)⟩ (fun r h9 hp => ?_)
  obtain ⟨rfl, rfl⟩ := hp
  refine J_nf (nh2 := nh) (ck2 := 0) (sk2 := 0) (st2 := [.int 0]) rfl rfl rfl rfl ?_
  refine J_app (L3 := [(129, .inl (2, 229376, .inl (upd (fun _ => 0) 14 0))), (114, .inl (0, 1260, .inl (upd (fun _ => 0) 0 0))), (116, .inl (0, 1260, .inl (upd (fun _ => 0) 0 0))), (98, .inr (12, [.int 0, .int 0, .ref 99, .ref 100, .ref 101, .ref 102, .ref 103, .ref 104, .ref 105, .int 0, .int (-1), .ref 106, .ref 107, .ref 108, .int 0, .int 0, .int 0, .int 0, .int 0, .int 0, .int 0, .ref 109, .int 0, .int 0, .ref 110, .ref 111, .ref 112, .ref 113, .ref 114, .ref 115, .ref 116, .ref 117, .int 1, .int 0, .int 0, .int 0, .ref 118, .ref 119, .ref 120, .ref 121, .ref 122, .ref 123, .ref 124, .ref 125, .ref 126, .ref 127, .ref 128, .ref 129, .int 0, .ref 130, .ref 131, .ref 132, .ref 133, .ref 134, .int 0, .int 0])), (98, .inr (12, [.int 0, .int 0, .ref 99, .ref 100, .ref 101, .ref 102, .ref 103, .ref 104, .ref 105, .int 0, .int (-1), .ref 106, .ref 107, .ref 108, .int 0, .int 0, .int 0, .int 0, .int 0, .int 0, .int 0, .ref 109, .int 0, .int 0, .ref 110, .ref 111, .ref 112, .ref 113, .ref 114, .ref 115, .ref 116, .ref 117, .int 1, .int 0, .int 0, .int (-1), .ref 118, .ref 119, .ref 120, .ref 121, .ref 122, .ref 123, .ref 124, .ref 125, .ref 126, .ref 127, .ref 128, .ref 129, .int 0, .ref 130, .ref 131, .ref 132, .ref 133, .ref 134, .int 0, .int 0])), (111, .inl (0, 1260, .inl (upd (fun _ => 0) 0 0)))]) rfl ?_
  refine J_istore_n dX12_round_23 rfl (Nat.le_of_ble_eq_true rfl) rfl ?_
  refine J_iload_n dX12_round_24 rfl rfl ?_
  refine J_iconst (v := (-1)) dX12_round_25 (by decide) ?_
  refine J_icmp_ne (tgt := 39) dX12_round_26 (by decide) (fun _ => ?_) (fun q => absurd q (by have hb0 := b_a1; simp only [fa_lt, fa_le, fa_eq, kc_m1]; omega))
  refine J_iload_n dX12_round_39 rfl rfl ?_
  refine J_if_eq (tgt := 57) dX12_round_40 (by decide) (fun _ => ?_) (fun q => absurd (by decide +kernel) q)
  refine J_iconst (v := (-1)) dX12_round_57 (by decide) ?_
  refine J_mask (L2 := [(129, .inl (2, 229376, .inl (upd (fun _ => 0) 14 0))), (114, .inl (0, 1260, .inl (upd (fun _ => 0) 0 0))), (116, .inl (0, 1260, .inl (upd (fun _ => 0) 0 0))), (98, .inr (12, [.int 0, .int 0, .ref 99, .ref 100, .ref 101, .ref 102, .ref 103, .ref 104, .ref 105, .int 0, .int (-1), .ref 106, .ref 107, .ref 108, .int 0, .int 0, .int 0, .int 0, .int 0, .int 0, .int 0, .ref 109, .int 0, .int 0, .ref 110, .ref 111, .ref 112, .ref 113, .ref 114, .ref 115, .ref 116, .ref 117, .int 1, .int 0, .int 0, .int 0, .ref 118, .ref 119, .ref 120, .ref 121, .ref 122, .ref 123, .ref 124, .ref 125, .ref 126, .ref 127, .ref 128, .ref 129, .int 0, .ref 130, .ref 131, .ref 132, .ref 133, .ref 134, .int 0, .int 0])), (111, .inl (0, 1260, .inl (upd (fun _ => 0) 0 0)))]) (ks := [129, 114, 116, 98, 98, 111]) [true, true, true, true, false, true] rfl (by decide +kernel) rfl ?_
  exact J_iret dX12_round_58 rfl rfl (Nat.le_of_ble_eq_true rfl) (Nat.le_of_ble_eq_true rfl) ⟨rfl, rfl⟩
set_option maxHeartbeats 4000000 in
set_option maxRecDepth 100000 in
theorem c_X11_round_2 {l : Launch} {G : jG} {fh : Nat → Option va_E} (hk0 : fh 0 = some (.inr (11, [.ref 1, .ref 17, .ref 50, .ref 51, .ref 54, .ref 57, .ref 65, .ref 75, .ref 81, .ref 85, .ref 88, .ref 93, .ref 96, .int 0, .int (-1), .ref 97, .int 0]))) (hk1 : fh 1 = some (.inr (8, [.ref 2, .ref 3, .ref 4, .int 0, .int (-1), .ref 11, .ref 12, .int 0, .ref 13, .ref 14, .int 0, .ref 15, .ref 16, .int 0]))) (hk3 : fh 3 = some (.inl (0, 2, .inl (fun _ => 0)))) (hk51 : fh 51 = some (.inr (0, [.ref 52, .ref 53, .int 1, .int 0]))) (hk57 : fh 57 = some (.inr (9, [.ref 1, .ref 51, .ref 58, .ref 61, .ref 62, .ref 63, .ref 64, .int 0, .int 1, .int 1]))) (hk58 : fh 58 = some (.inr (1, [.ref 59, .ref 60, .int 0, .int 0, .int 0, .int 0, .int 0, .int 1]))) (hk59 : fh 59 = some (.inl (0, 8, .inl (fun _ => 0)))) (hk62 : fh 62 = some (.inl (0, 1260, .inl (fun _ => 0)))) (hk63 : fh 63 = some (.inl (0, 0, .inl (fun _ => 0)))) (hk81 : fh 81 = some (.inr (7, [.ref 51, .ref 57, .ref 82, .ref 83, .ref 84, .int 0, .int (-1)]))) : JM l G yX11_round MX11_round { frames := 3, cells := 1, slots := 22, locals := 67 } [.ref 0, .int (-1)] (135, fh) (fun r h9 => r = some (.int 0) ∧ h9 = (136, hc fh [(81, .inr (7, [.ref 51, .ref 57, .ref 82, .ref 83, .ref 84, .int 0, .int 0])), (57, .inr (9, [.ref 1, .ref 51, .ref 58, .ref 61, .ref 62, .ref 135, .ref 64, .int 0, .int 0, .int 0])), (62, .inl (0, 1260, .inl (upd (fun _ => 0) 0 (-1)))), (135, .inl (0, 22, .inl (fun _ => 0))), (59, .inl (0, 8, .inl (upd (upd (fun _ => 0) 6 0) 7 0)))])) := by
  refine JM.of (by decide) rfl (fun h => by cases h) (Nat.le_of_ble_eq_true rfl) ⟨1, rfl⟩ ?_
  refine J_hc0 (J_ls (ls2 := [some (.ref 0), some (.int (-1)), none]) rfl ?_)
  refine J_aload_n dX11_round_0 rfl rfl ?_
  refine J_get (v := .ref 51) dX11_round_1 fl_X11_27 hk0 rfl ?_
  refine J_callV (st := []) dX11_round_4 cv_X11_132 (c_X0_many_1 hk51) hk51 rfl rfl (Nat.le_of_ble_eq_true rfl) ⟨(Nat.le_of_ble_eq_true rfl), (Nat.le_of_ble_eq_true rfl)⟩ ⟨(Nat.le_of_ble_eq_true rfl), (Nat.le_of_ble_eq_true rfl)⟩ (fun r h9 hp => ?_)
  obtain ⟨rfl, rfl⟩ := hp
  refine J_nf (nh2 := 135) (ck2 := 0) (sk2 := 0) (st2 := [.int 1]) rfl rfl rfl rfl ?_
  refine J_bipush (v := 14) dX11_round_7 (by decide +kernel) ?_
  refine J_icmp_le (tgt := 14) dX11_round_9 (by decide) (fun _ => ?_) (fun q => absurd (by decide +kernel) q)
  refine J_aload_n dX11_round_14 rfl rfl ?_
  refine J_get (v := .ref 57) dX11_round_15 fl_X11_43 hk0 rfl ?_
  refine J_callV (st := []) dX11_round_18 cv_X11_217 (c_X9_prepare_1 hk1 hk3 hk51 hk57 hk58 hk59 hk62 hk63) hk57 rfl rfl (Nat.le_of_ble_eq_true rfl) ⟨(Nat.le_of_ble_eq_true rfl), (Nat.le_of_ble_eq_true rfl)⟩ ⟨(Nat.le_of_ble_eq_true rfl), (Nat.le_of_ble_eq_true rfl)⟩ (fun r h9 hp => ?_)
  obtain ⟨rfl, rfl⟩ := hp
  refine J_nf (nh2 := 136) (ck2 := 1) (sk2 := 22) (st2 := []) rfl rfl rfl rfl ?_
  refine J_app (L3 := [(57, .inr (9, [.ref 1, .ref 51, .ref 58, .ref 61, .ref 62, .ref 135, .ref 64, .int 0, .int 0, .int 0])), (62, .inl (0, 1260, .inl (upd (fun _ => 0) 0 (-1)))), (135, .inl (0, 22, .inl (fun _ => 0))), (59, .inl (0, 8, .inl (upd (upd (fun _ => 0) 6 0) 7 0)))]) rfl ?_
  refine J_aload_n dX11_round_21 rfl rfl ?_
  refine J_get (v := .ref 81) dX11_round_22 fl_X11_66 hk0 rfl ?_
  refine J_callV (st := []) dX11_round_25 cv_X11_260 (c_X7_exists_1 hk51 rfl hk81) hk81 rfl rfl (Nat.le_of_ble_eq_true rfl) ⟨(Nat.le_of_ble_eq_true rfl), (Nat.le_of_ble_eq_true rfl)⟩ ⟨(Nat.le_of_ble_eq_true rfl), (Nat.le_of_ble_eq_true rfl)⟩ (fun r h9 hp => ?_)
  obtain ⟨rfl, rfl⟩ := hp
  refine J_nf (nh2 := 136) (ck2 := 1) (sk2 := 22) (st2 := [.int 0]) rfl rfl rfl rfl ?_
  refine J_app (L3 := [(81, .inr (7, [.ref 51, .ref 57, .ref 82, .ref 83, .ref 84, .int 0, .int 0])), (57, .inr (9, [.ref 1, .ref 51, .ref 58, .ref 61, .ref 62, .ref 135, .ref 64, .int 0, .int 0, .int 0])), (62, .inl (0, 1260, .inl (upd (fun _ => 0) 0 (-1)))), (135, .inl (0, 22, .inl (fun _ => 0))), (59, .inl (0, 8, .inl (upd (upd (fun _ => 0) 6 0) 7 0)))]) rfl ?_
  refine J_istore_n dX11_round_28 rfl (Nat.le_of_ble_eq_true rfl) rfl ?_
  refine J_iload_n dX11_round_29 rfl rfl ?_
  refine J_iconst (v := (-1)) dX11_round_30 (by decide) ?_
  refine J_icmp_ne (tgt := 44) dX11_round_31 (by decide) (fun q => absurd (by decide +kernel) q) (fun _ => ?_)
  refine J_iload_n dX11_round_34 rfl rfl ?_
  refine J_if_eq (tgt := 42) dX11_round_35 (by decide) (fun _ => ?_) (fun q => absurd (by decide +kernel) q)
  refine J_iconst (v := 0) dX11_round_42 (by decide) ?_
  exact J_iret dX11_round_43 rfl rfl (Nat.le_of_ble_eq_true rfl) (Nat.le_of_ble_eq_true rfl) ⟨rfl, rfl⟩
set_option maxHeartbeats 4000000 in
set_option maxRecDepth 100000 in
theorem c_X12_round_2 {l : Launch} {G : jG} {nh : Nat} {fh : Nat → Option va_E} (hk98 : fh 98 = some (.inr (12, [.int 0, .int 0, .ref 99, .ref 100, .ref 101, .ref 102, .ref 103, .ref 104, .ref 105, .int 0, .int (-1), .ref 106, .ref 107, .ref 108, .int 0, .int 0, .int 0, .int 0, .int 0, .int 0, .int 0, .ref 109, .int 0, .int 0, .ref 110, .ref 111, .ref 112, .ref 113, .ref 114, .ref 115, .ref 116, .ref 117, .int 0, .int 0, .int (-1), .int (-1), .ref 118, .ref 119, .ref 120, .ref 121, .ref 122, .ref 123, .ref 124, .ref 125, .ref 126, .ref 127, .ref 128, .ref 129, .int 0, .ref 130, .ref 131, .ref 132, .ref 133, .ref 134, .int 0, .int 0]))) (hk100 : fh 100 = some (.inl (0, 4870, .inl (upd (fun _ => 0) 63 (-1))))) (hk111 : fh 111 = some (.inl (0, 1260, .inl (fun _ => 0)))) (hk114 : fh 114 = some (.inl (0, 1260, .inl (fun _ => 0)))) (hk116 : fh 116 = some (.inl (0, 1260, .inl (fun _ => 0)))) (hk129 : fh 129 = some (.inl (2, 229376, .inl (fun _ => 0)))) : JM l G yX12_round MX12_round { frames := 3, cells := 0, slots := 0, locals := 71 } [.ref 98, .int (-1)] (nh, fh) (fun r h9 => r = some (.int 0) ∧ h9 = (nh, hc fh [(129, .inl (2, 229376, .inl (upd (fun _ => 0) 14 0))), (114, .inl (0, 1260, .inl (upd (fun _ => 0) 0 0))), (116, .inl (0, 1260, .inl (upd (fun _ => 0) 0 0))), (98, .inr (12, [.int 0, .int 0, .ref 99, .ref 100, .ref 101, .ref 102, .ref 103, .ref 104, .ref 105, .int 0, .int (-1), .ref 106, .ref 107, .ref 108, .int 0, .int 0, .int 0, .int 0, .int 0, .int 0, .int 0, .ref 109, .int 0, .int 0, .ref 110, .ref 111, .ref 112, .ref 113, .ref 114, .ref 115, .ref 116, .ref 117, .int 1, .int 0, .int 0, .int 0, .ref 118, .ref 119, .ref 120, .ref 121, .ref 122, .ref 123, .ref 124, .ref 125, .ref 126, .ref 127, .ref 128, .ref 129, .int 0, .ref 130, .ref 131, .ref 132, .ref 133, .ref 134, .int 0, .int 0])), (111, .inl (0, 1260, .inl (upd (fun _ => 0) 0 0)))])) := by
  refine JM.of (by decide) rfl (fun h => by cases h) (Nat.le_of_ble_eq_true rfl) ⟨5, rfl⟩ ?_
  refine J_hc0 (J_ls (ls2 := [some (.ref 98), some (.int (-1)), none, none, none, none, none]) rfl ?_)
  refine J_aload_n dX12_round_0 rfl rfl ?_
  refine J_callV (st := []) dX12_round_1 cv_X12_159 (c_X12_laysHouses_1 hk98 hk100 hk111) hk98 rfl rfl (Nat.le_of_ble_eq_true rfl) ⟨(Nat.le_of_ble_eq_true rfl), (Nat.le_of_ble_eq_true rfl)⟩ ⟨(Nat.le_of_ble_eq_true rfl), (Nat.le_of_ble_eq_true rfl)⟩ (fun r h9 hp => ?_)
  obtain ⟨rfl, rfl⟩ := hp
  refine J_nf (nh2 := nh) (ck2 := 0) (sk2 := 0) (st2 := []) rfl rfl rfl rfl ?_
  refine J_app (L3 := [(98, .inr (12, [.int 0, .int 0, .ref 99, .ref 100, .ref 101, .ref 102, .ref 103, .ref 104, .ref 105, .int 0, .int (-1), .ref 106, .ref 107, .ref 108, .int 0, .int 0, .int 0, .int 0, .int 0, .int 0, .int 0, .ref 109, .int 0, .int 0, .ref 110, .ref 111, .ref 112, .ref 113, .ref 114, .ref 115, .ref 116, .ref 117, .int 1, .int 0, .int 0, .int (-1), .ref 118, .ref 119, .ref 120, .ref 121, .ref 122, .ref 123, .ref 124, .ref 125, .ref 126, .ref 127, .ref 128, .ref 129, .int 0, .ref 130, .ref 131, .ref 132, .ref 133, .ref 134, .int 0, .int 0])), (111, .inl (0, 1260, .inl (upd (fun _ => 0) 0 0)))]) rfl ?_
  refine J_aload_n dX12_round_4 rfl rfl ?_
  refine J_get (v := .int 1) dX12_round_5 fl_X12_298 rfl rfl ?_
  refine J_bipush (v := 14) dX12_round_8 (by decide +kernel) ?_
  refine J_icmp_le (tgt := 15) dX12_round_10 (by decide) (fun _ => ?_) (fun q => absurd (by decide +kernel) q)
  refine J_aload_n dX12_round_15 rfl rfl ?_
  refine J_callV (st := []) dX12_round_16 cv_X12_328 (c_X12_looks_1 rfl hk100 hk114 hk116) rfl rfl rfl (Nat.le_of_ble_eq_true rfl) ⟨(Nat.le_of_ble_eq_true rfl), (Nat.le_of_ble_eq_true rfl)⟩ ⟨(Nat.le_of_ble_eq_true rfl), (Nat.le_of_ble_eq_true rfl)⟩ (fun r h9 hp => ?_)
  obtain ⟨rfl, rfl⟩ := hp
  refine J_nf (nh2 := nh) (ck2 := 0) (sk2 := 0) (st2 := []) rfl rfl rfl rfl ?_
  refine J_app (L3 := [(114, .inl (0, 1260, .inl (upd (fun _ => 0) 0 0))), (116, .inl (0, 1260, .inl (upd (fun _ => 0) 0 0))), (98, .inr (12, [.int 0, .int 0, .ref 99, .ref 100, .ref 101, .ref 102, .ref 103, .ref 104, .ref 105, .int 0, .int (-1), .ref 106, .ref 107, .ref 108, .int 0, .int 0, .int 0, .int 0, .int 0, .int 0, .int 0, .ref 109, .int 0, .int 0, .ref 110, .ref 111, .ref 112, .ref 113, .ref 114, .ref 115, .ref 116, .ref 117, .int 1, .int 0, .int 0, .int 0, .ref 118, .ref 119, .ref 120, .ref 121, .ref 122, .ref 123, .ref 124, .ref 125, .ref 126, .ref 127, .ref 128, .ref 129, .int 0, .ref 130, .ref 131, .ref 132, .ref 133, .ref 134, .int 0, .int 0])), (98, .inr (12, [.int 0, .int 0, .ref 99, .ref 100, .ref 101, .ref 102, .ref 103, .ref 104, .ref 105, .int 0, .int (-1), .ref 106, .ref 107, .ref 108, .int 0, .int 0, .int 0, .int 0, .int 0, .int 0, .int 0, .ref 109, .int 0, .int 0, .ref 110, .ref 111, .ref 112, .ref 113, .ref 114, .ref 115, .ref 116, .ref 117, .int 1, .int 0, .int 0, .int (-1), .ref 118, .ref 119, .ref 120, .ref 121, .ref 122, .ref 123, .ref 124, .ref 125, .ref 126, .ref 127, .ref 128, .ref 129, .int 0, .ref 130, .ref 131, .ref 132, .ref 133, .ref 134, .int 0, .int 0])), (111, .inl (0, 1260, .inl (upd (fun _ => 0) 0 0)))]) rfl ?_
  refine J_aload_n dX12_round_19 rfl rfl ?_
  refine J_callV (st := []) dX12_round_20 cv_X12_351 (c_X12_findsRound_1 rfl rfl hk129) rfl rfl rfl (Nat.le_of_ble_eq_true rfl) ⟨(Nat.le_of_ble_eq_true rfl), (Nat.le_of_ble_eq_true rfl)⟩ ⟨(Nat.le_of_ble_eq_true rfl), (Nat.le_of_ble_eq_true rfl)⟩ (fun r h9 hp => ?_)
  obtain ⟨rfl, rfl⟩ := hp
  refine J_nf (nh2 := nh) (ck2 := 0) (sk2 := 0) (st2 := [.int 0]) rfl rfl rfl rfl ?_
  refine J_app (L3 := [(129, .inl (2, 229376, .inl (upd (fun _ => 0) 14 0))), (114, .inl (0, 1260, .inl (upd (fun _ => 0) 0 0))), (116, .inl (0, 1260, .inl (upd (fun _ => 0) 0 0))), (98, .inr (12, [.int 0, .int 0, .ref 99, .ref 100, .ref 101, .ref 102, .ref 103, .ref 104, .ref 105, .int 0, .int (-1), .ref 106, .ref 107, .ref 108, .int 0, .int 0, .int 0, .int 0, .int 0, .int 0, .int 0, .ref 109, .int 0, .int 0, .ref 110, .ref 111, .ref 112, .ref 113, .ref 114, .ref 115, .ref 116, .ref 117, .int 1, .int 0, .int 0, .int 0, .ref 118, .ref 119, .ref 120, .ref 121, .ref 122, .ref 123, .ref 124, .ref 125, .ref 126, .ref 127, .ref 128, .ref 129, .int 0, .ref 130, .ref 131, .ref 132, .ref 133, .ref 134, .int 0, .int 0])), (98, .inr (12, [.int 0, .int 0, .ref 99, .ref 100, .ref 101, .ref 102, .ref 103, .ref 104, .ref 105, .int 0, .int (-1), .ref 106, .ref 107, .ref 108, .int 0, .int 0, .int 0, .int 0, .int 0, .int 0, .int 0, .ref 109, .int 0, .int 0, .ref 110, .ref 111, .ref 112, .ref 113, .ref 114, .ref 115, .ref 116, .ref 117, .int 1, .int 0, .int 0, .int (-1), .ref 118, .ref 119, .ref 120, .ref 121, .ref 122, .ref 123, .ref 124, .ref 125, .ref 126, .ref 127, .ref 128, .ref 129, .int 0, .ref 130, .ref 131, .ref 132, .ref 133, .ref 134, .int 0, .int 0])), (111, .inl (0, 1260, .inl (upd (fun _ => 0) 0 0)))]) rfl ?_
  refine J_istore_n dX12_round_23 rfl (Nat.le_of_ble_eq_true rfl) rfl ?_
  refine J_iload_n dX12_round_24 rfl rfl ?_
  refine J_iconst (v := (-1)) dX12_round_25 (by decide) ?_
  refine J_icmp_ne (tgt := 39) dX12_round_26 (by decide) (fun q => absurd (by decide +kernel) q) (fun _ => ?_)
  refine J_iload_n dX12_round_29 rfl rfl ?_
  refine J_if_eq (tgt := 37) dX12_round_30 (by decide) (fun _ => ?_) (fun q => absurd (by decide +kernel) q)
  refine J_iconst (v := 0) dX12_round_37 (by decide) ?_
  refine J_mask (L2 := [(129, .inl (2, 229376, .inl (upd (fun _ => 0) 14 0))), (114, .inl (0, 1260, .inl (upd (fun _ => 0) 0 0))), (116, .inl (0, 1260, .inl (upd (fun _ => 0) 0 0))), (98, .inr (12, [.int 0, .int 0, .ref 99, .ref 100, .ref 101, .ref 102, .ref 103, .ref 104, .ref 105, .int 0, .int (-1), .ref 106, .ref 107, .ref 108, .int 0, .int 0, .int 0, .int 0, .int 0, .int 0, .int 0, .ref 109, .int 0, .int 0, .ref 110, .ref 111, .ref 112, .ref 113, .ref 114, .ref 115, .ref 116, .ref 117, .int 1, .int 0, .int 0, .int 0, .ref 118, .ref 119, .ref 120, .ref 121, .ref 122, .ref 123, .ref 124, .ref 125, .ref 126, .ref 127, .ref 128, .ref 129, .int 0, .ref 130, .ref 131, .ref 132, .ref 133, .ref 134, .int 0, .int 0])), (111, .inl (0, 1260, .inl (upd (fun _ => 0) 0 0)))]) (ks := [129, 114, 116, 98, 98, 111]) [true, true, true, true, false, true] rfl (by decide +kernel) rfl ?_
  exact J_iret dX12_round_38 rfl rfl (Nat.le_of_ble_eq_true rfl) (Nat.le_of_ble_eq_true rfl) ⟨rfl, rfl⟩
set_option maxHeartbeats 4000000 in
set_option maxRecDepth 100000 in
theorem c_X11_round_3 {l : Launch} {G : jG} {fh : Nat → Option va_E} (a1 : Int32) (b_a1 : 0 ≤ a1.toInt ∧ a1.toInt ≤ 2147483647) (hk0 : fh 0 = some (.inr (11, [.ref 1, .ref 17, .ref 50, .ref 51, .ref 54, .ref 57, .ref 65, .ref 75, .ref 81, .ref 85, .ref 88, .ref 93, .ref 96, .int 0, .int (-1), .ref 97, .int 0]))) (hk1 : fh 1 = some (.inr (8, [.ref 2, .ref 3, .ref 4, .int 0, .int (-1), .ref 11, .ref 12, .int 0, .ref 13, .ref 14, .int 0, .ref 15, .ref 16, .int 0]))) (hk3 : fh 3 = some (.inl (0, 2, .inl (fun _ => 0)))) (hk51 : fh 51 = some (.inr (0, [.ref 52, .ref 53, .int 1, .int 0]))) (hk57 : fh 57 = some (.inr (9, [.ref 1, .ref 51, .ref 58, .ref 61, .ref 62, .ref 63, .ref 64, .int 0, .int 1, .int 1]))) (hk58 : fh 58 = some (.inr (1, [.ref 59, .ref 60, .int 0, .int 0, .int 0, .int 0, .int 0, .int 1]))) (hk59 : fh 59 = some (.inl (0, 8, .inl (fun _ => 0)))) (hk62 : fh 62 = some (.inl (0, 1260, .inl (fun _ => 0)))) (hk63 : fh 63 = some (.inl (0, 0, .inl (fun _ => 0)))) (hk81 : fh 81 = some (.inr (7, [.ref 51, .ref 57, .ref 82, .ref 83, .ref 84, .int 0, .int (-1)]))) : JM l G yX11_round MX11_round { frames := 3, cells := 1, slots := 22, locals := 67 } [.ref 0, .int a1] (135, fh) (fun r h9 => r = some (.int (-1)) ∧ h9 = (136, hc fh [(81, .inr (7, [.ref 51, .ref 57, .ref 82, .ref 83, .ref 84, .int 0, .int 0])), (57, .inr (9, [.ref 1, .ref 51, .ref 58, .ref 61, .ref 62, .ref 135, .ref 64, .int 0, .int 0, .int 0])), (62, .inl (0, 1260, .inl (upd (fun _ => 0) 0 (-1)))), (135, .inl (0, 22, .inl (fun _ => 0))), (59, .inl (0, 8, .inl (upd (upd (fun _ => 0) 6 0) 7 0)))])) := by
  refine JM.of (by decide) rfl (fun h => by cases h) (Nat.le_of_ble_eq_true rfl) ⟨1, rfl⟩ ?_
  refine J_hc0 (J_ls (ls2 := [some (.ref 0), some (.int a1), none]) rfl ?_)
  refine J_aload_n dX11_round_0 rfl rfl ?_
  refine J_get (v := .ref 51) dX11_round_1 fl_X11_27 hk0 rfl ?_
  refine J_callV (st := []) dX11_round_4 cv_X11_132 (c_X0_many_1 hk51) hk51 rfl rfl (Nat.le_of_ble_eq_true rfl) ⟨(Nat.le_of_ble_eq_true rfl), (Nat.le_of_ble_eq_true rfl)⟩ ⟨(Nat.le_of_ble_eq_true rfl), (Nat.le_of_ble_eq_true rfl)⟩ (fun r h9 hp => ?_)
  obtain ⟨rfl, rfl⟩ := hp
  refine J_nf (nh2 := 135) (ck2 := 0) (sk2 := 0) (st2 := [.int 1]) rfl rfl rfl rfl ?_
  refine J_bipush (v := 14) dX11_round_7 (by decide +kernel) ?_
  refine J_icmp_le (tgt := 14) dX11_round_9 (by decide) (fun _ => ?_) (fun q => absurd (by decide +kernel) q)
  refine J_aload_n dX11_round_14 rfl rfl ?_
  refine J_get (v := .ref 57) dX11_round_15 fl_X11_43 hk0 rfl ?_
  refine J_callV (st := []) dX11_round_18 cv_X11_217 (c_X9_prepare_1 hk1 hk3 hk51 hk57 hk58 hk59 hk62 hk63) hk57 rfl rfl (Nat.le_of_ble_eq_true rfl) ⟨(Nat.le_of_ble_eq_true rfl), (Nat.le_of_ble_eq_true rfl)⟩ ⟨(Nat.le_of_ble_eq_true rfl), (Nat.le_of_ble_eq_true rfl)⟩ (fun r h9 hp => ?_)
  obtain ⟨rfl, rfl⟩ := hp
  refine J_nf (nh2 := 136) (ck2 := 1) (sk2 := 22) (st2 := []) rfl rfl rfl rfl ?_
  refine J_app (L3 := [(57, .inr (9, [.ref 1, .ref 51, .ref 58, .ref 61, .ref 62, .ref 135, .ref 64, .int 0, .int 0, .int 0])), (62, .inl (0, 1260, .inl (upd (fun _ => 0) 0 (-1)))), (135, .inl (0, 22, .inl (fun _ => 0))), (59, .inl (0, 8, .inl (upd (upd (fun _ => 0) 6 0) 7 0)))]) rfl ?_
  refine J_aload_n dX11_round_21 rfl rfl ?_
  refine J_get (v := .ref 81) dX11_round_22 fl_X11_66 hk0 rfl ?_
  refine J_callV (st := []) dX11_round_25 cv_X11_260 (c_X7_exists_1 hk51 rfl hk81) hk81 rfl rfl (Nat.le_of_ble_eq_true rfl) ⟨(Nat.le_of_ble_eq_true rfl), (Nat.le_of_ble_eq_true rfl)⟩ ⟨(Nat.le_of_ble_eq_true rfl), (Nat.le_of_ble_eq_true rfl)⟩ (fun r h9 hp => ?_)
  obtain ⟨rfl, rfl⟩ := hp
  refine J_nf (nh2 := 136) (ck2 := 1) (sk2 := 22) (st2 := [.int 0]) rfl rfl rfl rfl ?_
  refine J_app (L3 := [(81, .inr (7, [.ref 51, .ref 57, .ref 82, .ref 83, .ref 84, .int 0, .int 0])), (57, .inr (9, [.ref 1, .ref 51, .ref 58, .ref 61, .ref 62, .ref 135, .ref 64, .int 0, .int 0, .int 0])), (62, .inl (0, 1260, .inl (upd (fun _ => 0) 0 (-1)))), (135, .inl (0, 22, .inl (fun _ => 0))), (59, .inl (0, 8, .inl (upd (upd (fun _ => 0) 6 0) 7 0)))]) rfl ?_
  refine J_istore_n dX11_round_28 rfl (Nat.le_of_ble_eq_true rfl) rfl ?_
  refine J_iload_n dX11_round_29 rfl rfl ?_
  refine J_iconst (v := (-1)) dX11_round_30 (by decide) ?_
  refine J_icmp_ne (tgt := 44) dX11_round_31 (by decide) (fun _ => ?_) (fun q => absurd q (by have hb0 := b_a1; simp only [fa_lt, fa_le, fa_eq, kc_m1]; omega))
  refine J_iload_n dX11_round_44 rfl rfl ?_
  refine J_if_eq (tgt := 59) dX11_round_45 (by decide) (fun _ => ?_) (fun q => absurd (by decide +kernel) q)
  refine J_iconst (v := (-1)) dX11_round_59 (by decide) ?_
  exact J_iret dX11_round_60 rfl rfl (Nat.le_of_ble_eq_true rfl) (Nat.le_of_ble_eq_true rfl) ⟨rfl, rfl⟩
set_option maxHeartbeats 4000000 in
set_option maxRecDepth 100000 in
theorem c_X12_round_3 {l : Launch} {G : jG} {nh : Nat} {fh : Nat → Option va_E} (a1 : Int32) (b_a1 : 0 ≤ a1.toInt ∧ a1.toInt ≤ 2147483647) (hk98 : fh 98 = some (.inr (12, [.int 0, .int 0, .ref 99, .ref 100, .ref 101, .ref 102, .ref 103, .ref 104, .ref 105, .int 0, .int (-1), .ref 106, .ref 107, .ref 108, .int 0, .int 0, .int 0, .int 0, .int 0, .int 0, .int 0, .ref 109, .int 0, .int 0, .ref 110, .ref 111, .ref 112, .ref 113, .ref 114, .ref 115, .ref 116, .ref 117, .int 0, .int 0, .int (-1), .int (-1), .ref 118, .ref 119, .ref 120, .ref 121, .ref 122, .ref 123, .ref 124, .ref 125, .ref 126, .ref 127, .ref 128, .ref 129, .int 0, .ref 130, .ref 131, .ref 132, .ref 133, .ref 134, .int 0, .int 0]))) (hk100 : fh 100 = some (.inl (0, 4870, .inl (upd (fun _ => 0) 63 (-1))))) (hk111 : fh 111 = some (.inl (0, 1260, .inl (fun _ => 0)))) (hk114 : fh 114 = some (.inl (0, 1260, .inl (fun _ => 0)))) (hk116 : fh 116 = some (.inl (0, 1260, .inl (fun _ => 0)))) (hk129 : fh 129 = some (.inl (2, 229376, .inl (fun _ => 0)))) : JM l G yX12_round MX12_round { frames := 3, cells := 0, slots := 0, locals := 71 } [.ref 98, .int a1] (nh, fh) (fun r h9 => r = some (.int (-1)) ∧ h9 = (nh, hc fh [(129, .inl (2, 229376, .inl (upd (fun _ => 0) 14 0))), (114, .inl (0, 1260, .inl (upd (fun _ => 0) 0 0))), (116, .inl (0, 1260, .inl (upd (fun _ => 0) 0 0))), (98, .inr (12, [.int 0, .int 0, .ref 99, .ref 100, .ref 101, .ref 102, .ref 103, .ref 104, .ref 105, .int 0, .int (-1), .ref 106, .ref 107, .ref 108, .int 0, .int 0, .int 0, .int 0, .int 0, .int 0, .int 0, .ref 109, .int 0, .int 0, .ref 110, .ref 111, .ref 112, .ref 113, .ref 114, .ref 115, .ref 116, .ref 117, .int 1, .int 0, .int 0, .int 0, .ref 118, .ref 119, .ref 120, .ref 121, .ref 122, .ref 123, .ref 124, .ref 125, .ref 126, .ref 127, .ref 128, .ref 129, .int 0, .ref 130, .ref 131, .ref 132, .ref 133, .ref 134, .int 0, .int 0])), (111, .inl (0, 1260, .inl (upd (fun _ => 0) 0 0)))])) := by
  refine JM.of (by decide) rfl (fun h => by cases h) (Nat.le_of_ble_eq_true rfl) ⟨5, rfl⟩ ?_
  refine J_hc0 (J_ls (ls2 := [some (.ref 98), some (.int a1), none, none, none, none, none]) rfl ?_)
  refine J_aload_n dX12_round_0 rfl rfl ?_
  refine J_callV (st := []) dX12_round_1 cv_X12_159 (c_X12_laysHouses_1 hk98 hk100 hk111) hk98 rfl rfl (Nat.le_of_ble_eq_true rfl) ⟨(Nat.le_of_ble_eq_true rfl), (Nat.le_of_ble_eq_true rfl)⟩ ⟨(Nat.le_of_ble_eq_true rfl), (Nat.le_of_ble_eq_true rfl)⟩ (fun r h9 hp => ?_)
  obtain ⟨rfl, rfl⟩ := hp
  refine J_nf (nh2 := nh) (ck2 := 0) (sk2 := 0) (st2 := []) rfl rfl rfl rfl ?_
  refine J_app (L3 := [(98, .inr (12, [.int 0, .int 0, .ref 99, .ref 100, .ref 101, .ref 102, .ref 103, .ref 104, .ref 105, .int 0, .int (-1), .ref 106, .ref 107, .ref 108, .int 0, .int 0, .int 0, .int 0, .int 0, .int 0, .int 0, .ref 109, .int 0, .int 0, .ref 110, .ref 111, .ref 112, .ref 113, .ref 114, .ref 115, .ref 116, .ref 117, .int 1, .int 0, .int 0, .int (-1), .ref 118, .ref 119, .ref 120, .ref 121, .ref 122, .ref 123, .ref 124, .ref 125, .ref 126, .ref 127, .ref 128, .ref 129, .int 0, .ref 130, .ref 131, .ref 132, .ref 133, .ref 134, .int 0, .int 0])), (111, .inl (0, 1260, .inl (upd (fun _ => 0) 0 0)))]) rfl ?_
  refine J_aload_n dX12_round_4 rfl rfl ?_
  refine J_get (v := .int 1) dX12_round_5 fl_X12_298 rfl rfl ?_
  refine J_bipush (v := 14) dX12_round_8 (by decide +kernel) ?_
  refine J_icmp_le (tgt := 15) dX12_round_10 (by decide) (fun _ => ?_) (fun q => absurd (by decide +kernel) q)
  refine J_aload_n dX12_round_15 rfl rfl ?_
  refine J_callV (st := []) dX12_round_16 cv_X12_328 (c_X12_looks_1 rfl hk100 hk114 hk116) rfl rfl rfl (Nat.le_of_ble_eq_true rfl) ⟨(Nat.le_of_ble_eq_true rfl), (Nat.le_of_ble_eq_true rfl)⟩ ⟨(Nat.le_of_ble_eq_true rfl), (Nat.le_of_ble_eq_true rfl)⟩ (fun r h9 hp => ?_)
  obtain ⟨rfl, rfl⟩ := hp
  refine J_nf (nh2 := nh) (ck2 := 0) (sk2 := 0) (st2 := []) rfl rfl rfl rfl ?_
  refine J_app (L3 := [(114, .inl (0, 1260, .inl (upd (fun _ => 0) 0 0))), (116, .inl (0, 1260, .inl (upd (fun _ => 0) 0 0))), (98, .inr (12, [.int 0, .int 0, .ref 99, .ref 100, .ref 101, .ref 102, .ref 103, .ref 104, .ref 105, .int 0, .int (-1), .ref 106, .ref 107, .ref 108, .int 0, .int 0, .int 0, .int 0, .int 0, .int 0, .int 0, .ref 109, .int 0, .int 0, .ref 110, .ref 111, .ref 112, .ref 113, .ref 114, .ref 115, .ref 116, .ref 117, .int 1, .int 0, .int 0, .int 0, .ref 118, .ref 119, .ref 120, .ref 121, .ref 122, .ref 123, .ref 124, .ref 125, .ref 126, .ref 127, .ref 128, .ref 129, .int 0, .ref 130, .ref 131, .ref 132, .ref 133, .ref 134, .int 0, .int 0])), (98, .inr (12, [.int 0, .int 0, .ref 99, .ref 100, .ref 101, .ref 102, .ref 103, .ref 104, .ref 105, .int 0, .int (-1), .ref 106, .ref 107, .ref 108, .int 0, .int 0, .int 0, .int 0, .int 0, .int 0, .int 0, .ref 109, .int 0, .int 0, .ref 110, .ref 111, .ref 112, .ref 113, .ref 114, .ref 115, .ref 116, .ref 117, .int 1, .int 0, .int 0, .int (-1), .ref 118, .ref 119, .ref 120, .ref 121, .ref 122, .ref 123, .ref 124, .ref 125, .ref 126, .ref 127, .ref 128, .ref 129, .int 0, .ref 130, .ref 131, .ref 132, .ref 133, .ref 134, .int 0, .int 0])), (111, .inl (0, 1260, .inl (upd (fun _ => 0) 0 0)))]) rfl ?_
  refine J_aload_n dX12_round_19 rfl rfl ?_
  refine J_callV (st := []) dX12_round_20 cv_X12_351 (c_X12_findsRound_1 rfl rfl hk129) rfl rfl rfl (Nat.le_of_ble_eq_true rfl) ⟨(Nat.le_of_ble_eq_true rfl), (Nat.le_of_ble_eq_true rfl)⟩ ⟨(Nat.le_of_ble_eq_true rfl), (Nat.le_of_ble_eq_true rfl)⟩ (fun r h9 hp => ?_)
  obtain ⟨rfl, rfl⟩ := hp
  refine J_nf (nh2 := nh) (ck2 := 0) (sk2 := 0) (st2 := [.int 0]) rfl rfl rfl rfl ?_
  refine J_app (L3 := [(129, .inl (2, 229376, .inl (upd (fun _ => 0) 14 0))), (114, .inl (0, 1260, .inl (upd (fun _ => 0) 0 0))), (116, .inl (0, 1260, .inl (upd (fun _ => 0) 0 0))), (98, .inr (12, [.int 0, .int 0, .ref 99, .ref 100, .ref 101, .ref 102, .ref 103, .ref 104, .ref 105, .int 0, .int (-1), .ref 106, .ref 107, .ref 108, .int 0, .int 0, .int 0, .int 0, .int 0, .int 0, .int 0, .ref 109, .int 0, .int 0, .ref 110, .ref 111, .ref 112, .ref 113, .ref 114, .ref 115, .ref 116, .ref 117, .int 1, .int 0, .int 0, .int 0, .ref 118, .ref 119, .ref 120, .ref 121, .ref 122, .ref 123, .ref 124, .ref 125, .ref 126, .ref 127, .ref 128, .ref 129, .int 0, .ref 130, .ref 131, .ref 132, .ref 133, .ref 134, .int 0, .int 0])), (98, .inr (12, [.int 0, .int 0, .ref 99, .ref 100, .ref 101, .ref 102, .ref 103, .ref 104, .ref 105, .int 0, .int (-1), .ref 106, .ref 107, .ref 108, .int 0, .int 0, .int 0, .int 0, .int 0, .int 0, .int 0, .ref 109, .int 0, .int 0, .ref 110, .ref 111, .ref 112, .ref 113, .ref 114, .ref 115, .ref 116, .ref 117, .int 1, .int 0, .int 0, .int (-1), .ref 118, .ref 119, .ref 120, .ref 121, .ref 122, .ref 123, .ref 124, .ref 125, .ref 126, .ref 127, .ref 128, .ref 129, .int 0, .ref 130, .ref 131, .ref 132, .ref 133, .ref 134, .int 0, .int 0])), (111, .inl (0, 1260, .inl (upd (fun _ => 0) 0 0)))]) rfl ?_
  refine J_istore_n dX12_round_23 rfl (Nat.le_of_ble_eq_true rfl) rfl ?_
  refine J_iload_n dX12_round_24 rfl rfl ?_
  refine J_iconst (v := (-1)) dX12_round_25 (by decide) ?_
  refine J_icmp_ne (tgt := 39) dX12_round_26 (by decide) (fun _ => ?_) (fun q => absurd q (by have hb0 := b_a1; simp only [fa_lt, fa_le, fa_eq, kc_m1]; omega))
  refine J_iload_n dX12_round_39 rfl rfl ?_
  refine J_if_eq (tgt := 57) dX12_round_40 (by decide) (fun _ => ?_) (fun q => absurd (by decide +kernel) q)
  refine J_iconst (v := (-1)) dX12_round_57 (by decide) ?_
  refine J_mask (L2 := [(129, .inl (2, 229376, .inl (upd (fun _ => 0) 14 0))), (114, .inl (0, 1260, .inl (upd (fun _ => 0) 0 0))), (116, .inl (0, 1260, .inl (upd (fun _ => 0) 0 0))), (98, .inr (12, [.int 0, .int 0, .ref 99, .ref 100, .ref 101, .ref 102, .ref 103, .ref 104, .ref 105, .int 0, .int (-1), .ref 106, .ref 107, .ref 108, .int 0, .int 0, .int 0, .int 0, .int 0, .int 0, .int 0, .ref 109, .int 0, .int 0, .ref 110, .ref 111, .ref 112, .ref 113, .ref 114, .ref 115, .ref 116, .ref 117, .int 1, .int 0, .int 0, .int 0, .ref 118, .ref 119, .ref 120, .ref 121, .ref 122, .ref 123, .ref 124, .ref 125, .ref 126, .ref 127, .ref 128, .ref 129, .int 0, .ref 130, .ref 131, .ref 132, .ref 133, .ref 134, .int 0, .int 0])), (111, .inl (0, 1260, .inl (upd (fun _ => 0) 0 0)))]) (ks := [129, 114, 116, 98, 98, 111]) [true, true, true, true, false, true] rfl (by decide +kernel) rfl ?_
  exact J_iret dX12_round_58 rfl rfl (Nat.le_of_ble_eq_true rfl) (Nat.le_of_ble_eq_true rfl) ⟨rfl, rfl⟩
set_option maxHeartbeats 4000000 in
set_option maxRecDepth 100000 in
theorem c_X11_swapIf_1 {l : Launch} {G : jG} {nh : Nat} {fh : Nat → Option va_E} (a1 : Int32) (b_a1 : (-2147483648) ≤ a1.toInt ∧ a1.toInt ≤ (-1)) (a2 : Int32) (b_a2 : (-2147483648) ≤ a2.toInt ∧ a2.toInt ≤ 2147483647) (hk0 : fh 0 = some (.inr (11, [.ref 1, .ref 17, .ref 50, .ref 51, .ref 54, .ref 57, .ref 65, .ref 75, .ref 81, .ref 85, .ref 88, .ref 93, .ref 96, .int 0, .int (-1), .ref 97, .int 0]))) (hk96 : fh 96 = some (.inl (0, 5, .inl (fun _ => 0)))) : JM l G yX11_swapIf MX11_swapIf { frames := 2, cells := 0, slots := 0, locals := 41 } [.ref 0, .int a1, .int a2] (nh, fh) (fun r h9 => r = some (.int (-1)) ∧ h9 = (nh, hc fh [(96, .inl (0, 5, .inl (upd (fun _ => 0) 0 1))), (0, .inr (11, [.ref 1, .ref 17, .ref 50, .ref 51, .ref 54, .ref 57, .ref 65, .ref 75, .ref 81, .ref 85, .ref 88, .ref 93, .ref 96, .int (-1), .int (-1), .ref 97, .int 0]))])) := by
  refine JM.of (by decide) rfl (fun h => by cases h) (Nat.le_of_ble_eq_true rfl) ⟨0, rfl⟩ ?_
  refine J_hc0 (J_ls (ls2 := [some (.ref 0), some (.int a1), some (.int a2)]) rfl ?_)
  refine J_iload_n dX11_swapIf_0 rfl rfl ?_
  refine J_if_lt (tgt := 20) dX11_swapIf_1 (by decide) (fun _ => ?_) (fun q => absurd (by have hb0 := b_a1; simp only [fa_lt, fa_le, fa_eq, kc_0]; omega) q)
  refine J_aload_n dX11_swapIf_20 rfl rfl ?_
  refine J_iconst (v := (-1)) dX11_swapIf_21 (by decide) ?_
  refine J_callV (st := []) dX11_swapIf_22 cv_X11_118 (c_X11_refuse_1 hk0 hk96) hk0 rfl rfl (Nat.le_of_ble_eq_true rfl) ⟨(Nat.le_of_ble_eq_true rfl), (Nat.le_of_ble_eq_true rfl)⟩ ⟨(Nat.le_of_ble_eq_true rfl), (Nat.le_of_ble_eq_true rfl)⟩ (fun r h9 hp => ?_)
  obtain ⟨rfl, rfl⟩ := hp
  refine J_nf (nh2 := nh) (ck2 := 0) (sk2 := 0) (st2 := [.int (-1)]) rfl rfl rfl rfl ?_
  refine J_app (L3 := [(96, .inl (0, 5, .inl (upd (fun _ => 0) 0 1))), (0, .inr (11, [.ref 1, .ref 17, .ref 50, .ref 51, .ref 54, .ref 57, .ref 65, .ref 75, .ref 81, .ref 85, .ref 88, .ref 93, .ref 96, .int (-1), .int (-1), .ref 97, .int 0]))]) rfl ?_
  exact J_iret dX11_swapIf_25 rfl rfl (Nat.le_of_ble_eq_true rfl) (Nat.le_of_ble_eq_true rfl) ⟨rfl, rfl⟩
set_option maxHeartbeats 4000000 in
set_option maxRecDepth 100000 in
theorem c_X12_swapIf_1 {l : Launch} {G : jG} {nh : Nat} {fh : Nat → Option va_E} (a1 : Int32) (b_a1 : (-2147483648) ≤ a1.toInt ∧ a1.toInt ≤ (-1)) (a2 : Int32) (b_a2 : (-2147483648) ≤ a2.toInt ∧ a2.toInt ≤ 2147483647) (hk98 : fh 98 = some (.inr (12, [.int 0, .int 0, .ref 99, .ref 100, .ref 101, .ref 102, .ref 103, .ref 104, .ref 105, .int 0, .int (-1), .ref 106, .ref 107, .ref 108, .int 0, .int 0, .int 0, .int 0, .int 0, .int 0, .int 0, .ref 109, .int 0, .int 0, .ref 110, .ref 111, .ref 112, .ref 113, .ref 114, .ref 115, .ref 116, .ref 117, .int 0, .int 0, .int (-1), .int (-1), .ref 118, .ref 119, .ref 120, .ref 121, .ref 122, .ref 123, .ref 124, .ref 125, .ref 126, .ref 127, .ref 128, .ref 129, .int 0, .ref 130, .ref 131, .ref 132, .ref 133, .ref 134, .int 0, .int 0]))) (hk99 : fh 99 = some (.inl (0, 7, .inl (fun _ => 0)))) : JM l G yX12_swapIf MX12_swapIf { frames := 1, cells := 0, slots := 0, locals := 21 } [.ref 98, .int a1, .int a2] (nh, fh) (fun r h9 => r = some (.int (-1)) ∧ h9 = (nh, hc fh [(99, .inl (0, 7, .inl (upd (fun _ => 0) 1 1))), (98, .inr (12, [.int (-1), .int 0, .ref 99, .ref 100, .ref 101, .ref 102, .ref 103, .ref 104, .ref 105, .int 0, .int (-1), .ref 106, .ref 107, .ref 108, .int 0, .int 0, .int 0, .int 0, .int 0, .int 0, .int 0, .ref 109, .int 0, .int 0, .ref 110, .ref 111, .ref 112, .ref 113, .ref 114, .ref 115, .ref 116, .ref 117, .int 0, .int 0, .int (-1), .int (-1), .ref 118, .ref 119, .ref 120, .ref 121, .ref 122, .ref 123, .ref 124, .ref 125, .ref 126, .ref 127, .ref 128, .ref 129, .int 0, .ref 130, .ref 131, .ref 132, .ref 133, .ref 134, .int 0, .int 0]))])) := by
  refine JM.of (by decide) rfl (fun h => by cases h) (Nat.le_of_ble_eq_true rfl) ⟨1, rfl⟩ ?_
  refine J_hc0 (J_ls (ls2 := [some (.ref 98), some (.int a1), some (.int a2), none]) rfl ?_)
  refine J_iload_n dX12_swapIf_0 rfl rfl ?_
  refine J_if_lt (tgt := 17) dX12_swapIf_1 (by decide) (fun _ => ?_) (fun q => absurd (by have hb0 := b_a1; simp only [fa_lt, fa_le, fa_eq, kc_0]; omega) q)
  refine J_aload_n dX12_swapIf_17 rfl rfl ?_
  refine J_iconst (v := (-1)) dX12_swapIf_18 (by decide) ?_
  refine J_callV (st := []) dX12_swapIf_19 cv_X12_142 (c_X12_refuses_1 hk98 hk99) hk98 rfl rfl (Nat.le_of_ble_eq_true rfl) ⟨(Nat.le_of_ble_eq_true rfl), (Nat.le_of_ble_eq_true rfl)⟩ ⟨(Nat.le_of_ble_eq_true rfl), (Nat.le_of_ble_eq_true rfl)⟩ (fun r h9 hp => ?_)
  obtain ⟨rfl, rfl⟩ := hp
  refine J_nf (nh2 := nh) (ck2 := 0) (sk2 := 0) (st2 := [.int (-1)]) rfl rfl rfl rfl ?_
  refine J_app (L3 := [(99, .inl (0, 7, .inl (upd (fun _ => 0) 1 1))), (98, .inr (12, [.int (-1), .int 0, .ref 99, .ref 100, .ref 101, .ref 102, .ref 103, .ref 104, .ref 105, .int 0, .int (-1), .ref 106, .ref 107, .ref 108, .int 0, .int 0, .int 0, .int 0, .int 0, .int 0, .int 0, .ref 109, .int 0, .int 0, .ref 110, .ref 111, .ref 112, .ref 113, .ref 114, .ref 115, .ref 116, .ref 117, .int 0, .int 0, .int (-1), .int (-1), .ref 118, .ref 119, .ref 120, .ref 121, .ref 122, .ref 123, .ref 124, .ref 125, .ref 126, .ref 127, .ref 128, .ref 129, .int 0, .ref 130, .ref 131, .ref 132, .ref 133, .ref 134, .int 0, .int 0]))]) rfl ?_
  exact J_iret dX12_swapIf_22 rfl rfl (Nat.le_of_ble_eq_true rfl) (Nat.le_of_ble_eq_true rfl) ⟨rfl, rfl⟩
set_option maxHeartbeats 4000000 in
set_option maxRecDepth 100000 in
theorem c_X11_swapIf_2 {l : Launch} {G : jG} {nh : Nat} {fh : Nat → Option va_E} (a1 : Int32) (b_a1 : 0 ≤ a1.toInt ∧ a1.toInt ≤ 2147483647) (a2 : Int32) (b_a2 : (-2147483648) ≤ a2.toInt ∧ a2.toInt ≤ 2147483647) (hk0 : fh 0 = some (.inr (11, [.ref 1, .ref 17, .ref 50, .ref 51, .ref 54, .ref 57, .ref 65, .ref 75, .ref 81, .ref 85, .ref 88, .ref 93, .ref 96, .int 0, .int (-1), .ref 97, .int 0]))) (hk51 : fh 51 = some (.inr (0, [.ref 52, .ref 53, .int 1, .int 0]))) (hk96 : fh 96 = some (.inl (0, 5, .inl (fun _ => 0)))) : JM l G yX11_swapIf MX11_swapIf { frames := 2, cells := 0, slots := 0, locals := 41 } [.ref 0, .int a1, .int a2] (nh, fh) (fun r h9 => r = some (.int (-1)) ∧ h9 = (nh, hc fh [(96, .inl (0, 5, .inl (upd (fun _ => 0) 0 1))), (0, .inr (11, [.ref 1, .ref 17, .ref 50, .ref 51, .ref 54, .ref 57, .ref 65, .ref 75, .ref 81, .ref 85, .ref 88, .ref 93, .ref 96, .int (-1), .int (-1), .ref 97, .int 0]))])) := by
  refine JM.of (by decide) rfl (fun h => by cases h) (Nat.le_of_ble_eq_true rfl) ⟨0, rfl⟩ ?_
  refine J_hc0 (J_ls (ls2 := [some (.ref 0), some (.int a1), some (.int a2)]) rfl ?_)
  refine J_iload_n dX11_swapIf_0 rfl rfl ?_
  refine J_if_lt (tgt := 20) dX11_swapIf_1 (by decide) (fun q => absurd q (by have hb0 := b_a1; simp only [fa_lt, fa_le, fa_eq, kc_0]; omega)) (fun _ => ?_)
  refine J_iload_n dX11_swapIf_4 rfl rfl ?_
  refine J_iload_n dX11_swapIf_5 rfl rfl ?_
  refine J_icmp_le (tgt := 20) dX11_swapIf_6 (by decide) (fun qf0 => ?_) (fun qf0 => ?_)
  · refine J_aload_n dX11_swapIf_20 rfl rfl ?_
    refine J_iconst (v := (-1)) dX11_swapIf_21 (by decide) ?_
    refine J_callV (st := []) dX11_swapIf_22 cv_X11_118 (c_X11_refuse_1 hk0 hk96) hk0 rfl rfl (Nat.le_of_ble_eq_true rfl) ⟨(Nat.le_of_ble_eq_true rfl), (Nat.le_of_ble_eq_true rfl)⟩ ⟨(Nat.le_of_ble_eq_true rfl), (Nat.le_of_ble_eq_true rfl)⟩ (fun r h9 hp => ?_)
    obtain ⟨rfl, rfl⟩ := hp
    refine J_nf (nh2 := nh) (ck2 := 0) (sk2 := 0) (st2 := [.int (-1)]) rfl rfl rfl rfl ?_
    refine J_app (L3 := [(96, .inl (0, 5, .inl (upd (fun _ => 0) 0 1))), (0, .inr (11, [.ref 1, .ref 17, .ref 50, .ref 51, .ref 54, .ref 57, .ref 65, .ref 75, .ref 81, .ref 85, .ref 88, .ref 93, .ref 96, .int (-1), .int (-1), .ref 97, .int 0]))]) rfl ?_
    exact J_iret dX11_swapIf_25 rfl rfl (Nat.le_of_ble_eq_true rfl) (Nat.le_of_ble_eq_true rfl) ⟨rfl, rfl⟩
  · have bf0 : 1 ≤ a2.toInt ∧ a2.toInt ≤ 2147483647 := by have h1 := b_a2; have h2 := b_a1; simp only [fa_le] at qf0; omega
    refine J_iload_n dX11_swapIf_9 rfl rfl ?_
    refine J_aload_n dX11_swapIf_10 rfl rfl ?_
    refine J_get (v := .ref 51) dX11_swapIf_11 fl_X11_27 hk0 rfl ?_
    refine J_callV (st := [.int a2]) dX11_swapIf_14 cv_X11_122 (c_X0_places_1 hk51) hk51 rfl rfl (Nat.le_of_ble_eq_true rfl) ⟨(Nat.le_of_ble_eq_true rfl), (Nat.le_of_ble_eq_true rfl)⟩ ⟨(Nat.le_of_ble_eq_true rfl), (Nat.le_of_ble_eq_true rfl)⟩ (fun r h9 hp => ?_)
    obtain ⟨rfl, rfl⟩ := hp
    refine J_nf (nh2 := nh) (ck2 := 0) (sk2 := 0) (st2 := [.int 0, .int a2]) rfl rfl rfl rfl ?_
    refine J_icmp_lt (tgt := 26) dX11_swapIf_17 (by decide) (fun q => absurd q (by have hb0 := bf0; simp only [fa_lt, fa_le, fa_eq, kc_0]; omega)) (fun _ => ?_)
    refine J_aload_n dX11_swapIf_20 rfl rfl ?_
    refine J_iconst (v := (-1)) dX11_swapIf_21 (by decide) ?_
    refine J_callV (st := []) dX11_swapIf_22 cv_X11_118 (c_X11_refuse_1 hk0 hk96) hk0 rfl rfl (Nat.le_of_ble_eq_true rfl) ⟨(Nat.le_of_ble_eq_true rfl), (Nat.le_of_ble_eq_true rfl)⟩ ⟨(Nat.le_of_ble_eq_true rfl), (Nat.le_of_ble_eq_true rfl)⟩ (fun r h9 hp => ?_)
    obtain ⟨rfl, rfl⟩ := hp
    refine J_nf (nh2 := nh) (ck2 := 0) (sk2 := 0) (st2 := [.int (-1)]) rfl rfl rfl rfl ?_
    refine J_app (L3 := [(96, .inl (0, 5, .inl (upd (fun _ => 0) 0 1))), (0, .inr (11, [.ref 1, .ref 17, .ref 50, .ref 51, .ref 54, .ref 57, .ref 65, .ref 75, .ref 81, .ref 85, .ref 88, .ref 93, .ref 96, .int (-1), .int (-1), .ref 97, .int 0]))]) rfl ?_
    exact J_iret dX11_swapIf_25 rfl rfl (Nat.le_of_ble_eq_true rfl) (Nat.le_of_ble_eq_true rfl) ⟨rfl, rfl⟩
set_option maxHeartbeats 4000000 in
set_option maxRecDepth 100000 in
theorem c_X12_swapIf_2 {l : Launch} {G : jG} {nh : Nat} {fh : Nat → Option va_E} (a1 : Int32) (b_a1 : 0 ≤ a1.toInt ∧ a1.toInt ≤ 2147483647) (a2 : Int32) (b_a2 : (-2147483648) ≤ a2.toInt ∧ a2.toInt ≤ 2147483647) (hk98 : fh 98 = some (.inr (12, [.int 0, .int 0, .ref 99, .ref 100, .ref 101, .ref 102, .ref 103, .ref 104, .ref 105, .int 0, .int (-1), .ref 106, .ref 107, .ref 108, .int 0, .int 0, .int 0, .int 0, .int 0, .int 0, .int 0, .ref 109, .int 0, .int 0, .ref 110, .ref 111, .ref 112, .ref 113, .ref 114, .ref 115, .ref 116, .ref 117, .int 0, .int 0, .int (-1), .int (-1), .ref 118, .ref 119, .ref 120, .ref 121, .ref 122, .ref 123, .ref 124, .ref 125, .ref 126, .ref 127, .ref 128, .ref 129, .int 0, .ref 130, .ref 131, .ref 132, .ref 133, .ref 134, .int 0, .int 0]))) (hk99 : fh 99 = some (.inl (0, 7, .inl (fun _ => 0)))) (hk100 : fh 100 = some (.inl (0, 4870, .inl (upd (fun _ => 0) 63 (-1))))) : JM l G yX12_swapIf MX12_swapIf { frames := 1, cells := 0, slots := 0, locals := 22 } [.ref 98, .int a1, .int a2] (nh, fh) (fun r h9 => r = some (.int (-1)) ∧ h9 = (nh, hc fh [(99, .inl (0, 7, .inl (upd (fun _ => 0) 1 1))), (98, .inr (12, [.int (-1), .int 0, .ref 99, .ref 100, .ref 101, .ref 102, .ref 103, .ref 104, .ref 105, .int 0, .int (-1), .ref 106, .ref 107, .ref 108, .int 0, .int 0, .int 0, .int 0, .int 0, .int 0, .int 0, .ref 109, .int 0, .int 0, .ref 110, .ref 111, .ref 112, .ref 113, .ref 114, .ref 115, .ref 116, .ref 117, .int 0, .int 0, .int (-1), .int (-1), .ref 118, .ref 119, .ref 120, .ref 121, .ref 122, .ref 123, .ref 124, .ref 125, .ref 126, .ref 127, .ref 128, .ref 129, .int 0, .ref 130, .ref 131, .ref 132, .ref 133, .ref 134, .int 0, .int 0]))])) := by
  refine JM.of (by decide) rfl (fun h => by cases h) (Nat.le_of_ble_eq_true rfl) ⟨1, rfl⟩ ?_
  refine J_hc0 (J_ls (ls2 := [some (.ref 98), some (.int a1), some (.int a2), none]) rfl ?_)
  refine J_iload_n dX12_swapIf_0 rfl rfl ?_
  refine J_if_lt (tgt := 17) dX12_swapIf_1 (by decide) (fun q => absurd q (by have hb0 := b_a1; simp only [fa_lt, fa_le, fa_eq, kc_0]; omega)) (fun _ => ?_)
  refine J_iload_n dX12_swapIf_4 rfl rfl ?_
  refine J_iload_n dX12_swapIf_5 rfl rfl ?_
  refine J_icmp_le (tgt := 17) dX12_swapIf_6 (by decide) (fun qf0 => ?_) (fun qf0 => ?_)
  · refine J_aload_n dX12_swapIf_17 rfl rfl ?_
    refine J_iconst (v := (-1)) dX12_swapIf_18 (by decide) ?_
    refine J_callV (st := []) dX12_swapIf_19 cv_X12_142 (c_X12_refuses_1 hk98 hk99) hk98 rfl rfl (Nat.le_of_ble_eq_true rfl) ⟨(Nat.le_of_ble_eq_true rfl), (Nat.le_of_ble_eq_true rfl)⟩ ⟨(Nat.le_of_ble_eq_true rfl), (Nat.le_of_ble_eq_true rfl)⟩ (fun r h9 hp => ?_)
    obtain ⟨rfl, rfl⟩ := hp
    refine J_nf (nh2 := nh) (ck2 := 0) (sk2 := 0) (st2 := [.int (-1)]) rfl rfl rfl rfl ?_
    refine J_app (L3 := [(99, .inl (0, 7, .inl (upd (fun _ => 0) 1 1))), (98, .inr (12, [.int (-1), .int 0, .ref 99, .ref 100, .ref 101, .ref 102, .ref 103, .ref 104, .ref 105, .int 0, .int (-1), .ref 106, .ref 107, .ref 108, .int 0, .int 0, .int 0, .int 0, .int 0, .int 0, .int 0, .ref 109, .int 0, .int 0, .ref 110, .ref 111, .ref 112, .ref 113, .ref 114, .ref 115, .ref 116, .ref 117, .int 0, .int 0, .int (-1), .int (-1), .ref 118, .ref 119, .ref 120, .ref 121, .ref 122, .ref 123, .ref 124, .ref 125, .ref 126, .ref 127, .ref 128, .ref 129, .int 0, .ref 130, .ref 131, .ref 132, .ref 133, .ref 134, .int 0, .int 0]))]) rfl ?_
    exact J_iret dX12_swapIf_22 rfl rfl (Nat.le_of_ble_eq_true rfl) (Nat.le_of_ble_eq_true rfl) ⟨rfl, rfl⟩
  · have bf0 : 1 ≤ a2.toInt ∧ a2.toInt ≤ 2147483647 := by have h1 := b_a2; have h2 := b_a1; simp only [fa_le] at qf0; omega
    refine J_iload_n dX12_swapIf_9 rfl rfl ?_
    refine J_aload_n dX12_swapIf_10 rfl rfl ?_
    refine J_callV (st := [.int a2]) dX12_swapIf_11 cv_X12_149 (c_X12_places_1 hk98 hk100) hk98 rfl rfl (Nat.le_of_ble_eq_true rfl) ⟨(Nat.le_of_ble_eq_true rfl), (Nat.le_of_ble_eq_true rfl)⟩ ⟨(Nat.le_of_ble_eq_true rfl), (Nat.le_of_ble_eq_true rfl)⟩ (fun r h9 hp => ?_)
    obtain ⟨rfl, rfl⟩ := hp
    refine J_nf (nh2 := nh) (ck2 := 0) (sk2 := 0) (st2 := [.int 0, .int a2]) rfl rfl rfl rfl ?_
    refine J_icmp_lt (tgt := 23) dX12_swapIf_14 (by decide) (fun q => absurd q (by have hb0 := bf0; simp only [fa_lt, fa_le, fa_eq, kc_0]; omega)) (fun _ => ?_)
    refine J_aload_n dX12_swapIf_17 rfl rfl ?_
    refine J_iconst (v := (-1)) dX12_swapIf_18 (by decide) ?_
    refine J_callV (st := []) dX12_swapIf_19 cv_X12_142 (c_X12_refuses_1 hk98 hk99) hk98 rfl rfl (Nat.le_of_ble_eq_true rfl) ⟨(Nat.le_of_ble_eq_true rfl), (Nat.le_of_ble_eq_true rfl)⟩ ⟨(Nat.le_of_ble_eq_true rfl), (Nat.le_of_ble_eq_true rfl)⟩ (fun r h9 hp => ?_)
    obtain ⟨rfl, rfl⟩ := hp
    refine J_nf (nh2 := nh) (ck2 := 0) (sk2 := 0) (st2 := [.int (-1)]) rfl rfl rfl rfl ?_
    refine J_app (L3 := [(99, .inl (0, 7, .inl (upd (fun _ => 0) 1 1))), (98, .inr (12, [.int (-1), .int 0, .ref 99, .ref 100, .ref 101, .ref 102, .ref 103, .ref 104, .ref 105, .int 0, .int (-1), .ref 106, .ref 107, .ref 108, .int 0, .int 0, .int 0, .int 0, .int 0, .int 0, .int 0, .ref 109, .int 0, .int 0, .ref 110, .ref 111, .ref 112, .ref 113, .ref 114, .ref 115, .ref 116, .ref 117, .int 0, .int 0, .int (-1), .int (-1), .ref 118, .ref 119, .ref 120, .ref 121, .ref 122, .ref 123, .ref 124, .ref 125, .ref 126, .ref 127, .ref 128, .ref 129, .int 0, .ref 130, .ref 131, .ref 132, .ref 133, .ref 134, .int 0, .int 0]))]) rfl ?_
    exact J_iret dX12_swapIf_22 rfl rfl (Nat.le_of_ble_eq_true rfl) (Nat.le_of_ble_eq_true rfl) ⟨rfl, rfl⟩
set_option maxHeartbeats 4000000 in
set_option maxRecDepth 100000 in
theorem c_X11_keep_1 {l : Launch} {G : jG} {nh : Nat} {fh : Nat → Option va_E} (a1 : Int32) (b_a1 : (-2147483648) ≤ a1.toInt ∧ a1.toInt ≤ (-1)) (hk0 : fh 0 = some (.inr (11, [.ref 1, .ref 17, .ref 50, .ref 51, .ref 54, .ref 57, .ref 65, .ref 75, .ref 81, .ref 85, .ref 88, .ref 93, .ref 96, .int 0, .int (-1), .ref 97, .int 0]))) (hk96 : fh 96 = some (.inl (0, 5, .inl (fun _ => 0)))) : JM l G yX11_keep MX11_keep { frames := 2, cells := 0, slots := 0, locals := 41 } [.ref 0, .int a1] (nh, fh) (fun r h9 => r = some (.int (-1)) ∧ h9 = (nh, hc fh [(96, .inl (0, 5, .inl (upd (fun _ => 0) 0 1))), (0, .inr (11, [.ref 1, .ref 17, .ref 50, .ref 51, .ref 54, .ref 57, .ref 65, .ref 75, .ref 81, .ref 85, .ref 88, .ref 93, .ref 96, .int (-1), .int (-1), .ref 97, .int 0]))])) := by
  refine JM.of (by decide) rfl (fun h => by cases h) (Nat.le_of_ble_eq_true rfl) ⟨1, rfl⟩ ?_
  refine J_hc0 (J_ls (ls2 := [some (.ref 0), some (.int a1), none]) rfl ?_)
  refine J_iload_n dX11_keep_0 rfl rfl ?_
  refine J_if_lt (tgt := 15) dX11_keep_1 (by decide) (fun _ => ?_) (fun q => absurd (by have hb0 := b_a1; simp only [fa_lt, fa_le, fa_eq, kc_0]; omega) q)
  refine J_aload_n dX11_keep_15 rfl rfl ?_
  refine J_iconst (v := (-1)) dX11_keep_16 (by decide) ?_
  refine J_callV (st := []) dX11_keep_17 cv_X11_118 (c_X11_refuse_1 hk0 hk96) hk0 rfl rfl (Nat.le_of_ble_eq_true rfl) ⟨(Nat.le_of_ble_eq_true rfl), (Nat.le_of_ble_eq_true rfl)⟩ ⟨(Nat.le_of_ble_eq_true rfl), (Nat.le_of_ble_eq_true rfl)⟩ (fun r h9 hp => ?_)
  obtain ⟨rfl, rfl⟩ := hp
  refine J_nf (nh2 := nh) (ck2 := 0) (sk2 := 0) (st2 := [.int (-1)]) rfl rfl rfl rfl ?_
  refine J_app (L3 := [(96, .inl (0, 5, .inl (upd (fun _ => 0) 0 1))), (0, .inr (11, [.ref 1, .ref 17, .ref 50, .ref 51, .ref 54, .ref 57, .ref 65, .ref 75, .ref 81, .ref 85, .ref 88, .ref 93, .ref 96, .int (-1), .int (-1), .ref 97, .int 0]))]) rfl ?_
  exact J_iret dX11_keep_20 rfl rfl (Nat.le_of_ble_eq_true rfl) (Nat.le_of_ble_eq_true rfl) ⟨rfl, rfl⟩
set_option maxHeartbeats 4000000 in
set_option maxRecDepth 100000 in
theorem c_X12_keep_1 {l : Launch} {G : jG} {nh : Nat} {fh : Nat → Option va_E} (a1 : Int32) (b_a1 : (-2147483648) ≤ a1.toInt ∧ a1.toInt ≤ (-1)) (hk98 : fh 98 = some (.inr (12, [.int 0, .int 0, .ref 99, .ref 100, .ref 101, .ref 102, .ref 103, .ref 104, .ref 105, .int 0, .int (-1), .ref 106, .ref 107, .ref 108, .int 0, .int 0, .int 0, .int 0, .int 0, .int 0, .int 0, .ref 109, .int 0, .int 0, .ref 110, .ref 111, .ref 112, .ref 113, .ref 114, .ref 115, .ref 116, .ref 117, .int 0, .int 0, .int (-1), .int (-1), .ref 118, .ref 119, .ref 120, .ref 121, .ref 122, .ref 123, .ref 124, .ref 125, .ref 126, .ref 127, .ref 128, .ref 129, .int 0, .ref 130, .ref 131, .ref 132, .ref 133, .ref 134, .int 0, .int 0]))) (hk99 : fh 99 = some (.inl (0, 7, .inl (fun _ => 0)))) (hk100 : fh 100 = some (.inl (0, 4870, .inl (upd (fun _ => 0) 63 (-1))))) : JM l G yX12_keep MX12_keep { frames := 1, cells := 0, slots := 0, locals := 22 } [.ref 98, .int a1] (nh, fh) (fun r h9 => r = some (.int (-1)) ∧ h9 = (nh, hc fh [(99, .inl (0, 7, .inl (upd (fun _ => 0) 1 1))), (98, .inr (12, [.int (-1), .int 0, .ref 99, .ref 100, .ref 101, .ref 102, .ref 103, .ref 104, .ref 105, .int 0, .int (-1), .ref 106, .ref 107, .ref 108, .int 0, .int 0, .int 0, .int 0, .int 0, .int 0, .int 0, .ref 109, .int 0, .int 0, .ref 110, .ref 111, .ref 112, .ref 113, .ref 114, .ref 115, .ref 116, .ref 117, .int 0, .int 0, .int (-1), .int (-1), .ref 118, .ref 119, .ref 120, .ref 121, .ref 122, .ref 123, .ref 124, .ref 125, .ref 126, .ref 127, .ref 128, .ref 129, .int 0, .ref 130, .ref 131, .ref 132, .ref 133, .ref 134, .int 0, .int 0]))])) := by
  refine JM.of (by decide) rfl (fun h => by cases h) (Nat.le_of_ble_eq_true rfl) ⟨1, rfl⟩ ?_
  refine J_hc0 (J_ls (ls2 := [some (.ref 98), some (.int a1), none]) rfl ?_)
  refine J_aload_n dX12_keep_0 rfl rfl ?_
  refine J_get (v := .ref 100) dX12_keep_1 fl_X12_20 hk98 rfl ?_
  refine J_bipush (v := 60) dX12_keep_4 (by decide +kernel) ?_
  refine J_iald (i2 := 60) (v := 0) dX12_keep_6 hk100 rfl (jin (by decide +kernel)) (by decide +kernel) rfl ?_
  refine J_istore_n dX12_keep_7 rfl (Nat.le_of_ble_eq_true rfl) rfl ?_
  refine J_iload_n dX12_keep_8 rfl rfl ?_
  refine J_iconst (v := 0) dX12_keep_9 (by decide) ?_
  refine J_iload_n dX12_keep_10 rfl rfl ?_
  refine J_callS (st := []) dX12_keep_11 cs_X12_138 (c_X12_lies_19 (a1) b_a1) rfl rfl (Nat.le_of_ble_eq_true rfl) ⟨(Nat.le_of_ble_eq_true rfl), (Nat.le_of_ble_eq_true rfl)⟩ ⟨(Nat.le_of_ble_eq_true rfl), (Nat.le_of_ble_eq_true rfl)⟩ (fun r h9 hp => ?_)
  obtain ⟨rfl, rfl⟩ := hp
  refine J_nf (nh2 := nh) (ck2 := 0) (sk2 := 0) (st2 := [.int 0]) rfl rfl rfl rfl ?_
  refine J_if_ne (tgt := 23) dX12_keep_14 (by decide) (fun q => absurd (by decide +kernel) q) (fun _ => ?_)
  refine J_aload_n dX12_keep_17 rfl rfl ?_
  refine J_iconst (v := (-1)) dX12_keep_18 (by decide) ?_
  refine J_callV (st := []) dX12_keep_19 cv_X12_142 (c_X12_refuses_1 hk98 hk99) hk98 rfl rfl (Nat.le_of_ble_eq_true rfl) ⟨(Nat.le_of_ble_eq_true rfl), (Nat.le_of_ble_eq_true rfl)⟩ ⟨(Nat.le_of_ble_eq_true rfl), (Nat.le_of_ble_eq_true rfl)⟩ (fun r h9 hp => ?_)
  obtain ⟨rfl, rfl⟩ := hp
  refine J_nf (nh2 := nh) (ck2 := 0) (sk2 := 0) (st2 := [.int (-1)]) rfl rfl rfl rfl ?_
  refine J_app (L3 := [(99, .inl (0, 7, .inl (upd (fun _ => 0) 1 1))), (98, .inr (12, [.int (-1), .int 0, .ref 99, .ref 100, .ref 101, .ref 102, .ref 103, .ref 104, .ref 105, .int 0, .int (-1), .ref 106, .ref 107, .ref 108, .int 0, .int 0, .int 0, .int 0, .int 0, .int 0, .int 0, .ref 109, .int 0, .int 0, .ref 110, .ref 111, .ref 112, .ref 113, .ref 114, .ref 115, .ref 116, .ref 117, .int 0, .int 0, .int (-1), .int (-1), .ref 118, .ref 119, .ref 120, .ref 121, .ref 122, .ref 123, .ref 124, .ref 125, .ref 126, .ref 127, .ref 128, .ref 129, .int 0, .ref 130, .ref 131, .ref 132, .ref 133, .ref 134, .int 0, .int 0]))]) rfl ?_
  exact J_iret dX12_keep_22 rfl rfl (Nat.le_of_ble_eq_true rfl) (Nat.le_of_ble_eq_true rfl) ⟨rfl, rfl⟩
set_option maxHeartbeats 4000000 in
set_option maxRecDepth 100000 in
theorem c_X11_keep_2 {l : Launch} {G : jG} {nh : Nat} {fh : Nat → Option va_E} (hk0 : fh 0 = some (.inr (11, [.ref 1, .ref 17, .ref 50, .ref 51, .ref 54, .ref 57, .ref 65, .ref 75, .ref 81, .ref 85, .ref 88, .ref 93, .ref 96, .int 0, .int (-1), .ref 97, .int 0]))) (hk1 : fh 1 = some (.inr (8, [.ref 2, .ref 3, .ref 4, .int 0, .int (-1), .ref 11, .ref 12, .int 0, .ref 13, .ref 14, .int 0, .ref 15, .ref 16, .int 0]))) : JM l G yX11_keep MX11_keep { frames := 1, cells := 0, slots := 0, locals := 21 } [.ref 0, .int 0] (nh, fh) (fun r h9 => r = some (.int 0) ∧ h9 = (nh, hc fh [(0, .inr (11, [.ref 1, .ref 17, .ref 50, .ref 51, .ref 54, .ref 57, .ref 65, .ref 75, .ref 81, .ref 85, .ref 88, .ref 93, .ref 96, .int 0, .int (-1), .ref 97, .int 0])), (1, .inr (8, [.ref 2, .ref 3, .ref 4, .int 0, .int (-1), .ref 11, .ref 12, .int 0, .ref 13, .ref 14, .int 0, .ref 15, .ref 16, .int 0]))])) := by
  refine JM.of (by decide) rfl (fun h => by cases h) (Nat.le_of_ble_eq_true rfl) ⟨1, rfl⟩ ?_
  refine J_hc0 (J_ls (ls2 := [some (.ref 0), some (.int 0), none]) rfl ?_)
  refine J_iload_n dX11_keep_0 rfl rfl ?_
  refine J_if_lt (tgt := 15) dX11_keep_1 (by decide) (fun q => absurd q (by decide +kernel)) (fun _ => ?_)
  refine J_iload_n dX11_keep_4 rfl rfl ?_
  refine J_aload_n dX11_keep_5 rfl rfl ?_
  refine J_get (v := .ref 1) dX11_keep_6 fl_X11_10 hk0 rfl ?_
  refine J_get (v := .int 0) dX11_keep_9 fl_X11_264 hk1 rfl ?_
  refine J_icmp_le (tgt := 21) dX11_keep_12 (by decide) (fun _ => ?_) (fun q => absurd (by decide +kernel) q)
  refine J_aload_n dX11_keep_21 rfl rfl ?_
  refine J_get (v := .ref 1) dX11_keep_22 fl_X11_10 hk0 rfl ?_
  refine J_get (v := .int 0) dX11_keep_25 fl_X11_264 hk1 rfl ?_
  refine J_istore_n dX11_keep_28 rfl (Nat.le_of_ble_eq_true rfl) rfl ?_
  refine J_aload_n dX11_keep_29 rfl rfl ?_
  refine J_get (v := .ref 1) dX11_keep_30 fl_X11_10 hk0 rfl ?_
  refine J_iload_n dX11_keep_33 rfl rfl ?_
  refine K_put (fs2 := [.ref 2, .ref 3, .ref 4, .int 0, .int (-1), .ref 11, .ref 12, .int 0, .ref 13, .ref 14, .int 0, .ref 15, .ref 16, .int 0]) dX11_keep_34 fw_X11_264 hk1 (Nat.le_of_ble_eq_true rfl) (fun _ => ⟨rfl, rfl⟩) rfl ?_
  refine J_aload_n dX11_keep_37 rfl rfl ?_
  refine J_iload_n dX11_keep_38 rfl rfl ?_
  refine J_callV (st := []) dX11_keep_39 cv_X11_129 (c_X11_accept_1 hk0) hk0 rfl rfl (Nat.le_of_ble_eq_true rfl) ⟨(Nat.le_of_ble_eq_true rfl), (Nat.le_of_ble_eq_true rfl)⟩ ⟨(Nat.le_of_ble_eq_true rfl), (Nat.le_of_ble_eq_true rfl)⟩ (fun r h9 hp => ?_)
  obtain ⟨rfl, rfl⟩ := hp
  refine J_nf (nh2 := nh) (ck2 := 0) (sk2 := 0) (st2 := [.int 0]) rfl rfl rfl rfl ?_
  refine J_app (L3 := [(0, .inr (11, [.ref 1, .ref 17, .ref 50, .ref 51, .ref 54, .ref 57, .ref 65, .ref 75, .ref 81, .ref 85, .ref 88, .ref 93, .ref 96, .int 0, .int (-1), .ref 97, .int 0])), (1, .inr (8, [.ref 2, .ref 3, .ref 4, .int 0, .int (-1), .ref 11, .ref 12, .int 0, .ref 13, .ref 14, .int 0, .ref 15, .ref 16, .int 0]))]) rfl ?_
  exact J_iret dX11_keep_42 rfl rfl (Nat.le_of_ble_eq_true rfl) (Nat.le_of_ble_eq_true rfl) ⟨rfl, rfl⟩
set_option maxHeartbeats 4000000 in
set_option maxRecDepth 100000 in
theorem c_X12_keep_2 {l : Launch} {G : jG} {nh : Nat} {fh : Nat → Option va_E} (hk98 : fh 98 = some (.inr (12, [.int 0, .int 0, .ref 99, .ref 100, .ref 101, .ref 102, .ref 103, .ref 104, .ref 105, .int 0, .int (-1), .ref 106, .ref 107, .ref 108, .int 0, .int 0, .int 0, .int 0, .int 0, .int 0, .int 0, .ref 109, .int 0, .int 0, .ref 110, .ref 111, .ref 112, .ref 113, .ref 114, .ref 115, .ref 116, .ref 117, .int 0, .int 0, .int (-1), .int (-1), .ref 118, .ref 119, .ref 120, .ref 121, .ref 122, .ref 123, .ref 124, .ref 125, .ref 126, .ref 127, .ref 128, .ref 129, .int 0, .ref 130, .ref 131, .ref 132, .ref 133, .ref 134, .int 0, .int 0]))) (hk100 : fh 100 = some (.inl (0, 4870, .inl (upd (fun _ => 0) 63 (-1))))) : JM l G yX12_keep MX12_keep { frames := 1, cells := 0, slots := 0, locals := 22 } [.ref 98, .int 0] (nh, fh) (fun r h9 => r = some (.int 0) ∧ h9 = (nh, hc fh [(98, .inr (12, [.int 0, .int 1, .ref 99, .ref 100, .ref 101, .ref 102, .ref 103, .ref 104, .ref 105, .int 0, .int (-1), .ref 106, .ref 107, .ref 108, .int 0, .int 0, .int 0, .int 0, .int 0, .int 0, .int 0, .ref 109, .int 0, .int 0, .ref 110, .ref 111, .ref 112, .ref 113, .ref 114, .ref 115, .ref 116, .ref 117, .int 0, .int 0, .int (-1), .int (-1), .ref 118, .ref 119, .ref 120, .ref 121, .ref 122, .ref 123, .ref 124, .ref 125, .ref 126, .ref 127, .ref 128, .ref 129, .int 0, .ref 130, .ref 131, .ref 132, .ref 133, .ref 134, .int 0, .int 0])), (100, .inl (0, 4870, .inl (upd (upd (fun _ => 0) 63 (-1)) 60 0)))])) := by
  refine JM.of (by decide) rfl (fun h => by cases h) (Nat.le_of_ble_eq_true rfl) ⟨1, rfl⟩ ?_
  refine J_hc0 (J_ls (ls2 := [some (.ref 98), some (.int 0), none]) rfl ?_)
  refine J_aload_n dX12_keep_0 rfl rfl ?_
  refine J_get (v := .ref 100) dX12_keep_1 fl_X12_20 hk98 rfl ?_
  refine J_bipush (v := 60) dX12_keep_4 (by decide +kernel) ?_
  refine J_iald (i2 := 60) (v := 0) dX12_keep_6 hk100 rfl (jin (by decide +kernel)) (by decide +kernel) rfl ?_
  refine J_istore_n dX12_keep_7 rfl (Nat.le_of_ble_eq_true rfl) rfl ?_
  refine J_iload_n dX12_keep_8 rfl rfl ?_
  refine J_iconst (v := 0) dX12_keep_9 (by decide) ?_
  refine J_iload_n dX12_keep_10 rfl rfl ?_
  refine J_callS (st := []) dX12_keep_11 cs_X12_138 (c_X12_lies_20 ) rfl rfl (Nat.le_of_ble_eq_true rfl) ⟨(Nat.le_of_ble_eq_true rfl), (Nat.le_of_ble_eq_true rfl)⟩ ⟨(Nat.le_of_ble_eq_true rfl), (Nat.le_of_ble_eq_true rfl)⟩ (fun r h9 hp => ?_)
  obtain ⟨rfl, rfl⟩ := hp
  refine J_nf (nh2 := nh) (ck2 := 0) (sk2 := 0) (st2 := [.int 1]) rfl rfl rfl rfl ?_
  refine J_if_ne (tgt := 23) dX12_keep_14 (by decide) (fun _ => ?_) (fun q => absurd q (by decide +kernel))
  refine J_aload_n dX12_keep_23 rfl rfl ?_
  refine J_get (v := .ref 100) dX12_keep_24 fl_X12_20 hk98 rfl ?_
  refine J_bipush (v := 60) dX12_keep_27 (by decide +kernel) ?_
  refine J_iload_n dX12_keep_29 rfl rfl ?_
  refine K_iast (i2 := 60) dX12_keep_30 hk100 rfl (jin (by decide +kernel)) (by decide +kernel) ?_
  refine J_aload_n dX12_keep_31 rfl rfl ?_
  refine J_iload_n dX12_keep_32 rfl rfl ?_
  refine J_callV (st := []) dX12_keep_33 cv_X12_146 (c_X12_good_1 hk98) hk98 rfl rfl (Nat.le_of_ble_eq_true rfl) ⟨(Nat.le_of_ble_eq_true rfl), (Nat.le_of_ble_eq_true rfl)⟩ ⟨(Nat.le_of_ble_eq_true rfl), (Nat.le_of_ble_eq_true rfl)⟩ (fun r h9 hp => ?_)
  obtain ⟨rfl, rfl⟩ := hp
  refine J_nf (nh2 := nh) (ck2 := 0) (sk2 := 0) (st2 := [.int 0]) rfl rfl rfl rfl ?_
  refine J_app (L3 := [(98, .inr (12, [.int 0, .int 1, .ref 99, .ref 100, .ref 101, .ref 102, .ref 103, .ref 104, .ref 105, .int 0, .int (-1), .ref 106, .ref 107, .ref 108, .int 0, .int 0, .int 0, .int 0, .int 0, .int 0, .int 0, .ref 109, .int 0, .int 0, .ref 110, .ref 111, .ref 112, .ref 113, .ref 114, .ref 115, .ref 116, .ref 117, .int 0, .int 0, .int (-1), .int (-1), .ref 118, .ref 119, .ref 120, .ref 121, .ref 122, .ref 123, .ref 124, .ref 125, .ref 126, .ref 127, .ref 128, .ref 129, .int 0, .ref 130, .ref 131, .ref 132, .ref 133, .ref 134, .int 0, .int 0])), (100, .inl (0, 4870, .inl (upd (upd (fun _ => 0) 63 (-1)) 60 0)))]) rfl ?_
  exact J_iret dX12_keep_36 rfl rfl (Nat.le_of_ble_eq_true rfl) (Nat.le_of_ble_eq_true rfl) ⟨rfl, rfl⟩
set_option maxHeartbeats 4000000 in
set_option maxRecDepth 100000 in
theorem c_X11_keep_3 {l : Launch} {G : jG} {nh : Nat} {fh : Nat → Option va_E} (a1 : Int32) (b_a1 : 1 ≤ a1.toInt ∧ a1.toInt ≤ 2147483647) (hk0 : fh 0 = some (.inr (11, [.ref 1, .ref 17, .ref 50, .ref 51, .ref 54, .ref 57, .ref 65, .ref 75, .ref 81, .ref 85, .ref 88, .ref 93, .ref 96, .int 0, .int (-1), .ref 97, .int 0]))) (hk1 : fh 1 = some (.inr (8, [.ref 2, .ref 3, .ref 4, .int 0, .int (-1), .ref 11, .ref 12, .int 0, .ref 13, .ref 14, .int 0, .ref 15, .ref 16, .int 0]))) (hk96 : fh 96 = some (.inl (0, 5, .inl (fun _ => 0)))) : JM l G yX11_keep MX11_keep { frames := 2, cells := 0, slots := 0, locals := 41 } [.ref 0, .int a1] (nh, fh) (fun r h9 => r = some (.int (-1)) ∧ h9 = (nh, hc fh [(96, .inl (0, 5, .inl (upd (fun _ => 0) 0 1))), (0, .inr (11, [.ref 1, .ref 17, .ref 50, .ref 51, .ref 54, .ref 57, .ref 65, .ref 75, .ref 81, .ref 85, .ref 88, .ref 93, .ref 96, .int (-1), .int (-1), .ref 97, .int 0]))])) := by
  refine JM.of (by decide) rfl (fun h => by cases h) (Nat.le_of_ble_eq_true rfl) ⟨1, rfl⟩ ?_
  refine J_hc0 (J_ls (ls2 := [some (.ref 0), some (.int a1), none]) rfl ?_)
  refine J_iload_n dX11_keep_0 rfl rfl ?_
  refine J_if_lt (tgt := 15) dX11_keep_1 (by decide) (fun q => absurd q (by have hb0 := b_a1; simp only [fa_lt, fa_le, fa_eq, kc_0]; omega)) (fun _ => ?_)
  refine J_iload_n dX11_keep_4 rfl rfl ?_
  refine J_aload_n dX11_keep_5 rfl rfl ?_
  refine J_get (v := .ref 1) dX11_keep_6 fl_X11_10 hk0 rfl ?_
  refine J_get (v := .int 0) dX11_keep_9 fl_X11_264 hk1 rfl ?_
  refine J_icmp_le (tgt := 21) dX11_keep_12 (by decide) (fun q => absurd q (by have hb0 := b_a1; simp only [fa_lt, fa_le, fa_eq, kc_0]; omega)) (fun _ => ?_)
  refine J_aload_n dX11_keep_15 rfl rfl ?_
  refine J_iconst (v := (-1)) dX11_keep_16 (by decide) ?_
  refine J_callV (st := []) dX11_keep_17 cv_X11_118 (c_X11_refuse_1 hk0 hk96) hk0 rfl rfl (Nat.le_of_ble_eq_true rfl) ⟨(Nat.le_of_ble_eq_true rfl), (Nat.le_of_ble_eq_true rfl)⟩ ⟨(Nat.le_of_ble_eq_true rfl), (Nat.le_of_ble_eq_true rfl)⟩ (fun r h9 hp => ?_)
  obtain ⟨rfl, rfl⟩ := hp
  refine J_nf (nh2 := nh) (ck2 := 0) (sk2 := 0) (st2 := [.int (-1)]) rfl rfl rfl rfl ?_
  refine J_app (L3 := [(96, .inl (0, 5, .inl (upd (fun _ => 0) 0 1))), (0, .inr (11, [.ref 1, .ref 17, .ref 50, .ref 51, .ref 54, .ref 57, .ref 65, .ref 75, .ref 81, .ref 85, .ref 88, .ref 93, .ref 96, .int (-1), .int (-1), .ref 97, .int 0]))]) rfl ?_
  exact J_iret dX11_keep_20 rfl rfl (Nat.le_of_ble_eq_true rfl) (Nat.le_of_ble_eq_true rfl) ⟨rfl, rfl⟩
set_option maxHeartbeats 4000000 in
set_option maxRecDepth 100000 in
theorem c_X12_keep_3 {l : Launch} {G : jG} {nh : Nat} {fh : Nat → Option va_E} (a1 : Int32) (b_a1 : 1 ≤ a1.toInt ∧ a1.toInt ≤ 2147483647) (hk98 : fh 98 = some (.inr (12, [.int 0, .int 0, .ref 99, .ref 100, .ref 101, .ref 102, .ref 103, .ref 104, .ref 105, .int 0, .int (-1), .ref 106, .ref 107, .ref 108, .int 0, .int 0, .int 0, .int 0, .int 0, .int 0, .int 0, .ref 109, .int 0, .int 0, .ref 110, .ref 111, .ref 112, .ref 113, .ref 114, .ref 115, .ref 116, .ref 117, .int 0, .int 0, .int (-1), .int (-1), .ref 118, .ref 119, .ref 120, .ref 121, .ref 122, .ref 123, .ref 124, .ref 125, .ref 126, .ref 127, .ref 128, .ref 129, .int 0, .ref 130, .ref 131, .ref 132, .ref 133, .ref 134, .int 0, .int 0]))) (hk99 : fh 99 = some (.inl (0, 7, .inl (fun _ => 0)))) (hk100 : fh 100 = some (.inl (0, 4870, .inl (upd (fun _ => 0) 63 (-1))))) : JM l G yX12_keep MX12_keep { frames := 1, cells := 0, slots := 0, locals := 22 } [.ref 98, .int a1] (nh, fh) (fun r h9 => r = some (.int (-1)) ∧ h9 = (nh, hc fh [(99, .inl (0, 7, .inl (upd (fun _ => 0) 1 1))), (98, .inr (12, [.int (-1), .int 0, .ref 99, .ref 100, .ref 101, .ref 102, .ref 103, .ref 104, .ref 105, .int 0, .int (-1), .ref 106, .ref 107, .ref 108, .int 0, .int 0, .int 0, .int 0, .int 0, .int 0, .int 0, .ref 109, .int 0, .int 0, .ref 110, .ref 111, .ref 112, .ref 113, .ref 114, .ref 115, .ref 116, .ref 117, .int 0, .int 0, .int (-1), .int (-1), .ref 118, .ref 119, .ref 120, .ref 121, .ref 122, .ref 123, .ref 124, .ref 125, .ref 126, .ref 127, .ref 128, .ref 129, .int 0, .ref 130, .ref 131, .ref 132, .ref 133, .ref 134, .int 0, .int 0]))])) := by
  refine JM.of (by decide) rfl (fun h => by cases h) (Nat.le_of_ble_eq_true rfl) ⟨1, rfl⟩ ?_
  refine J_hc0 (J_ls (ls2 := [some (.ref 98), some (.int a1), none]) rfl ?_)
  refine J_aload_n dX12_keep_0 rfl rfl ?_
  refine J_get (v := .ref 100) dX12_keep_1 fl_X12_20 hk98 rfl ?_
  refine J_bipush (v := 60) dX12_keep_4 (by decide +kernel) ?_
  refine J_iald (i2 := 60) (v := 0) dX12_keep_6 hk100 rfl (jin (by decide +kernel)) (by decide +kernel) rfl ?_
  refine J_istore_n dX12_keep_7 rfl (Nat.le_of_ble_eq_true rfl) rfl ?_
  refine J_iload_n dX12_keep_8 rfl rfl ?_
  refine J_iconst (v := 0) dX12_keep_9 (by decide) ?_
  refine J_iload_n dX12_keep_10 rfl rfl ?_
  refine J_callS (st := []) dX12_keep_11 cs_X12_138 (c_X12_lies_21 (a1) b_a1) rfl rfl (Nat.le_of_ble_eq_true rfl) ⟨(Nat.le_of_ble_eq_true rfl), (Nat.le_of_ble_eq_true rfl)⟩ ⟨(Nat.le_of_ble_eq_true rfl), (Nat.le_of_ble_eq_true rfl)⟩ (fun r h9 hp => ?_)
  obtain ⟨rfl, rfl⟩ := hp
  refine J_nf (nh2 := nh) (ck2 := 0) (sk2 := 0) (st2 := [.int 0]) rfl rfl rfl rfl ?_
  refine J_if_ne (tgt := 23) dX12_keep_14 (by decide) (fun q => absurd (by decide +kernel) q) (fun _ => ?_)
  refine J_aload_n dX12_keep_17 rfl rfl ?_
  refine J_iconst (v := (-1)) dX12_keep_18 (by decide) ?_
  refine J_callV (st := []) dX12_keep_19 cv_X12_142 (c_X12_refuses_1 hk98 hk99) hk98 rfl rfl (Nat.le_of_ble_eq_true rfl) ⟨(Nat.le_of_ble_eq_true rfl), (Nat.le_of_ble_eq_true rfl)⟩ ⟨(Nat.le_of_ble_eq_true rfl), (Nat.le_of_ble_eq_true rfl)⟩ (fun r h9 hp => ?_)
  obtain ⟨rfl, rfl⟩ := hp
  refine J_nf (nh2 := nh) (ck2 := 0) (sk2 := 0) (st2 := [.int (-1)]) rfl rfl rfl rfl ?_
  refine J_app (L3 := [(99, .inl (0, 7, .inl (upd (fun _ => 0) 1 1))), (98, .inr (12, [.int (-1), .int 0, .ref 99, .ref 100, .ref 101, .ref 102, .ref 103, .ref 104, .ref 105, .int 0, .int (-1), .ref 106, .ref 107, .ref 108, .int 0, .int 0, .int 0, .int 0, .int 0, .int 0, .int 0, .ref 109, .int 0, .int 0, .ref 110, .ref 111, .ref 112, .ref 113, .ref 114, .ref 115, .ref 116, .ref 117, .int 0, .int 0, .int (-1), .int (-1), .ref 118, .ref 119, .ref 120, .ref 121, .ref 122, .ref 123, .ref 124, .ref 125, .ref 126, .ref 127, .ref 128, .ref 129, .int 0, .ref 130, .ref 131, .ref 132, .ref 133, .ref 134, .int 0, .int 0]))]) rfl ?_
  exact J_iret dX12_keep_22 rfl rfl (Nat.le_of_ble_eq_true rfl) (Nat.le_of_ble_eq_true rfl) ⟨rfl, rfl⟩
set_option maxHeartbeats 4000000 in
set_option maxRecDepth 100000 in
theorem c_X2_prepare_1 {l : Launch} {G : jG} {nh : Nat} {fh : Nat → Option va_E} (hk1 : fh 1 = some (.inr (8, [.ref 2, .ref 3, .ref 4, .int 0, .int (-1), .ref 11, .ref 12, .int 0, .ref 13, .ref 14, .int 0, .ref 15, .ref 16, .int 0]))) (hk85 : fh 85 = some (.inr (2, [.ref 1, .ref 51, .ref 86, .ref 87]))) : JM l G yX2_prepare MX2_prepare { frames := 0, cells := 0, slots := 0, locals := 0 } [.ref 85] (nh, fh) (fun r h9 => r = none ∧ h9 = (nh, fh)) := by
  refine JM.of (by decide) rfl (fun h => by cases h) (Nat.le_of_ble_eq_true rfl) ⟨1, rfl⟩ ?_
  refine J_hc0 (J_ls (ls2 := [some (.ref 85), none]) rfl ?_)
  refine J_iconst (v := 0) dX2_prepare_0 (by decide) ?_
  refine J_istore_n dX2_prepare_1 rfl (Nat.le_of_ble_eq_true rfl) rfl ?_
  refine J_iload_n dX2_prepare_2 rfl rfl ?_
  refine J_aload_n dX2_prepare_3 rfl rfl ?_
  refine J_get (v := .ref 1) dX2_prepare_4 fl_X2_18 hk85 rfl ?_
  refine J_get (v := .int 0) dX2_prepare_7 fl_X2_26 hk1 rfl ?_
  refine J_icmp_ge (tgt := 63) dX2_prepare_10 (by decide) (fun _ => ?_) (fun q => absurd (by decide +kernel) q)
  exact J_vret dX2_prepare_63 rfl (Nat.le_of_ble_eq_true rfl) (Nat.le_of_ble_eq_true rfl) ⟨rfl, rfl⟩
set_option maxHeartbeats 4000000 in
set_option maxRecDepth 100000 in
theorem c_X11_sorts_1 {l : Launch} {G : jG} {nh : Nat} {fh : Nat → Option va_E} (a1 : Int32) (b_a1 : (-2147483648) ≤ a1.toInt ∧ a1.toInt ≤ (-1)) (hk0 : fh 0 = some (.inr (11, [.ref 1, .ref 17, .ref 50, .ref 51, .ref 54, .ref 57, .ref 65, .ref 75, .ref 81, .ref 85, .ref 88, .ref 93, .ref 96, .int 0, .int (-1), .ref 97, .int 0]))) (hk1 : fh 1 = some (.inr (8, [.ref 2, .ref 3, .ref 4, .int 0, .int (-1), .ref 11, .ref 12, .int 0, .ref 13, .ref 14, .int 0, .ref 15, .ref 16, .int 0]))) (hk85 : fh 85 = some (.inr (2, [.ref 1, .ref 51, .ref 86, .ref 87]))) : JM l G yX11_sorts MX11_sorts { frames := 1, cells := 0, slots := 0, locals := 21 } [.ref 0, .int a1] (nh, fh) (fun r h9 => r = some (.int (-1)) ∧ h9 = (nh, fh)) := by
  refine JM.of (by decide) rfl (fun h => by cases h) (Nat.le_of_ble_eq_true rfl) ⟨0, rfl⟩ ?_
  refine J_hc0 (J_ls (ls2 := [some (.ref 0), some (.int a1)]) rfl ?_)
  refine J_aload_n dX11_sorts_0 rfl rfl ?_
  refine J_get (v := .ref 85) dX11_sorts_1 fl_X11_73 hk0 rfl ?_
  refine J_callV (st := []) dX11_sorts_4 cv_X11_270 (c_X2_prepare_1 hk1 hk85) hk85 rfl rfl (Nat.le_of_ble_eq_true rfl) ⟨(Nat.le_of_ble_eq_true rfl), (Nat.le_of_ble_eq_true rfl)⟩ ⟨(Nat.le_of_ble_eq_true rfl), (Nat.le_of_ble_eq_true rfl)⟩ (fun r h9 hp => ?_)
  obtain ⟨rfl, rfl⟩ := hp
  refine J_nf (nh2 := nh) (ck2 := 0) (sk2 := 0) (st2 := []) rfl rfl rfl rfl ?_
  refine J_iload_n dX11_sorts_7 rfl rfl ?_
  refine J_tableOut (tgt := 72) dX11_sorts_8 (by have hb := b_a1; omega) (by decide) ?_
  refine J_iconst (v := (-1)) dX11_sorts_72 (by decide) ?_
  exact J_iret dX11_sorts_73 rfl rfl (Nat.le_of_ble_eq_true rfl) (Nat.le_of_ble_eq_true rfl) ⟨rfl, rfl⟩
set_option maxHeartbeats 4000000 in
set_option maxRecDepth 100000 in
theorem c_X12_sorts_1 {l : Launch} {G : jG} {nh : Nat} {fh : Nat → Option va_E} (a1 : Int32) (b_a1 : (-2147483648) ≤ a1.toInt ∧ a1.toInt ≤ (-1)) : JM l G yX12_sorts MX12_sorts { frames := 1, cells := 0, slots := 0, locals := 22 } [.ref 98, .int a1] (nh, fh) (fun r h9 => r = some (.int (-1)) ∧ h9 = (nh, fh)) := by
  refine JM.of (by decide) rfl (fun h => by cases h) (Nat.le_of_ble_eq_true rfl) ⟨4, rfl⟩ ?_
  refine J_hc0 (J_ls (ls2 := [some (.ref 98), some (.int a1), none, none, none, none]) rfl ?_)
  refine J_iload_n dX12_sorts_0 rfl rfl ?_
  refine J_iconst (v := 0) dX12_sorts_1 (by decide) ?_
  refine J_iconst (v := 3) dX12_sorts_2 (by decide) ?_
  refine J_callS (st := []) dX12_sorts_3 cs_X12_138 (c_X12_lies_41 (a1) b_a1) rfl rfl (Nat.le_of_ble_eq_true rfl) ⟨(Nat.le_of_ble_eq_true rfl), (Nat.le_of_ble_eq_true rfl)⟩ ⟨(Nat.le_of_ble_eq_true rfl), (Nat.le_of_ble_eq_true rfl)⟩ (fun r h9 hp => ?_)
  obtain ⟨rfl, rfl⟩ := hp
  refine J_nf (nh2 := nh) (ck2 := 0) (sk2 := 0) (st2 := [.int 0]) rfl rfl rfl rfl ?_
  refine J_if_ne (tgt := 11) dX12_sorts_6 (by decide) (fun q => absurd (by decide +kernel) q) (fun _ => ?_)
  refine J_iconst (v := (-1)) dX12_sorts_9 (by decide) ?_
  exact J_iret dX12_sorts_10 rfl rfl (Nat.le_of_ble_eq_true rfl) (Nat.le_of_ble_eq_true rfl) ⟨rfl, rfl⟩
set_option maxHeartbeats 4000000 in
set_option maxRecDepth 100000 in
theorem c_X2_run_1 {l : Launch} {G : jG} {nh : Nat} {fh : Nat → Option va_E}  : JM l G yX2_run MX2_run { frames := 0, cells := 0, slots := 0, locals := 0 } [.ref 85, .int 0, .int 0, .int (-1)] (nh, fh) (fun r h9 => r = some (.int 0) ∧ h9 = (nh, fh)) := by
  refine JM.of (by decide) rfl (fun h => by cases h) (Nat.le_of_ble_eq_true rfl) ⟨4, rfl⟩ ?_
  refine J_hc0 (J_ls (ls2 := [some (.ref 85), some (.int 0), some (.int 0), some (.int (-1)), none, none, none, none]) rfl ?_)
  refine J_iload_n dX2_run_0 rfl rfl ?_
  refine J_istore dX2_run_1 (Nat.le_of_ble_eq_true rfl) rfl ?_
  refine J_iconst (v := 0) dX2_run_3 (by decide) ?_
  refine J_istore dX2_run_4 (Nat.le_of_ble_eq_true rfl) rfl ?_
  refine J_iload dX2_run_6 rfl ?_
  refine J_iload_n dX2_run_8 rfl rfl ?_
  refine J_icmp_ge (tgt := 82) dX2_run_9 (by decide) (fun _ => ?_) (fun q => absurd (by decide +kernel) q)
  refine J_iload dX2_run_82 rfl ?_
  exact J_iret dX2_run_84 rfl rfl (Nat.le_of_ble_eq_true rfl) (Nat.le_of_ble_eq_true rfl) ⟨rfl, rfl⟩
set_option maxHeartbeats 4000000 in
set_option maxRecDepth 100000 in
theorem c_X2_tally_1 {l : Launch} {G : jG} {nh : Nat} {fh : Nat → Option va_E} (hk51 : fh 51 = some (.inr (0, [.ref 52, .ref 53, .int 1, .int 0]))) (hk52 : fh 52 = some (.inl (0, 1260, .inl (upd (fun _ => 0) 0 0)))) (hk85 : fh 85 = some (.inr (2, [.ref 1, .ref 51, .ref 86, .ref 87]))) : JM l G yX2_tally MX2_tally { frames := 2, cells := 0, slots := 0, locals := 42 } [.ref 85, .int 0, .int (-1)] (nh, fh) (fun r h9 => r = some (.int 1) ∧ h9 = (nh, fh)) := by
  refine JM.of (by decide) rfl (fun h => by cases h) (Nat.le_of_ble_eq_true rfl) ⟨3, rfl⟩ ?_
  refine J_hc0 (J_ls (ls2 := [some (.ref 85), some (.int 0), some (.int (-1)), none, none, none]) rfl ?_)
  refine J_aload_n dX2_tally_0 rfl rfl ?_
  refine J_get (v := .ref 51) dX2_tally_1 fl_X2_22 hk85 rfl ?_
  refine J_iconst (v := 0) dX2_tally_4 (by decide) ?_
  refine J_callV (st := []) dX2_tally_5 cv_X2_44 (c_X0_rowOf_1 hk51 hk52) hk51 rfl rfl (Nat.le_of_ble_eq_true rfl) ⟨(Nat.le_of_ble_eq_true rfl), (Nat.le_of_ble_eq_true rfl)⟩ ⟨(Nat.le_of_ble_eq_true rfl), (Nat.le_of_ble_eq_true rfl)⟩ (fun r h9 hp => ?_)
  obtain ⟨rfl, rfl⟩ := hp
  refine J_nf (nh2 := nh) (ck2 := 0) (sk2 := 0) (st2 := [.int 0]) rfl rfl rfl rfl ?_
  refine J_istore_n dX2_tally_8 rfl (Nat.le_of_ble_eq_true rfl) rfl ?_
  refine J_iconst (v := 0) dX2_tally_9 (by decide) ?_
  refine J_istore dX2_tally_10 (Nat.le_of_ble_eq_true rfl) rfl ?_
  refine J_iconst (v := 0) dX2_tally_12 (by decide) ?_
  refine J_istore dX2_tally_13 (Nat.le_of_ble_eq_true rfl) rfl ?_
  refine J_iload dX2_tally_15 rfl ?_
  refine J_aload_n dX2_tally_17 rfl rfl ?_
  refine J_get (v := .ref 51) dX2_tally_18 fl_X2_22 hk85 rfl ?_
  refine J_callV (st := [.int 0]) dX2_tally_21 cv_X2_58 (c_X0_many_1 hk51) hk51 rfl rfl (Nat.le_of_ble_eq_true rfl) ⟨(Nat.le_of_ble_eq_true rfl), (Nat.le_of_ble_eq_true rfl)⟩ ⟨(Nat.le_of_ble_eq_true rfl), (Nat.le_of_ble_eq_true rfl)⟩ (fun r h9 hp => ?_)
  obtain ⟨rfl, rfl⟩ := hp
  refine J_nf (nh2 := nh) (ck2 := 0) (sk2 := 0) (st2 := [.int 1, .int 0]) rfl rfl rfl rfl ?_
  refine J_icmp_ge (tgt := 55) dX2_tally_24 (by decide) (fun q => absurd q (by decide +kernel)) (fun _ => ?_)
  refine J_aload_n dX2_tally_27 rfl rfl ?_
  refine J_aload_n dX2_tally_28 rfl rfl ?_
  refine J_get (v := .ref 51) dX2_tally_29 fl_X2_22 hk85 rfl ?_
  refine J_iload dX2_tally_32 rfl ?_
  refine J_callV (st := [.ref 85]) dX2_tally_34 cv_X2_44 (c_X0_rowOf_1 hk51 hk52) hk51 rfl rfl (Nat.le_of_ble_eq_true rfl) ⟨(Nat.le_of_ble_eq_true rfl), (Nat.le_of_ble_eq_true rfl)⟩ ⟨(Nat.le_of_ble_eq_true rfl), (Nat.le_of_ble_eq_true rfl)⟩ (fun r h9 hp => ?_)
  obtain ⟨rfl, rfl⟩ := hp
  refine J_nf (nh2 := nh) (ck2 := 0) (sk2 := 0) (st2 := [.int 0, .ref 85]) rfl rfl rfl rfl ?_
  refine J_iload_n dX2_tally_37 rfl rfl ?_
  refine J_iload_n dX2_tally_38 rfl rfl ?_
  refine J_callV (st := []) dX2_tally_39 cv_X2_47 (c_X2_run_1 ) hk85 rfl rfl (Nat.le_of_ble_eq_true rfl) ⟨(Nat.le_of_ble_eq_true rfl), (Nat.le_of_ble_eq_true rfl)⟩ ⟨(Nat.le_of_ble_eq_true rfl), (Nat.le_of_ble_eq_true rfl)⟩ (fun r h9 hp => ?_)
  obtain ⟨rfl, rfl⟩ := hp
  refine J_nf (nh2 := nh) (ck2 := 0) (sk2 := 0) (st2 := [.int 0]) rfl rfl rfl rfl ?_
  refine J_iload_n dX2_tally_42 rfl rfl ?_
  refine J_icmp_ne (tgt := 49) dX2_tally_43 (by decide) (fun q => absurd (by decide +kernel) q) (fun _ => ?_)
  refine J_iinc (v := 1) dX2_tally_46 rfl (by decide +kernel) (Nat.le_of_ble_eq_true rfl) rfl ?_
  refine J_ls (ls2 := [some (.ref 85), some (.int 0), some (.int (-1)), some (.int 0), some (.int 1), some (.int 0)]) rfl ?_
  refine J_iinc (v := 1) dX2_tally_49 rfl (by decide +kernel) (Nat.le_of_ble_eq_true rfl) rfl ?_
  refine J_ls (ls2 := [some (.ref 85), some (.int 0), some (.int (-1)), some (.int 0), some (.int 1), some (.int 1)]) rfl ?_
  refine J_goto (tgt := 15) dX2_tally_52 (by decide) ?_
  refine J_iload dX2_tally_15 rfl ?_
  refine J_aload_n dX2_tally_17 rfl rfl ?_
  refine J_get (v := .ref 51) dX2_tally_18 fl_X2_22 hk85 rfl ?_
  refine J_callV (st := [.int 1]) dX2_tally_21 cv_X2_58 (c_X0_many_1 hk51) hk51 rfl rfl (Nat.le_of_ble_eq_true rfl) ⟨(Nat.le_of_ble_eq_true rfl), (Nat.le_of_ble_eq_true rfl)⟩ ⟨(Nat.le_of_ble_eq_true rfl), (Nat.le_of_ble_eq_true rfl)⟩ (fun r h9 hp => ?_)
  obtain ⟨rfl, rfl⟩ := hp
  refine J_nf (nh2 := nh) (ck2 := 0) (sk2 := 0) (st2 := [.int 1, .int 1]) rfl rfl rfl rfl ?_
  refine J_icmp_ge (tgt := 55) dX2_tally_24 (by decide) (fun _ => ?_) (fun q => absurd (by decide +kernel) q)
  refine J_iload dX2_tally_55 rfl ?_
  exact J_iret dX2_tally_57 rfl rfl (Nat.le_of_ble_eq_true rfl) (Nat.le_of_ble_eq_true rfl) ⟨rfl, rfl⟩
set_option maxHeartbeats 4000000 in
set_option maxRecDepth 100000 in
theorem c_X2_sortedAll_1 {l : Launch} {G : jG} {nh : Nat} {fh : Nat → Option va_E} (hk1 : fh 1 = some (.inr (8, [.ref 2, .ref 3, .ref 4, .int 0, .int (-1), .ref 11, .ref 12, .int 0, .ref 13, .ref 14, .int 0, .ref 15, .ref 16, .int 0]))) (hk51 : fh 51 = some (.inr (0, [.ref 52, .ref 53, .int 1, .int 0]))) (hk52 : fh 52 = some (.inl (0, 1260, .inl (upd (fun _ => 0) 0 0)))) (hk85 : fh 85 = some (.inr (2, [.ref 1, .ref 51, .ref 86, .ref 87]))) : JM l G yX2_sortedAll MX2_sortedAll { frames := 3, cells := 0, slots := 0, locals := 67 } [.ref 85] (nh, fh) (fun r h9 => r = some (.int 1) ∧ h9 = (nh, fh)) := by
  refine JM.of (by decide) rfl (fun h => by cases h) (Nat.le_of_ble_eq_true rfl) ⟨0, rfl⟩ ?_
  refine J_hc0 (J_ls (ls2 := [some (.ref 85)]) rfl ?_)
  refine J_aload_n dX2_sortedAll_0 rfl rfl ?_
  refine J_aload_n dX2_sortedAll_1 rfl rfl ?_
  refine J_get (v := .ref 1) dX2_sortedAll_2 fl_X2_18 hk85 rfl ?_
  refine J_get (v := .int 0) dX2_sortedAll_5 fl_X2_26 hk1 rfl ?_
  refine J_iconst (v := (-1)) dX2_sortedAll_8 (by decide) ?_
  refine J_callV (st := []) dX2_sortedAll_9 cv_X2_54 (c_X2_tally_1 hk51 hk52 hk85) hk85 rfl rfl (Nat.le_of_ble_eq_true rfl) ⟨(Nat.le_of_ble_eq_true rfl), (Nat.le_of_ble_eq_true rfl)⟩ ⟨(Nat.le_of_ble_eq_true rfl), (Nat.le_of_ble_eq_true rfl)⟩ (fun r h9 hp => ?_)
  obtain ⟨rfl, rfl⟩ := hp
  refine J_nf (nh2 := nh) (ck2 := 0) (sk2 := 0) (st2 := [.int 1]) rfl rfl rfl rfl ?_
  exact J_iret dX2_sortedAll_12 rfl rfl (Nat.le_of_ble_eq_true rfl) (Nat.le_of_ble_eq_true rfl) ⟨rfl, rfl⟩
set_option maxHeartbeats 4000000 in
set_option maxRecDepth 100000 in
theorem c_X11_sorts_2 {l : Launch} {G : jG} {nh : Nat} {fh : Nat → Option va_E} (hk0 : fh 0 = some (.inr (11, [.ref 1, .ref 17, .ref 50, .ref 51, .ref 54, .ref 57, .ref 65, .ref 75, .ref 81, .ref 85, .ref 88, .ref 93, .ref 96, .int 0, .int (-1), .ref 97, .int 0]))) (hk1 : fh 1 = some (.inr (8, [.ref 2, .ref 3, .ref 4, .int 0, .int (-1), .ref 11, .ref 12, .int 0, .ref 13, .ref 14, .int 0, .ref 15, .ref 16, .int 0]))) (hk51 : fh 51 = some (.inr (0, [.ref 52, .ref 53, .int 1, .int 0]))) (hk52 : fh 52 = some (.inl (0, 1260, .inl (upd (fun _ => 0) 0 0)))) (hk85 : fh 85 = some (.inr (2, [.ref 1, .ref 51, .ref 86, .ref 87]))) : JM l G yX11_sorts MX11_sorts { frames := 4, cells := 0, slots := 0, locals := 87 } [.ref 0, .int 0] (nh, fh) (fun r h9 => r = some (.int 1) ∧ h9 = (nh, fh)) := by
  refine JM.of (by decide) rfl (fun h => by cases h) (Nat.le_of_ble_eq_true rfl) ⟨0, rfl⟩ ?_
  refine J_hc0 (J_ls (ls2 := [some (.ref 0), some (.int 0)]) rfl ?_)
  refine J_aload_n dX11_sorts_0 rfl rfl ?_
  refine J_get (v := .ref 85) dX11_sorts_1 fl_X11_73 hk0 rfl ?_
  refine J_callV (st := []) dX11_sorts_4 cv_X11_270 (c_X2_prepare_1 hk1 hk85) hk85 rfl rfl (Nat.le_of_ble_eq_true rfl) ⟨(Nat.le_of_ble_eq_true rfl), (Nat.le_of_ble_eq_true rfl)⟩ ⟨(Nat.le_of_ble_eq_true rfl), (Nat.le_of_ble_eq_true rfl)⟩ (fun r h9 hp => ?_)
  obtain ⟨rfl, rfl⟩ := hp
  refine J_nf (nh2 := nh) (ck2 := 0) (sk2 := 0) (st2 := []) rfl rfl rfl rfl ?_
  refine J_iload_n dX11_sorts_7 rfl rfl ?_
  refine J_tableIn (tgt := 40) dX11_sorts_8 (by decide +kernel) (by decide +kernel) (off := 32) (by decide +kernel) (by decide) ?_
  refine J_aload_n dX11_sorts_40 rfl rfl ?_
  refine J_get (v := .ref 85) dX11_sorts_41 fl_X11_73 hk0 rfl ?_
  refine J_callV (st := []) dX11_sorts_44 cv_X11_271 (c_X2_sortedAll_1 hk1 hk51 hk52 hk85) hk85 rfl rfl (Nat.le_of_ble_eq_true rfl) ⟨(Nat.le_of_ble_eq_true rfl), (Nat.le_of_ble_eq_true rfl)⟩ ⟨(Nat.le_of_ble_eq_true rfl), (Nat.le_of_ble_eq_true rfl)⟩ (fun r h9 hp => ?_)
  obtain ⟨rfl, rfl⟩ := hp
  refine J_nf (nh2 := nh) (ck2 := 0) (sk2 := 0) (st2 := [.int 1]) rfl rfl rfl rfl ?_
  exact J_iret dX11_sorts_47 rfl rfl (Nat.le_of_ble_eq_true rfl) (Nat.le_of_ble_eq_true rfl) ⟨rfl, rfl⟩
set_option maxHeartbeats 4000000 in
set_option maxRecDepth 100000 in
theorem c_X12_takesOrder_1 {l : Launch} {G : jG} {nh : Nat} {fh : Nat → Option va_E} (hk98 : fh 98 = some (.inr (12, [.int 0, .int 0, .ref 99, .ref 100, .ref 101, .ref 102, .ref 103, .ref 104, .ref 105, .int 0, .int (-1), .ref 106, .ref 107, .ref 108, .int 0, .int 0, .int 0, .int 0, .int 0, .int 0, .int 0, .ref 109, .int 0, .int 0, .ref 110, .ref 111, .ref 112, .ref 113, .ref 114, .ref 115, .ref 116, .ref 117, .int 1, .int 0, .int 0, .int (-1), .ref 118, .ref 119, .ref 120, .ref 121, .ref 122, .ref 123, .ref 124, .ref 125, .ref 126, .ref 127, .ref 128, .ref 129, .int (-1), .ref 130, .ref 131, .ref 132, .ref 133, .ref 134, .int 0, .int 0]))) : JM l G yX12_takesOrder MX12_takesOrder { frames := 0, cells := 0, slots := 0, locals := 0 } [.ref 98, .int 0] (nh, fh) (fun r h9 => r = none ∧ h9 = (nh, fh)) := by
  refine JM.of (by decide) rfl (fun h => by cases h) (Nat.le_of_ble_eq_true rfl) ⟨1, rfl⟩ ?_
  refine J_hc0 (J_ls (ls2 := [some (.ref 98), some (.int 0), none]) rfl ?_)
  refine J_iconst (v := 0) dX12_takesOrder_0 (by decide) ?_
  refine J_istore_n dX12_takesOrder_1 rfl (Nat.le_of_ble_eq_true rfl) rfl ?_
  refine J_iload_n dX12_takesOrder_2 rfl rfl ?_
  refine J_aload_n dX12_takesOrder_3 rfl rfl ?_
  refine J_get (v := .int 0) dX12_takesOrder_4 fl_X12_293 hk98 rfl ?_
  refine J_icmp_ge (tgt := 28) dX12_takesOrder_7 (by decide) (fun _ => ?_) (fun q => absurd (by decide +kernel) q)
  exact J_vret dX12_takesOrder_28 rfl (Nat.le_of_ble_eq_true rfl) (Nat.le_of_ble_eq_true rfl) ⟨rfl, rfl⟩
set_option maxHeartbeats 4000000 in
set_option maxRecDepth 100000 in
theorem c_X12_goesThrough_1 {l : Launch} {G : jG} {nh : Nat} {fh : Nat → Option va_E} (hk98 : fh 98 = some (.inr (12, [.int 0, .int 0, .ref 99, .ref 100, .ref 101, .ref 102, .ref 103, .ref 104, .ref 105, .int 0, .int (-1), .ref 106, .ref 107, .ref 108, .int 0, .int 0, .int 0, .int 0, .int 0, .int 0, .int 0, .ref 109, .int 0, .int 0, .ref 110, .ref 111, .ref 112, .ref 113, .ref 114, .ref 115, .ref 116, .ref 117, .int 1, .int 0, .int 0, .int (-1), .ref 118, .ref 119, .ref 120, .ref 121, .ref 122, .ref 123, .ref 124, .ref 125, .ref 126, .ref 127, .ref 128, .ref 129, .int (-1), .ref 130, .ref 131, .ref 132, .ref 133, .ref 134, .int 0, .int 0]))) : JM l G yX12_goesThrough MX12_goesThrough { frames := 1, cells := 0, slots := 0, locals := 22 } [.ref 98, .int 0, .int 0, .int (-1)] (nh, fh) (fun r h9 => r = none ∧ h9 = (nh, fh)) := by
  refine JM.of (by decide) rfl (fun h => by cases h) (Nat.le_of_ble_eq_true rfl) ⟨3, rfl⟩ ?_
  refine J_hc0 (J_ls (ls2 := [some (.ref 98), some (.int 0), some (.int 0), some (.int (-1)), none, none, none]) rfl ?_)
  refine J_aload_n dX12_goesThrough_0 rfl rfl ?_
  refine J_iload_n dX12_goesThrough_1 rfl rfl ?_
  refine J_callV (st := []) dX12_goesThrough_2 cv_X12_316 (c_X12_takesOrder_1 hk98) hk98 rfl rfl (Nat.le_of_ble_eq_true rfl) ⟨(Nat.le_of_ble_eq_true rfl), (Nat.le_of_ble_eq_true rfl)⟩ ⟨(Nat.le_of_ble_eq_true rfl), (Nat.le_of_ble_eq_true rfl)⟩ (fun r h9 hp => ?_)
  obtain ⟨rfl, rfl⟩ := hp
  refine J_nf (nh2 := nh) (ck2 := 0) (sk2 := 0) (st2 := []) rfl rfl rfl rfl ?_
  refine J_iconst (v := 0) dX12_goesThrough_5 (by decide) ?_
  refine J_istore dX12_goesThrough_6 (Nat.le_of_ble_eq_true rfl) rfl ?_
  refine J_iload dX12_goesThrough_8 rfl ?_
  refine J_iload_n dX12_goesThrough_10 rfl rfl ?_
  refine J_icmp_ge (tgt := 81) dX12_goesThrough_11 (by decide) (fun _ => ?_) (fun q => absurd (by decide +kernel) q)
  exact J_vret dX12_goesThrough_81 rfl (Nat.le_of_ble_eq_true rfl) (Nat.le_of_ble_eq_true rfl) ⟨rfl, rfl⟩
set_option maxHeartbeats 4000000 in
set_option maxRecDepth 100000 in
theorem c_X12_orderCode_2 {l : Launch} {G : jG} {nh : Nat} {fh : Nat → Option va_E} (hk98 : fh 98 = some (.inr (12, [.int 0, .int 0, .ref 99, .ref 100, .ref 101, .ref 102, .ref 103, .ref 104, .ref 105, .int 0, .int (-1), .ref 106, .ref 107, .ref 108, .int 0, .int 0, .int 0, .int 0, .int 0, .int 0, .int 0, .ref 109, .int 0, .int 0, .ref 110, .ref 111, .ref 112, .ref 113, .ref 114, .ref 115, .ref 116, .ref 117, .int 1, .int 0, .int 0, .int (-1), .ref 118, .ref 119, .ref 120, .ref 121, .ref 122, .ref 123, .ref 124, .ref 125, .ref 126, .ref 127, .ref 128, .ref 129, .int (-1), .ref 130, .ref 131, .ref 132, .ref 133, .ref 134, .int 0, .int 0]))) : JM l G yX12_orderCode MX12_orderCode { frames := 0, cells := 0, slots := 0, locals := 0 } [.ref 98] (nh, fh) (fun r h9 => r = some (.int 0) ∧ h9 = (nh, fh)) := by
  refine JM.of (by decide) rfl (fun h => by cases h) (Nat.le_of_ble_eq_true rfl) ⟨2, rfl⟩ ?_
  refine J_hc0 (J_ls (ls2 := [some (.ref 98), none, none]) rfl ?_)
  refine J_iconst (v := 0) dX12_orderCode_0 (by decide) ?_
  refine J_istore_n dX12_orderCode_1 rfl (Nat.le_of_ble_eq_true rfl) rfl ?_
  refine J_iconst (v := 0) dX12_orderCode_2 (by decide) ?_
  refine J_istore_n dX12_orderCode_3 rfl (Nat.le_of_ble_eq_true rfl) rfl ?_
  refine J_iload_n dX12_orderCode_4 rfl rfl ?_
  refine J_aload_n dX12_orderCode_5 rfl rfl ?_
  refine J_get (v := .int 0) dX12_orderCode_6 fl_X12_293 hk98 rfl ?_
  refine J_icmp_ge (tgt := 29) dX12_orderCode_9 (by decide) (fun _ => ?_) (fun q => absurd (by decide +kernel) q)
  refine J_iload_n dX12_orderCode_29 rfl rfl ?_
  exact J_iret dX12_orderCode_30 rfl rfl (Nat.le_of_ble_eq_true rfl) (Nat.le_of_ble_eq_true rfl) ⟨rfl, rfl⟩
set_option maxHeartbeats 4000000 in
set_option maxRecDepth 100000 in
theorem c_X12_sortedBy_1 {l : Launch} {G : jG} {nh : Nat} {fh : Nat → Option va_E} (hk98 : fh 98 = some (.inr (12, [.int 0, .int 0, .ref 99, .ref 100, .ref 101, .ref 102, .ref 103, .ref 104, .ref 105, .int 0, .int (-1), .ref 106, .ref 107, .ref 108, .int 0, .int 0, .int 0, .int 0, .int 0, .int 0, .int 0, .ref 109, .int 0, .int 0, .ref 110, .ref 111, .ref 112, .ref 113, .ref 114, .ref 115, .ref 116, .ref 117, .int 1, .int 0, .int 0, .int (-1), .ref 118, .ref 119, .ref 120, .ref 121, .ref 122, .ref 123, .ref 124, .ref 125, .ref 126, .ref 127, .ref 128, .ref 129, .int 0, .ref 130, .ref 131, .ref 132, .ref 133, .ref 134, .int 0, .int 0]))) (hk111 : fh 111 = some (.inl (0, 1260, .inl (upd (fun _ => 0) 0 0)))) : JM l G yX12_sortedBy MX12_sortedBy { frames := 2, cells := 0, slots := 0, locals := 48 } [.ref 98, .int 0, .int (-1)] (nh, fh) (fun r h9 => r = some (.int 1) ∧ h9 = (nh, hc fh [(98, .inr (12, [.int 0, .int 0, .ref 99, .ref 100, .ref 101, .ref 102, .ref 103, .ref 104, .ref 105, .int 0, .int (-1), .ref 106, .ref 107, .ref 108, .int 0, .int 0, .int 0, .int 0, .int 0, .int 0, .int 0, .ref 109, .int 0, .int 0, .ref 110, .ref 111, .ref 112, .ref 113, .ref 114, .ref 115, .ref 116, .ref 117, .int 1, .int 0, .int 0, .int (-1), .ref 118, .ref 119, .ref 120, .ref 121, .ref 122, .ref 123, .ref 124, .ref 125, .ref 126, .ref 127, .ref 128, .ref 129, .int (-1), .ref 130, .ref 131, .ref 132, .ref 133, .ref 134, .int 0, .int 0]))])) := by
  refine JM.of (by decide) rfl (fun h => by cases h) (Nat.le_of_ble_eq_true rfl) ⟨2, rfl⟩ ?_
  refine J_hc0 (J_ls (ls2 := [some (.ref 98), some (.int 0), some (.int (-1)), none, none]) rfl ?_)
  refine J_iconst (v := 0) dX12_sortedBy_0 (by decide) ?_
  refine J_istore_n dX12_sortedBy_1 rfl (Nat.le_of_ble_eq_true rfl) rfl ?_
  refine J_aload_n dX12_sortedBy_2 rfl rfl ?_
  refine J_iconst (v := (-1)) dX12_sortedBy_3 (by decide) ?_
  refine K_put (fs2 := [.int 0, .int 0, .ref 99, .ref 100, .ref 101, .ref 102, .ref 103, .ref 104, .ref 105, .int 0, .int (-1), .ref 106, .ref 107, .ref 108, .int 0, .int 0, .int 0, .int 0, .int 0, .int 0, .int 0, .ref 109, .int 0, .int 0, .ref 110, .ref 111, .ref 112, .ref 113, .ref 114, .ref 115, .ref 116, .ref 117, .int 1, .int 0, .int 0, .int (-1), .ref 118, .ref 119, .ref 120, .ref 121, .ref 122, .ref 123, .ref 124, .ref 125, .ref 126, .ref 127, .ref 128, .ref 129, .int (-1), .ref 130, .ref 131, .ref 132, .ref 133, .ref 134, .int 0, .int 0]) dX12_sortedBy_4 fw_X12_354 hk98 (Nat.le_of_ble_eq_true rfl) (fun _ => ⟨rfl, rfl⟩) rfl ?_
  refine J_aload_n dX12_sortedBy_7 rfl rfl ?_
  refine J_get (v := .int 1) dX12_sortedBy_8 fl_X12_298 rfl rfl ?_
  refine J_iconst (v := 1) dX12_sortedBy_11 (by decide) ?_
  refine J_isub (z := 0) dX12_sortedBy_12 (by decide +kernel) ?_
  refine J_istore dX12_sortedBy_13 (Nat.le_of_ble_eq_true rfl) rfl ?_
  refine J_iload dX12_sortedBy_15 rfl ?_
  refine J_if_lt (tgt := 59) dX12_sortedBy_17 (by decide) (fun q => absurd q (by decide +kernel)) (fun _ => ?_)
  refine J_aload_n dX12_sortedBy_20 rfl rfl ?_
  refine J_iload dX12_sortedBy_21 rfl ?_
  refine J_iload_n dX12_sortedBy_23 rfl rfl ?_
  refine J_iload_n dX12_sortedBy_24 rfl rfl ?_
  refine J_callV (st := []) dX12_sortedBy_25 cv_X12_357 (c_X12_goesThrough_1 rfl) rfl rfl rfl (Nat.le_of_ble_eq_true rfl) ⟨(Nat.le_of_ble_eq_true rfl), (Nat.le_of_ble_eq_true rfl)⟩ ⟨(Nat.le_of_ble_eq_true rfl), (Nat.le_of_ble_eq_true rfl)⟩ (fun r h9 hp => ?_)
  obtain ⟨rfl, rfl⟩ := hp
  refine J_nf (nh2 := nh) (ck2 := 0) (sk2 := 0) (st2 := []) rfl rfl rfl rfl ?_
  refine J_aload_n dX12_sortedBy_28 rfl rfl ?_
  refine J_callV (st := []) dX12_sortedBy_29 cv_X12_319 (c_X12_orderCode_2 rfl) rfl rfl rfl (Nat.le_of_ble_eq_true rfl) ⟨(Nat.le_of_ble_eq_true rfl), (Nat.le_of_ble_eq_true rfl)⟩ ⟨(Nat.le_of_ble_eq_true rfl), (Nat.le_of_ble_eq_true rfl)⟩ (fun r h9 hp => ?_)
  obtain ⟨rfl, rfl⟩ := hp
  refine J_nf (nh2 := nh) (ck2 := 0) (sk2 := 0) (st2 := [.int 0]) rfl rfl rfl rfl ?_
  refine J_aload_n dX12_sortedBy_32 rfl rfl ?_
  refine J_get (v := .ref 111) dX12_sortedBy_33 fl_X12_58 rfl rfl ?_
  refine J_iconst (v := 0) dX12_sortedBy_36 (by decide) ?_
  refine J_iald (i2 := 0) (v := 0) dX12_sortedBy_37 hk111 rfl (jin (by decide +kernel)) (by decide +kernel) rfl ?_
  refine J_icmp_ne (tgt := 47) dX12_sortedBy_38 (by decide) (fun q => absurd (by decide +kernel) q) (fun _ => ?_)
  refine J_iinc (v := 1) dX12_sortedBy_41 rfl (by decide +kernel) (Nat.le_of_ble_eq_true rfl) rfl ?_
  refine J_ls (ls2 := [some (.ref 98), some (.int 0), some (.int (-1)), some (.int 1), some (.int 0)]) rfl ?_
  refine J_goto (tgt := 53) dX12_sortedBy_44 (by decide) ?_
  refine J_iinc (v := (-1)) dX12_sortedBy_53 rfl (by decide +kernel) (Nat.le_of_ble_eq_true rfl) rfl ?_
  refine J_ls (ls2 := [some (.ref 98), some (.int 0), some (.int (-1)), some (.int 1), some (.int (-1))]) rfl ?_
  refine J_goto (tgt := 15) dX12_sortedBy_56 (by decide) ?_
  refine J_iload dX12_sortedBy_15 rfl ?_
  refine J_if_lt (tgt := 59) dX12_sortedBy_17 (by decide) (fun _ => ?_) (fun q => absurd (by decide +kernel) q)
  refine J_iload_n dX12_sortedBy_59 rfl rfl ?_
  exact J_iret dX12_sortedBy_60 rfl rfl (Nat.le_of_ble_eq_true rfl) (Nat.le_of_ble_eq_true rfl) ⟨rfl, rfl⟩
set_option maxHeartbeats 4000000 in
set_option maxRecDepth 100000 in
theorem c_X12_sorts_2 {l : Launch} {G : jG} {nh : Nat} {fh : Nat → Option va_E} (hk98 : fh 98 = some (.inr (12, [.int 0, .int 0, .ref 99, .ref 100, .ref 101, .ref 102, .ref 103, .ref 104, .ref 105, .int 0, .int (-1), .ref 106, .ref 107, .ref 108, .int 0, .int 0, .int 0, .int 0, .int 0, .int 0, .int 0, .ref 109, .int 0, .int 0, .ref 110, .ref 111, .ref 112, .ref 113, .ref 114, .ref 115, .ref 116, .ref 117, .int 0, .int 0, .int (-1), .int (-1), .ref 118, .ref 119, .ref 120, .ref 121, .ref 122, .ref 123, .ref 124, .ref 125, .ref 126, .ref 127, .ref 128, .ref 129, .int 0, .ref 130, .ref 131, .ref 132, .ref 133, .ref 134, .int 0, .int 0]))) (hk100 : fh 100 = some (.inl (0, 4870, .inl (upd (fun _ => 0) 63 (-1))))) (hk111 : fh 111 = some (.inl (0, 1260, .inl (fun _ => 0)))) : JM l G yX12_sorts MX12_sorts { frames := 3, cells := 0, slots := 0, locals := 72 } [.ref 98, .int 0] (nh, fh) (fun r h9 => r = some (.int 1) ∧ h9 = (nh, hc fh [(98, .inr (12, [.int 0, .int 0, .ref 99, .ref 100, .ref 101, .ref 102, .ref 103, .ref 104, .ref 105, .int 0, .int (-1), .ref 106, .ref 107, .ref 108, .int 0, .int 0, .int 0, .int 0, .int 0, .int 0, .int 0, .ref 109, .int 0, .int 0, .ref 110, .ref 111, .ref 112, .ref 113, .ref 114, .ref 115, .ref 116, .ref 117, .int 1, .int 0, .int 0, .int (-1), .ref 118, .ref 119, .ref 120, .ref 121, .ref 122, .ref 123, .ref 124, .ref 125, .ref 126, .ref 127, .ref 128, .ref 129, .int (-1), .ref 130, .ref 131, .ref 132, .ref 133, .ref 134, .int 0, .int 0])), (111, .inl (0, 1260, .inl (upd (fun _ => 0) 0 0)))])) := by
  refine JM.of (by decide) rfl (fun h => by cases h) (Nat.le_of_ble_eq_true rfl) ⟨4, rfl⟩ ?_
  refine J_hc0 (J_ls (ls2 := [some (.ref 98), some (.int 0), none, none, none, none]) rfl ?_)
  refine J_iload_n dX12_sorts_0 rfl rfl ?_
  refine J_iconst (v := 0) dX12_sorts_1 (by decide) ?_
  refine J_iconst (v := 3) dX12_sorts_2 (by decide) ?_
  refine J_callS (st := []) dX12_sorts_3 cs_X12_138 (c_X12_lies_42 ) rfl rfl (Nat.le_of_ble_eq_true rfl) ⟨(Nat.le_of_ble_eq_true rfl), (Nat.le_of_ble_eq_true rfl)⟩ ⟨(Nat.le_of_ble_eq_true rfl), (Nat.le_of_ble_eq_true rfl)⟩ (fun r h9 hp => ?_)
  obtain ⟨rfl, rfl⟩ := hp
  refine J_nf (nh2 := nh) (ck2 := 0) (sk2 := 0) (st2 := [.int 1]) rfl rfl rfl rfl ?_
  refine J_if_ne (tgt := 11) dX12_sorts_6 (by decide) (fun _ => ?_) (fun q => absurd q (by decide +kernel))
  refine J_aload_n dX12_sorts_11 rfl rfl ?_
  refine J_callV (st := []) dX12_sorts_12 cv_X12_159 (c_X12_laysHouses_1 hk98 hk100 hk111) hk98 rfl rfl (Nat.le_of_ble_eq_true rfl) ⟨(Nat.le_of_ble_eq_true rfl), (Nat.le_of_ble_eq_true rfl)⟩ ⟨(Nat.le_of_ble_eq_true rfl), (Nat.le_of_ble_eq_true rfl)⟩ (fun r h9 hp => ?_)
  obtain ⟨rfl, rfl⟩ := hp
  refine J_nf (nh2 := nh) (ck2 := 0) (sk2 := 0) (st2 := []) rfl rfl rfl rfl ?_
  refine J_app (L3 := [(98, .inr (12, [.int 0, .int 0, .ref 99, .ref 100, .ref 101, .ref 102, .ref 103, .ref 104, .ref 105, .int 0, .int (-1), .ref 106, .ref 107, .ref 108, .int 0, .int 0, .int 0, .int 0, .int 0, .int 0, .int 0, .ref 109, .int 0, .int 0, .ref 110, .ref 111, .ref 112, .ref 113, .ref 114, .ref 115, .ref 116, .ref 117, .int 1, .int 0, .int 0, .int (-1), .ref 118, .ref 119, .ref 120, .ref 121, .ref 122, .ref 123, .ref 124, .ref 125, .ref 126, .ref 127, .ref 128, .ref 129, .int 0, .ref 130, .ref 131, .ref 132, .ref 133, .ref 134, .int 0, .int 0])), (111, .inl (0, 1260, .inl (upd (fun _ => 0) 0 0)))]) rfl ?_
  refine J_aload_n dX12_sorts_15 rfl rfl ?_
  refine J_get (v := .ref 100) dX12_sorts_16 fl_X12_20 rfl rfl ?_
  refine J_bipush (v := 60) dX12_sorts_19 (by decide +kernel) ?_
  refine J_iald (i2 := 60) (v := 0) dX12_sorts_21 hk100 rfl (jin (by decide +kernel)) (by decide +kernel) rfl ?_
  refine J_istore_n dX12_sorts_22 rfl (Nat.le_of_ble_eq_true rfl) rfl ?_
  refine J_aload_n dX12_sorts_23 rfl rfl ?_
  refine J_iload_n dX12_sorts_24 rfl rfl ?_
  refine J_iconst (v := (-1)) dX12_sorts_25 (by decide) ?_
  refine J_callV (st := []) dX12_sorts_26 cv_X12_360 (c_X12_sortedBy_1 rfl rfl) rfl rfl rfl (Nat.le_of_ble_eq_true rfl) ⟨(Nat.le_of_ble_eq_true rfl), (Nat.le_of_ble_eq_true rfl)⟩ ⟨(Nat.le_of_ble_eq_true rfl), (Nat.le_of_ble_eq_true rfl)⟩ (fun r h9 hp => ?_)
  obtain ⟨rfl, rfl⟩ := hp
  refine J_nf (nh2 := nh) (ck2 := 0) (sk2 := 0) (st2 := [.int 1]) rfl rfl rfl rfl ?_
  refine J_app (L3 := [(98, .inr (12, [.int 0, .int 0, .ref 99, .ref 100, .ref 101, .ref 102, .ref 103, .ref 104, .ref 105, .int 0, .int (-1), .ref 106, .ref 107, .ref 108, .int 0, .int 0, .int 0, .int 0, .int 0, .int 0, .int 0, .ref 109, .int 0, .int 0, .ref 110, .ref 111, .ref 112, .ref 113, .ref 114, .ref 115, .ref 116, .ref 117, .int 1, .int 0, .int 0, .int (-1), .ref 118, .ref 119, .ref 120, .ref 121, .ref 122, .ref 123, .ref 124, .ref 125, .ref 126, .ref 127, .ref 128, .ref 129, .int (-1), .ref 130, .ref 131, .ref 132, .ref 133, .ref 134, .int 0, .int 0])), (98, .inr (12, [.int 0, .int 0, .ref 99, .ref 100, .ref 101, .ref 102, .ref 103, .ref 104, .ref 105, .int 0, .int (-1), .ref 106, .ref 107, .ref 108, .int 0, .int 0, .int 0, .int 0, .int 0, .int 0, .int 0, .ref 109, .int 0, .int 0, .ref 110, .ref 111, .ref 112, .ref 113, .ref 114, .ref 115, .ref 116, .ref 117, .int 1, .int 0, .int 0, .int (-1), .ref 118, .ref 119, .ref 120, .ref 121, .ref 122, .ref 123, .ref 124, .ref 125, .ref 126, .ref 127, .ref 128, .ref 129, .int 0, .ref 130, .ref 131, .ref 132, .ref 133, .ref 134, .int 0, .int 0])), (111, .inl (0, 1260, .inl (upd (fun _ => 0) 0 0)))]) rfl ?_
  refine J_istore_n dX12_sorts_29 rfl (Nat.le_of_ble_eq_true rfl) rfl ?_
  refine J_iload_n dX12_sorts_30 rfl rfl ?_
  refine J_iconst (v := 2) dX12_sorts_31 (by decide) ?_
  refine J_icmp_ge (tgt := 48) dX12_sorts_32 (by decide) (fun q => absurd q (by decide +kernel)) (fun _ => ?_)
  refine J_iload_n dX12_sorts_35 rfl rfl ?_
  refine J_if_ne (tgt := 43) dX12_sorts_36 (by decide) (fun q => absurd (by decide +kernel) q) (fun _ => ?_)
  refine J_iload_n dX12_sorts_39 rfl rfl ?_
  refine J_goto (tgt := 47) dX12_sorts_40 (by decide) ?_
  refine J_mask (L2 := [(98, .inr (12, [.int 0, .int 0, .ref 99, .ref 100, .ref 101, .ref 102, .ref 103, .ref 104, .ref 105, .int 0, .int (-1), .ref 106, .ref 107, .ref 108, .int 0, .int 0, .int 0, .int 0, .int 0, .int 0, .int 0, .ref 109, .int 0, .int 0, .ref 110, .ref 111, .ref 112, .ref 113, .ref 114, .ref 115, .ref 116, .ref 117, .int 1, .int 0, .int 0, .int (-1), .ref 118, .ref 119, .ref 120, .ref 121, .ref 122, .ref 123, .ref 124, .ref 125, .ref 126, .ref 127, .ref 128, .ref 129, .int (-1), .ref 130, .ref 131, .ref 132, .ref 133, .ref 134, .int 0, .int 0])), (111, .inl (0, 1260, .inl (upd (fun _ => 0) 0 0)))]) (ks := [98, 98, 111]) [true, false, true] rfl (by decide +kernel) rfl ?_
  exact J_iret dX12_sorts_47 rfl rfl (Nat.le_of_ble_eq_true rfl) (Nat.le_of_ble_eq_true rfl) ⟨rfl, rfl⟩
set_option maxHeartbeats 4000000 in
set_option maxRecDepth 100000 in
theorem c_X2_firstUnsorted_1 {l : Launch} {G : jG} {nh : Nat} {fh : Nat → Option va_E} (hk1 : fh 1 = some (.inr (8, [.ref 2, .ref 3, .ref 4, .int 0, .int (-1), .ref 11, .ref 12, .int 0, .ref 13, .ref 14, .int 0, .ref 15, .ref 16, .int 0]))) (hk51 : fh 51 = some (.inr (0, [.ref 52, .ref 53, .int 1, .int 0]))) (hk52 : fh 52 = some (.inl (0, 1260, .inl (upd (fun _ => 0) 0 0)))) (hk85 : fh 85 = some (.inr (2, [.ref 1, .ref 51, .ref 86, .ref 87]))) : JM l G yX2_firstUnsorted MX2_firstUnsorted { frames := 2, cells := 0, slots := 0, locals := 42 } [.ref 85] (nh, fh) (fun r h9 => r = some (.int (-1)) ∧ h9 = (nh, fh)) := by
  refine JM.of (by decide) rfl (fun h => by cases h) (Nat.le_of_ble_eq_true rfl) ⟨2, rfl⟩ ?_
  refine J_hc0 (J_ls (ls2 := [some (.ref 85), none, none]) rfl ?_)
  refine J_aload_n dX2_firstUnsorted_0 rfl rfl ?_
  refine J_get (v := .ref 51) dX2_firstUnsorted_1 fl_X2_22 hk85 rfl ?_
  refine J_iconst (v := 0) dX2_firstUnsorted_4 (by decide) ?_
  refine J_callV (st := []) dX2_firstUnsorted_5 cv_X2_44 (c_X0_rowOf_1 hk51 hk52) hk51 rfl rfl (Nat.le_of_ble_eq_true rfl) ⟨(Nat.le_of_ble_eq_true rfl), (Nat.le_of_ble_eq_true rfl)⟩ ⟨(Nat.le_of_ble_eq_true rfl), (Nat.le_of_ble_eq_true rfl)⟩ (fun r h9 hp => ?_)
  obtain ⟨rfl, rfl⟩ := hp
  refine J_nf (nh2 := nh) (ck2 := 0) (sk2 := 0) (st2 := [.int 0]) rfl rfl rfl rfl ?_
  refine J_istore_n dX2_firstUnsorted_8 rfl (Nat.le_of_ble_eq_true rfl) rfl ?_
  refine J_iconst (v := 0) dX2_firstUnsorted_9 (by decide) ?_
  refine J_istore_n dX2_firstUnsorted_10 rfl (Nat.le_of_ble_eq_true rfl) rfl ?_
  refine J_iload_n dX2_firstUnsorted_11 rfl rfl ?_
  refine J_aload_n dX2_firstUnsorted_12 rfl rfl ?_
  refine J_get (v := .ref 51) dX2_firstUnsorted_13 fl_X2_22 hk85 rfl ?_
  refine J_callV (st := [.int 0]) dX2_firstUnsorted_16 cv_X2_58 (c_X0_many_1 hk51) hk51 rfl rfl (Nat.le_of_ble_eq_true rfl) ⟨(Nat.le_of_ble_eq_true rfl), (Nat.le_of_ble_eq_true rfl)⟩ ⟨(Nat.le_of_ble_eq_true rfl), (Nat.le_of_ble_eq_true rfl)⟩ (fun r h9 hp => ?_)
  obtain ⟨rfl, rfl⟩ := hp
  refine J_nf (nh2 := nh) (ck2 := 0) (sk2 := 0) (st2 := [.int 1, .int 0]) rfl rfl rfl rfl ?_
  refine J_icmp_ge (tgt := 54) dX2_firstUnsorted_19 (by decide) (fun q => absurd q (by decide +kernel)) (fun _ => ?_)
  refine J_aload_n dX2_firstUnsorted_22 rfl rfl ?_
  refine J_aload_n dX2_firstUnsorted_23 rfl rfl ?_
  refine J_get (v := .ref 51) dX2_firstUnsorted_24 fl_X2_22 hk85 rfl ?_
  refine J_iload_n dX2_firstUnsorted_27 rfl rfl ?_
  refine J_callV (st := [.ref 85]) dX2_firstUnsorted_28 cv_X2_44 (c_X0_rowOf_1 hk51 hk52) hk51 rfl rfl (Nat.le_of_ble_eq_true rfl) ⟨(Nat.le_of_ble_eq_true rfl), (Nat.le_of_ble_eq_true rfl)⟩ ⟨(Nat.le_of_ble_eq_true rfl), (Nat.le_of_ble_eq_true rfl)⟩ (fun r h9 hp => ?_)
  obtain ⟨rfl, rfl⟩ := hp
  refine J_nf (nh2 := nh) (ck2 := 0) (sk2 := 0) (st2 := [.int 0, .ref 85]) rfl rfl rfl rfl ?_
  refine J_aload_n dX2_firstUnsorted_31 rfl rfl ?_
  refine J_get (v := .ref 1) dX2_firstUnsorted_32 fl_X2_18 hk85 rfl ?_
  refine J_get (v := .int 0) dX2_firstUnsorted_35 fl_X2_26 hk1 rfl ?_
  refine J_iconst (v := (-1)) dX2_firstUnsorted_38 (by decide) ?_
  refine J_callV (st := []) dX2_firstUnsorted_39 cv_X2_47 (c_X2_run_1 ) hk85 rfl rfl (Nat.le_of_ble_eq_true rfl) ⟨(Nat.le_of_ble_eq_true rfl), (Nat.le_of_ble_eq_true rfl)⟩ ⟨(Nat.le_of_ble_eq_true rfl), (Nat.le_of_ble_eq_true rfl)⟩ (fun r h9 hp => ?_)
  obtain ⟨rfl, rfl⟩ := hp
  refine J_nf (nh2 := nh) (ck2 := 0) (sk2 := 0) (st2 := [.int 0]) rfl rfl rfl rfl ?_
  refine J_iload_n dX2_firstUnsorted_42 rfl rfl ?_
  refine J_icmp_eq (tgt := 48) dX2_firstUnsorted_43 (by decide) (fun _ => ?_) (fun q => absurd (by decide +kernel) q)
  refine J_iinc (v := 1) dX2_firstUnsorted_48 rfl (by decide +kernel) (Nat.le_of_ble_eq_true rfl) rfl ?_
  refine J_ls (ls2 := [some (.ref 85), some (.int 0), some (.int 1)]) rfl ?_
  refine J_goto (tgt := 11) dX2_firstUnsorted_51 (by decide) ?_
  refine J_iload_n dX2_firstUnsorted_11 rfl rfl ?_
  refine J_aload_n dX2_firstUnsorted_12 rfl rfl ?_
  refine J_get (v := .ref 51) dX2_firstUnsorted_13 fl_X2_22 hk85 rfl ?_
  refine J_callV (st := [.int 1]) dX2_firstUnsorted_16 cv_X2_58 (c_X0_many_1 hk51) hk51 rfl rfl (Nat.le_of_ble_eq_true rfl) ⟨(Nat.le_of_ble_eq_true rfl), (Nat.le_of_ble_eq_true rfl)⟩ ⟨(Nat.le_of_ble_eq_true rfl), (Nat.le_of_ble_eq_true rfl)⟩ (fun r h9 hp => ?_)
  obtain ⟨rfl, rfl⟩ := hp
  refine J_nf (nh2 := nh) (ck2 := 0) (sk2 := 0) (st2 := [.int 1, .int 1]) rfl rfl rfl rfl ?_
  refine J_icmp_ge (tgt := 54) dX2_firstUnsorted_19 (by decide) (fun _ => ?_) (fun q => absurd (by decide +kernel) q)
  refine J_iconst (v := (-1)) dX2_firstUnsorted_54 (by decide) ?_
  exact J_iret dX2_firstUnsorted_55 rfl rfl (Nat.le_of_ble_eq_true rfl) (Nat.le_of_ble_eq_true rfl) ⟨rfl, rfl⟩
set_option maxHeartbeats 4000000 in
set_option maxRecDepth 100000 in
theorem c_X11_sorts_3 {l : Launch} {G : jG} {nh : Nat} {fh : Nat → Option va_E} (hk0 : fh 0 = some (.inr (11, [.ref 1, .ref 17, .ref 50, .ref 51, .ref 54, .ref 57, .ref 65, .ref 75, .ref 81, .ref 85, .ref 88, .ref 93, .ref 96, .int 0, .int (-1), .ref 97, .int 0]))) (hk1 : fh 1 = some (.inr (8, [.ref 2, .ref 3, .ref 4, .int 0, .int (-1), .ref 11, .ref 12, .int 0, .ref 13, .ref 14, .int 0, .ref 15, .ref 16, .int 0]))) (hk51 : fh 51 = some (.inr (0, [.ref 52, .ref 53, .int 1, .int 0]))) (hk52 : fh 52 = some (.inl (0, 1260, .inl (upd (fun _ => 0) 0 0)))) (hk85 : fh 85 = some (.inr (2, [.ref 1, .ref 51, .ref 86, .ref 87]))) : JM l G yX11_sorts MX11_sorts { frames := 3, cells := 0, slots := 0, locals := 64 } [.ref 0, .int 1] (nh, fh) (fun r h9 => r = some (.int (-1)) ∧ h9 = (nh, fh)) := by
  refine JM.of (by decide) rfl (fun h => by cases h) (Nat.le_of_ble_eq_true rfl) ⟨0, rfl⟩ ?_
  refine J_hc0 (J_ls (ls2 := [some (.ref 0), some (.int 1)]) rfl ?_)
  refine J_aload_n dX11_sorts_0 rfl rfl ?_
  refine J_get (v := .ref 85) dX11_sorts_1 fl_X11_73 hk0 rfl ?_
  refine J_callV (st := []) dX11_sorts_4 cv_X11_270 (c_X2_prepare_1 hk1 hk85) hk85 rfl rfl (Nat.le_of_ble_eq_true rfl) ⟨(Nat.le_of_ble_eq_true rfl), (Nat.le_of_ble_eq_true rfl)⟩ ⟨(Nat.le_of_ble_eq_true rfl), (Nat.le_of_ble_eq_true rfl)⟩ (fun r h9 hp => ?_)
  obtain ⟨rfl, rfl⟩ := hp
  refine J_nf (nh2 := nh) (ck2 := 0) (sk2 := 0) (st2 := []) rfl rfl rfl rfl ?_
  refine J_iload_n dX11_sorts_7 rfl rfl ?_
  refine J_tableIn (tgt := 48) dX11_sorts_8 (by decide +kernel) (by decide +kernel) (off := 40) (by decide +kernel) (by decide) ?_
  refine J_aload_n dX11_sorts_48 rfl rfl ?_
  refine J_get (v := .ref 85) dX11_sorts_49 fl_X11_73 hk0 rfl ?_
  refine J_callV (st := []) dX11_sorts_52 cv_X11_274 (c_X2_firstUnsorted_1 hk1 hk51 hk52 hk85) hk85 rfl rfl (Nat.le_of_ble_eq_true rfl) ⟨(Nat.le_of_ble_eq_true rfl), (Nat.le_of_ble_eq_true rfl)⟩ ⟨(Nat.le_of_ble_eq_true rfl), (Nat.le_of_ble_eq_true rfl)⟩ (fun r h9 hp => ?_)
  obtain ⟨rfl, rfl⟩ := hp
  refine J_nf (nh2 := nh) (ck2 := 0) (sk2 := 0) (st2 := [.int (-1)]) rfl rfl rfl rfl ?_
  exact J_iret dX11_sorts_55 rfl rfl (Nat.le_of_ble_eq_true rfl) (Nat.le_of_ble_eq_true rfl) ⟨rfl, rfl⟩
set_option maxHeartbeats 4000000 in
set_option maxRecDepth 100000 in
theorem c_X12_sorts_3 {l : Launch} {G : jG} {nh : Nat} {fh : Nat → Option va_E} (hk98 : fh 98 = some (.inr (12, [.int 0, .int 0, .ref 99, .ref 100, .ref 101, .ref 102, .ref 103, .ref 104, .ref 105, .int 0, .int (-1), .ref 106, .ref 107, .ref 108, .int 0, .int 0, .int 0, .int 0, .int 0, .int 0, .int 0, .ref 109, .int 0, .int 0, .ref 110, .ref 111, .ref 112, .ref 113, .ref 114, .ref 115, .ref 116, .ref 117, .int 0, .int 0, .int (-1), .int (-1), .ref 118, .ref 119, .ref 120, .ref 121, .ref 122, .ref 123, .ref 124, .ref 125, .ref 126, .ref 127, .ref 128, .ref 129, .int 0, .ref 130, .ref 131, .ref 132, .ref 133, .ref 134, .int 0, .int 0]))) (hk100 : fh 100 = some (.inl (0, 4870, .inl (upd (fun _ => 0) 63 (-1))))) (hk111 : fh 111 = some (.inl (0, 1260, .inl (fun _ => 0)))) : JM l G yX12_sorts MX12_sorts { frames := 3, cells := 0, slots := 0, locals := 72 } [.ref 98, .int 1] (nh, fh) (fun r h9 => r = some (.int (-1)) ∧ h9 = (nh, hc fh [(98, .inr (12, [.int 0, .int 0, .ref 99, .ref 100, .ref 101, .ref 102, .ref 103, .ref 104, .ref 105, .int 0, .int (-1), .ref 106, .ref 107, .ref 108, .int 0, .int 0, .int 0, .int 0, .int 0, .int 0, .int 0, .ref 109, .int 0, .int 0, .ref 110, .ref 111, .ref 112, .ref 113, .ref 114, .ref 115, .ref 116, .ref 117, .int 1, .int 0, .int 0, .int (-1), .ref 118, .ref 119, .ref 120, .ref 121, .ref 122, .ref 123, .ref 124, .ref 125, .ref 126, .ref 127, .ref 128, .ref 129, .int (-1), .ref 130, .ref 131, .ref 132, .ref 133, .ref 134, .int 0, .int 0])), (111, .inl (0, 1260, .inl (upd (fun _ => 0) 0 0)))])) := by
  refine JM.of (by decide) rfl (fun h => by cases h) (Nat.le_of_ble_eq_true rfl) ⟨4, rfl⟩ ?_
  refine J_hc0 (J_ls (ls2 := [some (.ref 98), some (.int 1), none, none, none, none]) rfl ?_)
  refine J_iload_n dX12_sorts_0 rfl rfl ?_
  refine J_iconst (v := 0) dX12_sorts_1 (by decide) ?_
  refine J_iconst (v := 3) dX12_sorts_2 (by decide) ?_
  refine J_callS (st := []) dX12_sorts_3 cs_X12_138 (c_X12_lies_43 ) rfl rfl (Nat.le_of_ble_eq_true rfl) ⟨(Nat.le_of_ble_eq_true rfl), (Nat.le_of_ble_eq_true rfl)⟩ ⟨(Nat.le_of_ble_eq_true rfl), (Nat.le_of_ble_eq_true rfl)⟩ (fun r h9 hp => ?_)
  obtain ⟨rfl, rfl⟩ := hp
  refine J_nf (nh2 := nh) (ck2 := 0) (sk2 := 0) (st2 := [.int 1]) rfl rfl rfl rfl ?_
  refine J_if_ne (tgt := 11) dX12_sorts_6 (by decide) (fun _ => ?_) (fun q => absurd q (by decide +kernel))
  refine J_aload_n dX12_sorts_11 rfl rfl ?_
  refine J_callV (st := []) dX12_sorts_12 cv_X12_159 (c_X12_laysHouses_1 hk98 hk100 hk111) hk98 rfl rfl (Nat.le_of_ble_eq_true rfl) ⟨(Nat.le_of_ble_eq_true rfl), (Nat.le_of_ble_eq_true rfl)⟩ ⟨(Nat.le_of_ble_eq_true rfl), (Nat.le_of_ble_eq_true rfl)⟩ (fun r h9 hp => ?_)
  obtain ⟨rfl, rfl⟩ := hp
  refine J_nf (nh2 := nh) (ck2 := 0) (sk2 := 0) (st2 := []) rfl rfl rfl rfl ?_
  refine J_app (L3 := [(98, .inr (12, [.int 0, .int 0, .ref 99, .ref 100, .ref 101, .ref 102, .ref 103, .ref 104, .ref 105, .int 0, .int (-1), .ref 106, .ref 107, .ref 108, .int 0, .int 0, .int 0, .int 0, .int 0, .int 0, .int 0, .ref 109, .int 0, .int 0, .ref 110, .ref 111, .ref 112, .ref 113, .ref 114, .ref 115, .ref 116, .ref 117, .int 1, .int 0, .int 0, .int (-1), .ref 118, .ref 119, .ref 120, .ref 121, .ref 122, .ref 123, .ref 124, .ref 125, .ref 126, .ref 127, .ref 128, .ref 129, .int 0, .ref 130, .ref 131, .ref 132, .ref 133, .ref 134, .int 0, .int 0])), (111, .inl (0, 1260, .inl (upd (fun _ => 0) 0 0)))]) rfl ?_
  refine J_aload_n dX12_sorts_15 rfl rfl ?_
  refine J_get (v := .ref 100) dX12_sorts_16 fl_X12_20 rfl rfl ?_
  refine J_bipush (v := 60) dX12_sorts_19 (by decide +kernel) ?_
  refine J_iald (i2 := 60) (v := 0) dX12_sorts_21 hk100 rfl (jin (by decide +kernel)) (by decide +kernel) rfl ?_
  refine J_istore_n dX12_sorts_22 rfl (Nat.le_of_ble_eq_true rfl) rfl ?_
  refine J_aload_n dX12_sorts_23 rfl rfl ?_
  refine J_iload_n dX12_sorts_24 rfl rfl ?_
  refine J_iconst (v := (-1)) dX12_sorts_25 (by decide) ?_
  refine J_callV (st := []) dX12_sorts_26 cv_X12_360 (c_X12_sortedBy_1 rfl rfl) rfl rfl rfl (Nat.le_of_ble_eq_true rfl) ⟨(Nat.le_of_ble_eq_true rfl), (Nat.le_of_ble_eq_true rfl)⟩ ⟨(Nat.le_of_ble_eq_true rfl), (Nat.le_of_ble_eq_true rfl)⟩ (fun r h9 hp => ?_)
  obtain ⟨rfl, rfl⟩ := hp
  refine J_nf (nh2 := nh) (ck2 := 0) (sk2 := 0) (st2 := [.int 1]) rfl rfl rfl rfl ?_
  refine J_app (L3 := [(98, .inr (12, [.int 0, .int 0, .ref 99, .ref 100, .ref 101, .ref 102, .ref 103, .ref 104, .ref 105, .int 0, .int (-1), .ref 106, .ref 107, .ref 108, .int 0, .int 0, .int 0, .int 0, .int 0, .int 0, .int 0, .ref 109, .int 0, .int 0, .ref 110, .ref 111, .ref 112, .ref 113, .ref 114, .ref 115, .ref 116, .ref 117, .int 1, .int 0, .int 0, .int (-1), .ref 118, .ref 119, .ref 120, .ref 121, .ref 122, .ref 123, .ref 124, .ref 125, .ref 126, .ref 127, .ref 128, .ref 129, .int (-1), .ref 130, .ref 131, .ref 132, .ref 133, .ref 134, .int 0, .int 0])), (98, .inr (12, [.int 0, .int 0, .ref 99, .ref 100, .ref 101, .ref 102, .ref 103, .ref 104, .ref 105, .int 0, .int (-1), .ref 106, .ref 107, .ref 108, .int 0, .int 0, .int 0, .int 0, .int 0, .int 0, .int 0, .ref 109, .int 0, .int 0, .ref 110, .ref 111, .ref 112, .ref 113, .ref 114, .ref 115, .ref 116, .ref 117, .int 1, .int 0, .int 0, .int (-1), .ref 118, .ref 119, .ref 120, .ref 121, .ref 122, .ref 123, .ref 124, .ref 125, .ref 126, .ref 127, .ref 128, .ref 129, .int 0, .ref 130, .ref 131, .ref 132, .ref 133, .ref 134, .int 0, .int 0])), (111, .inl (0, 1260, .inl (upd (fun _ => 0) 0 0)))]) rfl ?_
  refine J_istore_n dX12_sorts_29 rfl (Nat.le_of_ble_eq_true rfl) rfl ?_
  refine J_iload_n dX12_sorts_30 rfl rfl ?_
  refine J_iconst (v := 2) dX12_sorts_31 (by decide) ?_
  refine J_icmp_ge (tgt := 48) dX12_sorts_32 (by decide) (fun q => absurd q (by decide +kernel)) (fun _ => ?_)
  refine J_iload_n dX12_sorts_35 rfl rfl ?_
  refine J_if_ne (tgt := 43) dX12_sorts_36 (by decide) (fun _ => ?_) (fun q => absurd q (by decide +kernel))
  refine J_aload_n dX12_sorts_43 rfl rfl ?_
  refine J_get (v := .int (-1)) dX12_sorts_44 fl_X12_354 rfl rfl ?_
  refine J_mask (L2 := [(98, .inr (12, [.int 0, .int 0, .ref 99, .ref 100, .ref 101, .ref 102, .ref 103, .ref 104, .ref 105, .int 0, .int (-1), .ref 106, .ref 107, .ref 108, .int 0, .int 0, .int 0, .int 0, .int 0, .int 0, .int 0, .ref 109, .int 0, .int 0, .ref 110, .ref 111, .ref 112, .ref 113, .ref 114, .ref 115, .ref 116, .ref 117, .int 1, .int 0, .int 0, .int (-1), .ref 118, .ref 119, .ref 120, .ref 121, .ref 122, .ref 123, .ref 124, .ref 125, .ref 126, .ref 127, .ref 128, .ref 129, .int (-1), .ref 130, .ref 131, .ref 132, .ref 133, .ref 134, .int 0, .int 0])), (111, .inl (0, 1260, .inl (upd (fun _ => 0) 0 0)))]) (ks := [98, 98, 111]) [true, false, true] rfl (by decide +kernel) rfl ?_
  exact J_iret dX12_sorts_47 rfl rfl (Nat.le_of_ble_eq_true rfl) (Nat.le_of_ble_eq_true rfl) ⟨rfl, rfl⟩
set_option maxHeartbeats 4000000 in
set_option maxRecDepth 100000 in
theorem c_X2_needless_1 {l : Launch} {G : jG} {nh : Nat} {fh : Nat → Option va_E} (hk1 : fh 1 = some (.inr (8, [.ref 2, .ref 3, .ref 4, .int 0, .int (-1), .ref 11, .ref 12, .int 0, .ref 13, .ref 14, .int 0, .ref 15, .ref 16, .int 0]))) (hk51 : fh 51 = some (.inr (0, [.ref 52, .ref 53, .int 1, .int 0]))) (hk52 : fh 52 = some (.inl (0, 1260, .inl (upd (fun _ => 0) 0 0)))) (hk85 : fh 85 = some (.inr (2, [.ref 1, .ref 51, .ref 86, .ref 87]))) : JM l G yX2_needless MX2_needless { frames := 4, cells := 0, slots := 0, locals := 87 } [.ref 85] (nh, fh) (fun r h9 => r = some (.int 0) ∧ h9 = (nh, fh)) := by
  refine JM.of (by decide) rfl (fun h => by cases h) (Nat.le_of_ble_eq_true rfl) ⟨3, rfl⟩ ?_
  refine J_hc0 (J_ls (ls2 := [some (.ref 85), none, none, none]) rfl ?_)
  refine J_aload_n dX2_needless_0 rfl rfl ?_
  refine J_callV (st := []) dX2_needless_1 cv_X2_62 (c_X2_sortedAll_1 hk1 hk51 hk52 hk85) hk85 rfl rfl (Nat.le_of_ble_eq_true rfl) ⟨(Nat.le_of_ble_eq_true rfl), (Nat.le_of_ble_eq_true rfl)⟩ ⟨(Nat.le_of_ble_eq_true rfl), (Nat.le_of_ble_eq_true rfl)⟩ (fun r h9 hp => ?_)
  obtain ⟨rfl, rfl⟩ := hp
  refine J_nf (nh2 := nh) (ck2 := 0) (sk2 := 0) (st2 := [.int 1]) rfl rfl rfl rfl ?_
  refine J_istore_n dX2_needless_4 rfl (Nat.le_of_ble_eq_true rfl) rfl ?_
  refine J_iconst (v := 0) dX2_needless_5 (by decide) ?_
  refine J_istore_n dX2_needless_6 rfl (Nat.le_of_ble_eq_true rfl) rfl ?_
  refine J_iconst (v := 0) dX2_needless_7 (by decide) ?_
  refine J_istore_n dX2_needless_8 rfl (Nat.le_of_ble_eq_true rfl) rfl ?_
  refine J_iload_n dX2_needless_9 rfl rfl ?_
  refine J_aload_n dX2_needless_10 rfl rfl ?_
  refine J_get (v := .ref 1) dX2_needless_11 fl_X2_18 hk85 rfl ?_
  refine J_get (v := .int 0) dX2_needless_14 fl_X2_26 hk1 rfl ?_
  refine J_icmp_ge (tgt := 48) dX2_needless_17 (by decide) (fun _ => ?_) (fun q => absurd (by decide +kernel) q)
  refine J_iload_n dX2_needless_48 rfl rfl ?_
  exact J_iret dX2_needless_49 rfl rfl (Nat.le_of_ble_eq_true rfl) (Nat.le_of_ble_eq_true rfl) ⟨rfl, rfl⟩
set_option maxHeartbeats 4000000 in
set_option maxRecDepth 100000 in
theorem c_X11_sorts_4 {l : Launch} {G : jG} {nh : Nat} {fh : Nat → Option va_E} (hk0 : fh 0 = some (.inr (11, [.ref 1, .ref 17, .ref 50, .ref 51, .ref 54, .ref 57, .ref 65, .ref 75, .ref 81, .ref 85, .ref 88, .ref 93, .ref 96, .int 0, .int (-1), .ref 97, .int 0]))) (hk1 : fh 1 = some (.inr (8, [.ref 2, .ref 3, .ref 4, .int 0, .int (-1), .ref 11, .ref 12, .int 0, .ref 13, .ref 14, .int 0, .ref 15, .ref 16, .int 0]))) (hk51 : fh 51 = some (.inr (0, [.ref 52, .ref 53, .int 1, .int 0]))) (hk52 : fh 52 = some (.inl (0, 1260, .inl (upd (fun _ => 0) 0 0)))) (hk85 : fh 85 = some (.inr (2, [.ref 1, .ref 51, .ref 86, .ref 87]))) : JM l G yX11_sorts MX11_sorts { frames := 5, cells := 0, slots := 0, locals := 110 } [.ref 0, .int 2] (nh, fh) (fun r h9 => r = some (.int 0) ∧ h9 = (nh, fh)) := by
  refine JM.of (by decide) rfl (fun h => by cases h) (Nat.le_of_ble_eq_true rfl) ⟨0, rfl⟩ ?_
  refine J_hc0 (J_ls (ls2 := [some (.ref 0), some (.int 2)]) rfl ?_)
  refine J_aload_n dX11_sorts_0 rfl rfl ?_
  refine J_get (v := .ref 85) dX11_sorts_1 fl_X11_73 hk0 rfl ?_
  refine J_callV (st := []) dX11_sorts_4 cv_X11_270 (c_X2_prepare_1 hk1 hk85) hk85 rfl rfl (Nat.le_of_ble_eq_true rfl) ⟨(Nat.le_of_ble_eq_true rfl), (Nat.le_of_ble_eq_true rfl)⟩ ⟨(Nat.le_of_ble_eq_true rfl), (Nat.le_of_ble_eq_true rfl)⟩ (fun r h9 hp => ?_)
  obtain ⟨rfl, rfl⟩ := hp
  refine J_nf (nh2 := nh) (ck2 := 0) (sk2 := 0) (st2 := []) rfl rfl rfl rfl ?_
  refine J_iload_n dX11_sorts_7 rfl rfl ?_
  refine J_tableIn (tgt := 56) dX11_sorts_8 (by decide +kernel) (by decide +kernel) (off := 48) (by decide +kernel) (by decide) ?_
  refine J_aload_n dX11_sorts_56 rfl rfl ?_
  refine J_get (v := .ref 85) dX11_sorts_57 fl_X11_73 hk0 rfl ?_
  refine J_callV (st := []) dX11_sorts_60 cv_X11_277 (c_X2_needless_1 hk1 hk51 hk52 hk85) hk85 rfl rfl (Nat.le_of_ble_eq_true rfl) ⟨(Nat.le_of_ble_eq_true rfl), (Nat.le_of_ble_eq_true rfl)⟩ ⟨(Nat.le_of_ble_eq_true rfl), (Nat.le_of_ble_eq_true rfl)⟩ (fun r h9 hp => ?_)
  obtain ⟨rfl, rfl⟩ := hp
  refine J_nf (nh2 := nh) (ck2 := 0) (sk2 := 0) (st2 := [.int 0]) rfl rfl rfl rfl ?_
  exact J_iret dX11_sorts_63 rfl rfl (Nat.le_of_ble_eq_true rfl) (Nat.le_of_ble_eq_true rfl) ⟨rfl, rfl⟩
set_option maxHeartbeats 4000000 in
set_option maxRecDepth 100000 in
theorem c_X12_sorts_4 {l : Launch} {G : jG} {nh : Nat} {fh : Nat → Option va_E} (hk98 : fh 98 = some (.inr (12, [.int 0, .int 0, .ref 99, .ref 100, .ref 101, .ref 102, .ref 103, .ref 104, .ref 105, .int 0, .int (-1), .ref 106, .ref 107, .ref 108, .int 0, .int 0, .int 0, .int 0, .int 0, .int 0, .int 0, .ref 109, .int 0, .int 0, .ref 110, .ref 111, .ref 112, .ref 113, .ref 114, .ref 115, .ref 116, .ref 117, .int 0, .int 0, .int (-1), .int (-1), .ref 118, .ref 119, .ref 120, .ref 121, .ref 122, .ref 123, .ref 124, .ref 125, .ref 126, .ref 127, .ref 128, .ref 129, .int 0, .ref 130, .ref 131, .ref 132, .ref 133, .ref 134, .int 0, .int 0]))) (hk100 : fh 100 = some (.inl (0, 4870, .inl (upd (fun _ => 0) 63 (-1))))) (hk111 : fh 111 = some (.inl (0, 1260, .inl (fun _ => 0)))) : JM l G yX12_sorts MX12_sorts { frames := 3, cells := 0, slots := 0, locals := 72 } [.ref 98, .int 2] (nh, fh) (fun r h9 => r = some (.int 0) ∧ h9 = (nh, hc fh [(98, .inr (12, [.int 0, .int 0, .ref 99, .ref 100, .ref 101, .ref 102, .ref 103, .ref 104, .ref 105, .int 0, .int (-1), .ref 106, .ref 107, .ref 108, .int 0, .int 0, .int 0, .int 0, .int 0, .int 0, .int 0, .ref 109, .int 0, .int 0, .ref 110, .ref 111, .ref 112, .ref 113, .ref 114, .ref 115, .ref 116, .ref 117, .int 1, .int 0, .int 0, .int (-1), .ref 118, .ref 119, .ref 120, .ref 121, .ref 122, .ref 123, .ref 124, .ref 125, .ref 126, .ref 127, .ref 128, .ref 129, .int (-1), .ref 130, .ref 131, .ref 132, .ref 133, .ref 134, .int 0, .int 0])), (111, .inl (0, 1260, .inl (upd (fun _ => 0) 0 0)))])) := by
  refine JM.of (by decide) rfl (fun h => by cases h) (Nat.le_of_ble_eq_true rfl) ⟨4, rfl⟩ ?_
  refine J_hc0 (J_ls (ls2 := [some (.ref 98), some (.int 2), none, none, none, none]) rfl ?_)
  refine J_iload_n dX12_sorts_0 rfl rfl ?_
  refine J_iconst (v := 0) dX12_sorts_1 (by decide) ?_
  refine J_iconst (v := 3) dX12_sorts_2 (by decide) ?_
  refine J_callS (st := []) dX12_sorts_3 cs_X12_138 (c_X12_lies_44 ) rfl rfl (Nat.le_of_ble_eq_true rfl) ⟨(Nat.le_of_ble_eq_true rfl), (Nat.le_of_ble_eq_true rfl)⟩ ⟨(Nat.le_of_ble_eq_true rfl), (Nat.le_of_ble_eq_true rfl)⟩ (fun r h9 hp => ?_)
  obtain ⟨rfl, rfl⟩ := hp
  refine J_nf (nh2 := nh) (ck2 := 0) (sk2 := 0) (st2 := [.int 1]) rfl rfl rfl rfl ?_
  refine J_if_ne (tgt := 11) dX12_sorts_6 (by decide) (fun _ => ?_) (fun q => absurd q (by decide +kernel))
  refine J_aload_n dX12_sorts_11 rfl rfl ?_
  refine J_callV (st := []) dX12_sorts_12 cv_X12_159 (c_X12_laysHouses_1 hk98 hk100 hk111) hk98 rfl rfl (Nat.le_of_ble_eq_true rfl) ⟨(Nat.le_of_ble_eq_true rfl), (Nat.le_of_ble_eq_true rfl)⟩ ⟨(Nat.le_of_ble_eq_true rfl), (Nat.le_of_ble_eq_true rfl)⟩ (fun r h9 hp => ?_)
  obtain ⟨rfl, rfl⟩ := hp
  refine J_nf (nh2 := nh) (ck2 := 0) (sk2 := 0) (st2 := []) rfl rfl rfl rfl ?_
  refine J_app (L3 := [(98, .inr (12, [.int 0, .int 0, .ref 99, .ref 100, .ref 101, .ref 102, .ref 103, .ref 104, .ref 105, .int 0, .int (-1), .ref 106, .ref 107, .ref 108, .int 0, .int 0, .int 0, .int 0, .int 0, .int 0, .int 0, .ref 109, .int 0, .int 0, .ref 110, .ref 111, .ref 112, .ref 113, .ref 114, .ref 115, .ref 116, .ref 117, .int 1, .int 0, .int 0, .int (-1), .ref 118, .ref 119, .ref 120, .ref 121, .ref 122, .ref 123, .ref 124, .ref 125, .ref 126, .ref 127, .ref 128, .ref 129, .int 0, .ref 130, .ref 131, .ref 132, .ref 133, .ref 134, .int 0, .int 0])), (111, .inl (0, 1260, .inl (upd (fun _ => 0) 0 0)))]) rfl ?_
  refine J_aload_n dX12_sorts_15 rfl rfl ?_
  refine J_get (v := .ref 100) dX12_sorts_16 fl_X12_20 rfl rfl ?_
  refine J_bipush (v := 60) dX12_sorts_19 (by decide +kernel) ?_
  refine J_iald (i2 := 60) (v := 0) dX12_sorts_21 hk100 rfl (jin (by decide +kernel)) (by decide +kernel) rfl ?_
  refine J_istore_n dX12_sorts_22 rfl (Nat.le_of_ble_eq_true rfl) rfl ?_
  refine J_aload_n dX12_sorts_23 rfl rfl ?_
  refine J_iload_n dX12_sorts_24 rfl rfl ?_
  refine J_iconst (v := (-1)) dX12_sorts_25 (by decide) ?_
  refine J_callV (st := []) dX12_sorts_26 cv_X12_360 (c_X12_sortedBy_1 rfl rfl) rfl rfl rfl (Nat.le_of_ble_eq_true rfl) ⟨(Nat.le_of_ble_eq_true rfl), (Nat.le_of_ble_eq_true rfl)⟩ ⟨(Nat.le_of_ble_eq_true rfl), (Nat.le_of_ble_eq_true rfl)⟩ (fun r h9 hp => ?_)
  obtain ⟨rfl, rfl⟩ := hp
  refine J_nf (nh2 := nh) (ck2 := 0) (sk2 := 0) (st2 := [.int 1]) rfl rfl rfl rfl ?_
  refine J_app (L3 := [(98, .inr (12, [.int 0, .int 0, .ref 99, .ref 100, .ref 101, .ref 102, .ref 103, .ref 104, .ref 105, .int 0, .int (-1), .ref 106, .ref 107, .ref 108, .int 0, .int 0, .int 0, .int 0, .int 0, .int 0, .int 0, .ref 109, .int 0, .int 0, .ref 110, .ref 111, .ref 112, .ref 113, .ref 114, .ref 115, .ref 116, .ref 117, .int 1, .int 0, .int 0, .int (-1), .ref 118, .ref 119, .ref 120, .ref 121, .ref 122, .ref 123, .ref 124, .ref 125, .ref 126, .ref 127, .ref 128, .ref 129, .int (-1), .ref 130, .ref 131, .ref 132, .ref 133, .ref 134, .int 0, .int 0])), (98, .inr (12, [.int 0, .int 0, .ref 99, .ref 100, .ref 101, .ref 102, .ref 103, .ref 104, .ref 105, .int 0, .int (-1), .ref 106, .ref 107, .ref 108, .int 0, .int 0, .int 0, .int 0, .int 0, .int 0, .int 0, .ref 109, .int 0, .int 0, .ref 110, .ref 111, .ref 112, .ref 113, .ref 114, .ref 115, .ref 116, .ref 117, .int 1, .int 0, .int 0, .int (-1), .ref 118, .ref 119, .ref 120, .ref 121, .ref 122, .ref 123, .ref 124, .ref 125, .ref 126, .ref 127, .ref 128, .ref 129, .int 0, .ref 130, .ref 131, .ref 132, .ref 133, .ref 134, .int 0, .int 0])), (111, .inl (0, 1260, .inl (upd (fun _ => 0) 0 0)))]) rfl ?_
  refine J_istore_n dX12_sorts_29 rfl (Nat.le_of_ble_eq_true rfl) rfl ?_
  refine J_iload_n dX12_sorts_30 rfl rfl ?_
  refine J_iconst (v := 2) dX12_sorts_31 (by decide) ?_
  refine J_icmp_ge (tgt := 48) dX12_sorts_32 (by decide) (fun _ => ?_) (fun q => absurd (by decide +kernel) q)
  refine J_iconst (v := 0) dX12_sorts_48 (by decide) ?_
  refine J_istore dX12_sorts_49 (Nat.le_of_ble_eq_true rfl) rfl ?_
  refine J_iconst (v := 0) dX12_sorts_51 (by decide) ?_
  refine J_istore dX12_sorts_52 (Nat.le_of_ble_eq_true rfl) rfl ?_
  refine J_iload dX12_sorts_54 rfl ?_
  refine J_iload_n dX12_sorts_56 rfl rfl ?_
  refine J_icmp_ge (tgt := 90) dX12_sorts_57 (by decide) (fun _ => ?_) (fun q => absurd (by decide +kernel) q)
  refine J_iload_n dX12_sorts_90 rfl rfl ?_
  refine J_iconst (v := 2) dX12_sorts_91 (by decide) ?_
  refine J_icmp_ne (tgt := 98) dX12_sorts_92 (by decide) (fun q => absurd (by decide +kernel) q) (fun _ => ?_)
  refine J_iload dX12_sorts_95 rfl ?_
  refine J_mask (L2 := [(98, .inr (12, [.int 0, .int 0, .ref 99, .ref 100, .ref 101, .ref 102, .ref 103, .ref 104, .ref 105, .int 0, .int (-1), .ref 106, .ref 107, .ref 108, .int 0, .int 0, .int 0, .int 0, .int 0, .int 0, .int 0, .ref 109, .int 0, .int 0, .ref 110, .ref 111, .ref 112, .ref 113, .ref 114, .ref 115, .ref 116, .ref 117, .int 1, .int 0, .int 0, .int (-1), .ref 118, .ref 119, .ref 120, .ref 121, .ref 122, .ref 123, .ref 124, .ref 125, .ref 126, .ref 127, .ref 128, .ref 129, .int (-1), .ref 130, .ref 131, .ref 132, .ref 133, .ref 134, .int 0, .int 0])), (111, .inl (0, 1260, .inl (upd (fun _ => 0) 0 0)))]) (ks := [98, 98, 111]) [true, false, true] rfl (by decide +kernel) rfl ?_
  exact J_iret dX12_sorts_97 rfl rfl (Nat.le_of_ble_eq_true rfl) (Nat.le_of_ble_eq_true rfl) ⟨rfl, rfl⟩
set_option maxHeartbeats 4000000 in
set_option maxRecDepth 100000 in
theorem c_X2_fewestFirst_1 {l : Launch} {G : jG} {nh : Nat} {fh : Nat → Option va_E} (hk1 : fh 1 = some (.inr (8, [.ref 2, .ref 3, .ref 4, .int 0, .int (-1), .ref 11, .ref 12, .int 0, .ref 13, .ref 14, .int 0, .ref 15, .ref 16, .int 0]))) (hk51 : fh 51 = some (.inr (0, [.ref 52, .ref 53, .int 1, .int 0]))) (hk52 : fh 52 = some (.inl (0, 1260, .inl (upd (fun _ => 0) 0 0)))) (hk85 : fh 85 = some (.inr (2, [.ref 1, .ref 51, .ref 86, .ref 87]))) : JM l G yX2_fewestFirst MX2_fewestFirst { frames := 4, cells := 0, slots := 0, locals := 87 } [.ref 85] (nh, fh) (fun r h9 => r = some (.int 0) ∧ h9 = (nh, fh)) := by
  refine JM.of (by decide) rfl (fun h => by cases h) (Nat.le_of_ble_eq_true rfl) ⟨2, rfl⟩ ?_
  refine J_hc0 (J_ls (ls2 := [some (.ref 85), none, none]) rfl ?_)
  refine J_aload_n dX2_fewestFirst_0 rfl rfl ?_
  refine J_callV (st := []) dX2_fewestFirst_1 cv_X2_62 (c_X2_sortedAll_1 hk1 hk51 hk52 hk85) hk85 rfl rfl (Nat.le_of_ble_eq_true rfl) ⟨(Nat.le_of_ble_eq_true rfl), (Nat.le_of_ble_eq_true rfl)⟩ ⟨(Nat.le_of_ble_eq_true rfl), (Nat.le_of_ble_eq_true rfl)⟩ (fun r h9 hp => ?_)
  obtain ⟨rfl, rfl⟩ := hp
  refine J_nf (nh2 := nh) (ck2 := 0) (sk2 := 0) (st2 := [.int 1]) rfl rfl rfl rfl ?_
  refine J_istore_n dX2_fewestFirst_4 rfl (Nat.le_of_ble_eq_true rfl) rfl ?_
  refine J_iconst (v := 0) dX2_fewestFirst_5 (by decide) ?_
  refine J_istore_n dX2_fewestFirst_6 rfl (Nat.le_of_ble_eq_true rfl) rfl ?_
  refine J_iload_n dX2_fewestFirst_7 rfl rfl ?_
  refine J_aload_n dX2_fewestFirst_8 rfl rfl ?_
  refine J_get (v := .ref 1) dX2_fewestFirst_9 fl_X2_18 hk85 rfl ?_
  refine J_get (v := .int 0) dX2_fewestFirst_12 fl_X2_26 hk1 rfl ?_
  refine J_icmp_ge (tgt := 34) dX2_fewestFirst_15 (by decide) (fun _ => ?_) (fun q => absurd (by decide +kernel) q)
  refine J_iload_n dX2_fewestFirst_34 rfl rfl ?_
  exact J_iret dX2_fewestFirst_35 rfl rfl (Nat.le_of_ble_eq_true rfl) (Nat.le_of_ble_eq_true rfl) ⟨rfl, rfl⟩
set_option maxHeartbeats 4000000 in
set_option maxRecDepth 100000 in
theorem c_X11_sorts_5 {l : Launch} {G : jG} {nh : Nat} {fh : Nat → Option va_E} (hk0 : fh 0 = some (.inr (11, [.ref 1, .ref 17, .ref 50, .ref 51, .ref 54, .ref 57, .ref 65, .ref 75, .ref 81, .ref 85, .ref 88, .ref 93, .ref 96, .int 0, .int (-1), .ref 97, .int 0]))) (hk1 : fh 1 = some (.inr (8, [.ref 2, .ref 3, .ref 4, .int 0, .int (-1), .ref 11, .ref 12, .int 0, .ref 13, .ref 14, .int 0, .ref 15, .ref 16, .int 0]))) (hk51 : fh 51 = some (.inr (0, [.ref 52, .ref 53, .int 1, .int 0]))) (hk52 : fh 52 = some (.inl (0, 1260, .inl (upd (fun _ => 0) 0 0)))) (hk85 : fh 85 = some (.inr (2, [.ref 1, .ref 51, .ref 86, .ref 87]))) : JM l G yX11_sorts MX11_sorts { frames := 5, cells := 0, slots := 0, locals := 109 } [.ref 0, .int 3] (nh, fh) (fun r h9 => r = some (.int 0) ∧ h9 = (nh, fh)) := by
  refine JM.of (by decide) rfl (fun h => by cases h) (Nat.le_of_ble_eq_true rfl) ⟨0, rfl⟩ ?_
  refine J_hc0 (J_ls (ls2 := [some (.ref 0), some (.int 3)]) rfl ?_)
  refine J_aload_n dX11_sorts_0 rfl rfl ?_
  refine J_get (v := .ref 85) dX11_sorts_1 fl_X11_73 hk0 rfl ?_
  refine J_callV (st := []) dX11_sorts_4 cv_X11_270 (c_X2_prepare_1 hk1 hk85) hk85 rfl rfl (Nat.le_of_ble_eq_true rfl) ⟨(Nat.le_of_ble_eq_true rfl), (Nat.le_of_ble_eq_true rfl)⟩ ⟨(Nat.le_of_ble_eq_true rfl), (Nat.le_of_ble_eq_true rfl)⟩ (fun r h9 hp => ?_)
  obtain ⟨rfl, rfl⟩ := hp
  refine J_nf (nh2 := nh) (ck2 := 0) (sk2 := 0) (st2 := []) rfl rfl rfl rfl ?_
  refine J_iload_n dX11_sorts_7 rfl rfl ?_
  refine J_tableIn (tgt := 64) dX11_sorts_8 (by decide +kernel) (by decide +kernel) (off := 56) (by decide +kernel) (by decide) ?_
  refine J_aload_n dX11_sorts_64 rfl rfl ?_
  refine J_get (v := .ref 85) dX11_sorts_65 fl_X11_73 hk0 rfl ?_
  refine J_callV (st := []) dX11_sorts_68 cv_X11_280 (c_X2_fewestFirst_1 hk1 hk51 hk52 hk85) hk85 rfl rfl (Nat.le_of_ble_eq_true rfl) ⟨(Nat.le_of_ble_eq_true rfl), (Nat.le_of_ble_eq_true rfl)⟩ ⟨(Nat.le_of_ble_eq_true rfl), (Nat.le_of_ble_eq_true rfl)⟩ (fun r h9 hp => ?_)
  obtain ⟨rfl, rfl⟩ := hp
  refine J_nf (nh2 := nh) (ck2 := 0) (sk2 := 0) (st2 := [.int 0]) rfl rfl rfl rfl ?_
  exact J_iret dX11_sorts_71 rfl rfl (Nat.le_of_ble_eq_true rfl) (Nat.le_of_ble_eq_true rfl) ⟨rfl, rfl⟩
set_option maxHeartbeats 4000000 in
set_option maxRecDepth 100000 in
theorem c_X12_sortedBy_2 {l : Launch} {G : jG} {nh : Nat} {fh : Nat → Option va_E} (hk98 : fh 98 = some (.inr (12, [.int 0, .int 0, .ref 99, .ref 100, .ref 101, .ref 102, .ref 103, .ref 104, .ref 105, .int 0, .int (-1), .ref 106, .ref 107, .ref 108, .int 0, .int 0, .int 0, .int 0, .int 0, .int 0, .int 0, .ref 109, .int 0, .int 0, .ref 110, .ref 111, .ref 112, .ref 113, .ref 114, .ref 115, .ref 116, .ref 117, .int 1, .int 0, .int 0, .int (-1), .ref 118, .ref 119, .ref 120, .ref 121, .ref 122, .ref 123, .ref 124, .ref 125, .ref 126, .ref 127, .ref 128, .ref 129, .int (-1), .ref 130, .ref 131, .ref 132, .ref 133, .ref 134, .int 0, .int 0]))) (hk111 : fh 111 = some (.inl (0, 1260, .inl (upd (fun _ => 0) 0 0)))) : JM l G yX12_sortedBy MX12_sortedBy { frames := 2, cells := 0, slots := 0, locals := 48 } [.ref 98, .int 0, .int (-1)] (nh, fh) (fun r h9 => r = some (.int 1) ∧ h9 = (nh, hc fh [(98, .inr (12, [.int 0, .int 0, .ref 99, .ref 100, .ref 101, .ref 102, .ref 103, .ref 104, .ref 105, .int 0, .int (-1), .ref 106, .ref 107, .ref 108, .int 0, .int 0, .int 0, .int 0, .int 0, .int 0, .int 0, .ref 109, .int 0, .int 0, .ref 110, .ref 111, .ref 112, .ref 113, .ref 114, .ref 115, .ref 116, .ref 117, .int 1, .int 0, .int 0, .int (-1), .ref 118, .ref 119, .ref 120, .ref 121, .ref 122, .ref 123, .ref 124, .ref 125, .ref 126, .ref 127, .ref 128, .ref 129, .int (-1), .ref 130, .ref 131, .ref 132, .ref 133, .ref 134, .int 0, .int 0]))])) := by
  refine JM.of (by decide) rfl (fun h => by cases h) (Nat.le_of_ble_eq_true rfl) ⟨2, rfl⟩ ?_
  refine J_hc0 (J_ls (ls2 := [some (.ref 98), some (.int 0), some (.int (-1)), none, none]) rfl ?_)
  refine J_iconst (v := 0) dX12_sortedBy_0 (by decide) ?_
  refine J_istore_n dX12_sortedBy_1 rfl (Nat.le_of_ble_eq_true rfl) rfl ?_
  refine J_aload_n dX12_sortedBy_2 rfl rfl ?_
  refine J_iconst (v := (-1)) dX12_sortedBy_3 (by decide) ?_
  refine K_put (fs2 := [.int 0, .int 0, .ref 99, .ref 100, .ref 101, .ref 102, .ref 103, .ref 104, .ref 105, .int 0, .int (-1), .ref 106, .ref 107, .ref 108, .int 0, .int 0, .int 0, .int 0, .int 0, .int 0, .int 0, .ref 109, .int 0, .int 0, .ref 110, .ref 111, .ref 112, .ref 113, .ref 114, .ref 115, .ref 116, .ref 117, .int 1, .int 0, .int 0, .int (-1), .ref 118, .ref 119, .ref 120, .ref 121, .ref 122, .ref 123, .ref 124, .ref 125, .ref 126, .ref 127, .ref 128, .ref 129, .int (-1), .ref 130, .ref 131, .ref 132, .ref 133, .ref 134, .int 0, .int 0]) dX12_sortedBy_4 fw_X12_354 hk98 (Nat.le_of_ble_eq_true rfl) (fun _ => ⟨rfl, rfl⟩) rfl ?_
  refine J_aload_n dX12_sortedBy_7 rfl rfl ?_
  refine J_get (v := .int 1) dX12_sortedBy_8 fl_X12_298 rfl rfl ?_
  refine J_iconst (v := 1) dX12_sortedBy_11 (by decide) ?_
  refine J_isub (z := 0) dX12_sortedBy_12 (by decide +kernel) ?_
  refine J_istore dX12_sortedBy_13 (Nat.le_of_ble_eq_true rfl) rfl ?_
  refine J_iload dX12_sortedBy_15 rfl ?_
  refine J_if_lt (tgt := 59) dX12_sortedBy_17 (by decide) (fun q => absurd q (by decide +kernel)) (fun _ => ?_)
  refine J_aload_n dX12_sortedBy_20 rfl rfl ?_
  refine J_iload dX12_sortedBy_21 rfl ?_
  refine J_iload_n dX12_sortedBy_23 rfl rfl ?_
  refine J_iload_n dX12_sortedBy_24 rfl rfl ?_
  refine J_callV (st := []) dX12_sortedBy_25 cv_X12_357 (c_X12_goesThrough_1 rfl) rfl rfl rfl (Nat.le_of_ble_eq_true rfl) ⟨(Nat.le_of_ble_eq_true rfl), (Nat.le_of_ble_eq_true rfl)⟩ ⟨(Nat.le_of_ble_eq_true rfl), (Nat.le_of_ble_eq_true rfl)⟩ (fun r h9 hp => ?_)
  obtain ⟨rfl, rfl⟩ := hp
  refine J_nf (nh2 := nh) (ck2 := 0) (sk2 := 0) (st2 := []) rfl rfl rfl rfl ?_
  refine J_aload_n dX12_sortedBy_28 rfl rfl ?_
  refine J_callV (st := []) dX12_sortedBy_29 cv_X12_319 (c_X12_orderCode_2 rfl) rfl rfl rfl (Nat.le_of_ble_eq_true rfl) ⟨(Nat.le_of_ble_eq_true rfl), (Nat.le_of_ble_eq_true rfl)⟩ ⟨(Nat.le_of_ble_eq_true rfl), (Nat.le_of_ble_eq_true rfl)⟩ (fun r h9 hp => ?_)
  obtain ⟨rfl, rfl⟩ := hp
  refine J_nf (nh2 := nh) (ck2 := 0) (sk2 := 0) (st2 := [.int 0]) rfl rfl rfl rfl ?_
  refine J_aload_n dX12_sortedBy_32 rfl rfl ?_
  refine J_get (v := .ref 111) dX12_sortedBy_33 fl_X12_58 rfl rfl ?_
  refine J_iconst (v := 0) dX12_sortedBy_36 (by decide) ?_
  refine J_iald (i2 := 0) (v := 0) dX12_sortedBy_37 hk111 rfl (jin (by decide +kernel)) (by decide +kernel) rfl ?_
  refine J_icmp_ne (tgt := 47) dX12_sortedBy_38 (by decide) (fun q => absurd (by decide +kernel) q) (fun _ => ?_)
  refine J_iinc (v := 1) dX12_sortedBy_41 rfl (by decide +kernel) (Nat.le_of_ble_eq_true rfl) rfl ?_
  refine J_ls (ls2 := [some (.ref 98), some (.int 0), some (.int (-1)), some (.int 1), some (.int 0)]) rfl ?_
  refine J_goto (tgt := 53) dX12_sortedBy_44 (by decide) ?_
  refine J_iinc (v := (-1)) dX12_sortedBy_53 rfl (by decide +kernel) (Nat.le_of_ble_eq_true rfl) rfl ?_
  refine J_ls (ls2 := [some (.ref 98), some (.int 0), some (.int (-1)), some (.int 1), some (.int (-1))]) rfl ?_
  refine J_goto (tgt := 15) dX12_sortedBy_56 (by decide) ?_
  refine J_iload dX12_sortedBy_15 rfl ?_
  refine J_if_lt (tgt := 59) dX12_sortedBy_17 (by decide) (fun _ => ?_) (fun q => absurd (by decide +kernel) q)
  refine J_iload_n dX12_sortedBy_59 rfl rfl ?_
  exact J_iret dX12_sortedBy_60 rfl rfl (Nat.le_of_ble_eq_true rfl) (Nat.le_of_ble_eq_true rfl) ⟨rfl, rfl⟩
set_option maxHeartbeats 4000000 in
set_option maxRecDepth 100000 in
theorem c_X12_sorts_5 {l : Launch} {G : jG} {nh : Nat} {fh : Nat → Option va_E} (hk98 : fh 98 = some (.inr (12, [.int 0, .int 0, .ref 99, .ref 100, .ref 101, .ref 102, .ref 103, .ref 104, .ref 105, .int 0, .int (-1), .ref 106, .ref 107, .ref 108, .int 0, .int 0, .int 0, .int 0, .int 0, .int 0, .int 0, .ref 109, .int 0, .int 0, .ref 110, .ref 111, .ref 112, .ref 113, .ref 114, .ref 115, .ref 116, .ref 117, .int 0, .int 0, .int (-1), .int (-1), .ref 118, .ref 119, .ref 120, .ref 121, .ref 122, .ref 123, .ref 124, .ref 125, .ref 126, .ref 127, .ref 128, .ref 129, .int 0, .ref 130, .ref 131, .ref 132, .ref 133, .ref 134, .int 0, .int 0]))) (hk100 : fh 100 = some (.inl (0, 4870, .inl (upd (fun _ => 0) 63 (-1))))) (hk111 : fh 111 = some (.inl (0, 1260, .inl (fun _ => 0)))) : JM l G yX12_sorts MX12_sorts { frames := 3, cells := 0, slots := 0, locals := 72 } [.ref 98, .int 3] (nh, fh) (fun r h9 => r = some (.int 0) ∧ h9 = (nh, hc fh [(98, .inr (12, [.int 0, .int 0, .ref 99, .ref 100, .ref 101, .ref 102, .ref 103, .ref 104, .ref 105, .int 0, .int (-1), .ref 106, .ref 107, .ref 108, .int 0, .int 0, .int 0, .int 0, .int 0, .int 0, .int 0, .ref 109, .int 0, .int 0, .ref 110, .ref 111, .ref 112, .ref 113, .ref 114, .ref 115, .ref 116, .ref 117, .int 1, .int 0, .int 0, .int (-1), .ref 118, .ref 119, .ref 120, .ref 121, .ref 122, .ref 123, .ref 124, .ref 125, .ref 126, .ref 127, .ref 128, .ref 129, .int (-1), .ref 130, .ref 131, .ref 132, .ref 133, .ref 134, .int 0, .int 0])), (111, .inl (0, 1260, .inl (upd (fun _ => 0) 0 0)))])) := by
  refine JM.of (by decide) rfl (fun h => by cases h) (Nat.le_of_ble_eq_true rfl) ⟨4, rfl⟩ ?_
  refine J_hc0 (J_ls (ls2 := [some (.ref 98), some (.int 3), none, none, none, none]) rfl ?_)
  refine J_iload_n dX12_sorts_0 rfl rfl ?_
  refine J_iconst (v := 0) dX12_sorts_1 (by decide) ?_
  refine J_iconst (v := 3) dX12_sorts_2 (by decide) ?_
  refine J_callS (st := []) dX12_sorts_3 cs_X12_138 (c_X12_lies_45 ) rfl rfl (Nat.le_of_ble_eq_true rfl) ⟨(Nat.le_of_ble_eq_true rfl), (Nat.le_of_ble_eq_true rfl)⟩ ⟨(Nat.le_of_ble_eq_true rfl), (Nat.le_of_ble_eq_true rfl)⟩ (fun r h9 hp => ?_)
  obtain ⟨rfl, rfl⟩ := hp
  refine J_nf (nh2 := nh) (ck2 := 0) (sk2 := 0) (st2 := [.int 1]) rfl rfl rfl rfl ?_
  refine J_if_ne (tgt := 11) dX12_sorts_6 (by decide) (fun _ => ?_) (fun q => absurd q (by decide +kernel))
  refine J_aload_n dX12_sorts_11 rfl rfl ?_
  refine J_callV (st := []) dX12_sorts_12 cv_X12_159 (c_X12_laysHouses_1 hk98 hk100 hk111) hk98 rfl rfl (Nat.le_of_ble_eq_true rfl) ⟨(Nat.le_of_ble_eq_true rfl), (Nat.le_of_ble_eq_true rfl)⟩ ⟨(Nat.le_of_ble_eq_true rfl), (Nat.le_of_ble_eq_true rfl)⟩ (fun r h9 hp => ?_)
  obtain ⟨rfl, rfl⟩ := hp
  refine J_nf (nh2 := nh) (ck2 := 0) (sk2 := 0) (st2 := []) rfl rfl rfl rfl ?_
  refine J_app (L3 := [(98, .inr (12, [.int 0, .int 0, .ref 99, .ref 100, .ref 101, .ref 102, .ref 103, .ref 104, .ref 105, .int 0, .int (-1), .ref 106, .ref 107, .ref 108, .int 0, .int 0, .int 0, .int 0, .int 0, .int 0, .int 0, .ref 109, .int 0, .int 0, .ref 110, .ref 111, .ref 112, .ref 113, .ref 114, .ref 115, .ref 116, .ref 117, .int 1, .int 0, .int 0, .int (-1), .ref 118, .ref 119, .ref 120, .ref 121, .ref 122, .ref 123, .ref 124, .ref 125, .ref 126, .ref 127, .ref 128, .ref 129, .int 0, .ref 130, .ref 131, .ref 132, .ref 133, .ref 134, .int 0, .int 0])), (111, .inl (0, 1260, .inl (upd (fun _ => 0) 0 0)))]) rfl ?_
  refine J_aload_n dX12_sorts_15 rfl rfl ?_
  refine J_get (v := .ref 100) dX12_sorts_16 fl_X12_20 rfl rfl ?_
  refine J_bipush (v := 60) dX12_sorts_19 (by decide +kernel) ?_
  refine J_iald (i2 := 60) (v := 0) dX12_sorts_21 hk100 rfl (jin (by decide +kernel)) (by decide +kernel) rfl ?_
  refine J_istore_n dX12_sorts_22 rfl (Nat.le_of_ble_eq_true rfl) rfl ?_
  refine J_aload_n dX12_sorts_23 rfl rfl ?_
  refine J_iload_n dX12_sorts_24 rfl rfl ?_
  refine J_iconst (v := (-1)) dX12_sorts_25 (by decide) ?_
  refine J_callV (st := []) dX12_sorts_26 cv_X12_360 (c_X12_sortedBy_1 rfl rfl) rfl rfl rfl (Nat.le_of_ble_eq_true rfl) ⟨(Nat.le_of_ble_eq_true rfl), (Nat.le_of_ble_eq_true rfl)⟩ ⟨(Nat.le_of_ble_eq_true rfl), (Nat.le_of_ble_eq_true rfl)⟩ (fun r h9 hp => ?_)
  obtain ⟨rfl, rfl⟩ := hp
  refine J_nf (nh2 := nh) (ck2 := 0) (sk2 := 0) (st2 := [.int 1]) rfl rfl rfl rfl ?_
  refine J_app (L3 := [(98, .inr (12, [.int 0, .int 0, .ref 99, .ref 100, .ref 101, .ref 102, .ref 103, .ref 104, .ref 105, .int 0, .int (-1), .ref 106, .ref 107, .ref 108, .int 0, .int 0, .int 0, .int 0, .int 0, .int 0, .int 0, .ref 109, .int 0, .int 0, .ref 110, .ref 111, .ref 112, .ref 113, .ref 114, .ref 115, .ref 116, .ref 117, .int 1, .int 0, .int 0, .int (-1), .ref 118, .ref 119, .ref 120, .ref 121, .ref 122, .ref 123, .ref 124, .ref 125, .ref 126, .ref 127, .ref 128, .ref 129, .int (-1), .ref 130, .ref 131, .ref 132, .ref 133, .ref 134, .int 0, .int 0])), (98, .inr (12, [.int 0, .int 0, .ref 99, .ref 100, .ref 101, .ref 102, .ref 103, .ref 104, .ref 105, .int 0, .int (-1), .ref 106, .ref 107, .ref 108, .int 0, .int 0, .int 0, .int 0, .int 0, .int 0, .int 0, .ref 109, .int 0, .int 0, .ref 110, .ref 111, .ref 112, .ref 113, .ref 114, .ref 115, .ref 116, .ref 117, .int 1, .int 0, .int 0, .int (-1), .ref 118, .ref 119, .ref 120, .ref 121, .ref 122, .ref 123, .ref 124, .ref 125, .ref 126, .ref 127, .ref 128, .ref 129, .int 0, .ref 130, .ref 131, .ref 132, .ref 133, .ref 134, .int 0, .int 0])), (111, .inl (0, 1260, .inl (upd (fun _ => 0) 0 0)))]) rfl ?_
  refine J_istore_n dX12_sorts_29 rfl (Nat.le_of_ble_eq_true rfl) rfl ?_
  refine J_iload_n dX12_sorts_30 rfl rfl ?_
  refine J_iconst (v := 2) dX12_sorts_31 (by decide) ?_
  refine J_icmp_ge (tgt := 48) dX12_sorts_32 (by decide) (fun _ => ?_) (fun q => absurd (by decide +kernel) q)
  refine J_iconst (v := 0) dX12_sorts_48 (by decide) ?_
  refine J_istore dX12_sorts_49 (Nat.le_of_ble_eq_true rfl) rfl ?_
  refine J_iconst (v := 0) dX12_sorts_51 (by decide) ?_
  refine J_istore dX12_sorts_52 (Nat.le_of_ble_eq_true rfl) rfl ?_
  refine J_iload dX12_sorts_54 rfl ?_
  refine J_iload_n dX12_sorts_56 rfl rfl ?_
  refine J_icmp_ge (tgt := 90) dX12_sorts_57 (by decide) (fun _ => ?_) (fun q => absurd (by decide +kernel) q)
  refine J_iload_n dX12_sorts_90 rfl rfl ?_
  refine J_iconst (v := 2) dX12_sorts_91 (by decide) ?_
  refine J_icmp_ne (tgt := 98) dX12_sorts_92 (by decide) (fun _ => ?_) (fun q => absurd q (by decide +kernel))
  refine J_iconst (v := 0) dX12_sorts_98 (by decide) ?_
  refine J_istore dX12_sorts_99 (Nat.le_of_ble_eq_true rfl) rfl ?_
  refine J_aload_n dX12_sorts_101 rfl rfl ?_
  refine J_iload dX12_sorts_102 rfl ?_
  refine J_iconst (v := (-1)) dX12_sorts_104 (by decide) ?_
  refine J_callV (st := []) dX12_sorts_105 cv_X12_360 (c_X12_sortedBy_2 rfl rfl) rfl rfl rfl (Nat.le_of_ble_eq_true rfl) ⟨(Nat.le_of_ble_eq_true rfl), (Nat.le_of_ble_eq_true rfl)⟩ ⟨(Nat.le_of_ble_eq_true rfl), (Nat.le_of_ble_eq_true rfl)⟩ (fun r h9 hp => ?_)
  obtain ⟨rfl, rfl⟩ := hp
  refine J_nf (nh2 := nh) (ck2 := 0) (sk2 := 0) (st2 := [.int 1]) rfl rfl rfl rfl ?_
  refine J_app (L3 := [(98, .inr (12, [.int 0, .int 0, .ref 99, .ref 100, .ref 101, .ref 102, .ref 103, .ref 104, .ref 105, .int 0, .int (-1), .ref 106, .ref 107, .ref 108, .int 0, .int 0, .int 0, .int 0, .int 0, .int 0, .int 0, .ref 109, .int 0, .int 0, .ref 110, .ref 111, .ref 112, .ref 113, .ref 114, .ref 115, .ref 116, .ref 117, .int 1, .int 0, .int 0, .int (-1), .ref 118, .ref 119, .ref 120, .ref 121, .ref 122, .ref 123, .ref 124, .ref 125, .ref 126, .ref 127, .ref 128, .ref 129, .int (-1), .ref 130, .ref 131, .ref 132, .ref 133, .ref 134, .int 0, .int 0])), (98, .inr (12, [.int 0, .int 0, .ref 99, .ref 100, .ref 101, .ref 102, .ref 103, .ref 104, .ref 105, .int 0, .int (-1), .ref 106, .ref 107, .ref 108, .int 0, .int 0, .int 0, .int 0, .int 0, .int 0, .int 0, .ref 109, .int 0, .int 0, .ref 110, .ref 111, .ref 112, .ref 113, .ref 114, .ref 115, .ref 116, .ref 117, .int 1, .int 0, .int 0, .int (-1), .ref 118, .ref 119, .ref 120, .ref 121, .ref 122, .ref 123, .ref 124, .ref 125, .ref 126, .ref 127, .ref 128, .ref 129, .int (-1), .ref 130, .ref 131, .ref 132, .ref 133, .ref 134, .int 0, .int 0])), (98, .inr (12, [.int 0, .int 0, .ref 99, .ref 100, .ref 101, .ref 102, .ref 103, .ref 104, .ref 105, .int 0, .int (-1), .ref 106, .ref 107, .ref 108, .int 0, .int 0, .int 0, .int 0, .int 0, .int 0, .int 0, .ref 109, .int 0, .int 0, .ref 110, .ref 111, .ref 112, .ref 113, .ref 114, .ref 115, .ref 116, .ref 117, .int 1, .int 0, .int 0, .int (-1), .ref 118, .ref 119, .ref 120, .ref 121, .ref 122, .ref 123, .ref 124, .ref 125, .ref 126, .ref 127, .ref 128, .ref 129, .int 0, .ref 130, .ref 131, .ref 132, .ref 133, .ref 134, .int 0, .int 0])), (111, .inl (0, 1260, .inl (upd (fun _ => 0) 0 0)))]) rfl ?_
  refine J_iload_n dX12_sorts_108 rfl rfl ?_
  refine J_icmp_ge (tgt := 118) dX12_sorts_109 (by decide) (fun _ => ?_) (fun q => absurd (by decide +kernel) q)
  refine J_iload dX12_sorts_118 rfl ?_
  refine J_mask (L2 := [(98, .inr (12, [.int 0, .int 0, .ref 99, .ref 100, .ref 101, .ref 102, .ref 103, .ref 104, .ref 105, .int 0, .int (-1), .ref 106, .ref 107, .ref 108, .int 0, .int 0, .int 0, .int 0, .int 0, .int 0, .int 0, .ref 109, .int 0, .int 0, .ref 110, .ref 111, .ref 112, .ref 113, .ref 114, .ref 115, .ref 116, .ref 117, .int 1, .int 0, .int 0, .int (-1), .ref 118, .ref 119, .ref 120, .ref 121, .ref 122, .ref 123, .ref 124, .ref 125, .ref 126, .ref 127, .ref 128, .ref 129, .int (-1), .ref 130, .ref 131, .ref 132, .ref 133, .ref 134, .int 0, .int 0])), (111, .inl (0, 1260, .inl (upd (fun _ => 0) 0 0)))]) (ks := [98, 98, 98, 111]) [true, false, false, true] rfl (by decide +kernel) rfl ?_
  exact J_iret dX12_sorts_120 rfl rfl (Nat.le_of_ble_eq_true rfl) (Nat.le_of_ble_eq_true rfl) ⟨rfl, rfl⟩
set_option maxHeartbeats 4000000 in
set_option maxRecDepth 100000 in
theorem c_X11_sorts_6 {l : Launch} {G : jG} {nh : Nat} {fh : Nat → Option va_E} (a1 : Int32) (b_a1 : 4 ≤ a1.toInt ∧ a1.toInt ≤ 2147483647) (hk0 : fh 0 = some (.inr (11, [.ref 1, .ref 17, .ref 50, .ref 51, .ref 54, .ref 57, .ref 65, .ref 75, .ref 81, .ref 85, .ref 88, .ref 93, .ref 96, .int 0, .int (-1), .ref 97, .int 0]))) (hk1 : fh 1 = some (.inr (8, [.ref 2, .ref 3, .ref 4, .int 0, .int (-1), .ref 11, .ref 12, .int 0, .ref 13, .ref 14, .int 0, .ref 15, .ref 16, .int 0]))) (hk85 : fh 85 = some (.inr (2, [.ref 1, .ref 51, .ref 86, .ref 87]))) : JM l G yX11_sorts MX11_sorts { frames := 1, cells := 0, slots := 0, locals := 21 } [.ref 0, .int a1] (nh, fh) (fun r h9 => r = some (.int (-1)) ∧ h9 = (nh, fh)) := by
  refine JM.of (by decide) rfl (fun h => by cases h) (Nat.le_of_ble_eq_true rfl) ⟨0, rfl⟩ ?_
  refine J_hc0 (J_ls (ls2 := [some (.ref 0), some (.int a1)]) rfl ?_)
  refine J_aload_n dX11_sorts_0 rfl rfl ?_
  refine J_get (v := .ref 85) dX11_sorts_1 fl_X11_73 hk0 rfl ?_
  refine J_callV (st := []) dX11_sorts_4 cv_X11_270 (c_X2_prepare_1 hk1 hk85) hk85 rfl rfl (Nat.le_of_ble_eq_true rfl) ⟨(Nat.le_of_ble_eq_true rfl), (Nat.le_of_ble_eq_true rfl)⟩ ⟨(Nat.le_of_ble_eq_true rfl), (Nat.le_of_ble_eq_true rfl)⟩ (fun r h9 hp => ?_)
  obtain ⟨rfl, rfl⟩ := hp
  refine J_nf (nh2 := nh) (ck2 := 0) (sk2 := 0) (st2 := []) rfl rfl rfl rfl ?_
  refine J_iload_n dX11_sorts_7 rfl rfl ?_
  refine J_tableOut (tgt := 72) dX11_sorts_8 (by have hb := b_a1; omega) (by decide) ?_
  refine J_iconst (v := (-1)) dX11_sorts_72 (by decide) ?_
  exact J_iret dX11_sorts_73 rfl rfl (Nat.le_of_ble_eq_true rfl) (Nat.le_of_ble_eq_true rfl) ⟨rfl, rfl⟩
set_option maxHeartbeats 4000000 in
set_option maxRecDepth 100000 in
theorem c_X12_sorts_6 {l : Launch} {G : jG} {nh : Nat} {fh : Nat → Option va_E} (a1 : Int32) (b_a1 : 4 ≤ a1.toInt ∧ a1.toInt ≤ 2147483647) : JM l G yX12_sorts MX12_sorts { frames := 1, cells := 0, slots := 0, locals := 22 } [.ref 98, .int a1] (nh, fh) (fun r h9 => r = some (.int (-1)) ∧ h9 = (nh, fh)) := by
  refine JM.of (by decide) rfl (fun h => by cases h) (Nat.le_of_ble_eq_true rfl) ⟨4, rfl⟩ ?_
  refine J_hc0 (J_ls (ls2 := [some (.ref 98), some (.int a1), none, none, none, none]) rfl ?_)
  refine J_iload_n dX12_sorts_0 rfl rfl ?_
  refine J_iconst (v := 0) dX12_sorts_1 (by decide) ?_
  refine J_iconst (v := 3) dX12_sorts_2 (by decide) ?_
  refine J_callS (st := []) dX12_sorts_3 cs_X12_138 (c_X12_lies_46 (a1) b_a1) rfl rfl (Nat.le_of_ble_eq_true rfl) ⟨(Nat.le_of_ble_eq_true rfl), (Nat.le_of_ble_eq_true rfl)⟩ ⟨(Nat.le_of_ble_eq_true rfl), (Nat.le_of_ble_eq_true rfl)⟩ (fun r h9 hp => ?_)
  obtain ⟨rfl, rfl⟩ := hp
  refine J_nf (nh2 := nh) (ck2 := 0) (sk2 := 0) (st2 := [.int 0]) rfl rfl rfl rfl ?_
  refine J_if_ne (tgt := 11) dX12_sorts_6 (by decide) (fun q => absurd (by decide +kernel) q) (fun _ => ?_)
  refine J_iconst (v := (-1)) dX12_sorts_9 (by decide) ?_
  exact J_iret dX12_sorts_10 rfl rfl (Nat.le_of_ble_eq_true rfl) (Nat.le_of_ble_eq_true rfl) ⟨rfl, rfl⟩
set_option maxHeartbeats 4000000 in
set_option maxRecDepth 100000 in
theorem c_X11_sorted_1 {l : Launch} {G : jG} {nh : Nat} {fh : Nat → Option va_E} (a1 : Int32) (b_a1 : (-2147483648) ≤ a1.toInt ∧ a1.toInt ≤ (-1)) (hk0 : fh 0 = some (.inr (11, [.ref 1, .ref 17, .ref 50, .ref 51, .ref 54, .ref 57, .ref 65, .ref 75, .ref 81, .ref 85, .ref 88, .ref 93, .ref 96, .int 0, .int (-1), .ref 97, .int 0]))) (hk51 : fh 51 = some (.inr (0, [.ref 52, .ref 53, .int 1, .int 0]))) : JM l G yX11_sorted MX11_sorted { frames := 1, cells := 0, slots := 0, locals := 21 } [.ref 0, .int a1] (nh, fh) (fun r h9 => r = some (.int (-1)) ∧ h9 = (nh, fh)) := by
  refine JM.of (by decide) rfl (fun h => by cases h) (Nat.le_of_ble_eq_true rfl) ⟨0, rfl⟩ ?_
  refine J_hc0 (J_ls (ls2 := [some (.ref 0), some (.int a1)]) rfl ?_)
  refine J_aload_n dX11_sorted_0 rfl rfl ?_
  refine J_get (v := .ref 51) dX11_sorted_1 fl_X11_27 hk0 rfl ?_
  refine J_iload_n dX11_sorted_4 rfl rfl ?_
  refine J_callV (st := []) dX11_sorted_5 cv_X11_135 (c_X0_has_1 (a1) b_a1) hk51 rfl rfl (Nat.le_of_ble_eq_true rfl) ⟨(Nat.le_of_ble_eq_true rfl), (Nat.le_of_ble_eq_true rfl)⟩ ⟨(Nat.le_of_ble_eq_true rfl), (Nat.le_of_ble_eq_true rfl)⟩ (fun r h9 hp => ?_)
  obtain ⟨rfl, rfl⟩ := hp
  refine J_nf (nh2 := nh) (ck2 := 0) (sk2 := 0) (st2 := [.int 0]) rfl rfl rfl rfl ?_
  refine J_if_ne (tgt := 13) dX11_sorted_8 (by decide) (fun q => absurd (by decide +kernel) q) (fun _ => ?_)
  refine J_iconst (v := (-1)) dX11_sorted_11 (by decide) ?_
  exact J_iret dX11_sorted_12 rfl rfl (Nat.le_of_ble_eq_true rfl) (Nat.le_of_ble_eq_true rfl) ⟨rfl, rfl⟩
set_option maxHeartbeats 4000000 in
set_option maxRecDepth 100000 in
theorem c_X12_sorted_1 {l : Launch} {G : jG} {nh : Nat} {fh : Nat → Option va_E} (a1 : Int32) (b_a1 : (-2147483648) ≤ a1.toInt ∧ a1.toInt ≤ (-1)) (hk98 : fh 98 = some (.inr (12, [.int 0, .int 0, .ref 99, .ref 100, .ref 101, .ref 102, .ref 103, .ref 104, .ref 105, .int 0, .int (-1), .ref 106, .ref 107, .ref 108, .int 0, .int 0, .int 0, .int 0, .int 0, .int 0, .int 0, .ref 109, .int 0, .int 0, .ref 110, .ref 111, .ref 112, .ref 113, .ref 114, .ref 115, .ref 116, .ref 117, .int 0, .int 0, .int (-1), .int (-1), .ref 118, .ref 119, .ref 120, .ref 121, .ref 122, .ref 123, .ref 124, .ref 125, .ref 126, .ref 127, .ref 128, .ref 129, .int 0, .ref 130, .ref 131, .ref 132, .ref 133, .ref 134, .int 0, .int 0]))) (hk100 : fh 100 = some (.inl (0, 4870, .inl (upd (fun _ => 0) 63 (-1))))) (hk111 : fh 111 = some (.inl (0, 1260, .inl (fun _ => 0)))) : JM l G yX12_sorted MX12_sorted { frames := 3, cells := 0, slots := 0, locals := 69 } [.ref 98, .int a1] (nh, fh) (fun r h9 => r = some (.int (-1)) ∧ h9 = (nh, hc fh [(98, .inr (12, [.int 0, .int 0, .ref 99, .ref 100, .ref 101, .ref 102, .ref 103, .ref 104, .ref 105, .int 0, .int (-1), .ref 106, .ref 107, .ref 108, .int 0, .int 0, .int 0, .int 0, .int 0, .int 0, .int 0, .ref 109, .int 0, .int 0, .ref 110, .ref 111, .ref 112, .ref 113, .ref 114, .ref 115, .ref 116, .ref 117, .int 1, .int 0, .int 0, .int (-1), .ref 118, .ref 119, .ref 120, .ref 121, .ref 122, .ref 123, .ref 124, .ref 125, .ref 126, .ref 127, .ref 128, .ref 129, .int 0, .ref 130, .ref 131, .ref 132, .ref 133, .ref 134, .int 0, .int 0])), (111, .inl (0, 1260, .inl (upd (fun _ => 0) 0 0)))])) := by
  refine JM.of (by decide) rfl (fun h => by cases h) (Nat.le_of_ble_eq_true rfl) ⟨0, rfl⟩ ?_
  refine J_hc0 (J_ls (ls2 := [some (.ref 98), some (.int a1)]) rfl ?_)
  refine J_aload_n dX12_sorted_0 rfl rfl ?_
  refine J_iload_n dX12_sorted_1 rfl rfl ?_
  refine J_callV (st := []) dX12_sorted_2 cv_X12_325 (c_X12_isHouse_1 (a1) b_a1 hk98 hk100 hk111) hk98 rfl rfl (Nat.le_of_ble_eq_true rfl) ⟨(Nat.le_of_ble_eq_true rfl), (Nat.le_of_ble_eq_true rfl)⟩ ⟨(Nat.le_of_ble_eq_true rfl), (Nat.le_of_ble_eq_true rfl)⟩ (fun r h9 hp => ?_)
  obtain ⟨rfl, rfl⟩ := hp
  refine J_nf (nh2 := nh) (ck2 := 0) (sk2 := 0) (st2 := [.int 0]) rfl rfl rfl rfl ?_
  refine J_app (L3 := [(98, .inr (12, [.int 0, .int 0, .ref 99, .ref 100, .ref 101, .ref 102, .ref 103, .ref 104, .ref 105, .int 0, .int (-1), .ref 106, .ref 107, .ref 108, .int 0, .int 0, .int 0, .int 0, .int 0, .int 0, .int 0, .ref 109, .int 0, .int 0, .ref 110, .ref 111, .ref 112, .ref 113, .ref 114, .ref 115, .ref 116, .ref 117, .int 1, .int 0, .int 0, .int (-1), .ref 118, .ref 119, .ref 120, .ref 121, .ref 122, .ref 123, .ref 124, .ref 125, .ref 126, .ref 127, .ref 128, .ref 129, .int 0, .ref 130, .ref 131, .ref 132, .ref 133, .ref 134, .int 0, .int 0])), (111, .inl (0, 1260, .inl (upd (fun _ => 0) 0 0)))]) rfl ?_
  refine J_if_ne (tgt := 10) dX12_sorted_5 (by decide) (fun q => absurd (by decide +kernel) q) (fun _ => ?_)
  refine J_iconst (v := (-1)) dX12_sorted_8 (by decide) ?_
  exact J_iret dX12_sorted_9 rfl rfl (Nat.le_of_ble_eq_true rfl) (Nat.le_of_ble_eq_true rfl) ⟨rfl, rfl⟩
set_option maxHeartbeats 4000000 in
set_option maxRecDepth 100000 in
theorem c_X2_result_1 {l : Launch} {G : jG} {nh : Nat} {fh : Nat → Option va_E} (hk1 : fh 1 = some (.inr (8, [.ref 2, .ref 3, .ref 4, .int 0, .int (-1), .ref 11, .ref 12, .int 0, .ref 13, .ref 14, .int 0, .ref 15, .ref 16, .int 0]))) (hk51 : fh 51 = some (.inr (0, [.ref 52, .ref 53, .int 1, .int 0]))) (hk52 : fh 52 = some (.inl (0, 1260, .inl (upd (fun _ => 0) 0 0)))) (hk85 : fh 85 = some (.inr (2, [.ref 1, .ref 51, .ref 86, .ref 87]))) : JM l G yX2_result MX2_result { frames := 2, cells := 0, slots := 0, locals := 42 } [.ref 85, .int 0] (nh, fh) (fun r h9 => r = some (.int 0) ∧ h9 = (nh, fh)) := by
  refine JM.of (by decide) rfl (fun h => by cases h) (Nat.le_of_ble_eq_true rfl) ⟨0, rfl⟩ ?_
  refine J_hc0 (J_ls (ls2 := [some (.ref 85), some (.int 0)]) rfl ?_)
  refine J_aload_n dX2_result_0 rfl rfl ?_
  refine J_get (v := .ref 51) dX2_result_1 fl_X2_22 hk85 rfl ?_
  refine J_aload_n dX2_result_4 rfl rfl ?_
  refine J_aload_n dX2_result_5 rfl rfl ?_
  refine J_get (v := .ref 51) dX2_result_6 fl_X2_22 hk85 rfl ?_
  refine J_iload_n dX2_result_9 rfl rfl ?_
  refine J_callV (st := [.ref 85, .ref 51]) dX2_result_10 cv_X2_44 (c_X0_rowOf_1 hk51 hk52) hk51 rfl rfl (Nat.le_of_ble_eq_true rfl) ⟨(Nat.le_of_ble_eq_true rfl), (Nat.le_of_ble_eq_true rfl)⟩ ⟨(Nat.le_of_ble_eq_true rfl), (Nat.le_of_ble_eq_true rfl)⟩ (fun r h9 hp => ?_)
  obtain ⟨rfl, rfl⟩ := hp
  refine J_nf (nh2 := nh) (ck2 := 0) (sk2 := 0) (st2 := [.int 0, .ref 85, .ref 51]) rfl rfl rfl rfl ?_
  refine J_aload_n dX2_result_13 rfl rfl ?_
  refine J_get (v := .ref 1) dX2_result_14 fl_X2_18 hk85 rfl ?_
  refine J_get (v := .int 0) dX2_result_17 fl_X2_26 hk1 rfl ?_
  refine J_iconst (v := (-1)) dX2_result_20 (by decide) ?_
  refine J_callV (st := [.ref 51]) dX2_result_21 cv_X2_47 (c_X2_run_1 ) hk85 rfl rfl (Nat.le_of_ble_eq_true rfl) ⟨(Nat.le_of_ble_eq_true rfl), (Nat.le_of_ble_eq_true rfl)⟩ ⟨(Nat.le_of_ble_eq_true rfl), (Nat.le_of_ble_eq_true rfl)⟩ (fun r h9 hp => ?_)
  obtain ⟨rfl, rfl⟩ := hp
  refine J_nf (nh2 := nh) (ck2 := 0) (sk2 := 0) (st2 := [.int 0, .ref 51]) rfl rfl rfl rfl ?_
  refine J_callV (st := []) dX2_result_24 cv_X2_51 (c_X0_find_1 hk51 hk52) hk51 rfl rfl (Nat.le_of_ble_eq_true rfl) ⟨(Nat.le_of_ble_eq_true rfl), (Nat.le_of_ble_eq_true rfl)⟩ ⟨(Nat.le_of_ble_eq_true rfl), (Nat.le_of_ble_eq_true rfl)⟩ (fun r h9 hp => ?_)
  obtain ⟨rfl, rfl⟩ := hp
  refine J_nf (nh2 := nh) (ck2 := 0) (sk2 := 0) (st2 := [.int 0]) rfl rfl rfl rfl ?_
  exact J_iret dX2_result_27 rfl rfl (Nat.le_of_ble_eq_true rfl) (Nat.le_of_ble_eq_true rfl) ⟨rfl, rfl⟩
set_option maxHeartbeats 4000000 in
set_option maxRecDepth 100000 in
theorem c_X11_sorted_2 {l : Launch} {G : jG} {nh : Nat} {fh : Nat → Option va_E} (hk0 : fh 0 = some (.inr (11, [.ref 1, .ref 17, .ref 50, .ref 51, .ref 54, .ref 57, .ref 65, .ref 75, .ref 81, .ref 85, .ref 88, .ref 93, .ref 96, .int 0, .int (-1), .ref 97, .int 0]))) (hk1 : fh 1 = some (.inr (8, [.ref 2, .ref 3, .ref 4, .int 0, .int (-1), .ref 11, .ref 12, .int 0, .ref 13, .ref 14, .int 0, .ref 15, .ref 16, .int 0]))) (hk51 : fh 51 = some (.inr (0, [.ref 52, .ref 53, .int 1, .int 0]))) (hk52 : fh 52 = some (.inl (0, 1260, .inl (upd (fun _ => 0) 0 0)))) (hk85 : fh 85 = some (.inr (2, [.ref 1, .ref 51, .ref 86, .ref 87]))) : JM l G yX11_sorted MX11_sorted { frames := 3, cells := 0, slots := 0, locals := 63 } [.ref 0, .int 0] (nh, fh) (fun r h9 => r = some (.int 0) ∧ h9 = (nh, fh)) := by
  refine JM.of (by decide) rfl (fun h => by cases h) (Nat.le_of_ble_eq_true rfl) ⟨0, rfl⟩ ?_
  refine J_hc0 (J_ls (ls2 := [some (.ref 0), some (.int 0)]) rfl ?_)
  refine J_aload_n dX11_sorted_0 rfl rfl ?_
  refine J_get (v := .ref 51) dX11_sorted_1 fl_X11_27 hk0 rfl ?_
  refine J_iload_n dX11_sorted_4 rfl rfl ?_
  refine J_callV (st := []) dX11_sorted_5 cv_X11_135 (c_X0_has_2 hk51) hk51 rfl rfl (Nat.le_of_ble_eq_true rfl) ⟨(Nat.le_of_ble_eq_true rfl), (Nat.le_of_ble_eq_true rfl)⟩ ⟨(Nat.le_of_ble_eq_true rfl), (Nat.le_of_ble_eq_true rfl)⟩ (fun r h9 hp => ?_)
  obtain ⟨rfl, rfl⟩ := hp
  refine J_nf (nh2 := nh) (ck2 := 0) (sk2 := 0) (st2 := [.int 1]) rfl rfl rfl rfl ?_
  refine J_if_ne (tgt := 13) dX11_sorted_8 (by decide) (fun _ => ?_) (fun q => absurd q (by decide +kernel))
  refine J_aload_n dX11_sorted_13 rfl rfl ?_
  refine J_get (v := .ref 85) dX11_sorted_14 fl_X11_73 hk0 rfl ?_
  refine J_callV (st := []) dX11_sorted_17 cv_X11_270 (c_X2_prepare_1 hk1 hk85) hk85 rfl rfl (Nat.le_of_ble_eq_true rfl) ⟨(Nat.le_of_ble_eq_true rfl), (Nat.le_of_ble_eq_true rfl)⟩ ⟨(Nat.le_of_ble_eq_true rfl), (Nat.le_of_ble_eq_true rfl)⟩ (fun r h9 hp => ?_)
  obtain ⟨rfl, rfl⟩ := hp
  refine J_nf (nh2 := nh) (ck2 := 0) (sk2 := 0) (st2 := []) rfl rfl rfl rfl ?_
  refine J_aload_n dX11_sorted_20 rfl rfl ?_
  refine J_get (v := .ref 85) dX11_sorted_21 fl_X11_73 hk0 rfl ?_
  refine J_iload_n dX11_sorted_24 rfl rfl ?_
  refine J_callV (st := []) dX11_sorted_25 cv_X11_283 (c_X2_result_1 hk1 hk51 hk52 hk85) hk85 rfl rfl (Nat.le_of_ble_eq_true rfl) ⟨(Nat.le_of_ble_eq_true rfl), (Nat.le_of_ble_eq_true rfl)⟩ ⟨(Nat.le_of_ble_eq_true rfl), (Nat.le_of_ble_eq_true rfl)⟩ (fun r h9 hp => ?_)
  obtain ⟨rfl, rfl⟩ := hp
  refine J_nf (nh2 := nh) (ck2 := 0) (sk2 := 0) (st2 := [.int 0]) rfl rfl rfl rfl ?_
  exact J_iret dX11_sorted_28 rfl rfl (Nat.le_of_ble_eq_true rfl) (Nat.le_of_ble_eq_true rfl) ⟨rfl, rfl⟩
set_option maxHeartbeats 4000000 in
set_option maxRecDepth 100000 in
theorem c_X12_takesOrder_2 {l : Launch} {G : jG} {nh : Nat} {fh : Nat → Option va_E} (hk98 : fh 98 = some (.inr (12, [.int 0, .int 0, .ref 99, .ref 100, .ref 101, .ref 102, .ref 103, .ref 104, .ref 105, .int 0, .int (-1), .ref 106, .ref 107, .ref 108, .int 0, .int 0, .int 0, .int 0, .int 0, .int 0, .int 0, .ref 109, .int 0, .int 0, .ref 110, .ref 111, .ref 112, .ref 113, .ref 114, .ref 115, .ref 116, .ref 117, .int 1, .int 0, .int 0, .int (-1), .ref 118, .ref 119, .ref 120, .ref 121, .ref 122, .ref 123, .ref 124, .ref 125, .ref 126, .ref 127, .ref 128, .ref 129, .int 0, .ref 130, .ref 131, .ref 132, .ref 133, .ref 134, .int 0, .int 0]))) : JM l G yX12_takesOrder MX12_takesOrder { frames := 0, cells := 0, slots := 0, locals := 0 } [.ref 98, .int 0] (nh, fh) (fun r h9 => r = none ∧ h9 = (nh, fh)) := by
  refine JM.of (by decide) rfl (fun h => by cases h) (Nat.le_of_ble_eq_true rfl) ⟨1, rfl⟩ ?_
  refine J_hc0 (J_ls (ls2 := [some (.ref 98), some (.int 0), none]) rfl ?_)
  refine J_iconst (v := 0) dX12_takesOrder_0 (by decide) ?_
  refine J_istore_n dX12_takesOrder_1 rfl (Nat.le_of_ble_eq_true rfl) rfl ?_
  refine J_iload_n dX12_takesOrder_2 rfl rfl ?_
  refine J_aload_n dX12_takesOrder_3 rfl rfl ?_
  refine J_get (v := .int 0) dX12_takesOrder_4 fl_X12_293 hk98 rfl ?_
  refine J_icmp_ge (tgt := 28) dX12_takesOrder_7 (by decide) (fun _ => ?_) (fun q => absurd (by decide +kernel) q)
  exact J_vret dX12_takesOrder_28 rfl (Nat.le_of_ble_eq_true rfl) (Nat.le_of_ble_eq_true rfl) ⟨rfl, rfl⟩
set_option maxHeartbeats 4000000 in
set_option maxRecDepth 100000 in
theorem c_X12_goesThrough_2 {l : Launch} {G : jG} {nh : Nat} {fh : Nat → Option va_E} (hk98 : fh 98 = some (.inr (12, [.int 0, .int 0, .ref 99, .ref 100, .ref 101, .ref 102, .ref 103, .ref 104, .ref 105, .int 0, .int (-1), .ref 106, .ref 107, .ref 108, .int 0, .int 0, .int 0, .int 0, .int 0, .int 0, .int 0, .ref 109, .int 0, .int 0, .ref 110, .ref 111, .ref 112, .ref 113, .ref 114, .ref 115, .ref 116, .ref 117, .int 1, .int 0, .int 0, .int (-1), .ref 118, .ref 119, .ref 120, .ref 121, .ref 122, .ref 123, .ref 124, .ref 125, .ref 126, .ref 127, .ref 128, .ref 129, .int 0, .ref 130, .ref 131, .ref 132, .ref 133, .ref 134, .int 0, .int 0]))) : JM l G yX12_goesThrough MX12_goesThrough { frames := 1, cells := 0, slots := 0, locals := 22 } [.ref 98, .int 0, .int 0, .int (-1)] (nh, fh) (fun r h9 => r = none ∧ h9 = (nh, fh)) := by
  refine JM.of (by decide) rfl (fun h => by cases h) (Nat.le_of_ble_eq_true rfl) ⟨3, rfl⟩ ?_
  refine J_hc0 (J_ls (ls2 := [some (.ref 98), some (.int 0), some (.int 0), some (.int (-1)), none, none, none]) rfl ?_)
  refine J_aload_n dX12_goesThrough_0 rfl rfl ?_
  refine J_iload_n dX12_goesThrough_1 rfl rfl ?_
  refine J_callV (st := []) dX12_goesThrough_2 cv_X12_316 (c_X12_takesOrder_2 hk98) hk98 rfl rfl (Nat.le_of_ble_eq_true rfl) ⟨(Nat.le_of_ble_eq_true rfl), (Nat.le_of_ble_eq_true rfl)⟩ ⟨(Nat.le_of_ble_eq_true rfl), (Nat.le_of_ble_eq_true rfl)⟩ (fun r h9 hp => ?_)
  obtain ⟨rfl, rfl⟩ := hp
  refine J_nf (nh2 := nh) (ck2 := 0) (sk2 := 0) (st2 := []) rfl rfl rfl rfl ?_
  refine J_iconst (v := 0) dX12_goesThrough_5 (by decide) ?_
  refine J_istore dX12_goesThrough_6 (Nat.le_of_ble_eq_true rfl) rfl ?_
  refine J_iload dX12_goesThrough_8 rfl ?_
  refine J_iload_n dX12_goesThrough_10 rfl rfl ?_
  refine J_icmp_ge (tgt := 81) dX12_goesThrough_11 (by decide) (fun _ => ?_) (fun q => absurd (by decide +kernel) q)
  exact J_vret dX12_goesThrough_81 rfl (Nat.le_of_ble_eq_true rfl) (Nat.le_of_ble_eq_true rfl) ⟨rfl, rfl⟩
