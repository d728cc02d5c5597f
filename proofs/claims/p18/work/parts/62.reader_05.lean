set_option maxHeartbeats 4000000 in
set_option maxRecDepth 100000 in
theorem d_compile {l : Launch} {G : jG} {nh : Nat} {fh : Nat → Option va_E} (ln : Int) (tk : Int) (st : Int) (bh : Int) (va : Int) (pa : Int) (fl : Int) (sz : Int) (tp : Int → Int) (cd : Int → Int) (q0 : 0 ≤ ln) (q1 : ln ≤ 400) (q2 : 0 ≤ va) (q3 : va ≤ 1001) (q4 : 0 ≤ tk) (q5 : tk ≤ 355) (q6 : Rg tp 400 0 255) (q7 : Rg cd 412 (-2147483648) 2147483647) (hk54 : fh 54 = some (.inr (5, [.ref 55, .int (zI ln), .int (zI tk), .int (zI st), .int (zI bh), .int (zI va), .int (zI pa), .int (zI fl), .ref 56, .int (zI sz)]))) (hk55 : fh 55 = some (.inl (0, 400, .inl (zA tp)))) (hk56 : fh 56 = some (.inl (0, 412, .inl (zA cd)))) : JM l G yX5_compile MX5_compile { frames := 45, cells := 0, slots := 0, locals := 1009 } [.ref 54] (nh, fh) (fun rr h9 => (∃ tk2 : Int, ∃ st2 : Int, ∃ bh2 : Int, ∃ va2 : Int, ∃ pa2 : Int, ∃ sz2 : Int, ∃ cd2 : Int → Int, ∃ fl2 : Int, ∃ ti2 : Int, rr = some (.int (zI (-1))) ∧ h9 = (nh, hc fh [(54, .inr (5, [.ref 55, .int (zI ln), .int (zI tk2), .int (zI st2), .int (zI bh2), .int (zI va2), .int (zI pa2), .int (zI fl2), .ref 56, .int (zI sz2)])), (56, .inl (0, 412, .inl (zA cd2)))]) ∧ (sz2 ≤ 402) ∧ (0 ≤ sz2) ∧ (0 ≤ va2) ∧ (va2 ≤ 1001) ∧ (0 ≤ tk2) ∧ (tk2 ≤ 355) ∧ (Rg cd2 412 (-2147483648) 2147483647) ∧ (fl2 = -1) ∧ (LwR (CTk tp ln) (LF tp ln) (EnT tp ln) 1 ti2) ∧ (LwCd tp ln cd2 sz2)) ∨ (∃ tk2 : Int, ∃ st2 : Int, ∃ bh2 : Int, ∃ va2 : Int, ∃ pa2 : Int, ∃ sz2 : Int, ∃ cd2 : Int → Int, ∃ fl2 : Int, ∃ ti2 : Int, rr = some (.int (zI fl2)) ∧ h9 = (nh, hc fh [(54, .inr (5, [.ref 55, .int (zI ln), .int (zI tk2), .int (zI st2), .int (zI bh2), .int (zI va2), .int (zI pa2), .int (zI fl2), .ref 56, .int (zI sz2)])), (56, .inl (0, 412, .inl (zA cd2)))]) ∧ (0 ≤ fl2) ∧ (fl2 ≤ 400) ∧ (0 ≤ sz2) ∧ (sz2 ≤ 412) ∧ (0 ≤ va2) ∧ (va2 ≤ 1001) ∧ (0 ≤ tk2) ∧ (tk2 ≤ 355) ∧ (Rg cd2 412 (-2147483648) 2147483647) ∧ (LwR (CTk tp ln) (LF tp ln) (EnT tp ln) 0 ti2) ∧ (FlX tp ln ti2 fl2))) := by
  refine JM.of (by decide) rfl (fun h => by cases h) (Nat.le_of_ble_eq_true rfl) ⟨2, rfl⟩ ?_
  refine J_hc0 (J_ls (ls2 := [some (.ref 54), none, none]) rfl ?_)
  refine J_aload_n dX5_compile_0 rfl rfl ?_
  refine Z_iconst (n := 0) dX5_compile_1 ?_
  refine K_put (fs2 := [.ref 55, .int (zI ln), .int (zI tk), .int (zI st), .int (zI 0), .int (zI va), .int (zI pa), .int (zI fl), .ref 56, .int (zI sz)]) dX5_compile_2 fw_X5_25 hk54 (Nat.le_of_ble_eq_true rfl) (fun _ => ⟨rfl, rfl⟩) rfl ?_
  refine J_aload_n dX5_compile_5 rfl rfl ?_
  refine Z_iconst (n := 0) dX5_compile_6 ?_
  refine K_put (fs2 := [.ref 55, .int (zI ln), .int (zI tk), .int (zI st), .int (zI 0), .int (zI va), .int (zI 0), .int (zI fl), .ref 56, .int (zI sz)]) dX5_compile_7 fw_X5_31 rfl (Nat.le_of_ble_eq_true rfl) (fun _ => ⟨rfl, rfl⟩) rfl ?_
  refine J_aload_n dX5_compile_10 rfl rfl ?_
  refine Z_iconst (n := 0) dX5_compile_11 ?_
  refine K_put (fs2 := [.ref 55, .int (zI ln), .int (zI tk), .int (zI st), .int (zI 0), .int (zI va), .int (zI 0), .int (zI fl), .ref 56, .int (zI 0)]) dX5_compile_12 fw_X5_40 rfl (Nat.le_of_ble_eq_true rfl) (fun _ => ⟨rfl, rfl⟩) rfl ?_
  refine J_aload_n dX5_compile_15 rfl rfl ?_
  refine Z_iconst (n := -1) dX5_compile_16 ?_
  refine K_put (fs2 := [.ref 55, .int (zI ln), .int (zI tk), .int (zI st), .int (zI 0), .int (zI va), .int (zI 0), .int (zI (-1)), .ref 56, .int (zI 0)]) dX5_compile_17 fw_X5_34 rfl (Nat.le_of_ble_eq_true rfl) (fun _ => ⟨rfl, rfl⟩) rfl ?_
  refine J_aload_n dX5_compile_20 rfl rfl ?_
  refine J_callV (st := []) dX5_compile_21 cv_X5_43 (d_advance 0 ln tk st 0 va 0 (-1) 0 tp q0 q1 v_939070ca3f q0 q2 q3 q6 Ps_0 rfl hk55) rfl rfl rfl (Nat.le_of_ble_eq_true rfl) ⟨(Nat.le_of_ble_eq_true rfl), (Nat.le_of_ble_eq_true rfl)⟩ ⟨(Nat.le_of_ble_eq_true rfl), (Nat.le_of_ble_eq_true rfl)⟩ (fun r h9 hp => ?_)
  obtain ⟨z1, z2, z3, z4, rfl, rfl, h5, h6, h7, h8, h9, h10, h11, h12, h13⟩ := hp
  refine J_nf (nh2 := nh) (ck2 := 0) (sk2 := 0) (st2 := []) rfl rfl rfl rfl ?_
  refine J_app (L3 := [(54, .inr (5, [.ref 55, .int (zI ln), .int (zI z1), .int (zI z2), .int (zI z3), .int (zI z4), .int (zI 0), .int (zI (-1)), .ref 56, .int (zI 0)])), (54, .inr (5, [.ref 55, .int (zI ln), .int (zI tk), .int (zI st), .int (zI 0), .int (zI va), .int (zI 0), .int (zI (-1)), .ref 56, .int (zI 0)])), (54, .inr (5, [.ref 55, .int (zI ln), .int (zI tk), .int (zI st), .int (zI 0), .int (zI va), .int (zI 0), .int (zI fl), .ref 56, .int (zI 0)])), (54, .inr (5, [.ref 55, .int (zI ln), .int (zI tk), .int (zI st), .int (zI 0), .int (zI va), .int (zI 0), .int (zI fl), .ref 56, .int (zI sz)])), (54, .inr (5, [.ref 55, .int (zI ln), .int (zI tk), .int (zI st), .int (zI 0), .int (zI va), .int (zI pa), .int (zI fl), .ref 56, .int (zI sz)]))]) rfl ?_
  refine J_mask (L2 := [(54, .inr (5, [.ref 55, .int (zI ln), .int (zI z1), .int (zI z2), .int (zI z3), .int (zI z4), .int (zI 0), .int (zI (-1)), .ref 56, .int (zI 0)]))]) (ks := [54, 54, 54, 54, 54]) [true, false, false, false, false] rfl (by decide +kernel) rfl ?_
  refine J_aload_n dX5_compile_24 rfl rfl ?_
  refine J_callV (st := []) dX5_compile_25 cv_X5_46 (d_clause ln z1 z2 z3 z4 0 (-1) 0 tp cd 0 q0 q1 h5 h6 h7 h8 h9 h10 h11 v_939070ca3f v_724316b824 v_d64efa60f9 v_939070ca3f v_178ac4adec h12 q6 q7 h13 v_939070ca3f (v_cd93c65d7d h7) rfl hk55 hk56) rfl rfl rfl (Nat.le_of_ble_eq_true rfl) ⟨(Nat.le_of_ble_eq_true rfl), (Nat.le_of_ble_eq_true rfl)⟩ ⟨(Nat.le_of_ble_eq_true rfl), (Nat.le_of_ble_eq_true rfl)⟩ (fun r h9 hp => ?_)
  rcases hp with ⟨z14, z15, z16, z17, z18, z19, f20, z21, rfl, rfl, h22, h23, h24, h25, h26, h27, h28, h29, h30, h31, h32, h33, h34, h35, h36, h37, h38, h39, h40, h41⟩ | ⟨z42, z43, z44, z45, z46, z47, f48, z49, z50, rfl, rfl, h51, h52, h53, h54, h55, h56, h57, h58, h59, h60, h61, h62, h63, h64, h65, h66, h67⟩
  · refine J_nf (nh2 := nh) (ck2 := 0) (sk2 := 0) (st2 := [.int (zI 1)]) rfl rfl rfl rfl ?_
    refine J_app (L3 := [(54, .inr (5, [.ref 55, .int (zI ln), .int (zI z14), .int (zI z15), .int (zI z16), .int (zI z17), .int (zI z18), .int (zI (-1)), .ref 56, .int (zI z19)])), (56, .inl (0, 412, .inl (zA f20))), (54, .inr (5, [.ref 55, .int (zI ln), .int (zI z1), .int (zI z2), .int (zI z3), .int (zI z4), .int (zI 0), .int (zI (-1)), .ref 56, .int (zI 0)]))]) rfl ?_
    refine J_mask (L2 := [(54, .inr (5, [.ref 55, .int (zI ln), .int (zI z14), .int (zI z15), .int (zI z16), .int (zI z17), .int (zI z18), .int (zI (-1)), .ref 56, .int (zI z19)])), (56, .inl (0, 412, .inl (zA f20)))]) (ks := [54, 56, 54]) [true, true, false] rfl (by decide +kernel) rfl ?_
    refine J_istore_n dX5_compile_28 rfl (Nat.le_of_ble_eq_true rfl) rfl ?_
    refine J_ls (ls2 := [some (.ref 54), some (.int (zI 1)), none]) rfl ?_
    refine Z_iconst (n := 1) dX5_compile_29 ?_
    refine J_istore_n dX5_compile_30 rfl (Nat.le_of_ble_eq_true rfl) rfl ?_
    refine J_ls (ls2 := [some (.ref 54), some (.int (zI 1)), some (.int (zI 1))]) rfl ?_
    have lp31 : ∀ (N31 : Nat) (gd_31 : Int) (i_31 : Int) (tx_31 : Int) (sx_31 : Int) (bx_31 : Int) (vx_31 : Int) (px_31 : Int) (fx_31 : Int) (zx_31 : Int) (cx_31 : Int → Int), (1 ≤ i_31) → (i_31 ≤ 13) → (0 ≤ gd_31) → (gd_31 ≤ 1) → (fx_31 + 1 ≤ 401 * (1 - gd_31)) → (-gd_31 ≤ fx_31) → (zx_31 ≤ sx_31 + 1 + 412 * (1 - gd_31)) → (0 ≤ tx_31) → (tx_31 ≤ 355) → (0 ≤ sx_31) → (sx_31 ≤ bx_31) → (bx_31 ≤ ln) → (0 ≤ vx_31) → (vx_31 ≤ 1001) → (TokL tx_31 sx_31 bx_31) → (Rg cx_31 412 (-2147483648) 2147483647) → (0 ≤ zx_31) → (zx_31 ≤ 412) → (0 ≤ px_31) → (px_31 ≤ 50) → (CpJ tp ln cx_31 gd_31 i_31 tx_31 sx_31 bx_31 vx_31 px_31 fx_31 zx_31) → (13 - i_31).toNat < N31 → J l G MX5_compile { frames := 45, cells := 0, slots := 0, locals := 1009 } jE (jMQ G { frames := 45, cells := 0, slots := 0, locals := 1009 } (fun rr h9 => (∃ tk2 : Int, ∃ st2 : Int, ∃ bh2 : Int, ∃ va2 : Int, ∃ pa2 : Int, ∃ sz2 : Int, ∃ cd2 : Int → Int, ∃ fl2 : Int, ∃ ti2 : Int, rr = some (.int (zI (-1))) ∧ h9 = (nh, hc fh [(54, .inr (5, [.ref 55, .int (zI ln), .int (zI tk2), .int (zI st2), .int (zI bh2), .int (zI va2), .int (zI pa2), .int (zI fl2), .ref 56, .int (zI sz2)])), (56, .inl (0, 412, .inl (zA cd2)))]) ∧ (sz2 ≤ 402) ∧ (0 ≤ sz2) ∧ (0 ≤ va2) ∧ (va2 ≤ 1001) ∧ (0 ≤ tk2) ∧ (tk2 ≤ 355) ∧ (Rg cd2 412 (-2147483648) 2147483647) ∧ (fl2 = -1) ∧ (LwR (CTk tp ln) (LF tp ln) (EnT tp ln) 1 ti2) ∧ (LwCd tp ln cd2 sz2)) ∨ (∃ tk2 : Int, ∃ st2 : Int, ∃ bh2 : Int, ∃ va2 : Int, ∃ pa2 : Int, ∃ sz2 : Int, ∃ cd2 : Int → Int, ∃ fl2 : Int, ∃ ti2 : Int, rr = some (.int (zI fl2)) ∧ h9 = (nh, hc fh [(54, .inr (5, [.ref 55, .int (zI ln), .int (zI tk2), .int (zI st2), .int (zI bh2), .int (zI va2), .int (zI pa2), .int (zI fl2), .ref 56, .int (zI sz2)])), (56, .inl (0, 412, .inl (zA cd2)))]) ∧ (0 ≤ fl2) ∧ (fl2 ≤ 400) ∧ (0 ≤ sz2) ∧ (sz2 ≤ 412) ∧ (0 ≤ va2) ∧ (va2 ≤ 1001) ∧ (0 ≤ tk2) ∧ (tk2 ≤ 355) ∧ (Rg cd2 412 (-2147483648) 2147483647) ∧ (LwR (CTk tp ln) (LF tp ln) (EnT tp ln) 0 ti2) ∧ (FlX tp ln ti2 fl2)))) (nh, hc fh [(54, .inr (5, [.ref 55, .int (zI ln), .int (zI tx_31), .int (zI sx_31), .int (zI bx_31), .int (zI vx_31), .int (zI px_31), .int (zI fx_31), .ref 56, .int (zI zx_31)])), (56, .inl (0, 412, .inl (zA cx_31)))]) 0 0 31 [some (.ref 54), some (.int (zI gd_31)), some (.int (zI i_31))] [] := by
      intro N31
      induction N31 with
      | zero => intro gd_31 i_31 tx_31 sx_31 bx_31 vx_31 px_31 fx_31 zx_31 cx_31 i31_0 i31_1 i31_2 i31_3 i31_4 i31_5 i31_6 i31_7 i31_8 i31_9 i31_10 i31_11 i31_12 i31_13 i31_14 i31_15 i31_16 i31_17 i31_18 i31_19 i31_20 hm; exact absurd hm (Nat.not_lt_zero _)
      | succ N31 ih31 =>
        intro gd_31 i_31 tx_31 sx_31 bx_31 vx_31 px_31 fx_31 zx_31 cx_31 i31_0 i31_1 i31_2 i31_3 i31_4 i31_5 i31_6 i31_7 i31_8 i31_9 i31_10 i31_11 i31_12 i31_13 i31_14 i31_15 i31_16 i31_17 i31_18 i31_19 i31_20 hm31
        refine J_iload_n dX5_compile_31 rfl rfl ?_
        refine Z_bipush (n := 12) dX5_compile_32 (by decide +kernel) ?_
        refine Z_icmp_gt (tgt := 78) dX5_compile_34 (by decide) (v_a34c27d11e i31_0 i31_1) v_1288359c70 (fun h68 => ?_) (fun h68 => ?_)
        · refine J_iload_n dX5_compile_78 rfl rfl ?_
          refine Z_if_eq (tgt := 96) dX5_compile_79 (by decide) (v_5f10a759cd i31_2 i31_3) (fun h69 => ?_) (fun h69 => ?_)
          · refine J_aload_n dX5_compile_96 rfl rfl ?_
            refine J_get (v := .int (zI fx_31)) dX5_compile_97 fl_X5_34 rfl rfl ?_
            exact J_iret dX5_compile_100 rfl rfl (Nat.le_of_ble_eq_true rfl) (Nat.le_of_ble_eq_true rfl) (Or.inr ⟨tx_31, sx_31, bx_31, vx_31, px_31, zx_31, cx_31, fx_31, (Classical.choose (CpJ.not i31_20 (v_bd6c74a791 i31_2 h69))), rfl, rfl, (v_0305cee7fe i31_5 h69), (v_5d2348a0fa i31_2 i31_4), i31_16, i31_17, i31_12, i31_13, i31_7, i31_8, i31_15, ((Classical.choose_spec (CpJ.not i31_20 (v_bd6c74a791 i31_2 h69))).1), ((Classical.choose_spec (CpJ.not i31_20 (v_bd6c74a791 i31_2 h69))).2)⟩)
          · obtain ⟨ti_31, cm_31, cx1, cx2, cx3, cx4, cx5⟩ := CpJ.is i31_20 (v_8b15499c4b i31_2 i31_3 h69)
            refine J_aload_n dX5_compile_82 rfl rfl ?_
            refine J_get (v := .int (zI tx_31)) dX5_compile_83 fl_X5_19 rfl rfl ?_
            refine Z_bipush (n := 17) dX5_compile_86 (by decide +kernel) ?_
            refine Z_icmp_eq (tgt := 96) dX5_compile_88 (by decide) (v_96bf6f782e i31_7 i31_8) v_55f4e57ae7 (fun h70 => ?_) (fun h70 => ?_)
            · refine J_aload_n dX5_compile_96 rfl rfl ?_
              refine J_get (v := .int (zI fx_31)) dX5_compile_97 fl_X5_34 rfl rfl ?_
              refine Z_top (b := -1) (v_2204f4773d i31_2 i31_4 i31_5 h69) ?_
              exact J_iret dX5_compile_100 rfl rfl (Nat.le_of_ble_eq_true rfl) (Nat.le_of_ble_eq_true rfl) (Or.inl ⟨tx_31, sx_31, bx_31, vx_31, px_31, zx_31, cx_31, fx_31, ti_31, rfl, rfl, (v_f0d9d901dd q1 i31_2 i31_6 i31_10 i31_11 h69), i31_16, i31_12, i31_13, i31_7, i31_8, i31_15, (v_2204f4773d i31_2 i31_4 i31_5 h69), (LwX.y cx4 (fun _ => by have u := (v_dd586289c5 h68); have w := cx1; omega) ((TkX.en cx2).mpr (v_b5b75bc3fa h70))), (PrC.end cx5 (fun _ => by have u := (v_dd586289c5 h68); have w := cx1; omega) ((TkX.en cx2).mpr (v_b5b75bc3fa h70)))⟩)
            · refine J_aload_n dX5_compile_91 rfl rfl ?_
              refine J_callV (st := []) dX5_compile_92 cv_X5_54 (d_wrong ln tx_31 sx_31 bx_31 vx_31 px_31 fx_31 zx_31 i31_9 (v_1adcfdfee5 q1 i31_10 i31_11) rfl) rfl rfl rfl (Nat.le_of_ble_eq_true rfl) ⟨(Nat.le_of_ble_eq_true rfl), (Nat.le_of_ble_eq_true rfl)⟩ ⟨(Nat.le_of_ble_eq_true rfl), (Nat.le_of_ble_eq_true rfl)⟩ (fun r h9 hp => ?_)
              obtain ⟨rfl, rfl⟩ := hp
              refine J_nf (nh2 := nh) (ck2 := 0) (sk2 := 0) (st2 := [.int (zI 0)]) rfl rfl rfl rfl ?_
              refine J_app (L3 := [(54, .inr (5, [.ref 55, .int (zI ln), .int (zI tx_31), .int (zI sx_31), .int (zI bx_31), .int (zI vx_31), .int (zI px_31), .int (zI sx_31), .ref 56, .int (zI zx_31)])), (54, .inr (5, [.ref 55, .int (zI ln), .int (zI tx_31), .int (zI sx_31), .int (zI bx_31), .int (zI vx_31), .int (zI px_31), .int (zI fx_31), .ref 56, .int (zI zx_31)])), (56, .inl (0, 412, .inl (zA cx_31)))]) rfl ?_
              refine J_mask (L2 := [(54, .inr (5, [.ref 55, .int (zI ln), .int (zI tx_31), .int (zI sx_31), .int (zI bx_31), .int (zI vx_31), .int (zI px_31), .int (zI sx_31), .ref 56, .int (zI zx_31)])), (56, .inl (0, 412, .inl (zA cx_31)))]) (ks := [54, 54, 56]) [true, false, true] rfl (by decide +kernel) rfl ?_
              refine J_pop dX5_compile_95 rfl ?_
              refine J_aload_n dX5_compile_96 rfl rfl ?_
              refine J_get (v := .int (zI sx_31)) dX5_compile_97 fl_X5_34 rfl rfl ?_
              exact J_iret dX5_compile_100 rfl rfl (Nat.le_of_ble_eq_true rfl) (Nat.le_of_ble_eq_true rfl) (Or.inr ⟨tx_31, sx_31, bx_31, vx_31, px_31, zx_31, cx_31, sx_31, ti_31, rfl, rfl, i31_9, (v_1adcfdfee5 q1 i31_10 i31_11), i31_16, i31_17, i31_12, i31_13, i31_7, i31_8, i31_15, (LwX.n cx4 (fun _ => by have u := (v_dd586289c5 h68); have w := cx1; omega) (fun w => absurd ((TkX.en cx2).mp w) (v_9e4019cbe3 h70))), (TkX.s cx2)⟩)
        · refine J_iload_n dX5_compile_37 rfl rfl ?_
          refine Z_if_eq (tgt := 78) dX5_compile_38 (by decide) (v_5f10a759cd i31_2 i31_3) (fun h71 => ?_) (fun h71 => ?_)
          · refine J_iload_n dX5_compile_78 rfl rfl ?_
            refine Z_if_eq (tgt := 96) dX5_compile_79 (by decide) (v_1bb2bfd6ba i31_2 h71) (fun h72 => ?_) (fun h72 => absurd h72 (fun q => q (v_bd6c74a791 i31_2 h71)))
            refine J_aload_n dX5_compile_96 rfl rfl ?_
            refine J_get (v := .int (zI fx_31)) dX5_compile_97 fl_X5_34 rfl rfl ?_
            exact J_iret dX5_compile_100 rfl rfl (Nat.le_of_ble_eq_true rfl) (Nat.le_of_ble_eq_true rfl) (Or.inr ⟨tx_31, sx_31, bx_31, vx_31, px_31, zx_31, cx_31, fx_31, (Classical.choose (CpJ.not i31_20 (v_bd6c74a791 i31_2 h71))), rfl, rfl, (v_0305cee7fe i31_5 h71), (v_5d2348a0fa i31_2 i31_4), i31_16, i31_17, i31_12, i31_13, i31_7, i31_8, i31_15, ((Classical.choose_spec (CpJ.not i31_20 (v_bd6c74a791 i31_2 h71))).1), ((Classical.choose_spec (CpJ.not i31_20 (v_bd6c74a791 i31_2 h71))).2)⟩)
          · obtain ⟨ti_31, cm_31, cx1, cx2, cx3, cx4, cx5⟩ := CpJ.is i31_20 (v_8b15499c4b i31_2 i31_3 h71)
            refine J_aload_n dX5_compile_41 rfl rfl ?_
            refine Z_bipush (n := 59) dX5_compile_42 (by decide +kernel) ?_
            refine J_callV (st := []) dX5_compile_44 cv_X5_50 (d_isSign 59 ln tx_31 sx_31 bx_31 vx_31 px_31 fx_31 zx_31 v_891b05d1c3 v_a8513e8773 i31_7 i31_8 rfl) rfl rfl rfl (Nat.le_of_ble_eq_true rfl) ⟨(Nat.le_of_ble_eq_true rfl), (Nat.le_of_ble_eq_true rfl)⟩ ⟨(Nat.le_of_ble_eq_true rfl), (Nat.le_of_ble_eq_true rfl)⟩ (fun r h9 hp => ?_)
            rcases hp with ⟨rfl, rfl, h73⟩ | ⟨rfl, rfl, h74⟩
            · refine J_nf (nh2 := nh) (ck2 := 0) (sk2 := 0) (st2 := [.int (zI 1)]) rfl rfl rfl rfl ?_
              refine Z_if_eq (tgt := 78) dX5_compile_47 (by decide) v_4dcc24baa7 (fun h75 => absurd h75 v_3a47bfd896) (fun h75 => ?_)
              refine J_aload_n dX5_compile_50 rfl rfl ?_
              have g76 := TokL.lt i31_14 (v_ab9b015ba3 h73)
              refine J_callV (st := []) dX5_compile_51 cv_X5_43 (d_advance (ti_31 + 1) ln tx_31 sx_31 bx_31 vx_31 px_31 fx_31 zx_31 tp q0 q1 (v_d253cb2c59 i31_9 g76) i31_11 i31_12 i31_13 q6 (TkX.ps cx2 (v_2b02420001 cx3)) rfl hk55) rfl rfl rfl (Nat.le_of_ble_eq_true rfl) ⟨(Nat.le_of_ble_eq_true rfl), (Nat.le_of_ble_eq_true rfl)⟩ ⟨(Nat.le_of_ble_eq_true rfl), (Nat.le_of_ble_eq_true rfl)⟩ (fun r h9 hp => ?_)
              obtain ⟨z77, z78, z79, z80, rfl, rfl, h81, h82, h83, h84, h85, h86, h87, h88, h89⟩ := hp
              refine J_nf (nh2 := nh) (ck2 := 0) (sk2 := 0) (st2 := []) rfl rfl rfl rfl ?_
              refine J_app (L3 := [(54, .inr (5, [.ref 55, .int (zI ln), .int (zI z77), .int (zI z78), .int (zI z79), .int (zI z80), .int (zI px_31), .int (zI fx_31), .ref 56, .int (zI zx_31)])), (54, .inr (5, [.ref 55, .int (zI ln), .int (zI tx_31), .int (zI sx_31), .int (zI bx_31), .int (zI vx_31), .int (zI px_31), .int (zI fx_31), .ref 56, .int (zI zx_31)])), (56, .inl (0, 412, .inl (zA cx_31)))]) rfl ?_
              refine J_mask (L2 := [(54, .inr (5, [.ref 55, .int (zI ln), .int (zI z77), .int (zI z78), .int (zI z79), .int (zI z80), .int (zI px_31), .int (zI fx_31), .ref 56, .int (zI zx_31)])), (56, .inl (0, 412, .inl (zA cx_31)))]) (ks := [54, 54, 56]) [true, false, true] rfl (by decide +kernel) rfl ?_
              refine J_iload_n dX5_compile_54 rfl rfl ?_
              refine Z_bipush (n := 12) dX5_compile_55 (by decide +kernel) ?_
              refine Z_icmp_ge (tgt := 67) dX5_compile_57 (by decide) (v_136dea8776 i31_0 h68) v_1288359c70 (fun h90 => ?_) (fun h90 => ?_)
              · refine J_aload_n dX5_compile_67 rfl rfl ?_
                refine J_callV (st := []) dX5_compile_68 cv_X5_54 (d_wrong ln z77 z78 z79 z80 px_31 fx_31 zx_31 (v_9b2e2070a2 i31_9 g76 h83) (v_1adcfdfee5 q1 h84 h85) rfl) rfl rfl rfl (Nat.le_of_ble_eq_true rfl) ⟨(Nat.le_of_ble_eq_true rfl), (Nat.le_of_ble_eq_true rfl)⟩ ⟨(Nat.le_of_ble_eq_true rfl), (Nat.le_of_ble_eq_true rfl)⟩ (fun r h9 hp => ?_)
                obtain ⟨rfl, rfl⟩ := hp
                refine J_nf (nh2 := nh) (ck2 := 0) (sk2 := 0) (st2 := [.int (zI 0)]) rfl rfl rfl rfl ?_
                refine J_app (L3 := [(54, .inr (5, [.ref 55, .int (zI ln), .int (zI z77), .int (zI z78), .int (zI z79), .int (zI z80), .int (zI px_31), .int (zI z78), .ref 56, .int (zI zx_31)])), (54, .inr (5, [.ref 55, .int (zI ln), .int (zI z77), .int (zI z78), .int (zI z79), .int (zI z80), .int (zI px_31), .int (zI fx_31), .ref 56, .int (zI zx_31)])), (56, .inl (0, 412, .inl (zA cx_31)))]) rfl ?_
                refine J_mask (L2 := [(54, .inr (5, [.ref 55, .int (zI ln), .int (zI z77), .int (zI z78), .int (zI z79), .int (zI z80), .int (zI px_31), .int (zI z78), .ref 56, .int (zI zx_31)])), (56, .inl (0, 412, .inl (zA cx_31)))]) (ks := [54, 54, 56]) [true, false, true] rfl (by decide +kernel) rfl ?_
                refine J_istore_n dX5_compile_71 rfl (Nat.le_of_ble_eq_true rfl) rfl ?_
                refine J_ls (ls2 := [some (.ref 54), some (.int (zI 0)), some (.int (zI i_31))]) rfl ?_
                refine Z_iinc (c := i_31 + 1) (ls2 := [some (.ref 54), some (.int (zI 0)), some (.int (zI (i_31 + 1)))]) dX5_compile_72 rfl (Nat.le_of_ble_eq_true rfl) rfl rfl rfl ?_
                refine J_goto (tgt := 31) dX5_compile_75 (by decide) ?_
                exact ih31 0 (i_31 + 1) z77 z78 z79 z80 px_31 z78 zx_31 cx_31 (v_d5c0b6f86d h90) (v_88b14b6dbe h68) v_939070ca3f v_316afd7d0b (v_9e5bb7733d q1 h84 h85) (v_01585510fa i31_9 g76 h83) (v_e28c14db79 i31_2 i31_6 g76 h83) h81 h82 (v_9b2e2070a2 i31_9 g76 h83) h84 h85 h86 h87 h88 i31_15 i31_16 i31_17 i31_18 i31_19 (CpJ.no (by decide) (LwX.full (LwX.m cx4 (show cm_31 = 0 by have u := (v_2b4319fb0c h90); omega)) ((TkX.sg cx2 (v := 159) (by decide)).mpr (v_1def112a18 h73))) (TkX.s h89)) (meas_lt v_bcd0abe930 (v_c2e07689da h68) hm31)
              · refine J_aload_n dX5_compile_60 rfl rfl ?_
                refine J_callV (st := []) dX5_compile_61 cv_X5_46 (d_clause ln z77 z78 z79 z80 px_31 fx_31 zx_31 tp cx_31 (ti_31 + 1) q0 q1 h81 h82 (v_9b2e2070a2 i31_9 g76 h83) h84 h85 h86 h87 i31_18 i31_19 (v_5d41d20438 i31_2 i31_4 i31_5) i31_16 i31_17 h88 q6 i31_15 h89 (v_da458fa48a cx3) (v_f3ef702bca i31_2 i31_6 h71 g76 h83) rfl hk55 rfl) rfl rfl rfl (Nat.le_of_ble_eq_true rfl) ⟨(Nat.le_of_ble_eq_true rfl), (Nat.le_of_ble_eq_true rfl)⟩ ⟨(Nat.le_of_ble_eq_true rfl), (Nat.le_of_ble_eq_true rfl)⟩ (fun r h9 hp => ?_)
                rcases hp with ⟨z91, z92, z93, z94, z95, z96, f97, z98, rfl, rfl, h99, h100, h101, h102, h103, h104, h105, h106, h107, h108, h109, h110, h111, h112, h113, h114, h115, h116, h117, h118⟩ | ⟨z119, z120, z121, z122, z123, z124, f125, z126, z127, rfl, rfl, h128, h129, h130, h131, h132, h133, h134, h135, h136, h137, h138, h139, h140, h141, h142, h143, h144⟩
                · refine J_nf (nh2 := nh) (ck2 := 0) (sk2 := 0) (st2 := [.int (zI 1)]) rfl rfl rfl rfl ?_
                  refine J_app (L3 := [(54, .inr (5, [.ref 55, .int (zI ln), .int (zI z91), .int (zI z92), .int (zI z93), .int (zI z94), .int (zI z95), .int (zI fx_31), .ref 56, .int (zI z96)])), (56, .inl (0, 412, .inl (zA f97))), (54, .inr (5, [.ref 55, .int (zI ln), .int (zI z77), .int (zI z78), .int (zI z79), .int (zI z80), .int (zI px_31), .int (zI fx_31), .ref 56, .int (zI zx_31)])), (56, .inl (0, 412, .inl (zA cx_31)))]) rfl ?_
                  refine J_mask (L2 := [(54, .inr (5, [.ref 55, .int (zI ln), .int (zI z91), .int (zI z92), .int (zI z93), .int (zI z94), .int (zI z95), .int (zI fx_31), .ref 56, .int (zI z96)])), (56, .inl (0, 412, .inl (zA f97)))]) (ks := [54, 56, 54, 56]) [true, true, false, false] rfl (by decide +kernel) rfl ?_
                  refine J_goto (tgt := 71) dX5_compile_64 (by decide) ?_
                  refine J_istore_n dX5_compile_71 rfl (Nat.le_of_ble_eq_true rfl) rfl ?_
                  refine J_ls (ls2 := [some (.ref 54), some (.int (zI 1)), some (.int (zI i_31))]) rfl ?_
                  refine Z_iinc (c := i_31 + 1) (ls2 := [some (.ref 54), some (.int (zI 1)), some (.int (zI (i_31 + 1)))]) dX5_compile_72 rfl (Nat.le_of_ble_eq_true rfl) rfl rfl rfl ?_
                  refine J_goto (tgt := 31) dX5_compile_75 (by decide) ?_
                  exact ih31 1 (i_31 + 1) z91 z92 z93 z94 z95 fx_31 z96 f97 (v_f86fa765f0 i31_0) (v_57473e1536 h90) v_316afd7d0b v_bbcfac9b7d (v_838545eb26 i31_2 i31_4 h71) (v_1e02a2c5cb i31_4 i31_5) (v_b38bc9c89f i31_2 i31_6 h71 g76 h83 h112) h99 h100 h101 h102 h103 h104 h105 h110 h111 h108 h109 h106 h107 (CpJ.go (m := cm_31 - 1) (by have u := (v_ee754d70b9 h90); omega) (by decide) h114 (v_2b02420001 h115) (LwX.add (LwX.m cx4 (show cm_31 = (cm_31 - 1) + 1 by have u := (v_ee754d70b9 h90); omega)) ((TkX.sg cx2 (v := 159) (by decide)).mpr (v_1def112a18 h73)) h116) (PrC.add cx5 ((TkX.sg cx2 (v := 159) (by decide)).mpr (v_1def112a18 h73)) h118)) (meas_lt v_bcd0abe930 (v_03a236858c h90) hm31)
                · refine J_nf (nh2 := nh) (ck2 := 0) (sk2 := 0) (st2 := [.int (zI 0)]) rfl rfl rfl rfl ?_
                  refine J_app (L3 := [(54, .inr (5, [.ref 55, .int (zI ln), .int (zI z119), .int (zI z120), .int (zI z121), .int (zI z122), .int (zI z123), .int (zI z126), .ref 56, .int (zI z124)])), (56, .inl (0, 412, .inl (zA f125))), (54, .inr (5, [.ref 55, .int (zI ln), .int (zI z77), .int (zI z78), .int (zI z79), .int (zI z80), .int (zI px_31), .int (zI fx_31), .ref 56, .int (zI zx_31)])), (56, .inl (0, 412, .inl (zA cx_31)))]) rfl ?_
                  refine J_mask (L2 := [(54, .inr (5, [.ref 55, .int (zI ln), .int (zI z119), .int (zI z120), .int (zI z121), .int (zI z122), .int (zI z123), .int (zI z126), .ref 56, .int (zI z124)])), (56, .inl (0, 412, .inl (zA f125)))]) (ks := [54, 56, 54, 56]) [true, true, false, false] rfl (by decide +kernel) rfl ?_
                  refine J_goto (tgt := 71) dX5_compile_64 (by decide) ?_
                  refine J_istore_n dX5_compile_71 rfl (Nat.le_of_ble_eq_true rfl) rfl ?_
                  refine J_ls (ls2 := [some (.ref 54), some (.int (zI 0)), some (.int (zI i_31))]) rfl ?_
                  refine Z_iinc (c := i_31 + 1) (ls2 := [some (.ref 54), some (.int (zI 0)), some (.int (zI (i_31 + 1)))]) dX5_compile_72 rfl (Nat.le_of_ble_eq_true rfl) rfl rfl rfl ?_
                  refine J_goto (tgt := 31) dX5_compile_75 (by decide) ?_
                  exact ih31 0 (i_31 + 1) z119 z120 z121 z122 z123 z126 z124 f125 (v_f86fa765f0 i31_0) (v_57473e1536 h90) v_939070ca3f v_316afd7d0b (v_1ab801cc12 h142) (v_c6d35956d5 h141) (v_d2556409d8 h130 h138) h128 h129 h130 h131 h132 h133 h134 h139 h140 h137 h138 h135 h136 (CpJ.no (by decide) (LwX.bad (LwX.m cx4 (show cm_31 = (cm_31 - 1) + 1 by have u := (v_ee754d70b9 h90); omega)) ((TkX.sg cx2 (v := 159) (by decide)).mpr (v_1def112a18 h73)) h144) h143) (meas_lt v_bcd0abe930 (v_03a236858c h90) hm31)
            · refine J_nf (nh2 := nh) (ck2 := 0) (sk2 := 0) (st2 := [.int (zI 0)]) rfl rfl rfl rfl ?_
              refine Z_if_eq (tgt := 78) dX5_compile_47 (by decide) v_b17331891f (fun h145 => ?_) (fun h145 => absurd h145 (fun q => q v_2ca2bbca1f))
              refine J_iload_n dX5_compile_78 rfl rfl ?_
              refine Z_if_eq (tgt := 96) dX5_compile_79 (by decide) (v_5f10a759cd i31_2 i31_3) (fun h146 => absurd h146 (v_d47f715d39 i31_2 h71)) (fun h146 => ?_)
              refine J_aload_n dX5_compile_82 rfl rfl ?_
              refine J_get (v := .int (zI tx_31)) dX5_compile_83 fl_X5_19 rfl rfl ?_
              refine Z_bipush (n := 17) dX5_compile_86 (by decide +kernel) ?_
              refine Z_icmp_eq (tgt := 96) dX5_compile_88 (by decide) (v_96bf6f782e i31_7 i31_8) v_55f4e57ae7 (fun h147 => ?_) (fun h147 => ?_)
              · refine J_aload_n dX5_compile_96 rfl rfl ?_
                refine J_get (v := .int (zI fx_31)) dX5_compile_97 fl_X5_34 rfl rfl ?_
                refine Z_top (b := -1) (v_2204f4773d i31_2 i31_4 i31_5 h71) ?_
                exact J_iret dX5_compile_100 rfl rfl (Nat.le_of_ble_eq_true rfl) (Nat.le_of_ble_eq_true rfl) (Or.inl ⟨tx_31, sx_31, bx_31, vx_31, px_31, zx_31, cx_31, fx_31, ti_31, rfl, rfl, (v_f0d9d901dd q1 i31_2 i31_6 i31_10 i31_11 h71), i31_16, i31_12, i31_13, i31_7, i31_8, i31_15, (v_2204f4773d i31_2 i31_4 i31_5 h71), (LwX.y cx4 (fun w => absurd ((TkX.sg cx2 (v := 159) (by decide)).mp w) (v_0a5c225759 h147)) ((TkX.en cx2).mpr (v_b5b75bc3fa h147))), (PrC.end cx5 (fun w => absurd ((TkX.sg cx2 (v := 159) (by decide)).mp w) (v_0a5c225759 h147)) ((TkX.en cx2).mpr (v_b5b75bc3fa h147)))⟩)
              · refine J_aload_n dX5_compile_91 rfl rfl ?_
                refine J_callV (st := []) dX5_compile_92 cv_X5_54 (d_wrong ln tx_31 sx_31 bx_31 vx_31 px_31 fx_31 zx_31 i31_9 (v_1adcfdfee5 q1 i31_10 i31_11) rfl) rfl rfl rfl (Nat.le_of_ble_eq_true rfl) ⟨(Nat.le_of_ble_eq_true rfl), (Nat.le_of_ble_eq_true rfl)⟩ ⟨(Nat.le_of_ble_eq_true rfl), (Nat.le_of_ble_eq_true rfl)⟩ (fun r h9 hp => ?_)
                obtain ⟨rfl, rfl⟩ := hp
                refine J_nf (nh2 := nh) (ck2 := 0) (sk2 := 0) (st2 := [.int (zI 0)]) rfl rfl rfl rfl ?_
                refine J_app (L3 := [(54, .inr (5, [.ref 55, .int (zI ln), .int (zI tx_31), .int (zI sx_31), .int (zI bx_31), .int (zI vx_31), .int (zI px_31), .int (zI sx_31), .ref 56, .int (zI zx_31)])), (54, .inr (5, [.ref 55, .int (zI ln), .int (zI tx_31), .int (zI sx_31), .int (zI bx_31), .int (zI vx_31), .int (zI px_31), .int (zI fx_31), .ref 56, .int (zI zx_31)])), (56, .inl (0, 412, .inl (zA cx_31)))]) rfl ?_
                refine J_mask (L2 := [(54, .inr (5, [.ref 55, .int (zI ln), .int (zI tx_31), .int (zI sx_31), .int (zI bx_31), .int (zI vx_31), .int (zI px_31), .int (zI sx_31), .ref 56, .int (zI zx_31)])), (56, .inl (0, 412, .inl (zA cx_31)))]) (ks := [54, 54, 56]) [true, false, true] rfl (by decide +kernel) rfl ?_
                refine J_pop dX5_compile_95 rfl ?_
                refine J_aload_n dX5_compile_96 rfl rfl ?_
                refine J_get (v := .int (zI sx_31)) dX5_compile_97 fl_X5_34 rfl rfl ?_
                exact J_iret dX5_compile_100 rfl rfl (Nat.le_of_ble_eq_true rfl) (Nat.le_of_ble_eq_true rfl) (Or.inr ⟨tx_31, sx_31, bx_31, vx_31, px_31, zx_31, cx_31, sx_31, ti_31, rfl, rfl, i31_9, (v_1adcfdfee5 q1 i31_10 i31_11), i31_16, i31_17, i31_12, i31_13, i31_7, i31_8, i31_15, (LwX.n cx4 (fun w => absurd ((TkX.sg cx2 (v := 159) (by decide)).mp w) (v_0b3537cfb9 h74)) (fun w => absurd ((TkX.en cx2).mp w) (v_9e4019cbe3 h147))), (TkX.s cx2)⟩)
    exact lp31 _ 1 1 z14 z15 z16 z17 z18 (-1) z19 f20 v_bbcfac9b7d v_128fe8cba7 v_316afd7d0b v_bbcfac9b7d v_ac332776b7 v_4d9e6ac08a (v_66b657ba6d h7 h35) h22 h23 h24 h25 h26 h27 h28 h33 h34 h31 h32 h40 h30 (CpJ.go (m := 11) (by decide) (by decide) h37 (v_2b02420001 h38) (LwX.one h39) (PrC.one h41)) (Nat.lt_succ_self _)
  · refine J_nf (nh2 := nh) (ck2 := 0) (sk2 := 0) (st2 := [.int (zI 0)]) rfl rfl rfl rfl ?_
    refine J_app (L3 := [(54, .inr (5, [.ref 55, .int (zI ln), .int (zI z42), .int (zI z43), .int (zI z44), .int (zI z45), .int (zI z46), .int (zI z49), .ref 56, .int (zI z47)])), (56, .inl (0, 412, .inl (zA f48))), (54, .inr (5, [.ref 55, .int (zI ln), .int (zI z1), .int (zI z2), .int (zI z3), .int (zI z4), .int (zI 0), .int (zI (-1)), .ref 56, .int (zI 0)]))]) rfl ?_
    refine J_mask (L2 := [(54, .inr (5, [.ref 55, .int (zI ln), .int (zI z42), .int (zI z43), .int (zI z44), .int (zI z45), .int (zI z46), .int (zI z49), .ref 56, .int (zI z47)])), (56, .inl (0, 412, .inl (zA f48)))]) (ks := [54, 56, 54]) [true, true, false] rfl (by decide +kernel) rfl ?_
    refine J_istore_n dX5_compile_28 rfl (Nat.le_of_ble_eq_true rfl) rfl ?_
    refine J_ls (ls2 := [some (.ref 54), some (.int (zI 0)), none]) rfl ?_
    refine Z_iconst (n := 1) dX5_compile_29 ?_
    refine J_istore_n dX5_compile_30 rfl (Nat.le_of_ble_eq_true rfl) rfl ?_
    refine J_ls (ls2 := [some (.ref 54), some (.int (zI 0)), some (.int (zI 1))]) rfl ?_
    have lp31 : ∀ (N31 : Nat) (gd_31 : Int) (i_31 : Int) (tx_31 : Int) (sx_31 : Int) (bx_31 : Int) (vx_31 : Int) (px_31 : Int) (fx_31 : Int) (zx_31 : Int) (cx_31 : Int → Int), (1 ≤ i_31) → (i_31 ≤ 13) → (0 ≤ gd_31) → (gd_31 ≤ 1) → (fx_31 + 1 ≤ 401 * (1 - gd_31)) → (-gd_31 ≤ fx_31) → (zx_31 ≤ sx_31 + 1 + 412 * (1 - gd_31)) → (0 ≤ tx_31) → (tx_31 ≤ 355) → (0 ≤ sx_31) → (sx_31 ≤ bx_31) → (bx_31 ≤ ln) → (0 ≤ vx_31) → (vx_31 ≤ 1001) → (TokL tx_31 sx_31 bx_31) → (Rg cx_31 412 (-2147483648) 2147483647) → (0 ≤ zx_31) → (zx_31 ≤ 412) → (0 ≤ px_31) → (px_31 ≤ 50) → (CpJ tp ln cx_31 gd_31 i_31 tx_31 sx_31 bx_31 vx_31 px_31 fx_31 zx_31) → (13 - i_31).toNat < N31 → J l G MX5_compile { frames := 45, cells := 0, slots := 0, locals := 1009 } jE (jMQ G { frames := 45, cells := 0, slots := 0, locals := 1009 } (fun rr h9 => (∃ tk2 : Int, ∃ st2 : Int, ∃ bh2 : Int, ∃ va2 : Int, ∃ pa2 : Int, ∃ sz2 : Int, ∃ cd2 : Int → Int, ∃ fl2 : Int, ∃ ti2 : Int, rr = some (.int (zI (-1))) ∧ h9 = (nh, hc fh [(54, .inr (5, [.ref 55, .int (zI ln), .int (zI tk2), .int (zI st2), .int (zI bh2), .int (zI va2), .int (zI pa2), .int (zI fl2), .ref 56, .int (zI sz2)])), (56, .inl (0, 412, .inl (zA cd2)))]) ∧ (sz2 ≤ 402) ∧ (0 ≤ sz2) ∧ (0 ≤ va2) ∧ (va2 ≤ 1001) ∧ (0 ≤ tk2) ∧ (tk2 ≤ 355) ∧ (Rg cd2 412 (-2147483648) 2147483647) ∧ (fl2 = -1) ∧ (LwR (CTk tp ln) (LF tp ln) (EnT tp ln) 1 ti2) ∧ (LwCd tp ln cd2 sz2)) ∨ (∃ tk2 : Int, ∃ st2 : Int, ∃ bh2 : Int, ∃ va2 : Int, ∃ pa2 : Int, ∃ sz2 : Int, ∃ cd2 : Int → Int, ∃ fl2 : Int, ∃ ti2 : Int, rr = some (.int (zI fl2)) ∧ h9 = (nh, hc fh [(54, .inr (5, [.ref 55, .int (zI ln), .int (zI tk2), .int (zI st2), .int (zI bh2), .int (zI va2), .int (zI pa2), .int (zI fl2), .ref 56, .int (zI sz2)])), (56, .inl (0, 412, .inl (zA cd2)))]) ∧ (0 ≤ fl2) ∧ (fl2 ≤ 400) ∧ (0 ≤ sz2) ∧ (sz2 ≤ 412) ∧ (0 ≤ va2) ∧ (va2 ≤ 1001) ∧ (0 ≤ tk2) ∧ (tk2 ≤ 355) ∧ (Rg cd2 412 (-2147483648) 2147483647) ∧ (LwR (CTk tp ln) (LF tp ln) (EnT tp ln) 0 ti2) ∧ (FlX tp ln ti2 fl2)))) (nh, hc fh [(54, .inr (5, [.ref 55, .int (zI ln), .int (zI tx_31), .int (zI sx_31), .int (zI bx_31), .int (zI vx_31), .int (zI px_31), .int (zI fx_31), .ref 56, .int (zI zx_31)])), (56, .inl (0, 412, .inl (zA cx_31)))]) 0 0 31 [some (.ref 54), some (.int (zI gd_31)), some (.int (zI i_31))] [] := by
      intro N31
      induction N31 with
      | zero => intro gd_31 i_31 tx_31 sx_31 bx_31 vx_31 px_31 fx_31 zx_31 cx_31 i31_0 i31_1 i31_2 i31_3 i31_4 i31_5 i31_6 i31_7 i31_8 i31_9 i31_10 i31_11 i31_12 i31_13 i31_14 i31_15 i31_16 i31_17 i31_18 i31_19 i31_20 hm; exact absurd hm (Nat.not_lt_zero _)
      | succ N31 ih31 =>
        intro gd_31 i_31 tx_31 sx_31 bx_31 vx_31 px_31 fx_31 zx_31 cx_31 i31_0 i31_1 i31_2 i31_3 i31_4 i31_5 i31_6 i31_7 i31_8 i31_9 i31_10 i31_11 i31_12 i31_13 i31_14 i31_15 i31_16 i31_17 i31_18 i31_19 i31_20 hm31
        refine J_iload_n dX5_compile_31 rfl rfl ?_
        refine Z_bipush (n := 12) dX5_compile_32 (by decide +kernel) ?_
        refine Z_icmp_gt (tgt := 78) dX5_compile_34 (by decide) (v_a34c27d11e i31_0 i31_1) v_1288359c70 (fun h148 => ?_) (fun h148 => ?_)
        · refine J_iload_n dX5_compile_78 rfl rfl ?_
          refine Z_if_eq (tgt := 96) dX5_compile_79 (by decide) (v_5f10a759cd i31_2 i31_3) (fun h149 => ?_) (fun h149 => ?_)
          · refine J_aload_n dX5_compile_96 rfl rfl ?_
            refine J_get (v := .int (zI fx_31)) dX5_compile_97 fl_X5_34 rfl rfl ?_
            exact J_iret dX5_compile_100 rfl rfl (Nat.le_of_ble_eq_true rfl) (Nat.le_of_ble_eq_true rfl) (Or.inr ⟨tx_31, sx_31, bx_31, vx_31, px_31, zx_31, cx_31, fx_31, (Classical.choose (CpJ.not i31_20 (v_bd6c74a791 i31_2 h149))), rfl, rfl, (v_0305cee7fe i31_5 h149), (v_5d2348a0fa i31_2 i31_4), i31_16, i31_17, i31_12, i31_13, i31_7, i31_8, i31_15, ((Classical.choose_spec (CpJ.not i31_20 (v_bd6c74a791 i31_2 h149))).1), ((Classical.choose_spec (CpJ.not i31_20 (v_bd6c74a791 i31_2 h149))).2)⟩)
          · obtain ⟨ti_31, cm_31, cx1, cx2, cx3, cx4, cx5⟩ := CpJ.is i31_20 (v_8b15499c4b i31_2 i31_3 h149)
            refine J_aload_n dX5_compile_82 rfl rfl ?_
            refine J_get (v := .int (zI tx_31)) dX5_compile_83 fl_X5_19 rfl rfl ?_
            refine Z_bipush (n := 17) dX5_compile_86 (by decide +kernel) ?_
            refine Z_icmp_eq (tgt := 96) dX5_compile_88 (by decide) (v_96bf6f782e i31_7 i31_8) v_55f4e57ae7 (fun h150 => ?_) (fun h150 => ?_)
            · refine J_aload_n dX5_compile_96 rfl rfl ?_
              refine J_get (v := .int (zI fx_31)) dX5_compile_97 fl_X5_34 rfl rfl ?_
              refine Z_top (b := -1) (v_2204f4773d i31_2 i31_4 i31_5 h149) ?_
              exact J_iret dX5_compile_100 rfl rfl (Nat.le_of_ble_eq_true rfl) (Nat.le_of_ble_eq_true rfl) (Or.inl ⟨tx_31, sx_31, bx_31, vx_31, px_31, zx_31, cx_31, fx_31, ti_31, rfl, rfl, (v_f0d9d901dd q1 i31_2 i31_6 i31_10 i31_11 h149), i31_16, i31_12, i31_13, i31_7, i31_8, i31_15, (v_2204f4773d i31_2 i31_4 i31_5 h149), (LwX.y cx4 (fun _ => by have u := (v_dd586289c5 h148); have w := cx1; omega) ((TkX.en cx2).mpr (v_b5b75bc3fa h150))), (PrC.end cx5 (fun _ => by have u := (v_dd586289c5 h148); have w := cx1; omega) ((TkX.en cx2).mpr (v_b5b75bc3fa h150)))⟩)
            · refine J_aload_n dX5_compile_91 rfl rfl ?_
              refine J_callV (st := []) dX5_compile_92 cv_X5_54 (d_wrong ln tx_31 sx_31 bx_31 vx_31 px_31 fx_31 zx_31 i31_9 (v_1adcfdfee5 q1 i31_10 i31_11) rfl) rfl rfl rfl (Nat.le_of_ble_eq_true rfl) ⟨(Nat.le_of_ble_eq_true rfl), (Nat.le_of_ble_eq_true rfl)⟩ ⟨(Nat.le_of_ble_eq_true rfl), (Nat.le_of_ble_eq_true rfl)⟩ (fun r h9 hp => ?_)
              obtain ⟨rfl, rfl⟩ := hp
              refine J_nf (nh2 := nh) (ck2 := 0) (sk2 := 0) (st2 := [.int (zI 0)]) rfl rfl rfl rfl ?_
              refine J_app (L3 := [(54, .inr (5, [.ref 55, .int (zI ln), .int (zI tx_31), .int (zI sx_31), .int (zI bx_31), .int (zI vx_31), .int (zI px_31), .int (zI sx_31), .ref 56, .int (zI zx_31)])), (54, .inr (5, [.ref 55, .int (zI ln), .int (zI tx_31), .int (zI sx_31), .int (zI bx_31), .int (zI vx_31), .int (zI px_31), .int (zI fx_31), .ref 56, .int (zI zx_31)])), (56, .inl (0, 412, .inl (zA cx_31)))]) rfl ?_
              refine J_mask (L2 := [(54, .inr (5, [.ref 55, .int (zI ln), .int (zI tx_31), .int (zI sx_31), .int (zI bx_31), .int (zI vx_31), .int (zI px_31), .int (zI sx_31), .ref 56, .int (zI zx_31)])), (56, .inl (0, 412, .inl (zA cx_31)))]) (ks := [54, 54, 56]) [true, false, true] rfl (by decide +kernel) rfl ?_
              refine J_pop dX5_compile_95 rfl ?_
              refine J_aload_n dX5_compile_96 rfl rfl ?_
              refine J_get (v := .int (zI sx_31)) dX5_compile_97 fl_X5_34 rfl rfl ?_
              exact J_iret dX5_compile_100 rfl rfl (Nat.le_of_ble_eq_true rfl) (Nat.le_of_ble_eq_true rfl) (Or.inr ⟨tx_31, sx_31, bx_31, vx_31, px_31, zx_31, cx_31, sx_31, ti_31, rfl, rfl, i31_9, (v_1adcfdfee5 q1 i31_10 i31_11), i31_16, i31_17, i31_12, i31_13, i31_7, i31_8, i31_15, (LwX.n cx4 (fun _ => by have u := (v_dd586289c5 h148); have w := cx1; omega) (fun w => absurd ((TkX.en cx2).mp w) (v_9e4019cbe3 h150))), (TkX.s cx2)⟩)
        · refine J_iload_n dX5_compile_37 rfl rfl ?_
          refine Z_if_eq (tgt := 78) dX5_compile_38 (by decide) (v_5f10a759cd i31_2 i31_3) (fun h151 => ?_) (fun h151 => ?_)
          · refine J_iload_n dX5_compile_78 rfl rfl ?_
            refine Z_if_eq (tgt := 96) dX5_compile_79 (by decide) (v_1bb2bfd6ba i31_2 h151) (fun h152 => ?_) (fun h152 => absurd h152 (fun q => q (v_bd6c74a791 i31_2 h151)))
            refine J_aload_n dX5_compile_96 rfl rfl ?_
            refine J_get (v := .int (zI fx_31)) dX5_compile_97 fl_X5_34 rfl rfl ?_
            exact J_iret dX5_compile_100 rfl rfl (Nat.le_of_ble_eq_true rfl) (Nat.le_of_ble_eq_true rfl) (Or.inr ⟨tx_31, sx_31, bx_31, vx_31, px_31, zx_31, cx_31, fx_31, (Classical.choose (CpJ.not i31_20 (v_bd6c74a791 i31_2 h151))), rfl, rfl, (v_0305cee7fe i31_5 h151), (v_5d2348a0fa i31_2 i31_4), i31_16, i31_17, i31_12, i31_13, i31_7, i31_8, i31_15, ((Classical.choose_spec (CpJ.not i31_20 (v_bd6c74a791 i31_2 h151))).1), ((Classical.choose_spec (CpJ.not i31_20 (v_bd6c74a791 i31_2 h151))).2)⟩)
          · obtain ⟨ti_31, cm_31, cx1, cx2, cx3, cx4, cx5⟩ := CpJ.is i31_20 (v_8b15499c4b i31_2 i31_3 h151)
            refine J_aload_n dX5_compile_41 rfl rfl ?_
            refine Z_bipush (n := 59) dX5_compile_42 (by decide +kernel) ?_
            refine J_callV (st := []) dX5_compile_44 cv_X5_50 (d_isSign 59 ln tx_31 sx_31 bx_31 vx_31 px_31 fx_31 zx_31 v_891b05d1c3 v_a8513e8773 i31_7 i31_8 rfl) rfl rfl rfl (Nat.le_of_ble_eq_true rfl) ⟨(Nat.le_of_ble_eq_true rfl), (Nat.le_of_ble_eq_true rfl)⟩ ⟨(Nat.le_of_ble_eq_true rfl), (Nat.le_of_ble_eq_true rfl)⟩ (fun r h9 hp => ?_)
            rcases hp with ⟨rfl, rfl, h153⟩ | ⟨rfl, rfl, h154⟩
            · refine J_nf (nh2 := nh) (ck2 := 0) (sk2 := 0) (st2 := [.int (zI 1)]) rfl rfl rfl rfl ?_
              refine Z_if_eq (tgt := 78) dX5_compile_47 (by decide) v_4dcc24baa7 (fun h155 => absurd h155 v_3a47bfd896) (fun h155 => ?_)
              refine J_aload_n dX5_compile_50 rfl rfl ?_
              have g156 := TokL.lt i31_14 (v_ab9b015ba3 h153)
              refine J_callV (st := []) dX5_compile_51 cv_X5_43 (d_advance (ti_31 + 1) ln tx_31 sx_31 bx_31 vx_31 px_31 fx_31 zx_31 tp q0 q1 (v_d253cb2c59 i31_9 g156) i31_11 i31_12 i31_13 q6 (TkX.ps cx2 (v_2b02420001 cx3)) rfl hk55) rfl rfl rfl (Nat.le_of_ble_eq_true rfl) ⟨(Nat.le_of_ble_eq_true rfl), (Nat.le_of_ble_eq_true rfl)⟩ ⟨(Nat.le_of_ble_eq_true rfl), (Nat.le_of_ble_eq_true rfl)⟩ (fun r h9 hp => ?_)
              obtain ⟨z157, z158, z159, z160, rfl, rfl, h161, h162, h163, h164, h165, h166, h167, h168, h169⟩ := hp
              refine J_nf (nh2 := nh) (ck2 := 0) (sk2 := 0) (st2 := []) rfl rfl rfl rfl ?_
              refine J_app (L3 := [(54, .inr (5, [.ref 55, .int (zI ln), .int (zI z157), .int (zI z158), .int (zI z159), .int (zI z160), .int (zI px_31), .int (zI fx_31), .ref 56, .int (zI zx_31)])), (54, .inr (5, [.ref 55, .int (zI ln), .int (zI tx_31), .int (zI sx_31), .int (zI bx_31), .int (zI vx_31), .int (zI px_31), .int (zI fx_31), .ref 56, .int (zI zx_31)])), (56, .inl (0, 412, .inl (zA cx_31)))]) rfl ?_
              refine J_mask (L2 := [(54, .inr (5, [.ref 55, .int (zI ln), .int (zI z157), .int (zI z158), .int (zI z159), .int (zI z160), .int (zI px_31), .int (zI fx_31), .ref 56, .int (zI zx_31)])), (56, .inl (0, 412, .inl (zA cx_31)))]) (ks := [54, 54, 56]) [true, false, true] rfl (by decide +kernel) rfl ?_
              refine J_iload_n dX5_compile_54 rfl rfl ?_
              refine Z_bipush (n := 12) dX5_compile_55 (by decide +kernel) ?_
              refine Z_icmp_ge (tgt := 67) dX5_compile_57 (by decide) (v_136dea8776 i31_0 h148) v_1288359c70 (fun h170 => ?_) (fun h170 => ?_)
              · refine J_aload_n dX5_compile_67 rfl rfl ?_
                refine J_callV (st := []) dX5_compile_68 cv_X5_54 (d_wrong ln z157 z158 z159 z160 px_31 fx_31 zx_31 (v_9b2e2070a2 i31_9 g156 h163) (v_1adcfdfee5 q1 h164 h165) rfl) rfl rfl rfl (Nat.le_of_ble_eq_true rfl) ⟨(Nat.le_of_ble_eq_true rfl), (Nat.le_of_ble_eq_true rfl)⟩ ⟨(Nat.le_of_ble_eq_true rfl), (Nat.le_of_ble_eq_true rfl)⟩ (fun r h9 hp => ?_)
                obtain ⟨rfl, rfl⟩ := hp
                refine J_nf (nh2 := nh) (ck2 := 0) (sk2 := 0) (st2 := [.int (zI 0)]) rfl rfl rfl rfl ?_
                refine J_app (L3 := [(54, .inr (5, [.ref 55, .int (zI ln), .int (zI z157), .int (zI z158), .int (zI z159), .int (zI z160), .int (zI px_31), .int (zI z158), .ref 56, .int (zI zx_31)])), (54, .inr (5, [.ref 55, .int (zI ln), .int (zI z157), .int (zI z158), .int (zI z159), .int (zI z160), .int (zI px_31), .int (zI fx_31), .ref 56, .int (zI zx_31)])), (56, .inl (0, 412, .inl (zA cx_31)))]) rfl ?_
                refine J_mask (L2 := [(54, .inr (5, [.ref 55, .int (zI ln), .int (zI z157), .int (zI z158), .int (zI z159), .int (zI z160), .int (zI px_31), .int (zI z158), .ref 56, .int (zI zx_31)])), (56, .inl (0, 412, .inl (zA cx_31)))]) (ks := [54, 54, 56]) [true, false, true] rfl (by decide +kernel) rfl ?_
                refine J_istore_n dX5_compile_71 rfl (Nat.le_of_ble_eq_true rfl) rfl ?_
                refine J_ls (ls2 := [some (.ref 54), some (.int (zI 0)), some (.int (zI i_31))]) rfl ?_
                refine Z_iinc (c := i_31 + 1) (ls2 := [some (.ref 54), some (.int (zI 0)), some (.int (zI (i_31 + 1)))]) dX5_compile_72 rfl (Nat.le_of_ble_eq_true rfl) rfl rfl rfl ?_
                refine J_goto (tgt := 31) dX5_compile_75 (by decide) ?_
                exact ih31 0 (i_31 + 1) z157 z158 z159 z160 px_31 z158 zx_31 cx_31 (v_d5c0b6f86d h170) (v_88b14b6dbe h148) v_939070ca3f v_316afd7d0b (v_9e5bb7733d q1 h164 h165) (v_01585510fa i31_9 g156 h163) (v_e28c14db79 i31_2 i31_6 g156 h163) h161 h162 (v_9b2e2070a2 i31_9 g156 h163) h164 h165 h166 h167 h168 i31_15 i31_16 i31_17 i31_18 i31_19 (CpJ.no (by decide) (LwX.full (LwX.m cx4 (show cm_31 = 0 by have u := (v_2b4319fb0c h170); omega)) ((TkX.sg cx2 (v := 159) (by decide)).mpr (v_1def112a18 h153))) (TkX.s h169)) (meas_lt v_bcd0abe930 (v_c2e07689da h148) hm31)
              · refine J_aload_n dX5_compile_60 rfl rfl ?_
                refine J_callV (st := []) dX5_compile_61 cv_X5_46 (d_clause ln z157 z158 z159 z160 px_31 fx_31 zx_31 tp cx_31 (ti_31 + 1) q0 q1 h161 h162 (v_9b2e2070a2 i31_9 g156 h163) h164 h165 h166 h167 i31_18 i31_19 (v_5d41d20438 i31_2 i31_4 i31_5) i31_16 i31_17 h168 q6 i31_15 h169 (v_da458fa48a cx3) (v_f3ef702bca i31_2 i31_6 h151 g156 h163) rfl hk55 rfl) rfl rfl rfl (Nat.le_of_ble_eq_true rfl) ⟨(Nat.le_of_ble_eq_true rfl), (Nat.le_of_ble_eq_true rfl)⟩ ⟨(Nat.le_of_ble_eq_true rfl), (Nat.le_of_ble_eq_true rfl)⟩ (fun r h9 hp => ?_)
                rcases hp with ⟨z171, z172, z173, z174, z175, z176, f177, z178, rfl, rfl, h179, h180, h181, h182, h183, h184, h185, h186, h187, h188, h189, h190, h191, h192, h193, h194, h195, h196, h197, h198⟩ | ⟨z199, z200, z201, z202, z203, z204, f205, z206, z207, rfl, rfl, h208, h209, h210, h211, h212, h213, h214, h215, h216, h217, h218, h219, h220, h221, h222, h223, h224⟩
                · refine J_nf (nh2 := nh) (ck2 := 0) (sk2 := 0) (st2 := [.int (zI 1)]) rfl rfl rfl rfl ?_
                  refine J_app (L3 := [(54, .inr (5, [.ref 55, .int (zI ln), .int (zI z171), .int (zI z172), .int (zI z173), .int (zI z174), .int (zI z175), .int (zI fx_31), .ref 56, .int (zI z176)])), (56, .inl (0, 412, .inl (zA f177))), (54, .inr (5, [.ref 55, .int (zI ln), .int (zI z157), .int (zI z158), .int (zI z159), .int (zI z160), .int (zI px_31), .int (zI fx_31), .ref 56, .int (zI zx_31)])), (56, .inl (0, 412, .inl (zA cx_31)))]) rfl ?_
                  refine J_mask (L2 := [(54, .inr (5, [.ref 55, .int (zI ln), .int (zI z171), .int (zI z172), .int (zI z173), .int (zI z174), .int (zI z175), .int (zI fx_31), .ref 56, .int (zI z176)])), (56, .inl (0, 412, .inl (zA f177)))]) (ks := [54, 56, 54, 56]) [true, true, false, false] rfl (by decide +kernel) rfl ?_
                  refine J_goto (tgt := 71) dX5_compile_64 (by decide) ?_
                  refine J_istore_n dX5_compile_71 rfl (Nat.le_of_ble_eq_true rfl) rfl ?_
                  refine J_ls (ls2 := [some (.ref 54), some (.int (zI 1)), some (.int (zI i_31))]) rfl ?_
                  refine Z_iinc (c := i_31 + 1) (ls2 := [some (.ref 54), some (.int (zI 1)), some (.int (zI (i_31 + 1)))]) dX5_compile_72 rfl (Nat.le_of_ble_eq_true rfl) rfl rfl rfl ?_
                  refine J_goto (tgt := 31) dX5_compile_75 (by decide) ?_
                  exact ih31 1 (i_31 + 1) z171 z172 z173 z174 z175 fx_31 z176 f177 (v_f86fa765f0 i31_0) (v_57473e1536 h170) v_316afd7d0b v_bbcfac9b7d (v_838545eb26 i31_2 i31_4 h151) (v_1e02a2c5cb i31_4 i31_5) (v_b38bc9c89f i31_2 i31_6 h151 g156 h163 h192) h179 h180 h181 h182 h183 h184 h185 h190 h191 h188 h189 h186 h187 (CpJ.go (m := cm_31 - 1) (by have u := (v_ee754d70b9 h170); omega) (by decide) h194 (v_2b02420001 h195) (LwX.add (LwX.m cx4 (show cm_31 = (cm_31 - 1) + 1 by have u := (v_ee754d70b9 h170); omega)) ((TkX.sg cx2 (v := 159) (by decide)).mpr (v_1def112a18 h153)) h196) (PrC.add cx5 ((TkX.sg cx2 (v := 159) (by decide)).mpr (v_1def112a18 h153)) h198)) (meas_lt v_bcd0abe930 (v_03a236858c h170) hm31)
                · refine J_nf (nh2 := nh) (ck2 := 0) (sk2 := 0) (st2 := [.int (zI 0)]) rfl rfl rfl rfl ?_
                  refine J_app (L3 := [(54, .inr (5, [.ref 55, .int (zI ln), .int (zI z199), .int (zI z200), .int (zI z201), .int (zI z202), .int (zI z203), .int (zI z206), .ref 56, .int (zI z204)])), (56, .inl (0, 412, .inl (zA f205))), (54, .inr (5, [.ref 55, .int (zI ln), .int (zI z157), .int (zI z158), .int (zI z159), .int (zI z160), .int (zI px_31), .int (zI fx_31), .ref 56, .int (zI zx_31)])), (56, .inl (0, 412, .inl (zA cx_31)))]) rfl ?_
                  refine J_mask (L2 := [(54, .inr (5, [.ref 55, .int (zI ln), .int (zI z199), .int (zI z200), .int (zI z201), .int (zI z202), .int (zI z203), .int (zI z206), .ref 56, .int (zI z204)])), (56, .inl (0, 412, .inl (zA f205)))]) (ks := [54, 56, 54, 56]) [true, true, false, false] rfl (by decide +kernel) rfl ?_
                  refine J_goto (tgt := 71) dX5_compile_64 (by decide) ?_
                  refine J_istore_n dX5_compile_71 rfl (Nat.le_of_ble_eq_true rfl) rfl ?_
                  refine J_ls (ls2 := [some (.ref 54), some (.int (zI 0)), some (.int (zI i_31))]) rfl ?_
                  refine Z_iinc (c := i_31 + 1) (ls2 := [some (.ref 54), some (.int (zI 0)), some (.int (zI (i_31 + 1)))]) dX5_compile_72 rfl (Nat.le_of_ble_eq_true rfl) rfl rfl rfl ?_
                  refine J_goto (tgt := 31) dX5_compile_75 (by decide) ?_
                  exact ih31 0 (i_31 + 1) z199 z200 z201 z202 z203 z206 z204 f205 (v_f86fa765f0 i31_0) (v_57473e1536 h170) v_939070ca3f v_316afd7d0b (v_1ab801cc12 h222) (v_c6d35956d5 h221) (v_d2556409d8 h210 h218) h208 h209 h210 h211 h212 h213 h214 h219 h220 h217 h218 h215 h216 (CpJ.no (by decide) (LwX.bad (LwX.m cx4 (show cm_31 = (cm_31 - 1) + 1 by have u := (v_ee754d70b9 h170); omega)) ((TkX.sg cx2 (v := 159) (by decide)).mpr (v_1def112a18 h153)) h224) h223) (meas_lt v_bcd0abe930 (v_03a236858c h170) hm31)
            · refine J_nf (nh2 := nh) (ck2 := 0) (sk2 := 0) (st2 := [.int (zI 0)]) rfl rfl rfl rfl ?_
              refine Z_if_eq (tgt := 78) dX5_compile_47 (by decide) v_b17331891f (fun h225 => ?_) (fun h225 => absurd h225 (fun q => q v_2ca2bbca1f))
              refine J_iload_n dX5_compile_78 rfl rfl ?_
              refine Z_if_eq (tgt := 96) dX5_compile_79 (by decide) (v_5f10a759cd i31_2 i31_3) (fun h226 => absurd h226 (v_d47f715d39 i31_2 h151)) (fun h226 => ?_)
              refine J_aload_n dX5_compile_82 rfl rfl ?_
              refine J_get (v := .int (zI tx_31)) dX5_compile_83 fl_X5_19 rfl rfl ?_
              refine Z_bipush (n := 17) dX5_compile_86 (by decide +kernel) ?_
              refine Z_icmp_eq (tgt := 96) dX5_compile_88 (by decide) (v_96bf6f782e i31_7 i31_8) v_55f4e57ae7 (fun h227 => ?_) (fun h227 => ?_)
              · refine J_aload_n dX5_compile_96 rfl rfl ?_
                refine J_get (v := .int (zI fx_31)) dX5_compile_97 fl_X5_34 rfl rfl ?_
                refine Z_top (b := -1) (v_2204f4773d i31_2 i31_4 i31_5 h151) ?_
                exact J_iret dX5_compile_100 rfl rfl (Nat.le_of_ble_eq_true rfl) (Nat.le_of_ble_eq_true rfl) (Or.inl ⟨tx_31, sx_31, bx_31, vx_31, px_31, zx_31, cx_31, fx_31, ti_31, rfl, rfl, (v_f0d9d901dd q1 i31_2 i31_6 i31_10 i31_11 h151), i31_16, i31_12, i31_13, i31_7, i31_8, i31_15, (v_2204f4773d i31_2 i31_4 i31_5 h151), (LwX.y cx4 (fun w => absurd ((TkX.sg cx2 (v := 159) (by decide)).mp w) (v_0a5c225759 h227)) ((TkX.en cx2).mpr (v_b5b75bc3fa h227))), (PrC.end cx5 (fun w => absurd ((TkX.sg cx2 (v := 159) (by decide)).mp w) (v_0a5c225759 h227)) ((TkX.en cx2).mpr (v_b5b75bc3fa h227)))⟩)
              · refine J_aload_n dX5_compile_91 rfl rfl ?_
                refine J_callV (st := []) dX5_compile_92 cv_X5_54 (d_wrong ln tx_31 sx_31 bx_31 vx_31 px_31 fx_31 zx_31 i31_9 (v_1adcfdfee5 q1 i31_10 i31_11) rfl) rfl rfl rfl (Nat.le_of_ble_eq_true rfl) ⟨(Nat.le_of_ble_eq_true rfl), (Nat.le_of_ble_eq_true rfl)⟩ ⟨(Nat.le_of_ble_eq_true rfl), (Nat.le_of_ble_eq_true rfl)⟩ (fun r h9 hp => ?_)
                obtain ⟨rfl, rfl⟩ := hp
                refine J_nf (nh2 := nh) (ck2 := 0) (sk2 := 0) (st2 := [.int (zI 0)]) rfl rfl rfl rfl ?_
                refine J_app (L3 := [(54, .inr (5, [.ref 55, .int (zI ln), .int (zI tx_31), .int (zI sx_31), .int (zI bx_31), .int (zI vx_31), .int (zI px_31), .int (zI sx_31), .ref 56, .int (zI zx_31)])), (54, .inr (5, [.ref 55, .int (zI ln), .int (zI tx_31), .int (zI sx_31), .int (zI bx_31), .int (zI vx_31), .int (zI px_31), .int (zI fx_31), .ref 56, .int (zI zx_31)])), (56, .inl (0, 412, .inl (zA cx_31)))]) rfl ?_
                refine J_mask (L2 := [(54, .inr (5, [.ref 55, .int (zI ln), .int (zI tx_31), .int (zI sx_31), .int (zI bx_31), .int (zI vx_31), .int (zI px_31), .int (zI sx_31), .ref 56, .int (zI zx_31)])), (56, .inl (0, 412, .inl (zA cx_31)))]) (ks := [54, 54, 56]) [true, false, true] rfl (by decide +kernel) rfl ?_
                refine J_pop dX5_compile_95 rfl ?_
                refine J_aload_n dX5_compile_96 rfl rfl ?_
                refine J_get (v := .int (zI sx_31)) dX5_compile_97 fl_X5_34 rfl rfl ?_
                exact J_iret dX5_compile_100 rfl rfl (Nat.le_of_ble_eq_true rfl) (Nat.le_of_ble_eq_true rfl) (Or.inr ⟨tx_31, sx_31, bx_31, vx_31, px_31, zx_31, cx_31, sx_31, ti_31, rfl, rfl, i31_9, (v_1adcfdfee5 q1 i31_10 i31_11), i31_16, i31_17, i31_12, i31_13, i31_7, i31_8, i31_15, (LwX.n cx4 (fun w => absurd ((TkX.sg cx2 (v := 159) (by decide)).mp w) (v_0b3537cfb9 h154)) (fun w => absurd ((TkX.en cx2).mp w) (v_9e4019cbe3 h227))), (TkX.s cx2)⟩)
    exact lp31 _ 0 1 z42 z43 z44 z45 z46 z49 z47 f48 v_bbcfac9b7d v_128fe8cba7 v_939070ca3f v_316afd7d0b (v_1ab801cc12 h65) (v_c6d35956d5 h64) (v_d2556409d8 h53 h61) h51 h52 h53 h54 h55 h56 h57 h62 h63 h60 h61 h58 h59 (CpJ.no (by decide) (LwR.b h67) h66) (Nat.lt_succ_self _)
